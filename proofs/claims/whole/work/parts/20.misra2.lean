def mSub (l : Ctr) (r : Nat) : Ctr := (l.filter (fun c => decide (r < c.2.1))).map (fun c => (c.1, c.2.1 - r, c.2.2))
theorem mSub_cons {l : Ctr} {r : Nat} {c : Nat × Nat × Nat} : mSub (c :: l) r = if r < c.2.1 then (c.1, c.2.1 - r, c.2.2) :: mSub l r else mSub l r := by
  unfold mSub
  rw [List.filter_cons]
  by_cases h : r < c.2.1
  · rw [if_pos (decide_eq_true h), if_pos h, List.map_cons]
  · rw [if_neg (by simpa using h), if_neg h]
theorem lsub_le {a r : Nat} (ha : a < 2 ^ 62) (hr : r < 2 ^ 62) : (lN a - lN r ≤ lN 0) ↔ a ≤ r := by
  rw [Int64.le_iff_toInt_le, Int64.toInt_sub, lN_toInt63 (by omega), lN_toInt63 (by omega), lN_toInt63 (by decide)]
  rw [Int.bmod_eq_of_le (by omega) (by omega)]
  omega
theorem lsub_any {a r : Nat} (hr : r < 2 ^ 62) : lN a - lN r = lN (a + 2 ^ 64 - r) := by
  have h1 : lN (a + 2 ^ 64 - r) + lN r = lN a := by
    rw [lN_add, show a + 2 ^ 64 - r + r = a + 2 ^ 64 by omega, ← lN_add]
    have : lN (2 ^ 64) = 0 := by decide
    rw [this, Int64.add_zero]
  rw [← h1, Int64.add_sub_cancel]
def mst (l : Ctr) (k r : Nat) : Ctr := l.take k ++ mSub (l.drop k) r
theorem mst_len {l : Ctr} {k r : Nat} (h : k ≤ l.length) : k ≤ (mst l k r).length := by unfold mst; rw [List.length_append, List.length_take]; omega
theorem mst_at {l : Ctr} {k r : Nat} {c : Nat × Nat × Nat} (hc : l[k]? = some c) : (mst l (k + 1) r)[k]? = some c := by
  have hl := (List.getElem?_eq_some_iff.mp hc).1
  unfold mst
  rw [List.getElem?_append_left (by rw [List.length_take]; omega), List.getElem?_take_of_lt (by omega)]
  exact hc
theorem mst_drop {l : Ctr} {k r : Nat} {c : Nat × Nat × Nat} (hc : l[k]? = some c) : mst l (k + 1) r = l.take k ++ c :: mSub (l.drop (k + 1)) r := by
  unfold mst
  rw [List.take_add_one, hc]
  simp
theorem drop_cons {l : Ctr} {k : Nat} {c : Nat × Nat × Nat} (hc : l[k]? = some c) : l.drop k = c :: l.drop (k + 1) := by
  obtain ⟨hl, he⟩ := List.getElem?_eq_some_iff.mp hc
  rw [List.drop_eq_getElem_cons hl, he]
theorem mst_keep {l : Ctr} {k r v : Nat} {c : Nat × Nat × Nat} (hc : l[k]? = some c) (h : r < c.2.1) (hv : v = c.2.1 - r) : nset (mst l (k + 1) r) k v = mst l k r := by
  have hl := (List.getElem?_eq_some_iff.mp hc).1
  have e : (l.take k).length = k := by rw [List.length_take]; omega
  unfold nset
  rw [mst_at hc]
  simp only []
  rw [mst_drop hc, List.set_append_right _ _ (Nat.le_of_eq e), e, Nat.sub_self, List.set_cons_zero]
  unfold mst
  rw [drop_cons hc, mSub_cons, if_pos h, hv]
theorem mst_gone {l : Ctr} {k r v : Nat} {c : Nat × Nat × Nat} (hc : l[k]? = some c) (h : ¬ r < c.2.1) : (nset (mst l (k + 1) r) k v).eraseIdx k = mst l k r := by
  have hl := (List.getElem?_eq_some_iff.mp hc).1
  have e : (l.take k).length = k := by rw [List.length_take]; omega
  unfold nset
  rw [mst_at hc]
  simp only []
  rw [mst_drop hc, List.set_append_right _ _ (Nat.le_of_eq e), e, Nat.sub_self, List.set_cons_zero, List.eraseIdx_append_of_length_le (Nat.le_of_eq e), e, Nat.sub_self, List.eraseIdx_cons_zero]
  unfold mst
  rw [drop_cons hc, mSub_cons, if_neg h]

theorem nI_m1 : nI 0 + Int32.ofInt (-1) = -1 := by decide

set_option maxHeartbeats 4000000 in
set_option maxRecDepth 100000 in
theorem tfa_loop {M : Mx} {E : Ev} (C : Cx M E yX6_takeFromAll.cls cX6_takeFromAll 4 none 3 84 0 0) {post : Unit → Gh → Prop} {G0 : Gh} {b P lim r tk : Nat} {l0 : Ctr} (hr62 : r < 2 ^ 62) (hn : ∀ c ∈ l0, c.2.1 < 2 ^ 62) (hll : l0.length ≤ 2 * lim) (hend : ∀ G, isMis E G b P lim (mSub l0 r) tk → (∀ j, (j < b ∨ b + 7 ≤ j) → G j = G0 j) → post () G) : ∀ (t k : Nat), k ≤ l0.length → k < t → ∀ (G : Gh), isMis E G b P lim (mst l0 k r) tk → (∀ j, (j < b ∨ b + 7 ≤ j) → G j = G0 j) → (∀ i, i + 1 = k → V M E 4 (QE M E (fun _ : Unit => none) none 0 0 post) none 0 0 G 20 [some (.ref (ga E b)), some (.long (lN r)), none, some (.int (nI i))] []) ∧ (k = 0 → V M E 4 (QE M E (fun _ : Unit => none) none 0 0 post) none 0 0 G 20 [some (.ref (ga E b)), some (.long (lN r)), none, some (.int (-1))] []) := by
  intro t
  induction t with
  | zero => intro k _ h; omega
  | succ t ih =>
    intro k' hk' ht G hm hfr
    refine ⟨fun k hk => ?_, fun h0 => ?_⟩
    · subst hk
      obtain ⟨hm0, hc⟩ := id hm
      obtain ⟨fk, fn, fe, hb0, hb1, hb2, hb3, hks, hrep, hwf, hkp, hnd⟩ := id hc
      refine v_iload_n C dX6_takeFromAll_20 rfl ?_
      first | refine v_ifn_lt C 65 dX6_takeFromAll_21 (by decide) (by omega) (fun h21 => by exfalso; first | omega | exact absurd h21 (by decide) | contradiction | simp_all) (fun h21 => ?_) | refine v_if_lt C 65 dX6_takeFromAll_21 (by decide) (fun h21 => by exfalso; first | omega | exact absurd h21 (by decide) | contradiction | simp_all) (fun h21 => ?_)
      refine v_aload_n C dX6_takeFromAll_24 rfl ?_
      refine gf_X6_12 C dX6_takeFromAll_25 (by assumption) ?_
      refine gf_X6_22 C dX6_takeFromAll_28 (by assumption) ?_
      have hlen := mst_len (r := r) (show k + 1 ≤ l0.length by omega)
      refine v_iload_n C dX6_takeFromAll_31 rfl ?_
      refine v_dup2 C dX6_takeFromAll_32 rfl rfl ?_
      refine v_lald C dX6_takeFromAll_33 (by assumption) (by omega) (by omega) rfl ?_
      refine v_lload_n C dX6_takeFromAll_34 rfl ?_
      have hci : l0[k]? = some l0[k] := List.getElem?_eq_getElem (by omega)
      have hnk := hn _ (List.mem_of_getElem? hci)
      have hfk : fn k = lN l0[k].2.1 := (hrep k _ (mst_at hci)).2.1
      have hlen := mst_len (r := r) (show k + 1 ≤ l0.length by omega)
      refine v_lsub C dX6_takeFromAll_35 ?_
      refine v_topl (show fn k - lN r = lN l0[k].2.1 - lN r by rw [hfk]) ?_
      refine v_last C dX6_takeFromAll_36 (by assumption) (by omega) (by omega) (fun G hG36 hF36 => ?_)
      first | replace hm0 := (hF36 _ (by omega)).trans hm0 | replace hm0 := hG36 | skip
      first | replace hb0 := (hF36 _ (by omega)).trans hb0 | replace hb0 := hG36 | skip
      first | replace hb1 := (hF36 _ (by omega)).trans hb1 | replace hb1 := hG36 | skip
      first | replace hb2 := (hF36 _ (by omega)).trans hb2 | replace hb2 := hG36 | skip
      first | replace hb3 := (hF36 _ (by omega)).trans hb3 | replace hb3 := hG36 | skip
      refine v_aload_n C dX6_takeFromAll_37 rfl ?_
      refine gf_X6_12 C dX6_takeFromAll_38 (by assumption) ?_
      refine gf_X6_22 C dX6_takeFromAll_41 (by assumption) ?_
      refine v_iload_n C dX6_takeFromAll_44 rfl ?_
      refine v_lald C dX6_takeFromAll_45 (by assumption) (by omega) (by omega) (fu_self _ _ _) ?_
      refine v_lconst (v := lN 0) C dX6_takeFromAll_46 (by decide) ?_
      refine v_lcmp_gt C 59 dX6_takeFromAll_47 dX6_takeFromAll_48 (by decide) (fun h47 => ?_) (fun h47 => ?_)
      · skip
        first
          | (have hlt : r < l0[k].2.1 := by
               have := mt (lsub_le hnk hr62).mpr (Int64.not_le.mpr h47)
               omega
             rcases Nat.eq_zero_or_pos k with q | q
             · subst q
               refine v_iinc_3 C dX6_takeFromAll_59 nI_m1 (by decide) rfl ?_
               refine v_goto C 20 dX6_takeFromAll_62 (by decide) ?_
               exact (ih 0 (by omega) (by omega) G ⟨hm0, (mst_keep (r := r) hci hlt rfl) ▸ isCtr.nset hb0 hb1 (by rw [← lN_sub (Nat.le_of_lt hlt)]; exact hb2) hb3 (hks.keep (fun j a b => hF36 j (by omega))) hrep ⟨hwf, hkp, hnd⟩⟩ (fun j hj => by rw [hF36 j (by omega)]; exact hfr j hj)).2 rfl
             · refine v_iinc_3 C dX6_takeFromAll_59 (nI_dec (by omega)) (by decide) rfl ?_
               refine v_goto C 20 dX6_takeFromAll_62 (by decide) ?_
               exact (ih k (by omega) (by omega) G ⟨hm0, (mst_keep (r := r) hci hlt rfl) ▸ isCtr.nset hb0 hb1 (by rw [← lN_sub (Nat.le_of_lt hlt)]; exact hb2) hb3 (hks.keep (fun j a b => hF36 j (by omega))) hrep ⟨hwf, hkp, hnd⟩⟩ (fun j hj => by rw [hF36 j (by omega)]; exact hfr j hj)).1 (k - 1) (by omega))
          | (have hlt : ¬ r < l0[k].2.1 := by
               have := (lsub_le hnk hr62).mp (Int64.not_lt.mp h47)
               omega
             rcases Nat.eq_zero_or_pos k with q | q
             · subst q
               refine v_iinc_3 C dX6_takeFromAll_59 nI_m1 (by decide) rfl ?_
               refine v_goto C 20 dX6_takeFromAll_62 (by decide) ?_
               exact (ih 0 (by omega) (by omega) G56 ⟨(hfr56 _ (by omega)).trans hm0, (mst_gone (r := r) hci hlt) ▸ hc56⟩ (fun j hj => by rw [hfr56 j (by omega), hF36 j (by omega)]; exact hfr j hj)).2 rfl
             · refine v_iinc_3 C dX6_takeFromAll_59 (nI_dec (by omega)) (by decide) rfl ?_
               refine v_goto C 20 dX6_takeFromAll_62 (by decide) ?_
               exact (ih k (by omega) (by omega) G56 ⟨(hfr56 _ (by omega)).trans hm0, (mst_gone (r := r) hci hlt) ▸ hc56⟩ (fun j hj => by rw [hfr56 j (by omega), hF36 j (by omega)]; exact hfr j hj)).1 (k - 1) (by omega))
      · skip
        refine v_aload_n C dX6_takeFromAll_51 rfl ?_
        refine gf_X6_12 C dX6_takeFromAll_52 (by assumption) ?_
        refine v_iload_n C dX6_takeFromAll_55 rfl ?_
        refine mc_X6_59 C dX6_takeFromAll_56 (by assumption) (c_Ctr_remove _ E (i := k) (by rw [nset_len]; omega) (isCtr.nset (i := k) (v := l0[k].2.1 + 2 ^ 64 - r) hb0 hb1 (by rw [← lsub_any hr62]; exact hb2) hb3 (hks.keep (fun j a b => hF36 j (by omega))) hrep ⟨hwf, hkp, hnd⟩)) rfl (fun r56 G56 hp56 => ?_)
        obtain ⟨hc56, hfr56⟩ := hp56
        first
          | (have hlt : r < l0[k].2.1 := by
               have := mt (lsub_le hnk hr62).mpr (Int64.not_le.mpr h47)
               omega
             rcases Nat.eq_zero_or_pos k with q | q
             · subst q
               refine v_iinc_3 C dX6_takeFromAll_59 nI_m1 (by decide) rfl ?_
               refine v_goto C 20 dX6_takeFromAll_62 (by decide) ?_
               exact (ih 0 (by omega) (by omega) G ⟨hm0, (mst_keep (r := r) hci hlt rfl) ▸ isCtr.nset hb0 hb1 (by rw [← lN_sub (Nat.le_of_lt hlt)]; exact hb2) hb3 (hks.keep (fun j a b => hF36 j (by omega))) hrep ⟨hwf, hkp, hnd⟩⟩ (fun j hj => by rw [hF36 j (by omega)]; exact hfr j hj)).2 rfl
             · refine v_iinc_3 C dX6_takeFromAll_59 (nI_dec (by omega)) (by decide) rfl ?_
               refine v_goto C 20 dX6_takeFromAll_62 (by decide) ?_
               exact (ih k (by omega) (by omega) G ⟨hm0, (mst_keep (r := r) hci hlt rfl) ▸ isCtr.nset hb0 hb1 (by rw [← lN_sub (Nat.le_of_lt hlt)]; exact hb2) hb3 (hks.keep (fun j a b => hF36 j (by omega))) hrep ⟨hwf, hkp, hnd⟩⟩ (fun j hj => by rw [hF36 j (by omega)]; exact hfr j hj)).1 (k - 1) (by omega))
          | (have hlt : ¬ r < l0[k].2.1 := by
               have := (lsub_le hnk hr62).mp (Int64.not_lt.mp h47)
               omega
             rcases Nat.eq_zero_or_pos k with q | q
             · subst q
               refine v_iinc_3 C dX6_takeFromAll_59 nI_m1 (by decide) rfl ?_
               refine v_goto C 20 dX6_takeFromAll_62 (by decide) ?_
               exact (ih 0 (by omega) (by omega) G56 ⟨(hfr56 _ (by omega)).trans hm0, (mst_gone (r := r) hci hlt) ▸ hc56⟩ (fun j hj => by rw [hfr56 j (by omega), hF36 j (by omega)]; exact hfr j hj)).2 rfl
             · refine v_iinc_3 C dX6_takeFromAll_59 (nI_dec (by omega)) (by decide) rfl ?_
               refine v_goto C 20 dX6_takeFromAll_62 (by decide) ?_
               exact (ih k (by omega) (by omega) G56 ⟨(hfr56 _ (by omega)).trans hm0, (mst_gone (r := r) hci hlt) ▸ hc56⟩ (fun j hj => by rw [hfr56 j (by omega), hF36 j (by omega)]; exact hfr j hj)).1 (k - 1) (by omega))
    · subst h0
      obtain ⟨hm0, hc⟩ := id hm
      refine v_iload_n C dX6_takeFromAll_20 rfl ?_
      refine v_if_lt C 65 dX6_takeFromAll_21 (by decide) (fun h21 => ?_) (fun h21 => by exfalso; first | omega | exact absurd h21 (by decide) | contradiction | simp_all)
      refine v_vret C dX6_takeFromAll_65 ?_
      exact hend G (by have := hm; unfold mst at this; simpa using this) hfr
set_option maxHeartbeats 4000000 in
set_option maxRecDepth 100000 in
theorem c_Mis_tfa (l : Launch) (E : Ev) {G : Gh} {b P lim : Nat} {l0 : Ctr} {tk : Nat} {r : Nat} (hr62 : r < 2 ^ 62) (hn : ∀ c ∈ l0, c.2.1 < 2 ^ 62) (hm : isMis E G b P lim l0 tk) : K_X6_takeFromAll l E none G [.ref (ga E b), .long (lN r)] (fun _ G2 => isMis E G2 b P lim (mSub l0 r) (tk + r) ∧ ∀ j, (j < b ∨ b + 7 ≤ j) → G2 j = G j) := by
  refine Fc.of rfl [some (.ref (ga E b)), some (.long (lN r)), none, none] 1 rfl (Nat.le_of_ble_eq_true rfl) ?_
  intro M hM0 hini C
  subst hM0
  obtain ⟨hm0, hc⟩ := id hm
  obtain ⟨fk, fn, fe, hb0, hb1, hb2, hb3, hks, hrep, hwf, hkp, hnd⟩ := id hc
  refine v_aload_n C dX6_takeFromAll_0 rfl ?_
  refine v_dup C dX6_takeFromAll_1 rfl ?_
  refine gf_X6_30 C dX6_takeFromAll_2 (by assumption) ?_
  refine v_lload_n C dX6_takeFromAll_5 rfl ?_
  first | refine v_laddn C dX6_takeFromAll_6 ?_ | refine v_ladd C dX6_takeFromAll_6 ?_
  refine pf_X6_30 C dX6_takeFromAll_7 (by assumption) (fun G hG7 hF7 => ?_)
  first | replace hm0 := (hF7 _ (by omega)).trans hm0 | replace hm0 := hG7 | skip
  first | replace hb0 := (hF7 _ (by omega)).trans hb0 | replace hb0 := hG7 | skip
  first | replace hb1 := (hF7 _ (by omega)).trans hb1 | replace hb1 := hG7 | skip
  first | replace hb2 := (hF7 _ (by omega)).trans hb2 | replace hb2 := hG7 | skip
  first | replace hb3 := (hF7 _ (by omega)).trans hb3 | replace hb3 := hG7 | skip
  refine v_aload_n C dX6_takeFromAll_10 rfl ?_
  refine gf_X6_12 C dX6_takeFromAll_11 (by assumption) ?_
  refine gf_X6_38 C dX6_takeFromAll_14 (by assumption) ?_
  refine v_iconst (v := nI 1) C dX6_takeFromAll_17 (by decide) ?_
  rcases Nat.eq_zero_or_pos l0.length with q | q
  · skip
    refine v_isub C dX6_takeFromAll_18 ?_
    refine v_topi (show nI l0.length - nI 1 = -1 by rw [q]; decide) ?_
    refine v_istore_3 C dX6_takeFromAll_19 (by decide) rfl ?_
    exact (tfa_loop C hr62 hn hwf.2.2.1 (fun G h1 h2 => ⟨h1, h2⟩) (l0.length + 1) l0.length (by omega) (by omega) G ⟨hm0, by unfold mst; rw [List.take_length, List.drop_length]; simpa [mSub] using hc.keep (fun j a b => hF7 j (by omega))⟩ (fun j hj => hF7 j (by omega))).2 q
  · skip
    first | refine v_isubn C dX6_takeFromAll_18 (by omega) ?_ | refine v_isub C dX6_takeFromAll_18 ?_
    refine v_istore_3 C dX6_takeFromAll_19 (by decide) rfl ?_
    exact (tfa_loop C hr62 hn hwf.2.2.1 (fun G h1 h2 => ⟨h1, h2⟩) (l0.length + 1) l0.length (by omega) (by omega) G ⟨hm0, by unfold mst; rw [List.take_length, List.drop_length]; simpa [mSub] using hc.keep (fun j a b => hF7 j (by omega))⟩ (fun j hj => hF7 j (by omega))).1 (l0.length - 1) (by omega)

def mRnd (l : Ctr) (t : Nat) : Nat := min (grt l l.length) t
def mTake (lim : Nat) (l : Ctr) (tk x t : Nat) : Ctr × Nat := match kix l x with
  | some i => (nset l i (numOf l x + t), tk)
  | none => if l.length < lim then (l ++ [(x, t, 0)], tk) else (if mRnd l t < t then mSub l (mRnd l t) ++ [(x, t - mRnd l t, 0)] else mSub l (mRnd l t), tk + mRnd l t)
theorem grt_lt {l : Ctr} {rk N : Nat} (h : ∀ c ∈ l, c.2.1 < N) (hN : 0 < N) : grt l rk < N := by
  unfold grt
  cases hf : l.find? (fun c => decide (abv l c.2.1 < rk ∧ rk ≤ nbl l c.2.1)) with
  | none => exact hN
  | some c => exact h c (List.mem_of_find?_eq_some hf)
theorem mSub_key {l : Ctr} {r : Nat} {c : Nat × Nat × Nat} (h : c ∈ mSub l r) : ∃ d ∈ l, d.1 = c.1 ∧ c.2.1 = d.2.1 - r ∧ r < d.2.1 ∧ c.2.2 = d.2.2 := by
  unfold mSub at h
  obtain ⟨d, hd, he⟩ := List.mem_map.mp h
  obtain ⟨h1, h2⟩ := List.mem_filter.mp hd
  exact ⟨d, h1, by rw [← he], by rw [← he], by simpa using h2, by rw [← he]⟩
theorem mSub_len (l : Ctr) (r : Nat) : (mSub l r).length ≤ l.length := by unfold mSub; rw [List.length_map]; exact List.length_filter_le _ _

set_option maxHeartbeats 4000000 in
set_option maxRecDepth 100000 in
theorem c_Mis_take (l : Launch) (E : Ev) {G : Gh} {b P lim : Nat} {l0 : Ctr} {tk : Nat} {x t : Nat} (hx : x < P) (ht1 : 1 ≤ t) (ht2 : t ≤ 1000) (hll : l0.length ≤ lim) (hn : ∀ c ∈ l0, c.2.1 < 2 ^ 62) (hm : isMis E G b P lim l0 tk) : K_X6_take l E none G [.ref (ga E b), .int (nI x), .int (nI t)] (fun _ G2 => isMis E G2 b P lim (mTake lim l0 tk x t).1 (mTake lim l0 tk x t).2 ∧ ∀ j, (j < b ∨ b + 7 ≤ j) → G2 j = G j) := by
  refine Fc.of rfl [some (.ref (ga E b)), some (.int (nI x)), some (.int (nI t)), none, none, none, none, none] 5 rfl (Nat.le_of_ble_eq_true rfl) ?_
  intro M hM0 hini C
  subst hM0
  obtain ⟨hm0, hc⟩ := id hm
  obtain ⟨fk, fn, fe, hb0, hb1, hb2, hb3, hks, hrep, hwf, hkp, hnd⟩ := id hc
  refine v_aload_n C dX6_take_0 rfl ?_
  refine gf_X6_12 C dX6_take_1 (by assumption) ?_
  refine v_iload_n C dX6_take_4 rfl ?_
  refine mc_X6_18 C dX6_take_5 (by assumption) (c_Ctr_find _ E none hx hc) rfl (fun r5 G5 hp5 => ?_)
  obtain ⟨hr5, rfl⟩ := hp5
  rcases kix_cases hr5 with ⟨hk, rfl⟩ | ⟨i, c, hk, rfl, hci, hcx, hil⟩
  · skip
    refine v_istore_3 C dX6_take_8 (by decide) rfl ?_
    refine v_iload_n C dX6_take_9 rfl ?_
    refine v_if_lt C 28 dX6_take_10 (by decide) (fun h10 => ?_) (fun h10 => by exfalso; first | omega | exact absurd h10 (by decide) | contradiction | simp_all)
    refine v_iload_n C dX6_take_28 rfl ?_
    first | refine v_i2ln C dX6_take_29 (by omega) ?_ | refine v_i2l C dX6_take_29 rfl ?_
    refine v_lstore_4 C dX6_take_30 (by decide) rfl ?_
    refine v_aload_n C dX6_take_32 rfl ?_
    refine gf_X6_12 C dX6_take_33 (by assumption) ?_
    refine mc_X6_34 C dX6_take_36 (by assumption) (c_Ctr_isFull _ E none hc) rfl (fun r36 G36 hp36 => ?_)
    obtain ⟨rfl, rfl⟩ := hp36
    refine v_ifb_eq C 73 dX6_take_39 (by decide) (fun h39 => ?_) (fun h39 => ?_)
    · have hlt : l0.length < lim := by simpa using h39
      refine v_lload C dX6_take_73 rfl ?_
      refine v_lconst (v := lN 0) C dX6_take_75 (by decide) ?_
      refine v_lcmpn_le C 91 dX6_take_76 dX6_take_77 (by decide) (by omega) (by omega) (fun h76 => by exfalso; first | omega | exact absurd h76 (by decide) | contradiction | simp_all) (fun h76 => ?_)
      refine v_aload_n C dX6_take_80 rfl ?_
      refine gf_X6_12 C dX6_take_81 (by assumption) ?_
      refine v_iload_n C dX6_take_84 rfl ?_
      refine v_lload C dX6_take_85 rfl ?_
      refine v_lconst (v := lN 0) C dX6_take_87 (by decide) ?_
      refine mc_X6_55 C dX6_take_88 (by assumption) (c_Ctr_append _ E (by omega) hx (fun c hcm e => kix_none hk c hcm e) hc) rfl (fun r88 G88 hp88 => ?_)
      obtain ⟨hc88, hfr88⟩ := hp88
      refine v_vret C dX6_take_91 ?_
      refine ⟨?_, fun j hj => hfr88 j (by omega)⟩
      have e : mTake lim l0 tk x t = (l0 ++ [(x, t, 0)], tk) := by unfold mTake; rw [hk]; simp only []; rw [if_pos hlt]
      rw [e]
      exact ⟨(hfr88 _ (by omega)).trans hm0, hc88⟩
    · have hge : ¬ l0.length < lim := by simpa using h39
      refine v_aload_n C dX6_take_42 rfl ?_
      refine v_aload_n C dX6_take_43 rfl ?_
      refine gf_X6_12 C dX6_take_44 (by assumption) ?_
      refine gf_X6_38 C dX6_take_47 (by assumption) ?_
      refine mc_X6_42 C dX6_take_50 (by assumption) (c_Mis_greatest _ E none (by omega) hn hm) rfl (fun r50 G50 hp50 => ?_)
      obtain ⟨rfl, rfl⟩ := hp50
      refine v_lload C dX6_take_53 rfl ?_
      refine mc_X6_45 C dX6_take_55 rfl ?_
      refine v_topl (lN_min (by have := grt_lt (rk := l0.length) hn (by decide); omega) (by omega)) ?_
      show V _ _ _ _ _ _ _ _ _ _ (.long (lN (mRnd l0 t)) :: _)
      refine v_lstore_6 C dX6_take_58 (by decide) rfl ?_
      refine v_aload_n C dX6_take_60 rfl ?_
      refine v_lload C dX6_take_61 rfl ?_
      refine mc_X6_51 C dX6_take_63 (by assumption) (c_Mis_tfa _ E (r := mRnd l0 t) (by unfold mRnd; omega) hn hm) rfl (fun r63 G63 hp63 => ?_)
      obtain ⟨hm63, hfr63⟩ := hp63
      have hm0 := hm63.1
      have hb0 := hm63.2.rc
      refine v_lload C dX6_take_66 rfl ?_
      refine v_lload C dX6_take_68 rfl ?_
      refine v_lsubn C dX6_take_70 (by unfold mRnd; omega) ?_
      refine v_lstore_4 C dX6_take_71 (by decide) rfl ?_
      refine v_lload C dX6_take_73 rfl ?_
      refine v_lconst (v := lN 0) C dX6_take_75 (by decide) ?_
      refine v_lcmpn_le C 91 dX6_take_76 dX6_take_77 (by decide) (by omega) (by omega) (fun h76 => ?_) (fun h76 => ?_)
      · skip
        refine v_vret C dX6_take_91 ?_
        first
          | (refine ⟨?_, fun j hj => by rw [hfr88 j (by omega), hfr63 j (by omega)]⟩
             have e : mTake lim l0 tk x t = (mSub l0 (mRnd l0 t) ++ [(x, t - mRnd l0 t, 0)], tk + mRnd l0 t) := by
               unfold mTake; rw [hk]; simp only []; rw [if_neg hge, if_pos (by omega)]
             rw [e]
             exact ⟨(hfr88 _ (by omega)).trans hm0, hc88⟩)
          | (refine ⟨?_, fun j hj => hfr63 j (by omega)⟩
             have e : mTake lim l0 tk x t = (mSub l0 (mRnd l0 t), tk + mRnd l0 t) := by
               unfold mTake; rw [hk]; simp only []; rw [if_neg hge, if_neg (by omega)]
             rw [e]
             exact hm63)
      · skip
        refine v_aload_n C dX6_take_80 rfl ?_
        refine gf_X6_12 C dX6_take_81 (by assumption) ?_
        refine v_iload_n C dX6_take_84 rfl ?_
        refine v_lload C dX6_take_85 rfl ?_
        refine v_lconst (v := lN 0) C dX6_take_87 (by decide) ?_
        refine mc_X6_55 C dX6_take_88 (by assumption) (c_Ctr_append _ E (x := x) (y := t - mRnd l0 t) (e := 0) (by have := mSub_len l0 (mRnd l0 t); omega) hx (fun c hcm e => by obtain ⟨d, hd, h1, -⟩ := mSub_key hcm; exact kix_none hk d hd (h1.trans e)) hm63.2) rfl (fun r88 G88 hp88 => ?_)
        obtain ⟨hc88, hfr88⟩ := hp88
        refine v_vret C dX6_take_91 ?_
        first
          | (refine ⟨?_, fun j hj => by rw [hfr88 j (by omega), hfr63 j (by omega)]⟩
             have e : mTake lim l0 tk x t = (mSub l0 (mRnd l0 t) ++ [(x, t - mRnd l0 t, 0)], tk + mRnd l0 t) := by
               unfold mTake; rw [hk]; simp only []; rw [if_neg hge, if_pos (by omega)]
             rw [e]
             exact ⟨(hfr88 _ (by omega)).trans hm0, hc88⟩)
          | (refine ⟨?_, fun j hj => hfr63 j (by omega)⟩
             have e : mTake lim l0 tk x t = (mSub l0 (mRnd l0 t), tk + mRnd l0 t) := by
               unfold mTake; rw [hk]; simp only []; rw [if_neg hge, if_neg (by omega)]
             rw [e]
             exact hm63)
  · skip
    refine v_istore_3 C dX6_take_8 (by decide) rfl ?_
    refine v_iload_n C dX6_take_9 rfl ?_
    first | refine v_ifn_lt C 28 dX6_take_10 (by decide) (by omega) (fun h10 => by exfalso; first | omega | exact absurd h10 (by decide) | contradiction | simp_all) (fun h10 => ?_) | refine v_if_lt C 28 dX6_take_10 (by decide) (fun h10 => by exfalso; first | omega | exact absurd h10 (by decide) | contradiction | simp_all) (fun h10 => ?_)
    refine v_aload_n C dX6_take_13 rfl ?_
    refine gf_X6_12 C dX6_take_14 (by assumption) ?_
    refine gf_X6_22 C dX6_take_17 (by assumption) ?_
    refine v_iload_n C dX6_take_20 rfl ?_
    refine v_dup2 C dX6_take_21 rfl rfl ?_
    refine v_lald C dX6_take_22 (by assumption) (by omega) (by omega) (hrep i c hci).2.1 ?_
    refine v_iload_n C dX6_take_23 rfl ?_
    first | refine v_i2ln C dX6_take_24 (by omega) ?_ | refine v_i2l C dX6_take_24 rfl ?_
    first | refine v_laddn C dX6_take_25 ?_ | refine v_ladd C dX6_take_25 ?_
    refine v_last C dX6_take_26 (by assumption) (by omega) (by omega) (fun G hG26 hF26 => ?_)
    first | replace hm0 := (hF26 _ (by omega)).trans hm0 | replace hm0 := hG26 | skip
    first | replace hb0 := (hF26 _ (by omega)).trans hb0 | replace hb0 := hG26 | skip
    first | replace hb1 := (hF26 _ (by omega)).trans hb1 | replace hb1 := hG26 | skip
    first | replace hb2 := (hF26 _ (by omega)).trans hb2 | replace hb2 := hG26 | skip
    first | replace hb3 := (hF26 _ (by omega)).trans hb3 | replace hb3 := hG26 | skip
    refine v_vret C dX6_take_27 ?_
    refine ⟨?_, fun j hj => hF26 j (by omega)⟩
    have e : mTake lim l0 tk x t = (nset l0 i (numOf l0 x + t), tk) := by unfold mTake; rw [hk]
    rw [e, numOf_some hk hci]
    exact ⟨hm0, isCtr.nset hb0 hb1 hb2 hb3 (hks.keep (fun j a b => hF26 j (by omega))) hrep ⟨hwf, hkp, hnd⟩⟩

