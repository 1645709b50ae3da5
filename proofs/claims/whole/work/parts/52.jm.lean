def isPA (E : Ev) (G : Gh) : Prop := ∃ (fk : Nat → Int32) (fn fe : Nat → Int64), G 124 = cI E 600 fk ∧ G 125 = cJ E 600 fn ∧ G 126 = cJ E 600 fe
theorem isPA.keep {E : Ev} {G G2 : Gh} (h : isPA E G) (hf : ∀ j, 124 ≤ j → j < 127 → G2 j = G j) : isPA E G2 := by
  obtain ⟨a, b, c, h0, h1, h2⟩ := h
  exact ⟨a, b, c, (hf _ (by omega) (by omega)).trans h0, (hf _ (by omega) (by omega)).trans h1, (hf _ (by omega) (by omega)).trans h2⟩
theorem isPA.nil {E : Ev} {G : Gh} (h : isPA E G) : isPl E G [] := by
  obtain ⟨a, b, c, h0, h1, h2⟩ := h
  exact ⟨a, b, c, h0, h1, h2, fun j d hj => by simp at hj, by simp, fun d hd => by simp at hd, by simp [ckeys]⟩
theorem isPl.pa {E : Ev} {G : Gh} {l : Ctr} (h : isPl E G l) : isPA E G := by
  obtain ⟨a, b, c, h0, h1, h2, h3⟩ := h
  exact ⟨a, b, c, h0, h1, h2⟩
theorem isMd.upo {E : Ev} {G G2 : Gh} {P W R lim rq po po2 : Nat} {A B : Nat → Nat} {Y : Nat → Str} (h : isMd E G P W R lim rq po A B Y) (h9 : isMo E G2 P W R lim rq po2 A B) (hf : ∀ j, 107 ≤ j → j < 122 → G2 j = G j) : isMd E G2 P W R lim rq po2 A B Y := by
  obtain ⟨h0, h1, h2, h3, h4, h5, h6⟩ := h
  exact ⟨h9, h1.keep (hf _ (by omega) (by omega)), h2.keep (hf _ (by omega) (by omega)), h3.keep (hf _ (by omega) (by omega)), h4.keep (fun j a b => hf j (by omega) (by omega)), h5.keep (fun j a b => hf j (by omega) (by omega)), h6.keep (fun j a b => hf j (by omega) b)⟩
theorem pPut_mAdd1 (l : Ctr) (c : Nat × Nat × Nat) : pPut l c.1 c.2.1 0 = mAdd1 l c := by
  unfold pPut mAdd1
  cases hk : kix l c.1 with
  | none => rfl
  | some i =>
    obtain ⟨d, h1, h2, h3⟩ := kix_some hk
    simp only []
    unfold nset
    rw [numOf_some hk h1, h1]
    rfl
theorem mAdd_nil : ∀ (l2 l : Ctr), (ckeys (l ++ l2)).Nodup → (∀ c ∈ l2, c.2.2 = 0) → mAdd l l2 = l ++ l2 := by
  intro l2
  induction l2 with
  | nil => intro l _ _; rw [List.append_nil]; rfl
  | cons c l2 ih =>
    intro l hnd he
    have hk : kix l c.1 = none := kix_no (fun d hd9 h9 => by
      unfold ckeys at hnd
      rw [List.map_append, List.map_cons] at hnd
      have := (List.nodup_append.mp hnd).2.2 d.1 (List.mem_map_of_mem hd9) c.1 (List.mem_cons_self)
      exact this h9)
    have e9 : mAdd l (c :: l2) = mAdd (mAdd1 l c) l2 := rfl
    have e8 : mAdd1 l c = l ++ [c] := by
      unfold mAdd1
      rw [hk]
      have := he c List.mem_cons_self
      obtain ⟨a, b, d⟩ := c
      simp only [] at this ⊢
      rw [this]
    have e7 : l ++ [c] ++ l2 = l ++ c :: l2 := by simp
    rw [e9, e8, ih _ (by rw [e7]; exact hnd) (fun d hd9 => he d (List.mem_cons_of_mem _ hd9)), e7]
theorem mAdd1_mem {l : Ctr} {c d : Nat × Nat × Nat} (h : d ∈ mAdd1 l c) : (d ∈ l) ∨ (d = (c.1, c.2.1, 0)) ∨ ∃ c9 ∈ l, c9.1 = c.1 ∧ d = (c9.1, c9.2.1 + c.2.1, c9.2.2) := by
  unfold mAdd1 at h
  cases hk : kix l c.1 with
  | none =>
    rw [hk] at h
    rcases List.mem_append.mp h with q9 | q9
    · exact Or.inl q9
    · exact Or.inr (Or.inl (List.mem_singleton.mp q9))
  | some i =>
    rw [hk] at h
    simp only [] at h
    obtain ⟨c9, h1, h2, h3⟩ := kix_some hk
    rw [numOf_some hk h1] at h
    rcases nset_mem h with q9 | ⟨c8, q1, q2⟩
    · exact Or.inl q9
    · rw [h1] at q1
      cases q1
      exact Or.inr (Or.inr ⟨c9, List.mem_of_getElem? h1, h2, q2⟩)
theorem mAdd_lt {P : Nat} : ∀ (l2 l : Ctr), (∀ c ∈ l, c.1 < P) → (∀ c ∈ l2, c.1 < P) → ∀ c ∈ mAdd l l2, c.1 < P := by
  intro l2
  induction l2 with
  | nil => intro l h _; exact h
  | cons c l2 ih =>
    intro l h h2
    have e9 : mAdd l (c :: l2) = mAdd (mAdd1 l c) l2 := rfl
    rw [e9]
    refine ih _ (fun d hd9 => ?_) (fun d hd9 => h2 d (List.mem_cons_of_mem _ hd9))
    have hc9 := h2 c List.mem_cons_self
    rcases mAdd1_mem hd9 with q9 | q9 | ⟨c9, q1, q2, q3⟩
    · exact h d q9
    · rw [q9]; exact hc9
    · rw [q3]; exact h c9 q1
theorem mSub_nodup {l : Ctr} (h : (ckeys l).Nodup) (r : Nat) : (ckeys (mSub l r)).Nodup := by
  have e9 : ckeys (mSub l r) = ckeys (l.filter (fun c => decide (r < c.2.1))) := by
    unfold ckeys mSub
    rw [List.map_map]
    rfl
  rw [e9]
  exact h.sublist (List.Sublist.map _ List.filter_sublist)
theorem mSub_tk_len {l : Ctr} {i n : Nat} : (mSub (l.take i) n).length ≤ (mSub l n).length := by
  unfold mSub
  rw [List.length_map, List.length_map]
  exact (List.Sublist.filter _ (List.take_sublist i l)).length_le
def mLess (lim : Nat) (u : Ctr) : Nat := if lim < u.length then grt u (lim + 1) else 0
def tkJ (l : Ctr) (n i s : Nat) (gk fk : Nat → Int32) (gn fn : Nat → Int64) : Prop := (∀ (j : Nat) (c : Nat × Nat × Nat), (mSub (l.take i) n)[j]? = some c → fk (64 * s + j) = nI c.1 ∧ fn (64 * s + j) = lN c.2.1) ∧ ∀ q, (q < 64 * s ∨ 64 * s + 64 ≤ q) → fk q = gk q ∧ fn q = gn q
theorem tkJ_yes {l : Ctr} {n i s : Nat} {gk fk : Nat → Int32} {gn fn : Nat → Int64} {c : Nat × Nat × Nat} (h : tkJ l n i s gk fk gn fn) (hc : l[i]? = some c) (hn : n < c.2.1) (hl : (mSub (l.take i) n).length < 64) : tkJ l n (i + 1) s gk (fu fk (64 * s + (mSub (l.take i) n).length) (nI c.1)) gn (fu fn (64 * s + (mSub (l.take i) n).length) (lN (c.2.1 - n))) := by
  obtain ⟨h1, h3⟩ := h
  refine ⟨fun j d hj => ?_, fun q hq => ?_⟩
  · rw [mSub_take hc, if_pos hn] at hj
    by_cases e9 : j = (mSub (l.take i) n).length
    · subst e9
      rw [List.getElem?_append_right (Nat.le_refl _), Nat.sub_self] at hj
      cases hj
      rw [fu_self, fu_self]
      exact ⟨rfl, rfl⟩
    · have hjl := (List.getElem?_eq_some_iff.mp hj).1
      rw [List.length_append, List.length_singleton] at hjl
      rw [List.getElem?_append_left (by omega)] at hj
      rw [fu_ne _ _ (by omega), fu_ne _ _ (by omega)]
      exact h1 j d hj
  · rw [fu_ne _ _ (by omega), fu_ne _ _ (by omega)]
    exact h3 q hq

theorem isMo.hl {E : Ev} {G : Gh} {P W R lim rq po : Nat} {A B : Nat → Nat} (h : isMo E G P W R lim rq po A B) : (2 ≤ P ∧ P ≤ 65521 ∧ 1 ≤ W ∧ W ≤ 256 ∧ 1 ≤ R ∧ R ≤ 8) ∧ (1 ≤ lim ∧ lim ≤ 64) := by
  obtain ⟨fa, fb, ho, k5, k6, hfa, hfb, hrg, hlim, hab⟩ := h
  exact ⟨hrg, hlim⟩
set_option maxHeartbeats 4000000 in
set_option maxRecDepth 100000 in
theorem mjm1 {M : Mx} {E : Ev} {z : Option Nat} (C : Cx M E yX12_joinMisra.cls cX12_joinMisra 6 none 2 49 0 0) {post : Unit → Gh → Prop} {G0 : Gh} {P W R lim rq s s2 : Nat} {A B : Nat → Nat} {Y : Nat → Str} {l0 : Ctr} (hs : s < 4) (hs2 : s2 < 4) (hl0 : l0.length ≤ 64)
    (kend : ∀ (G : Gh), isMd E G P W R lim rq (mAdd l0 (zM (Y s))).length A B Y → isPl E G (mAdd l0 (zM (Y s))) → (∀ j, j ≠ 104 ∧ (j < 124 ∨ 127 ≤ j) → G j = G0 j) → V M E 6 (QE M E (fun _ : Unit => none) z 0 0 post) z 0 0 G 48 [some (.ref (ga E 104)), some (.int (nI s)), some (.int (nI s2)), some (.int (nI (64 * s + (zM (Y s)).length))), none, none] []) :
    ∀ (u k : Nat), k ≤ (zM (Y s)).length → (zM (Y s)).length - k < u → ∀ (G : Gh), isMd E G P W R lim rq (mAdd l0 ((zM (Y s)).take k)).length A B Y → isPl E G (mAdd l0 ((zM (Y s)).take k)) → (∀ j, j ≠ 104 ∧ (j < 124 ∨ 127 ≤ j) → G j = G0 j) → V M E 6 (QE M E (fun _ : Unit => none) z 0 0 post) z 0 0 G 10 [some (.ref (ga E 104)), some (.int (nI s)), some (.int (nI s2)), some (.int (nI (64 * s + k))), none, none] [] := by
  intro u
  induction u with
  | zero => intro k _ h; omega
  | succ u ih =>
    intro k hk hu G hd hpl hfr
    obtain ⟨hm, -, -, -, hMm, -⟩ := id hd
    have ho := hm.rc
    obtain ⟨fms, fmk, ftk, fmn, ma, mb, mc, md, hallM⟩ := id hMm
    replace hallM : ∀ q, q < 4 → moM1 fms fmk ftk fmn lim P q (zM (Y q)) (zT (Y q)) := hallM
    obtain ⟨a1, a2, a3, a4, a5, a6⟩ := hallM s hs
    have hlim := hm.hl
    refine v_iload_n C dX12_joinMisra_10 rfl ?_
    refine v_bipush (v := nI 64) C dX12_joinMisra_11 (by decide) ?_
    refine v_iload_n C dX12_joinMisra_13 rfl ?_
    first | refine v_imuln C dX12_joinMisra_14 ?_ | refine v_imul C dX12_joinMisra_14 ?_
    refine v_aload_n C dX12_joinMisra_15 rfl ?_
    refine gf_X12_26 C dX12_joinMisra_16 (by assumption) ?_
    refine v_iload_n C dX12_joinMisra_19 rfl ?_
    refine v_iald C dX12_joinMisra_20 (by assumption) (by omega) (by omega) a1 ?_
    first | refine v_iaddn C dX12_joinMisra_21 ?_ | refine v_iadd C dX12_joinMisra_21 ?_
    refine v_icmpn_ge C 48 dX12_joinMisra_22 (by decide) (by omega) (by omega) (fun h22 => ?_) (fun h22 => ?_)
    · skip
      have e9 : k = (zM (Y s)).length := by omega
      subst e9
      rw [List.take_length] at hd hpl
      exact kend G hd hpl hfr
    · skip
      have hci : (zM (Y s))[k]? = some (zM (Y s))[k] := List.getElem?_eq_getElem (by omega)
      have hkb := a5 _ (List.mem_of_getElem? hci)
      have hlp := mAdd_len (l := l0) ((zM (Y s)).take k)
      rw [List.length_take] at hlp
      refine v_aload_n C dX12_joinMisra_25 rfl ?_
      refine v_aload_n C dX12_joinMisra_26 rfl ?_
      refine gf_X12_32 C dX12_joinMisra_27 (by assumption) ?_
      refine v_iload_n C dX12_joinMisra_30 rfl ?_
      refine v_iald C dX12_joinMisra_31 (by assumption) (by omega) (by omega) (a3 k _ hci).1 ?_
      refine v_aload_n C dX12_joinMisra_32 rfl ?_
      refine gf_X12_35 C dX12_joinMisra_33 (by assumption) ?_
      refine v_iload_n C dX12_joinMisra_36 rfl ?_
      refine v_lald C dX12_joinMisra_37 (by assumption) (by omega) (by omega) (a3 k _ hci).2 ?_
      refine v_lconst (v := lN 0) C dX12_joinMisra_38 (by decide) ?_
      refine mc_X12_172 C dX12_joinMisra_39 (by assumption) (c_Mo_pools _ E z (e9e := 0) (by omega) (by omega) hm hpl) rfl (fun r39 G39 hp39 => ?_)
      obtain ⟨hm9, hpl9, hfr9⟩ := hp39
      rw [pPut_mAdd1, ← mAdd_step hci] at hm9 hpl9
      first | refine v_iinc_3 C dX12_joinMisra_42 (nI_1 _) (by decide) (by first | rfl | assumption) ?_ | refine v_iinc_3 C dX12_joinMisra_42 rfl (by decide) (by first | rfl | assumption) ?_
      refine v_goto C 10 dX12_joinMisra_45 (by decide) ?_
      exact ih (k + 1) (by omega) (by omega) G39 (hd.upo hm9 (fun j a b => hfr9 j (by omega))) hpl9 (fun j hj => by rw [hfr9 j (by omega)]; exact hfr j hj)
set_option maxHeartbeats 4000000 in
set_option maxRecDepth 100000 in
theorem mjm2 {M : Mx} {E : Ev} {z : Option Nat} (C : Cx M E yX12_joinMisra.cls cX12_joinMisra 6 none 2 49 0 0) {post : Unit → Gh → Prop} {G0 : Gh} {P W R lim rq s s2 : Nat} {A B : Nat → Nat} {Y : Nat → Str} {l0 : Ctr} (hs : s < 4) (hs2 : s2 < 4) (hl0 : l0.length ≤ 64)
    (kend : ∀ (G : Gh), isMd E G P W R lim rq (mAdd l0 (zM (Y s2))).length A B Y → isPl E G (mAdd l0 (zM (Y s2))) → (∀ j, j ≠ 104 ∧ (j < 124 ∨ 127 ≤ j) → G j = G0 j) → V M E 6 (QE M E (fun _ : Unit => none) z 0 0 post) z 0 0 G 91 [some (.ref (ga E 104)), some (.int (nI s)), some (.int (nI s2)), some (.int (nI (64 * s2 + (zM (Y s2)).length))), none, none] []) :
    ∀ (u k : Nat), k ≤ (zM (Y s2)).length → (zM (Y s2)).length - k < u → ∀ (G : Gh), isMd E G P W R lim rq (mAdd l0 ((zM (Y s2)).take k)).length A B Y → isPl E G (mAdd l0 ((zM (Y s2)).take k)) → (∀ j, j ≠ 104 ∧ (j < 124 ∨ 127 ≤ j) → G j = G0 j) → V M E 6 (QE M E (fun _ : Unit => none) z 0 0 post) z 0 0 G 53 [some (.ref (ga E 104)), some (.int (nI s)), some (.int (nI s2)), some (.int (nI (64 * s2 + k))), none, none] [] := by
  intro u
  induction u with
  | zero => intro k _ h; omega
  | succ u ih =>
    intro k hk hu G hd hpl hfr
    obtain ⟨hm, -, -, -, hMm, -⟩ := id hd
    have ho := hm.rc
    obtain ⟨fms, fmk, ftk, fmn, ma, mb, mc, md, hallM⟩ := id hMm
    replace hallM : ∀ q, q < 4 → moM1 fms fmk ftk fmn lim P q (zM (Y q)) (zT (Y q)) := hallM
    obtain ⟨a1, a2, a3, a4, a5, a6⟩ := hallM s2 hs2
    have hlim := hm.hl
    refine v_iload_n C dX12_joinMisra_53 rfl ?_
    refine v_bipush (v := nI 64) C dX12_joinMisra_54 (by decide) ?_
    refine v_iload_n C dX12_joinMisra_56 rfl ?_
    first | refine v_imuln C dX12_joinMisra_57 ?_ | refine v_imul C dX12_joinMisra_57 ?_
    refine v_aload_n C dX12_joinMisra_58 rfl ?_
    refine gf_X12_26 C dX12_joinMisra_59 (by assumption) ?_
    refine v_iload_n C dX12_joinMisra_62 rfl ?_
    refine v_iald C dX12_joinMisra_63 (by assumption) (by omega) (by omega) a1 ?_
    first | refine v_iaddn C dX12_joinMisra_64 ?_ | refine v_iadd C dX12_joinMisra_64 ?_
    refine v_icmpn_ge C 91 dX12_joinMisra_65 (by decide) (by omega) (by omega) (fun h65 => ?_) (fun h65 => ?_)
    · skip
      have e9 : k = (zM (Y s2)).length := by omega
      subst e9
      rw [List.take_length] at hd hpl
      exact kend G hd hpl hfr
    · skip
      have hci : (zM (Y s2))[k]? = some (zM (Y s2))[k] := List.getElem?_eq_getElem (by omega)
      have hkb := a5 _ (List.mem_of_getElem? hci)
      have hlp := mAdd_len (l := l0) ((zM (Y s2)).take k)
      rw [List.length_take] at hlp
      refine v_aload_n C dX12_joinMisra_68 rfl ?_
      refine v_aload_n C dX12_joinMisra_69 rfl ?_
      refine gf_X12_32 C dX12_joinMisra_70 (by assumption) ?_
      refine v_iload_n C dX12_joinMisra_73 rfl ?_
      refine v_iald C dX12_joinMisra_74 (by assumption) (by omega) (by omega) (a3 k _ hci).1 ?_
      refine v_aload_n C dX12_joinMisra_75 rfl ?_
      refine gf_X12_35 C dX12_joinMisra_76 (by assumption) ?_
      refine v_iload_n C dX12_joinMisra_79 rfl ?_
      refine v_lald C dX12_joinMisra_80 (by assumption) (by omega) (by omega) (a3 k _ hci).2 ?_
      refine v_lconst (v := lN 0) C dX12_joinMisra_81 (by decide) ?_
      refine mc_X12_172 C dX12_joinMisra_82 (by assumption) (c_Mo_pools _ E z (e9e := 0) (by omega) (by omega) hm hpl) rfl (fun r82 G82 hp82 => ?_)
      obtain ⟨hm9, hpl9, hfr9⟩ := hp82
      rw [pPut_mAdd1, ← mAdd_step hci] at hm9 hpl9
      first | refine v_iinc_3 C dX12_joinMisra_85 (nI_1 _) (by decide) (by first | rfl | assumption) ?_ | refine v_iinc_3 C dX12_joinMisra_85 rfl (by decide) (by first | rfl | assumption) ?_
      refine v_goto C 53 dX12_joinMisra_88 (by decide) ?_
      exact ih (k + 1) (by omega) (by omega) G82 (hd.upo hm9 (fun j a b => hfr9 j (by omega))) hpl9 (fun j hj => by rw [hfr9 j (by omega)]; exact hfr j hj)
set_option maxHeartbeats 4000000 in
set_option maxRecDepth 100000 in
theorem mjm3 {M : Mx} {E : Ev} {z : Option Nat} (C : Cx M E yX12_joinMisra.cls cX12_joinMisra 6 none 2 49 0 0) {post : Unit → Gh → Prop} {G0 : Gh} {P W R lim rq s s2 n : Nat} {u0 : Ctr} {gms gk pk : Nat → Int32} {gn pn pe : Nat → Int64} (hs : s < 4) (hs2 : s2 < 4) (hn62 : n < 2 ^ 62) (hn : ∀ c ∈ u0, c.2.1 < 2 ^ 62) (hrep : rep u0 pk pn pe) (hu6 : u0.length ≤ 600) (hle : (mSub u0 n).length ≤ 64)
    (kend : ∀ (G : Gh) (fk : Nat → Int32) (fn : Nat → Int64), G 104 = moO E P W R lim rq u0.length → G 110 = cI E 4 (fu gms s (nI (mSub u0 n).length)) → G 112 = cI E 256 fk → G 113 = cJ E 256 fn → G 124 = cI E 600 pk → G 125 = cJ E 600 pn → (∀ (j : Nat) (c : Nat × Nat × Nat), (mSub u0 n)[j]? = some c → fk (64 * s + j) = nI c.1 ∧ fn (64 * s + j) = lN c.2.1) → (∀ q, (q < 64 * s ∨ 64 * s + 64 ≤ q) → fk q = gk q ∧ fn q = gn q) → (∀ j, j ≠ 110 ∧ j ≠ 112 ∧ j ≠ 113 → G j = G0 j) → post () G) :
    ∀ (u k : Nat), k ≤ u0.length → u0.length - k < u → ∀ (G : Gh) (fk : Nat → Int32) (fn : Nat → Int64), G 104 = moO E P W R lim rq u0.length → G 110 = cI E 4 (fu gms s (nI (mSub (u0.take k) n).length)) → G 112 = cI E 256 fk → G 113 = cJ E 256 fn → G 124 = cI E 600 pk → G 125 = cJ E 600 pn → tkJ u0 n k s gk fk gn fn → (∀ j, j ≠ 110 ∧ j ≠ 112 ∧ j ≠ 113 → G j = G0 j) → V M E 6 (QE M E (fun _ : Unit => none) z 0 0 post) z 0 0 G 144 [some (.ref (ga E 104)), some (.int (nI s)), some (.int (nI s2)), some (.long (lN n)), none, some (.int (nI k))] [] := by
  intro u
  induction u with
  | zero => intro k _ h; omega
  | succ u ih =>
    intro k hk hu G fk fn ho ma mc md pa pb htk hfr
    refine v_iload C dX12_joinMisra_144 rfl ?_
    refine v_aload_n C dX12_joinMisra_146 rfl ?_
    refine gf_X12_156 C dX12_joinMisra_147 (by assumption) ?_
    refine v_icmpn_ge C 229 dX12_joinMisra_150 (by decide) (by omega) (by omega) (fun h150 => ?_) (fun h150 => ?_)
    · skip
      refine v_vret C dX12_joinMisra_229 ?_
      have e9 : k = u0.length := by omega
      subst e9
      rw [List.take_length] at ma
      unfold tkJ at htk
      rw [List.take_length] at htk
      exact kend G fk fn ho ma mc md pa pb htk.1 htk.2 hfr
    · skip
      have hci : u0[k]? = some u0[k] := List.getElem?_eq_getElem h150
      have hn9 := hn _ (List.mem_of_getElem? hci)
      refine v_aload_n C dX12_joinMisra_153 rfl ?_
      refine gf_X12_72 C dX12_joinMisra_154 (by assumption) ?_
      refine v_iload C dX12_joinMisra_157 rfl ?_
      refine v_lald C dX12_joinMisra_159 (by assumption) (by omega) (by omega) (hrep k _ hci).2.1 ?_
      refine v_lload_n C dX12_joinMisra_160 rfl ?_
      refine v_lcmpn_le C 223 dX12_joinMisra_161 dX12_joinMisra_162 (by decide) (by omega) (by omega) (fun h161 => ?_) (fun h161 => ?_)
      · skip
        first | refine v_iinc_5 C dX12_joinMisra_223 (nI_1 _) (by decide) (by first | rfl | assumption) ?_ | refine v_iinc_5 C dX12_joinMisra_223 rfl (by decide) (by first | rfl | assumption) ?_
        refine v_goto C 144 dX12_joinMisra_226 (by decide) ?_
        first
          | exact ih (k + 1) (by omega) (by omega) G _ _ ho (by rw [ma, mSub_take hci, if_pos (by omega), List.length_append, List.length_singleton, fu_fu]) mc md pa pb (tkJ_yes htk hci (by omega) (by omega)) (fun j hj => by rw [hF222 j (by omega), hF212 j (by omega), hF187 j (by omega)]; exact hfr j hj)
          | exact ih (k + 1) (by omega) (by omega) G _ _ ho (by rw [ma, mSub_take hci, if_neg (by omega)]) mc md pa pb ⟨fun j d hj => htk.1 j d (by rw [mSub_take hci, if_neg (by omega)] at hj; exact hj), htk.2⟩ hfr
      · skip
        have hle1 := mSub_tk_len (l := u0) (i := k + 1) (n := n)
        rw [mSub_take hci, if_pos (by omega), List.length_append, List.length_singleton] at hle1
        refine v_aload_n C dX12_joinMisra_165 rfl ?_
        refine gf_X12_32 C dX12_joinMisra_166 (by assumption) ?_
        refine v_bipush (v := nI 64) C dX12_joinMisra_169 (by decide) ?_
        refine v_iload_n C dX12_joinMisra_171 rfl ?_
        first | refine v_imuln C dX12_joinMisra_172 ?_ | refine v_imul C dX12_joinMisra_172 ?_
        refine v_aload_n C dX12_joinMisra_173 rfl ?_
        refine gf_X12_26 C dX12_joinMisra_174 (by assumption) ?_
        refine v_iload_n C dX12_joinMisra_177 rfl ?_
        refine v_iald C dX12_joinMisra_178 (by assumption) (by omega) (by omega) (fu_self _ _ _) ?_
        first | refine v_iaddn C dX12_joinMisra_179 ?_ | refine v_iadd C dX12_joinMisra_179 ?_
        refine v_aload_n C dX12_joinMisra_180 rfl ?_
        refine gf_X12_69 C dX12_joinMisra_181 (by assumption) ?_
        refine v_iload C dX12_joinMisra_184 rfl ?_
        refine v_iald C dX12_joinMisra_186 (by assumption) (by omega) (by omega) (hrep k _ hci).1 ?_
        refine v_iast C dX12_joinMisra_187 (by assumption) (by omega) (by omega) (fun G hG187 hF187 => ?_)
        first | replace ho := (hF187 _ (by omega)).trans ho | replace ho := hG187 | skip
        first | replace ma := (hF187 _ (by omega)).trans ma | replace ma := hG187 | skip
        first | replace mc := (hF187 _ (by omega)).trans mc | replace mc := hG187 | skip
        first | replace md := (hF187 _ (by omega)).trans md | replace md := hG187 | skip
        first | replace pa := (hF187 _ (by omega)).trans pa | replace pa := hG187 | skip
        first | replace pb := (hF187 _ (by omega)).trans pb | replace pb := hG187 | skip
        refine v_aload_n C dX12_joinMisra_188 rfl ?_
        refine gf_X12_35 C dX12_joinMisra_189 (by assumption) ?_
        refine v_bipush (v := nI 64) C dX12_joinMisra_192 (by decide) ?_
        refine v_iload_n C dX12_joinMisra_194 rfl ?_
        first | refine v_imuln C dX12_joinMisra_195 ?_ | refine v_imul C dX12_joinMisra_195 ?_
        refine v_aload_n C dX12_joinMisra_196 rfl ?_
        refine gf_X12_26 C dX12_joinMisra_197 (by assumption) ?_
        refine v_iload_n C dX12_joinMisra_200 rfl ?_
        refine v_iald C dX12_joinMisra_201 (by assumption) (by omega) (by omega) (fu_self _ _ _) ?_
        first | refine v_iaddn C dX12_joinMisra_202 ?_ | refine v_iadd C dX12_joinMisra_202 ?_
        refine v_aload_n C dX12_joinMisra_203 rfl ?_
        refine gf_X12_72 C dX12_joinMisra_204 (by assumption) ?_
        refine v_iload C dX12_joinMisra_207 rfl ?_
        refine v_lald C dX12_joinMisra_209 (by assumption) (by omega) (by omega) (hrep k _ hci).2.1 ?_
        refine v_lload_n C dX12_joinMisra_210 rfl ?_
        first | refine v_lsubn C dX12_joinMisra_211 (by omega) ?_ | refine v_lsub C dX12_joinMisra_211 ?_
        refine v_last C dX12_joinMisra_212 (by assumption) (by omega) (by omega) (fun G hG212 hF212 => ?_)
        first | replace ho := (hF212 _ (by omega)).trans ho | replace ho := hG212 | skip
        first | replace ma := (hF212 _ (by omega)).trans ma | replace ma := hG212 | skip
        first | replace mc := (hF212 _ (by omega)).trans mc | replace mc := hG212 | skip
        first | replace md := (hF212 _ (by omega)).trans md | replace md := hG212 | skip
        first | replace pa := (hF212 _ (by omega)).trans pa | replace pa := hG212 | skip
        first | replace pb := (hF212 _ (by omega)).trans pb | replace pb := hG212 | skip
        refine v_aload_n C dX12_joinMisra_213 rfl ?_
        refine gf_X12_26 C dX12_joinMisra_214 (by assumption) ?_
        refine v_iload_n C dX12_joinMisra_217 rfl ?_
        refine v_dup2 C dX12_joinMisra_218 rfl rfl ?_
        refine v_iald C dX12_joinMisra_219 (by assumption) (by omega) (by omega) (fu_self _ _ _) ?_
        refine v_iconst (v := nI 1) C dX12_joinMisra_220 (by decide) ?_
        first | refine v_iaddn C dX12_joinMisra_221 ?_ | refine v_iadd C dX12_joinMisra_221 ?_
        refine v_iast C dX12_joinMisra_222 (by assumption) (by omega) (by omega) (fun G hG222 hF222 => ?_)
        first | replace ho := (hF222 _ (by omega)).trans ho | replace ho := hG222 | skip
        first | replace ma := (hF222 _ (by omega)).trans ma | replace ma := hG222 | skip
        first | replace mc := (hF222 _ (by omega)).trans mc | replace mc := hG222 | skip
        first | replace md := (hF222 _ (by omega)).trans md | replace md := hG222 | skip
        first | replace pa := (hF222 _ (by omega)).trans pa | replace pa := hG222 | skip
        first | replace pb := (hF222 _ (by omega)).trans pb | replace pb := hG222 | skip
        first | refine v_iinc_5 C dX12_joinMisra_223 (nI_1 _) (by decide) (by first | rfl | assumption) ?_ | refine v_iinc_5 C dX12_joinMisra_223 rfl (by decide) (by first | rfl | assumption) ?_
        refine v_goto C 144 dX12_joinMisra_226 (by decide) ?_
        first
          | exact ih (k + 1) (by omega) (by omega) G _ _ ho (by rw [ma, mSub_take hci, if_pos (by omega), List.length_append, List.length_singleton, fu_fu]) mc md pa pb (tkJ_yes htk hci (by omega) (by omega)) (fun j hj => by rw [hF222 j (by omega), hF212 j (by omega), hF187 j (by omega)]; exact hfr j hj)
          | exact ih (k + 1) (by omega) (by omega) G _ _ ho (by rw [ma, mSub_take hci, if_neg (by omega)]) mc md pa pb ⟨fun j d hj => htk.1 j d (by rw [mSub_take hci, if_neg (by omega)] at hj; exact hj), htk.2⟩ hfr
set_option maxHeartbeats 4000000 in
set_option maxRecDepth 100000 in
theorem mjm4 {M : Mx} {E : Ev} {z : Option Nat} (C : Cx M E yX12_joinMisra.cls cX12_joinMisra 6 none 2 49 0 0) {post : Unit → Gh → Prop} {G : Gh} {P W R lim rq s s2 n : Nat} {A B : Nat → Nat} {Y : Nat → Str} {u0 : Ctr} (hs : s < 4) (hs2 : s2 < 4) (hn62 : n < 2 ^ 62) (hn : ∀ c ∈ u0, c.2.1 < 2 ^ 62) (hle : (mSub u0 n).length ≤ lim) (hkp : ∀ c ∈ u0, c.1 < P)
    (hd : isMd E G P W R lim rq u0.length A B Y) (hpl : isPl E G u0) (hend : ∀ (G2 : Gh), isMo E G2 P W R lim rq u0.length A B → moM E G2 lim P (fu (fun q => zM (Y q)) s (mSub u0 n)) (fu (fun q => zT (Y q)) s (zT (Y s) + (zT (Y s2) + n))) → (∀ j, (j < 110 ∨ 114 ≤ j) → G2 j = G j) → post () G2) :
    V M E 6 (QE M E (fun _ : Unit => none) z 0 0 post) z 0 0 G 116 [some (.ref (ga E 104)), some (.int (nI s)), some (.int (nI s2)), some (.int (nI (64 * s2 + (zM (Y s2)).length))), none, none] [.long (lN n)] := by
  obtain ⟨hm, -, -, -, hMm, -⟩ := id hd
  have hlim := hm.hl
  have ho := hm.rc
  obtain ⟨fms, fmk, ftk, fmn, ma, mb, mc, md, hallM⟩ := id hMm
  replace hallM : ∀ q, q < 4 → moM1 fms fmk ftk fmn lim P q (zM (Y q)) (zT (Y q)) := hallM
  obtain ⟨pk, pn, pe, pa, pb, pc9, hrep, hu6, hlk, hnd⟩ := id hpl
  refine v_lstore_3 C dX12_joinMisra_116 (by decide) (by first | rfl | assumption) ?_
  refine v_aload_n C dX12_joinMisra_117 rfl ?_
  refine gf_X12_29 C dX12_joinMisra_118 (by assumption) ?_
  refine v_iload_n C dX12_joinMisra_121 rfl ?_
  refine v_dup2 C dX12_joinMisra_122 rfl rfl ?_
  refine v_lald C dX12_joinMisra_123 (by assumption) (by omega) (by omega) (hallM s hs).2.1 ?_
  refine v_aload_n C dX12_joinMisra_124 rfl ?_
  refine gf_X12_29 C dX12_joinMisra_125 (by assumption) ?_
  refine v_iload_n C dX12_joinMisra_128 rfl ?_
  refine v_lald C dX12_joinMisra_129 (by assumption) (by omega) (by omega) (hallM s2 hs2).2.1 ?_
  refine v_lload_n C dX12_joinMisra_130 rfl ?_
  first | refine v_laddn C dX12_joinMisra_131 ?_ | refine v_ladd C dX12_joinMisra_131 ?_
  first | refine v_laddn C dX12_joinMisra_132 ?_ | refine v_ladd C dX12_joinMisra_132 ?_
  refine v_last C dX12_joinMisra_133 (by assumption) (by omega) (by omega) (fun G hG133 hF133 => ?_)
  first | replace ho := (hF133 _ (by omega)).trans ho | replace ho := hG133 | skip
  first | replace ma := (hF133 _ (by omega)).trans ma | replace ma := hG133 | skip
  first | replace mb := (hF133 _ (by omega)).trans mb | replace mb := hG133 | skip
  first | replace mc := (hF133 _ (by omega)).trans mc | replace mc := hG133 | skip
  first | replace md := (hF133 _ (by omega)).trans md | replace md := hG133 | skip
  first | replace pa := (hF133 _ (by omega)).trans pa | replace pa := hG133 | skip
  first | replace pb := (hF133 _ (by omega)).trans pb | replace pb := hG133 | skip
  refine v_aload_n C dX12_joinMisra_134 rfl ?_
  refine gf_X12_26 C dX12_joinMisra_135 (by assumption) ?_
  refine v_iload_n C dX12_joinMisra_138 rfl ?_
  refine v_iconst (v := nI 0) C dX12_joinMisra_139 (by decide) ?_
  refine v_iast C dX12_joinMisra_140 (by assumption) (by omega) (by omega) (fun G hG140 hF140 => ?_)
  first | replace ho := (hF140 _ (by omega)).trans ho | replace ho := hG140 | skip
  first | replace ma := (hF140 _ (by omega)).trans ma | replace ma := hG140 | skip
  first | replace mb := (hF140 _ (by omega)).trans mb | replace mb := hG140 | skip
  first | replace mc := (hF140 _ (by omega)).trans mc | replace mc := hG140 | skip
  first | replace md := (hF140 _ (by omega)).trans md | replace md := hG140 | skip
  first | replace pa := (hF140 _ (by omega)).trans pa | replace pa := hG140 | skip
  first | replace pb := (hF140 _ (by omega)).trans pb | replace pb := hG140 | skip
  refine v_iconst (v := nI 0) C dX12_joinMisra_141 (by decide) ?_
  refine v_istore_5 C dX12_joinMisra_142 (by decide) (by first | rfl | assumption) ?_
  refine mjm3 C hs hs2 hn62 hn hrep hu6 (by omega) ?_ (u0.length + 1) 0 (by omega) (by omega) G fmk fmn ho ma mc md pa pb ⟨fun j d hj => by simp [mSub] at hj, fun _ _ => ⟨rfl, rfl⟩⟩ (fun _ _ => rfl)
  rename_i G1
  intro G2 fk2 fn2 ho ma9 mc9 md9 pa pb9 z1 z2 hfr9
  refine hend G2 (hm.upo ho ((hfr9 _ (by omega)).trans (by rw [hF140 _ (by omega), hF133 _ (by omega)])) ((hfr9 _ (by omega)).trans (by rw [hF140 _ (by omega), hF133 _ (by omega)]))) (moM_pack hallM hlim.2.2 hs ma9 ((hfr9 _ (by omega)).trans mb) mc9 md9 (fun q hq => ⟨fu_ne _ _ hq, fu_ne _ _ hq⟩) z2 ⟨fu_self _ _ _, fu_self _ _ _, z1, hle, fun c hc9 => ?_, mSub_nodup hnd n⟩) (fun j hj => (hfr9 j (by omega)).trans (by rw [hF140 j (by omega), hF133 j (by omega)]))
  obtain ⟨d, q1, q2, -⟩ := mSub_key hc9
  rw [← q2]
  exact hkp d q1
def setM (S : Str) (p : Ctr × Nat) : Str := (zN S, zP S, zC S, p.1, p.2, zS S, zK S, zG S)
theorem mSub_zero {u : Ctr} (h : ∀ c ∈ u, 1 ≤ c.2.1) : mSub u 0 = u := by
  induction u with
  | nil => rfl
  | cons c u ih =>
    have h1 := h c List.mem_cons_self
    rw [mSub_cons, if_pos (by omega), ih (fun d hd9 => h d (List.mem_cons_of_mem _ hd9))]
    rfl
theorem mPut_less {lim : Nat} {l l2 : Ctr} {t t2 : Nat} (h : ∀ c ∈ mAdd l l2, 1 ≤ c.2.1) : mPut lim l l2 t t2 = (mSub (mAdd l l2) (mLess lim (mAdd l l2)), t + (t2 + mLess lim (mAdd l l2))) := by
  unfold mPut mLess
  by_cases q9 : lim < (mAdd l l2).length
  · rw [if_pos q9, if_pos q9, Nat.add_assoc]
  · rw [if_neg q9, if_neg q9, mSub_zero h, Nat.add_zero]
theorem grt_bd {l : Ctr} {rk N : Nat} (h : ∀ c ∈ l, c.2.1 < N) (hN : 0 < N) : grt l rk < N := by
  unfold grt
  split
  · exact hN
  · rename_i c hc9
    exact h c (List.mem_of_find?_eq_some hc9)
theorem isMd_setM {E : Ev} {G G2 : Gh} {P W R lim rq po po2 : Nat} {A B : Nat → Nat} {Y : Nat → Str} {s : Nat} {p : Ctr × Nat} (h : isMd E G P W R lim rq po A B Y) (h0 : isMo E G2 P W R lim rq po2 A B) (hM : moM E G2 lim P (fu (fun q => zM (Y q)) s p.1) (fu (fun q => zT (Y q)) s p.2)) (hf : ∀ j, 107 ≤ j → j < 122 → (j < 110 ∨ 114 ≤ j) → G2 j = G j) : isMd E G2 P W R lim rq po2 A B (fu Y s (setM (Y s) p)) := by
  obtain ⟨-, h1, h2, h3, h4, h5, h6⟩ := h
  have f1 : ∀ {α : Type} (g : Str → α), g (setM (Y s) p) = g (Y s) → (fun q => g (fu Y s (setM (Y s) p) q)) = fun q => g (Y q) := by
    intro α g hg
    rw [fu_map, hg, fu_same (fun q => g (Y q))]
  unfold isMd
  rw [f1 zN rfl, f1 zP rfl, f1 zC rfl, f1 zS rfl, f1 zK rfl, f1 zG rfl, fu_map zM, fu_map zT]
  exact ⟨h0, h1.keep (hf _ (by omega) (by omega) (by omega)), h2.keep (hf _ (by omega) (by omega) (by omega)), h3.keep (hf _ (by omega) (by omega) (by omega)), hM, h5.keep (fun j a b => hf j (by omega) (by omega) (by omega)), h6.keep (fun j a b => hf j (by omega) b (by omega))⟩

set_option maxHeartbeats 4000000 in
set_option maxRecDepth 100000 in
theorem c_Mo_joinMisra (l : Launch) (E : Ev) (z : Option Nat) {G : Gh} {P W R lim rq po : Nat} {A B : Nat → Nat} {Y : Nat → Str} {s s2 : Nat} (hs : s < 4) (hs2 : s2 < 4) (hz : ∀ c ∈ zM (Y s), c.2.2 = 0) (hb : ∀ c ∈ mAdd (zM (Y s)) (zM (Y s2)), c.2.1 < 2 ^ 62) (hpos : ∀ c ∈ mAdd (zM (Y s)) (zM (Y s2)), 1 ≤ c.2.1) (hle : (mPut lim (zM (Y s)) (zM (Y s2)) (zT (Y s)) (zT (Y s2))).1.length ≤ lim) (hpa : isPA E G) (hd : isMd E G P W R lim rq po A B Y) : K_X12_joinMisra l E z G [.ref (ga E 104), .int (nI s), .int (nI s2)] (fun _ G2 => ∃ po2, isMd E G2 P W R lim rq po2 A B (fu Y s (setM (Y s) (mPut lim (zM (Y s)) (zM (Y s2)) (zT (Y s)) (zT (Y s2))))) ∧ isPA E G2 ∧ ∀ j, (j < 104 ∨ 114 ≤ j) ∧ (j < 124 ∨ 127 ≤ j) → G2 j = G j) := by
  refine Fc.of rfl [some (.ref (ga E 104)), some (.int (nI s)), some (.int (nI s2)), none, none, none] 3 rfl (Nat.le_of_ble_eq_true rfl) ?_
  intro M hM0 hini C
  subst hM0
  have hm := hd.1
  have ho := hm.rc
  have hlim := hm.hl
  have hMs := hd.2.2.2.2.1
  obtain ⟨fms, fmk, ftk, fmn, -, -, -, -, hallM⟩ := hMs
  replace hallM : ∀ q, q < 4 → moM1 fms fmk ftk fmn lim P q (zM (Y q)) (zT (Y q)) := hallM
  obtain ⟨-, -, -, a4, a5, a6⟩ := hallM s hs
  obtain ⟨-, -, -, b4, b5, b6⟩ := hallM s2 hs2
  clear hallM
  have hlp := mAdd_len (l := zM (Y s)) (zM (Y s2))
  refine v_aload_n C dX12_joinMisra_0 rfl ?_
  refine v_iconst (v := nI 0) C dX12_joinMisra_1 (by decide) ?_
  refine pf_X12_156 C dX12_joinMisra_2 (by assumption) (fun G hG2 hF2 => ?_)
  first | replace ho := (hF2 _ (by omega)).trans ho | replace ho := hG2 | skip
  refine v_bipush (v := nI 64) C dX12_joinMisra_5 (by decide) ?_
  refine v_iload_n C dX12_joinMisra_7 rfl ?_
  first | refine v_imuln C dX12_joinMisra_8 ?_ | refine v_imul C dX12_joinMisra_8 ?_
  refine v_istore_3 C dX12_joinMisra_9 (by decide) (by first | rfl | assumption) ?_
  have hd1 : isMd E G P W R lim rq 0 A B Y := hd.upo (hm.upo hG2 (hF2 _ (by omega)) (hF2 _ (by omega))) (fun j a b => hF2 j (by omega))
  refine mjm1 C (l0 := []) hs hs2 (by simp) ?_ ((zM (Y s)).length + 1) 0 (by omega) (by omega) G hd1 (hpa.keep (fun j a b => hF2 j (by omega))).nil (fun _ _ => rfl)
  intro G3 hd3 hpl3 hfr3
  rw [mAdd_nil (zM (Y s)) [] a6 hz] at hd3 hpl3
  rw [List.nil_append] at hd3 hpl3
  refine v_bipush (v := nI 64) C dX12_joinMisra_48 (by decide) ?_
  refine v_iload_n C dX12_joinMisra_50 rfl ?_
  first | refine v_imuln C dX12_joinMisra_51 ?_ | refine v_imul C dX12_joinMisra_51 ?_
  refine v_istore_3 C dX12_joinMisra_52 (by decide) (by first | rfl | assumption) ?_
  refine mjm2 C (l0 := zM (Y s)) hs hs2 (by omega) ?_ ((zM (Y s2)).length + 1) 0 (by omega) (by omega) G3 hd3 hpl3 (fun _ _ => rfl)
  intro G4 hd4 hpl2 hfr4
  have hm := hd4.1
  have ho := hm.rc
  refine v_aload_n C dX12_joinMisra_91 rfl ?_
  refine gf_X12_156 C dX12_joinMisra_92 (by assumption) ?_
  refine v_aload_n C dX12_joinMisra_95 rfl ?_
  refine gf_X12_97 C dX12_joinMisra_96 (by assumption) ?_
  refine v_icmpn_le C 115 dX12_joinMisra_99 (by decide) (by omega) (by omega) (fun h99 => ?_) (fun h99 => ?_)
  · skip
    refine v_lconst (v := lN 0) C dX12_joinMisra_115 (by decide) ?_
    first
      | (refine mjm4 C hs hs2 (u0 := mAdd (zM (Y s)) (zM (Y s2))) (n := 0) ?_ hb ?_ (mAdd_lt _ _ a5 b5) hd4 hpl2 ?_
         · decide
         · rw [mPut_less hpos] at hle; unfold mLess at hle; rw [if_neg (by omega)] at hle; exact hle
         intro G5 hm5 hM5 hfr5
         refine ⟨_, isMd_setM (p := mPut lim (zM (Y s)) (zM (Y s2)) (zT (Y s)) (zT (Y s2))) hd hm5 ?_ (fun j a b hj => by rw [hfr5 j (by omega), hfr4 j (by omega), hfr3 j (by omega), hF2 j (by omega)]), hpl2.pa.keep (fun j a b => hfr5 j (by omega)), fun j hj => by rw [hfr5 j (by omega), hfr4 j (by omega), hfr3 j (by omega), hF2 j (by omega)]⟩
         rw [mPut_less hpos, show mLess lim (mAdd (zM (Y s)) (zM (Y s2))) = 0 by unfold mLess; rw [if_neg (by omega)]]
         exact hM5)
      | (refine mjm4 C hs hs2 (u0 := mAdd (zM (Y s)) (zM (Y s2))) (n := grt (mAdd (zM (Y s)) (zM (Y s2))) (lim + 1)) ?_ hb ?_ (mAdd_lt _ _ a5 b5) hd4 hpl2 ?_
         · exact grt_bd hb (by decide)
         · rw [mPut_less hpos] at hle; unfold mLess at hle; rw [if_pos (by omega)] at hle; exact hle
         intro G5 hm5 hM5 hfr5
         refine ⟨_, isMd_setM (p := mPut lim (zM (Y s)) (zM (Y s2)) (zT (Y s)) (zT (Y s2))) hd hm5 ?_ (fun j a b hj => by rw [hfr5 j (by omega), hfr4 j (by omega), hfr3 j (by omega), hF2 j (by omega)]), hpl2.pa.keep (fun j a b => hfr5 j (by omega)), fun j hj => by rw [hfr5 j (by omega), hfr4 j (by omega), hfr3 j (by omega), hF2 j (by omega)]⟩
         rw [mPut_less hpos, show mLess lim (mAdd (zM (Y s)) (zM (Y s2))) = grt (mAdd (zM (Y s)) (zM (Y s2))) (lim + 1) by unfold mLess; rw [if_pos (by omega)]]
         exact hM5)
  · skip
    refine v_aload_n C dX12_joinMisra_102 rfl ?_
    refine v_aload_n C dX12_joinMisra_103 rfl ?_
    refine gf_X12_97 C dX12_joinMisra_104 (by assumption) ?_
    refine v_iconst (v := nI 1) C dX12_joinMisra_107 (by decide) ?_
    first | refine v_iaddn C dX12_joinMisra_108 ?_ | refine v_iadd C dX12_joinMisra_108 ?_
    refine mc_X12_176 C dX12_joinMisra_109 (hm.rc) (c_Mo_greatest _ E z (rk := lim + 1) (by omega) hb hm hpl2) rfl (fun r109 G109 hp109 => ?_)
    obtain ⟨hr109, rfl⟩ := hp109
    subst hr109
    refine v_goto C 116 dX12_joinMisra_112 (by decide) ?_
    first
      | (refine mjm4 C hs hs2 (u0 := mAdd (zM (Y s)) (zM (Y s2))) (n := 0) ?_ hb ?_ (mAdd_lt _ _ a5 b5) hd4 hpl2 ?_
         · decide
         · rw [mPut_less hpos] at hle; unfold mLess at hle; rw [if_neg (by omega)] at hle; exact hle
         intro G5 hm5 hM5 hfr5
         refine ⟨_, isMd_setM (p := mPut lim (zM (Y s)) (zM (Y s2)) (zT (Y s)) (zT (Y s2))) hd hm5 ?_ (fun j a b hj => by rw [hfr5 j (by omega), hfr4 j (by omega), hfr3 j (by omega), hF2 j (by omega)]), hpl2.pa.keep (fun j a b => hfr5 j (by omega)), fun j hj => by rw [hfr5 j (by omega), hfr4 j (by omega), hfr3 j (by omega), hF2 j (by omega)]⟩
         rw [mPut_less hpos, show mLess lim (mAdd (zM (Y s)) (zM (Y s2))) = 0 by unfold mLess; rw [if_neg (by omega)]]
         exact hM5)
      | (refine mjm4 C hs hs2 (u0 := mAdd (zM (Y s)) (zM (Y s2))) (n := grt (mAdd (zM (Y s)) (zM (Y s2))) (lim + 1)) ?_ hb ?_ (mAdd_lt _ _ a5 b5) hd4 hpl2 ?_
         · exact grt_bd hb (by decide)
         · rw [mPut_less hpos] at hle; unfold mLess at hle; rw [if_pos (by omega)] at hle; exact hle
         intro G5 hm5 hM5 hfr5
         refine ⟨_, isMd_setM (p := mPut lim (zM (Y s)) (zM (Y s2)) (zT (Y s)) (zT (Y s2))) hd hm5 ?_ (fun j a b hj => by rw [hfr5 j (by omega), hfr4 j (by omega), hfr3 j (by omega), hF2 j (by omega)]), hpl2.pa.keep (fun j a b => hfr5 j (by omega)), fun j hj => by rw [hfr5 j (by omega), hfr4 j (by omega), hfr3 j (by omega), hF2 j (by omega)]⟩
         rw [mPut_less hpos, show mLess lim (mAdd (zM (Y s)) (zM (Y s2))) = grt (mAdd (zM (Y s)) (zM (Y s2))) (lim + 1) by unfold mLess; rw [if_pos (by omega)]]
         exact hM5)

