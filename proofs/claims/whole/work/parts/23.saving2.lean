def wk (c d : Nat × Nat × Nat) : Prop := c.2.1 < d.2.1 ∨ (c.2.1 = d.2.1 ∧ d.1 < c.1)
def wke (c d : Nat × Nat × Nat) : Prop := c.2.1 < d.2.1 ∨ (c.2.1 = d.2.1 ∧ d.1 ≤ c.1)
theorem wke.trans {a b c : Nat × Nat × Nat} (h1 : wke a b) (h2 : wke b c) : wke a c := by unfold wke at *; omega
theorem wke.strict {c d : Nat × Nat × Nat} (h : wke c d) (hne : c.1 ≠ d.1) : wk c d := by unfold wke at h; unfold wk; omega
theorem lsub_gt {a r : Nat} (ha : a < 2 ^ 62) (hr : r < 2 ^ 62) : (lN 0 < lN a - lN r) ↔ r < a := by
  have := lsub_le ha hr
  constructor
  · intro h; have := mt this.mpr (Int64.not_le.mpr h); omega
  · intro h; exact Int64.not_le.mp (fun z => by have := this.mp z; omega)
theorem lsub_eq {a r : Nat} (ha : a < 2 ^ 62) (hr : r < 2 ^ 62) : (lN a - lN r = lN 0) ↔ a = r := by
  rw [← Int64.toInt_inj, Int64.toInt_sub, lN_toInt63 (by omega), lN_toInt63 (by omega), lN_toInt63 (by decide)]
  rw [Int.bmod_eq_of_le (by omega) (by omega)]
  omega

set_option maxHeartbeats 4000000 in
set_option maxRecDepth 100000 in
theorem weak_loop {M : Mx} {E : Ev} {z : Option Nat} (C : Cx M E yX8_weakest.cls cX8_weakest 5 (some .int) 0 0 0 0) {post : Int32 → Gh → Prop} {G : Gh} {b P lim : Nat} {l0 : Ctr} (hn : ∀ c ∈ l0, c.2.1 < 2 ^ 62) (hm : isSav E G b P lim l0) (hend : ∀ {w : Nat} {cw : Nat × Nat × Nat}, l0[w]? = some cw → (∀ c ∈ l0, wke cw c) → post (nI w) G) : ∀ (t i : Nat), i ≤ l0.length → l0.length - i < t → ∀ (w : Nat) (cw : Nat × Nat × Nat) (x3 x4 : Option Value), l0[w]? = some cw → w < i → (∀ j c, j < i → l0[j]? = some c → wke cw c) → V M E 5 (QE M E (fun r : Int32 => some (.int r)) z 0 0 post) z 0 0 G 4 [some (.ref (ga E b)), some (.int (nI w)), some (.int (nI i)), x3, x4] [] := by
  obtain ⟨hm0, hc⟩ := id hm
  obtain ⟨fk, fn, fe, hb0, hb1, hb2, hb3, hks, hrep, hwf, hkp, hnd⟩ := id hc
  intro t
  induction t with
  | zero => intro i _ h; omega
  | succ t ih =>
    intro i hi ht w cw x3 x4 hcw hwi hall
    have hwl := (List.getElem?_eq_some_iff.mp hcw).1
    refine v_iload_n C dX8_weakest_4 rfl ?_
    refine v_aload_n C dX8_weakest_5 rfl ?_
    refine gf_X8_12 C dX8_weakest_6 (by assumption) ?_
    refine gf_X8_53 C dX8_weakest_9 (by assumption) ?_
    refine v_icmpn_ge C 76 dX8_weakest_12 (by decide) (by omega) (by omega) (fun h12 => ?_) (fun h12 => ?_)
    · skip
      refine v_iload_n C dX8_weakest_76 rfl ?_
      refine v_iret C dX8_weakest_77 ?_
      exact hend hcw (fun c hc => by
        obtain ⟨j, hjc⟩ := List.getElem?_of_mem hc
        exact hall j c (by have := (List.getElem?_eq_some_iff.mp hjc).1; omega) hjc)
    · skip
      have hci : l0[i]? = some l0[i] := List.getElem?_eq_getElem h12
      have hni := hn _ (List.mem_of_getElem? hci)
      have hnw := hn _ (List.mem_of_getElem? hcw)
      have hki := hkp _ (List.mem_of_getElem? hci)
      have hkw := hkp _ (List.mem_of_getElem? hcw)
      refine v_aload_n C dX8_weakest_15 rfl ?_
      refine gf_X8_12 C dX8_weakest_16 (by assumption) ?_
      refine gf_X8_22 C dX8_weakest_19 (by assumption) ?_
      refine v_iload_n C dX8_weakest_22 rfl ?_
      refine v_lald C dX8_weakest_23 (by assumption) (by omega) (by omega) (hrep w _ hcw).2.1 ?_
      refine v_aload_n C dX8_weakest_24 rfl ?_
      refine gf_X8_12 C dX8_weakest_25 (by assumption) ?_
      refine gf_X8_22 C dX8_weakest_28 (by assumption) ?_
      refine v_iload_n C dX8_weakest_31 rfl ?_
      refine v_lald C dX8_weakest_32 (by assumption) (by omega) (by omega) (hrep i _ hci).2.1 ?_
      refine v_lsub C dX8_weakest_33 ?_
      refine v_lstore_3 C dX8_weakest_34 (by decide) rfl ?_
      refine v_lload_n C dX8_weakest_35 rfl ?_
      refine v_lconst (v := lN 0) C dX8_weakest_36 (by decide) ?_
      refine v_lcmp_gt C 68 dX8_weakest_37 dX8_weakest_38 (by decide) (fun h37 => ?_) (fun h37 => ?_)
      · skip
        refine v_iload_n C dX8_weakest_68 rfl ?_
        refine v_istore_1 C dX8_weakest_69 (by decide) rfl ?_
        refine v_iinc_2 C dX8_weakest_70 (nI_1 _) (by decide) rfl ?_
        refine v_goto C 4 dX8_weakest_73 (by decide) ?_
        first
          | have q37 := (lsub_gt hnw hni).mp h37
          | have q37 := mt (lsub_gt hnw hni).mpr h37
        try have q43 := (lsub_eq hnw hni).mp (Decidable.not_not.mp h43)
        try have q43 := (lsub_eq hnw hni).mp h43
        refine ih (i + 1) (by omega) (by omega) i _ _ _ hci (by omega) (fun j c hj hjc => ?_)
        rcases Nat.lt_or_ge j i with q | q
        · refine wke.trans ?_ (hall j c q hjc)
          unfold wke; omega
        · have : j = i := by omega
          subst this; rw [hci] at hjc; cases hjc; unfold wke; omega
      · skip
        refine v_lload_n C dX8_weakest_41 rfl ?_
        refine v_lconst (v := lN 0) C dX8_weakest_42 (by decide) ?_
        refine v_lcmp_ne C 70 dX8_weakest_43 dX8_weakest_44 (by decide) (fun h43 => ?_) (fun h43 => ?_)
        · skip
          refine v_iinc_2 C dX8_weakest_70 (nI_1 _) (by decide) rfl ?_
          refine v_goto C 4 dX8_weakest_73 (by decide) ?_
          have q37 := mt (lsub_gt hnw hni).mpr h37
          have q43 : cw.2.1 = l0[i].2.1 → l0[i].1 ≤ cw.1 := by
            first
              | (intro e; exact absurd ((lsub_eq hnw hni).mpr e) h43)
              | (intro _; omega)
          refine ih (i + 1) (by omega) (by omega) w _ _ _ hcw (by omega) (fun j c hj hjc => ?_)
          rcases Nat.lt_or_ge j i with q | q
          · exact hall j c q hjc
          · have : j = i := by omega
            subst this; rw [hci] at hjc; cases hjc; unfold wke
            rcases Nat.lt_or_ge cw.2.1 l0[j].2.1 with q2 | q2
            · exact Or.inl q2
            · exact Or.inr ⟨by omega, q43 (by omega)⟩
        · skip
          refine v_aload_n C dX8_weakest_47 rfl ?_
          refine gf_X8_12 C dX8_weakest_48 (by assumption) ?_
          refine gf_X8_64 C dX8_weakest_51 (by assumption) ?_
          refine v_iload_n C dX8_weakest_54 rfl ?_
          refine v_iald C dX8_weakest_55 (by assumption) (by omega) (by omega) (hrep i _ hci).1 ?_
          refine v_aload_n C dX8_weakest_56 rfl ?_
          refine gf_X8_12 C dX8_weakest_57 (by assumption) ?_
          refine gf_X8_64 C dX8_weakest_60 (by assumption) ?_
          refine v_iload_n C dX8_weakest_63 rfl ?_
          refine v_iald C dX8_weakest_64 (by assumption) (by omega) (by omega) (hrep w _ hcw).1 ?_
          refine v_icmpn_le C 70 dX8_weakest_65 (by decide) (by omega) (by omega) (fun h65 => ?_) (fun h65 => ?_)
          · skip
            refine v_iinc_2 C dX8_weakest_70 (nI_1 _) (by decide) rfl ?_
            refine v_goto C 4 dX8_weakest_73 (by decide) ?_
            have q37 := mt (lsub_gt hnw hni).mpr h37
            have q43 : cw.2.1 = l0[i].2.1 → l0[i].1 ≤ cw.1 := by
              first
                | (intro e; exact absurd ((lsub_eq hnw hni).mpr e) h43)
                | (intro _; omega)
            refine ih (i + 1) (by omega) (by omega) w _ _ _ hcw (by omega) (fun j c hj hjc => ?_)
            rcases Nat.lt_or_ge j i with q | q
            · exact hall j c q hjc
            · have : j = i := by omega
              subst this; rw [hci] at hjc; cases hjc; unfold wke
              rcases Nat.lt_or_ge cw.2.1 l0[j].2.1 with q2 | q2
              · exact Or.inl q2
              · exact Or.inr ⟨by omega, q43 (by omega)⟩
          · skip
            refine v_iload_n C dX8_weakest_68 rfl ?_
            refine v_istore_1 C dX8_weakest_69 (by decide) rfl ?_
            refine v_iinc_2 C dX8_weakest_70 (nI_1 _) (by decide) rfl ?_
            refine v_goto C 4 dX8_weakest_73 (by decide) ?_
            first
              | have q37 := (lsub_gt hnw hni).mp h37
              | have q37 := mt (lsub_gt hnw hni).mpr h37
            try have q43 := (lsub_eq hnw hni).mp (Decidable.not_not.mp h43)
            try have q43 := (lsub_eq hnw hni).mp h43
            refine ih (i + 1) (by omega) (by omega) i _ _ _ hci (by omega) (fun j c hj hjc => ?_)
            rcases Nat.lt_or_ge j i with q | q
            · refine wke.trans ?_ (hall j c q hjc)
              unfold wke; omega
            · have : j = i := by omega
              subst this; rw [hci] at hjc; cases hjc; unfold wke; omega
set_option maxHeartbeats 4000000 in
set_option maxRecDepth 100000 in
theorem c_Sav_weakest (l : Launch) (E : Ev) (z : Option Nat) {G : Gh} {b P lim : Nat} {l0 : Ctr} (h0 : 0 < l0.length) (hn : ∀ c ∈ l0, c.2.1 < 2 ^ 62) (hm : isSav E G b P lim l0) : K_X8_weakest l E z G [.ref (ga E b)] (fun r G2 => ∃ (w : Nat) (cw : Nat × Nat × Nat), r = nI w ∧ l0[w]? = some cw ∧ (∀ c ∈ l0, wke cw c) ∧ G = G2) := by
  refine Fc.of rfl [some (.ref (ga E b)), none, none, none, none] 4 rfl (Nat.le_of_ble_eq_true rfl) ?_
  intro M hM0 hini C
  subst hM0
  obtain ⟨hm0, hc⟩ := id hm
  obtain ⟨fk, fn, fe, hb0, hb1, hb2, hb3, hks, hrep, hwf, hkp, hnd⟩ := id hc
  have hc0 : l0[0]? = some l0[0] := List.getElem?_eq_getElem h0
  refine v_iconst (v := nI 0) C dX8_weakest_0 (by decide) ?_
  refine v_istore_1 C dX8_weakest_1 (by decide) rfl ?_
  refine v_iconst (v := nI 1) C dX8_weakest_2 (by decide) ?_
  refine v_istore_2 C dX8_weakest_3 (by decide) rfl ?_
  refine weak_loop C hn hm (fun h1 h2 => ⟨_, _, rfl, h1, h2, rfl⟩) (l0.length + 1) 1 (by omega) (by omega) 0 _ _ _ hc0 (by omega) (fun j c hj hjc => ?_)
  have : j = 0 := by omega
  subst this; rw [hc0] at hjc; cases hjc; unfold wke; omega

def mp (f : Nat × Nat × Nat → Nat × Nat × Nat) (l : Ctr) (k : Nat) : Ctr := (l.take k).map f ++ l.drop k
theorem mp_get {f : Nat × Nat × Nat → Nat × Nat × Nat} {l : Ctr} {k j : Nat} : (mp f l k)[j]? = if j < k then (l[j]?).map f else l[j]? := by
  unfold mp
  by_cases h : j < k
  · rw [if_pos h]
    by_cases hl : j < l.length
    · rw [List.getElem?_append_left (by rw [List.length_map, List.length_take]; omega), List.getElem?_map, List.getElem?_take_of_lt h]
    · rw [List.getElem?_eq_none (by simp; omega), List.getElem?_eq_none (by omega)]; rfl
  · rw [if_neg h]
    by_cases hl : k ≤ l.length
    · have e : ((l.take k).map f).length = k := by rw [List.length_map, List.length_take]; omega
      rw [List.getElem?_append_right (by omega), e, List.getElem?_drop]
      congr 1; omega
    · rw [List.getElem?_eq_none (by simp; omega), List.getElem?_eq_none (by omega)]
theorem mp_keys {f : Nat × Nat × Nat → Nat × Nat × Nat} (hf : ∀ c, (f c).1 = c.1) {l : Ctr} {k : Nat} : ckeys (mp f l k) = ckeys l := by
  apply List.ext_getElem?
  intro j
  unfold ckeys
  rw [List.getElem?_map, List.getElem?_map, mp_get]
  by_cases h : j < k
  · rw [if_pos h]; cases hc : l[j]? with
    | none => rfl
    | some c => simp [hf]
  · rw [if_neg h]
theorem mp_len (f : Nat × Nat × Nat → Nat × Nat × Nat) (l : Ctr) (k : Nat) : (mp f l k).length = l.length := by
  unfold mp; rw [List.length_append, List.length_map, List.length_take, List.length_drop]; omega
theorem mp_all (f : Nat × Nat × Nat → Nat × Nat × Nat) (l : Ctr) : mp f l l.length = l.map f := by unfold mp; rw [List.take_length, List.drop_length, List.append_nil]
theorem rep_mp {f : Nat × Nat × Nat → Nat × Nat × Nat} {l : Ctr} {k : Nat} {c : Nat × Nat × Nat} {fk : Nat → Int32} {fn fe : Nat → Int64} {v w : Int64} (h : rep (mp f l k) fk fn fe) (hc : l[k]? = some c) (h1 : (f c).1 = c.1) (h2 : v = lN (f c).2.1) (h3 : w = lN (f c).2.2) : rep (mp f l (k + 1)) fk (fu fn k v) (fu fe k w) := by
  intro j d hj
  rw [mp_get] at hj
  by_cases e : j = k
  · subst e
    rw [if_pos (by omega), hc] at hj
    cases hj
    have := h j c (by rw [mp_get, if_neg (Nat.lt_irrefl j)]; exact hc)
    rw [fu_self, fu_self, h1]
    exact ⟨this.1, h2, h3⟩
  · rw [fu_ne _ _ e, fu_ne _ _ e]
    refine h j d ?_
    rw [mp_get]
    by_cases e2 : j < k
    · rw [if_pos e2]; rw [if_pos (by omega)] at hj; exact hj
    · rw [if_neg e2]; rw [if_neg (by omega)] at hj; exact hj
def sF (lim : Nat) (l2 : Ctr) (c : Nat × Nat × Nat) : Nat × Nat × Nat := (c.1, c.2.1 + sEst lim l2 c.1, c.2.2 + sErr lim l2 c.1)
def sG (m : Nat) (c : Nat × Nat × Nat) : Nat × Nat × Nat := (c.1, c.2.1 + m, c.2.2 + m)
def sU (lim : Nat) (l l2 : Ctr) (k : Nat) : Ctr := l.map (sF lim l2) ++ ((l2.take k).filter (fun c => decide (c.1 ∉ ckeys l))).map (sG (sLeast lim l))
theorem sU_len (lim : Nat) (l l2 : Ctr) (k : Nat) : (sU lim l l2 k).length ≤ l.length + k := by
  unfold sU
  rw [List.length_append, List.length_map, List.length_map]
  have := List.length_filter_le (fun c : Nat × Nat × Nat => decide (c.1 ∉ ckeys l)) (l2.take k)
  rw [List.length_take] at this
  omega
theorem sU_step_in {lim : Nat} {l l2 : Ctr} {k : Nat} {c : Nat × Nat × Nat} (h : l2[k]? = some c) (hi : c.1 ∈ ckeys l) : sU lim l l2 (k + 1) = sU lim l l2 k := by
  unfold sU
  rw [List.take_add_one, h, List.filter_append]
  simp [hi]
theorem sU_step_out {lim : Nat} {l l2 : Ctr} {k : Nat} {c : Nat × Nat × Nat} (h : l2[k]? = some c) (hi : c.1 ∉ ckeys l) : sU lim l l2 (k + 1) = sU lim l l2 k ++ [sG (sLeast lim l) c] := by
  unfold sU
  rw [List.take_add_one, h, List.filter_append]
  simp [hi]
theorem sU_key {lim : Nat} {l l2 : Ctr} (hn : (ckeys l2).Nodup) {k : Nat} {c : Nat × Nat × Nat} (h : l2[k]? = some c) : (∃ d ∈ sU lim l l2 k, d.1 = c.1) ↔ c.1 ∈ ckeys l := by
  constructor
  · rintro ⟨d, hd, he⟩
    unfold sU at hd
    rcases List.mem_append.mp hd with q | q
    · obtain ⟨a, ha, hb⟩ := List.mem_map.mp q
      rw [← he, ← hb]
      exact List.mem_map.mpr ⟨a, ha, rfl⟩
    · obtain ⟨a, ha, hb⟩ := List.mem_map.mp q
      obtain ⟨h1, h2⟩ := List.mem_filter.mp ha
      obtain ⟨j, hj⟩ := List.getElem?_of_mem h1
      have hjl := (List.getElem?_eq_some_iff.mp hj).1
      rw [List.length_take] at hjl
      rw [List.getElem?_take_of_lt (by omega)] at hj
      have := ckeys_inj hn hj h (by rw [← he, ← hb]; rfl)
      omega
  · intro hm
    obtain ⟨a, ha, hb⟩ := List.mem_map.mp hm
    exact ⟨sF lim l2 a, by unfold sU; exact List.mem_append_left _ (List.mem_map.mpr ⟨a, ha, rfl⟩), hb⟩
theorem sU_zero (lim : Nat) (l l2 : Ctr) : sU lim l l2 0 = l.map (sF lim l2) := by unfold sU; simp

