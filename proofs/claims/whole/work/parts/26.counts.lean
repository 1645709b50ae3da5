/-! Counts (class 2): keys, numbers, used, gone -/
abbrev Cnt : Type := List (Nat × Nat)
def rep2 (l : Cnt) (fk : Nat → Int32) (fn : Nat → Int64) : Prop := ∀ (i : Nat) (c : Nat × Nat), l[i]? = some c → fk i = nI c.1 ∧ fn i = lN c.2
def csrt (l : Cnt) : Prop := ∀ (i j : Nat) (c d : Nat × Nat), i < j → l[i]? = some c → l[j]? = some d → c.1 < d.1
def cnwf (l : Cnt) (P room : Nat) : Prop := (l.length ≤ room ∧ room ≤ 300 ∧ P ≤ 65521) ∧ (∀ c ∈ l, c.1 < P) ∧ csrt l
def isCnt (E : Ev) (G : Gh) (b P room : Nat) (l : Cnt) (g : Bool) : Prop := ∃ (fk : Nat → Int32) (fn : Nat → Int64), G b = cO 2 [.ref (ga E (b + 1)), .ref (ga E (b + 2)), .int (nI l.length), .int (bI g)] ∧ G (b + 1) = cI E room fk ∧ G (b + 2) = cJ E room fn ∧ rep2 l fk fn ∧ cnwf l P room
theorem isCnt.keep {E : Ev} {G G2 : Gh} {b P room : Nat} {l : Cnt} {g : Bool} (h : isCnt E G b P room l g) (hf : ∀ j, b ≤ j → j < b + 3 → G2 j = G j) : isCnt E G2 b P room l g := by
  obtain ⟨fk, fn, h0, h1, h2, h3⟩ := h
  exact ⟨fk, fn, (hf _ (by omega) (by omega)).trans h0, (hf _ (by omega) (by omega)).trans h1, (hf _ (by omega) (by omega)).trans h2, h3⟩
def cPl (l : Cnt) (x : Nat) : Nat := l.findIdx (fun c => decide (x ≤ c.1))
theorem cPl_le (l : Cnt) (x : Nat) : cPl l x ≤ l.length := List.findIdx_le_length
theorem cPl_iff {l : Cnt} (hs : csrt l) {x i : Nat} {c : Nat × Nat} (h : l[i]? = some c) : c.1 < x ↔ i < cPl l x := by
  obtain ⟨hl, he⟩ := List.getElem?_eq_some_iff.mp h
  constructor
  · intro hc
    apply Classical.byContradiction
    intro hn
    have hT : cPl l x < l.length := by omega
    have h1 : x ≤ (l[cPl l x]).1 := by
      have := List.findIdx_getElem (xs := l) (p := fun c : Nat × Nat => decide (x ≤ c.1)) (w := hT)
      exact of_decide_eq_true this
    rcases Nat.lt_or_ge (cPl l x) i with q | q
    · have := hs (cPl l x) i _ c q (List.getElem?_eq_getElem hT) h
      omega
    · have e : cPl l x = i := by omega
      have e2 : l[cPl l x]? = some c := by rw [e]; exact h
      rw [List.getElem?_eq_getElem hT] at e2
      cases e2
      omega
  · intro hi
    have := List.not_of_lt_findIdx (xs := l) (p := fun c : Nat × Nat => decide (x ≤ c.1)) hi
    simp only [decide_eq_false_iff_not] at this
    rw [he] at this
    have h2 : ¬ x ≤ c.1 := by simpa using this
    omega
def cAt (l : Cnt) (x : Nat) : Bool := match l[cPl l x]? with
  | none => false
  | some c => decide (c.1 = x)
def cNum (l : Cnt) (x : Nat) : Nat := match l[cPl l x]? with
  | none => 0
  | some c => if c.1 = x then c.2 else 0

set_option maxHeartbeats 4000000 in
set_option maxRecDepth 100000 in
theorem pl_loop {M : Mx} {E : Ev} {z : Option Nat} (C : Cx M E yX2_placeOf.cls cX2_placeOf 4 (some .int) 0 0 0 0) {post : Int32 → Gh → Prop} {G : Gh} {b P room : Nat} {l0 : Cnt} {g : Bool} {x : Nat} (hx : x < 2 ^ 31) (hc : isCnt E G b P room l0 g) (kz : ∀ p, p ≤ cPl l0 x → cPl l0 x < p + 1 → V M E 4 (QE M E (fun r : Int32 => some (.int r)) z 0 0 post) z 0 0 G 6 [some (.ref (ga E b)), some (.int (nI x)), some (.int (nI p)), some (.int (nI (2 ^ 0 / 2)))] []) : ∀ (t e : Nat), e ≤ 8 → e < t → ∀ p, p ≤ cPl l0 x → cPl l0 x < p + 2 * 2 ^ e → V M E 4 (QE M E (fun r : Int32 => some (.int r)) z 0 0 post) z 0 0 G 6 [some (.ref (ga E b)), some (.int (nI x)), some (.int (nI p)), some (.int (nI (2 ^ e)))] [] := by
  obtain ⟨fk, fn, hb0, hb1, hb2, hrep, hwf, hkp, hsr⟩ := id hc
  have hpl := cPl_le l0 x
  intro t
  induction t with
  | zero => intro e _ h; omega
  | succ t ih =>
    intro e he ht p hp1 hp2
    have hpos : 0 < 2 ^ e := Nat.pow_pos (by decide)
    have hpw0 : 2 ^ e ≤ 256 := Nat.pow_le_pow_right (n := 2) (by decide) (show e ≤ 8 by omega)
    refine v_iload_n C dX2_placeOf_6 rfl ?_
    first | refine v_ifn_le C 45 dX2_placeOf_7 (by decide) (by omega) (fun h7 => by exfalso; first | omega | exact absurd h7 (by decide) | (have h9 := of_decide_eq_true h7; omega) | (have h9 := of_decide_eq_false h7; omega) | contradiction | simp_all) (fun h7 => ?_) | refine v_if_le C 45 dX2_placeOf_7 (by decide) (fun h7 => by exfalso; first | omega | exact absurd h7 (by decide) | (have h9 := of_decide_eq_true h7; omega) | (have h9 := of_decide_eq_false h7; omega) | contradiction | simp_all) (fun h7 => ?_)
    have hpw : 2 ^ e ≤ 256 := Nat.pow_le_pow_right (n := 2) (by decide) (show e ≤ 8 by omega)
    refine v_iload_n C dX2_placeOf_10 rfl ?_
    refine v_iload_n C dX2_placeOf_11 rfl ?_
    first | refine v_iaddn C dX2_placeOf_12 ?_ | refine v_iadd C dX2_placeOf_12 ?_
    refine v_aload_n C dX2_placeOf_13 rfl ?_
    refine gf_X2_33 C dX2_placeOf_14 (by assumption) ?_
    refine v_icmpn_gt C 38 dX2_placeOf_17 (by decide) (by omega) (by omega) (fun h17 => ?_) (fun h17 => ?_)
    · skip
      refine v_iload_n C dX2_placeOf_38 rfl ?_
      refine v_iconst (v := nI 2) C dX2_placeOf_39 (by decide) ?_
      refine v_idivn C dX2_placeOf_40 (by omega) (by omega) (by omega) ?_
      refine v_istore_3 C dX2_placeOf_41 (by decide) (by first | rfl | assumption) ?_
      refine v_goto C 6 dX2_placeOf_42 (by decide) ?_
      first
        | (have q9 : cPl l0 x < p + 2 ^ e := by
             have := cPl_le l0 x
             omega
           rcases Nat.eq_zero_or_pos e with q | q
           · subst q
             exact kz _ (by omega) (by omega)
           · have e2 : 2 ^ e = 2 * 2 ^ (e - 1) := by rw [show e = (e - 1) + 1 by omega, Nat.pow_succ, Nat.add_sub_cancel]; omega
             have e3 : 2 ^ e / 2 = 2 ^ (e - 1) := by omega
             rw [e3]
             exact ih (e - 1) (by omega) (by omega) p (by omega) (by omega))
        | (have q9 : ¬ cPl l0 x < p + 2 ^ e := by omega
           rcases Nat.eq_zero_or_pos e with q | q
           · subst q
             exact kz _ (by omega) (by omega)
           · have e2 : 2 ^ e = 2 * 2 ^ (e - 1) := by rw [show e = (e - 1) + 1 by omega, Nat.pow_succ, Nat.add_sub_cancel]; omega
             have e3 : 2 ^ e / 2 = 2 ^ (e - 1) := by omega
             rw [e3]
             exact ih (e - 1) (by omega) (by omega) (p + 2 ^ e) (by omega) (by omega))
    · skip
      have hci : l0[p + 2 ^ e - 1]? = some l0[p + 2 ^ e - 1] := List.getElem?_eq_getElem (by omega)
      have hck := hkp _ (List.mem_of_getElem? hci)
      have hif := cPl_iff hsr (x := x) hci
      refine v_aload_n C dX2_placeOf_20 rfl ?_
      refine gf_X2_15 C dX2_placeOf_21 (by assumption) ?_
      refine v_iload_n C dX2_placeOf_24 rfl ?_
      refine v_iload_n C dX2_placeOf_25 rfl ?_
      first | refine v_iaddn C dX2_placeOf_26 ?_ | refine v_iadd C dX2_placeOf_26 ?_
      refine v_iconst (v := nI 1) C dX2_placeOf_27 (by decide) ?_
      first | refine v_isubn C dX2_placeOf_28 (by omega) ?_ | refine v_isub C dX2_placeOf_28 ?_
      refine v_iald C dX2_placeOf_29 (by assumption) (by omega) (by omega) (hrep _ _ hci).1 ?_
      refine v_iload_n C dX2_placeOf_30 rfl ?_
      refine v_icmpn_ge C 38 dX2_placeOf_31 (by decide) (by omega) (by omega) (fun h31 => ?_) (fun h31 => ?_)
      · skip
        refine v_iload_n C dX2_placeOf_38 rfl ?_
        refine v_iconst (v := nI 2) C dX2_placeOf_39 (by decide) ?_
        refine v_idivn C dX2_placeOf_40 (by omega) (by omega) (by omega) ?_
        refine v_istore_3 C dX2_placeOf_41 (by decide) (by first | rfl | assumption) ?_
        refine v_goto C 6 dX2_placeOf_42 (by decide) ?_
        first
          | (have q9 : cPl l0 x < p + 2 ^ e := by
               have := cPl_le l0 x
               omega
             rcases Nat.eq_zero_or_pos e with q | q
             · subst q
               exact kz _ (by omega) (by omega)
             · have e2 : 2 ^ e = 2 * 2 ^ (e - 1) := by rw [show e = (e - 1) + 1 by omega, Nat.pow_succ, Nat.add_sub_cancel]; omega
               have e3 : 2 ^ e / 2 = 2 ^ (e - 1) := by omega
               rw [e3]
               exact ih (e - 1) (by omega) (by omega) p (by omega) (by omega))
          | (have q9 : ¬ cPl l0 x < p + 2 ^ e := by omega
             rcases Nat.eq_zero_or_pos e with q | q
             · subst q
               exact kz _ (by omega) (by omega)
             · have e2 : 2 ^ e = 2 * 2 ^ (e - 1) := by rw [show e = (e - 1) + 1 by omega, Nat.pow_succ, Nat.add_sub_cancel]; omega
               have e3 : 2 ^ e / 2 = 2 ^ (e - 1) := by omega
               rw [e3]
               exact ih (e - 1) (by omega) (by omega) (p + 2 ^ e) (by omega) (by omega))
      · skip
        refine v_iload_n C dX2_placeOf_34 rfl ?_
        refine v_iload_n C dX2_placeOf_35 rfl ?_
        first | refine v_iaddn C dX2_placeOf_36 ?_ | refine v_iadd C dX2_placeOf_36 ?_
        refine v_istore_2 C dX2_placeOf_37 (by decide) (by first | rfl | assumption) ?_
        refine v_iload_n C dX2_placeOf_38 rfl ?_
        refine v_iconst (v := nI 2) C dX2_placeOf_39 (by decide) ?_
        refine v_idivn C dX2_placeOf_40 (by omega) (by omega) (by omega) ?_
        refine v_istore_3 C dX2_placeOf_41 (by decide) (by first | rfl | assumption) ?_
        refine v_goto C 6 dX2_placeOf_42 (by decide) ?_
        first
          | (have q9 : cPl l0 x < p + 2 ^ e := by
               have := cPl_le l0 x
               omega
             rcases Nat.eq_zero_or_pos e with q | q
             · subst q
               exact kz _ (by omega) (by omega)
             · have e2 : 2 ^ e = 2 * 2 ^ (e - 1) := by rw [show e = (e - 1) + 1 by omega, Nat.pow_succ, Nat.add_sub_cancel]; omega
               have e3 : 2 ^ e / 2 = 2 ^ (e - 1) := by omega
               rw [e3]
               exact ih (e - 1) (by omega) (by omega) p (by omega) (by omega))
          | (have q9 : ¬ cPl l0 x < p + 2 ^ e := by omega
             rcases Nat.eq_zero_or_pos e with q | q
             · subst q
               exact kz _ (by omega) (by omega)
             · have e2 : 2 ^ e = 2 * 2 ^ (e - 1) := by rw [show e = (e - 1) + 1 by omega, Nat.pow_succ, Nat.add_sub_cancel]; omega
               have e3 : 2 ^ e / 2 = 2 ^ (e - 1) := by omega
               rw [e3]
               exact ih (e - 1) (by omega) (by omega) (p + 2 ^ e) (by omega) (by omega))
set_option maxHeartbeats 4000000 in
set_option maxRecDepth 100000 in
theorem c_Cnt_placeOf (l : Launch) (E : Ev) (z : Option Nat) {G : Gh} {b P room : Nat} {l0 : Cnt} {g : Bool} {x : Nat} (hx : x < 2 ^ 31) (hc : isCnt E G b P room l0 g) : K_X2_placeOf l E z G [.ref (ga E b), .int (nI x)] (fun r G2 => r = nI (cPl l0 x) ∧ G = G2) := by
  refine Fc.of rfl [some (.ref (ga E b)), some (.int (nI x)), none, none] 2 rfl (Nat.le_of_ble_eq_true rfl) ?_
  intro M hM0 hini C
  subst hM0
  obtain ⟨fk, fn, hb0, hb1, hb2, hrep, hwf, hkp, hsr⟩ := id hc
  refine v_iconst (v := nI 0) C dX2_placeOf_0 (by decide) ?_
  refine v_istore_2 C dX2_placeOf_1 (by decide) (by first | rfl | assumption) ?_
  refine v_sipush (v := nI 256) C dX2_placeOf_2 (by decide) ?_
  refine v_istore_3 C dX2_placeOf_5 (by decide) (by first | rfl | assumption) ?_
  have hpl := cPl_le l0 x
  refine pl_loop C hx hc (fun p h1 h2 => ?_) 9 8 (by omega) (by omega) 0 (by omega) (by omega)
  show V _ _ _ _ _ _ _ _ _ [_, _, _, some (.int (nI 0))] _
  refine v_iload_n C dX2_placeOf_6 rfl ?_
  first | refine v_ifn_le C 45 dX2_placeOf_7 (by decide) (by omega) (fun h7 => ?_) (fun h7 => by exfalso; first | omega | exact absurd h7 (by decide) | (have h9 := of_decide_eq_true h7; omega) | (have h9 := of_decide_eq_false h7; omega) | contradiction | simp_all) | refine v_if_le C 45 dX2_placeOf_7 (by decide) (fun h7 => ?_) (fun h7 => by exfalso; first | omega | exact absurd h7 (by decide) | (have h9 := of_decide_eq_true h7; omega) | (have h9 := of_decide_eq_false h7; omega) | contradiction | simp_all)
  refine v_iload_n C dX2_placeOf_45 rfl ?_
  refine v_iret C dX2_placeOf_46 ?_
  exact ⟨by congr 1; omega, rfl⟩

set_option maxHeartbeats 4000000 in
set_option maxRecDepth 100000 in
theorem c_Cnt_isAt (l : Launch) (E : Ev) (z : Option Nat) {G : Gh} {b P room : Nat} {l0 : Cnt} {g : Bool} {x : Nat} (hx : x < 2 ^ 31) (hc : isCnt E G b P room l0 g) : K_X2_isAt l E z G [.ref (ga E b), .int (nI (cPl l0 x)), .int (nI x)] (fun r G2 => r = cAt l0 x ∧ G = G2) := by
  refine Fc.of rfl [some (.ref (ga E b)), some (.int (nI (cPl l0 x))), some (.int (nI x))] 0 rfl (Nat.le_of_ble_eq_true rfl) ?_
  intro M hM0 hini C
  subst hM0
  obtain ⟨fk, fn, hb0, hb1, hb2, hrep, hwf, hkp, hsr⟩ := id hc
  refine v_iload_n C dX2_isAt_0 rfl ?_
  refine v_aload_n C dX2_isAt_1 rfl ?_
  refine gf_X2_33 C dX2_isAt_2 (by assumption) ?_
  refine v_icmpn_ge C 22 dX2_isAt_5 (by decide) (by first | omega | (have := cPl_le l0 x; omega)) (by first | omega | (have := cPl_le l0 x; omega)) (fun h5 => ?_) (fun h5 => ?_)
  · skip
    refine v_iconst (v := bI false) C dX2_isAt_22 (by decide) ?_
    refine v_zret C dX2_isAt_23 ?_
    first
      | exact ⟨by unfold cAt; rw [List.getElem?_eq_none h5], rfl⟩
      | exact ⟨by unfold cAt; rw [hci]; simp [h15], rfl⟩
  · skip
    have hci : l0[cPl l0 x]? = some l0[cPl l0 x] := List.getElem?_eq_getElem h5
    have hck := hkp _ (List.mem_of_getElem? hci)
    refine v_aload_n C dX2_isAt_8 rfl ?_
    refine gf_X2_15 C dX2_isAt_9 (by assumption) ?_
    refine v_iload_n C dX2_isAt_12 rfl ?_
    refine v_iald C dX2_isAt_13 (by assumption) (by first | omega | (have := cPl_le l0 x; omega)) (by first | omega | (have := cPl_le l0 x; omega)) (hrep _ _ hci).1 ?_
    refine v_iload_n C dX2_isAt_14 rfl ?_
    refine v_icmpn_ne C 22 dX2_isAt_15 (by decide) (by first | omega | (have := cPl_le l0 x; omega)) (by first | omega | (have := cPl_le l0 x; omega)) (fun h15 => ?_) (fun h15 => ?_)
    · skip
      refine v_iconst (v := bI false) C dX2_isAt_22 (by decide) ?_
      refine v_zret C dX2_isAt_23 ?_
      first
        | exact ⟨by unfold cAt; rw [List.getElem?_eq_none h5], rfl⟩
        | exact ⟨by unfold cAt; rw [hci]; simp [h15], rfl⟩
    · skip
      refine v_iconst (v := bI true) C dX2_isAt_18 (by decide) ?_
      refine v_goto C 23 dX2_isAt_19 (by decide) ?_
      refine v_zret C dX2_isAt_23 ?_
      first
        | exact ⟨by unfold cAt; rw [List.getElem?_eq_none h5], rfl⟩
        | exact ⟨by unfold cAt; rw [hci]; simp [h15], rfl⟩

set_option maxHeartbeats 4000000 in
set_option maxRecDepth 100000 in
theorem c_Cnt_numberOf (l : Launch) (E : Ev) (z : Option Nat) {G : Gh} {b P room : Nat} {l0 : Cnt} {g : Bool} {x : Nat} (hx : x < 2 ^ 31) (hc : isCnt E G b P room l0 g) : K_X2_numberOf l E z G [.ref (ga E b), .int (nI x)] (fun r G2 => r = lN (cNum l0 x) ∧ G = G2) := by
  refine Fc.of rfl [some (.ref (ga E b)), some (.int (nI x)), none] 1 rfl (Nat.le_of_ble_eq_true rfl) ?_
  intro M hM0 hini C
  subst hM0
  obtain ⟨fk, fn, hb0, hb1, hb2, hrep, hwf, hkp, hsr⟩ := id hc
  refine v_aload_n C dX2_numberOf_0 rfl ?_
  refine v_iload_n C dX2_numberOf_1 rfl ?_
  refine mc_X2_25 C dX2_numberOf_2 (by assumption) (c_Cnt_placeOf _ E z hx hc) rfl (fun r2 G2 hp2 => ?_)
  obtain ⟨rfl, rfl⟩ := hp2
  refine v_istore_2 C dX2_numberOf_5 (by decide) (by first | rfl | assumption) ?_
  refine v_aload_n C dX2_numberOf_6 rfl ?_
  refine v_iload_n C dX2_numberOf_7 rfl ?_
  refine v_iload_n C dX2_numberOf_8 rfl ?_
  refine mc_X2_29 C dX2_numberOf_9 (by assumption) (c_Cnt_isAt _ E z hx hc) rfl (fun r9 G9 hp9 => ?_)
  obtain ⟨rfl, rfl⟩ := hp9
  first | refine v_ifb_eq C 24 dX2_numberOf_12 (by decide) (fun h12 => ?_) (fun h12 => ?_) | refine v_ifn_eq C 24 dX2_numberOf_12 (by decide) (by omega) (fun h12 => ?_) (fun h12 => ?_) | refine v_if_eq C 24 dX2_numberOf_12 (by decide) (fun h12 => ?_) (fun h12 => ?_)
  · skip
    refine v_lconst (v := lN 0) C dX2_numberOf_24 (by decide) ?_
    refine v_lret C dX2_numberOf_25 ?_
    first
      | exact ⟨by unfold cNum; rw [hci]; simp [hcx], rfl⟩
      | (refine ⟨?_, rfl⟩
         unfold cAt at h12
         unfold cNum
         cases hc9 : l0[cPl l0 x]? with
         | none => rfl
         | some c =>
           rw [hc9] at h12
           simp only []
           rw [if_neg (by simpa using h12)])
  · skip
    obtain ⟨c, hci, hcx⟩ : ∃ c, l0[cPl l0 x]? = some c ∧ c.1 = x := by
      unfold cAt at h12
      cases hc9 : l0[cPl l0 x]? with
      | none => rw [hc9] at h12; cases h12
      | some c => rw [hc9] at h12; exact ⟨c, rfl, by simpa using h12⟩
    have hil := (List.getElem?_eq_some_iff.mp hci).1
    refine v_aload_n C dX2_numberOf_15 rfl ?_
    refine gf_X2_21 C dX2_numberOf_16 (by assumption) ?_
    refine v_iload_n C dX2_numberOf_19 rfl ?_
    refine v_lald C dX2_numberOf_20 (by assumption) (by omega) (by omega) (hrep _ _ hci).2 ?_
    refine v_goto C 25 dX2_numberOf_21 (by decide) ?_
    refine v_lret C dX2_numberOf_25 ?_
    first
      | exact ⟨by unfold cNum; rw [hci]; simp [hcx], rfl⟩
      | (refine ⟨?_, rfl⟩
         unfold cAt at h12
         unfold cNum
         cases hc9 : l0[cPl l0 x]? with
         | none => rfl
         | some c =>
           rw [hc9] at h12
           simp only []
           rw [if_neg (by simpa using h12)])

