/-! Misra (class 6): held, taken -/
theorem kix_cases {l : Ctr} {x : Nat} {r : Int32} (h : r = kI (kix l x)) : (kix l x = none ∧ r = -1) ∨ ∃ i c, kix l x = some i ∧ r = nI i ∧ l[i]? = some c ∧ c.1 = x ∧ i < l.length := by
  cases hk : kix l x with
  | none => rw [hk] at h; exact Or.inl ⟨rfl, h⟩
  | some i =>
    rw [hk] at h
    obtain ⟨c, h1, h2, h3⟩ := kix_some hk
    exact Or.inr ⟨i, c, rfl, h, h1, h2, h3⟩
def nset (l : Ctr) (i v : Nat) : Ctr := match l[i]? with
  | none => l
  | some c => l.set i (c.1, v, c.2.2)
theorem nset_get {l : Ctr} {i v : Nat} (j : Nat) : (nset l i v)[j]? = if j = i then (l[i]?).map (fun c => (c.1, v, c.2.2)) else l[j]? := by
  unfold nset
  cases h : l[i]? with
  | none =>
    by_cases e : j = i
    · rw [if_pos e, e]; exact h
    · rw [if_neg e]
  | some c =>
    by_cases e : j = i
    · subst e; rw [if_pos rfl]; simp only []; rw [List.getElem?_set_self (List.getElem?_eq_some_iff.mp h).1]; rfl
    · rw [if_neg e]; simp only []; rw [List.getElem?_set_ne (Ne.symm e)]
theorem nset_len (l : Ctr) (i v : Nat) : (nset l i v).length = l.length := by
  unfold nset
  cases l[i]? with
  | none => rfl
  | some c => exact List.length_set
theorem nset_keys (l : Ctr) (i v : Nat) : ckeys (nset l i v) = ckeys l := by
  apply List.ext_getElem?
  intro j
  unfold ckeys
  rw [List.getElem?_map, List.getElem?_map, nset_get]
  by_cases e : j = i
  · subst e; rw [if_pos rfl]; cases l[j]? <;> rfl
  · rw [if_neg e]
theorem cwf_keys {l m : Ctr} {P lim : Nat} (h : cwf l P lim) (hk : ckeys m = ckeys l) : cwf m P lim := by
  obtain ⟨h1, h2, h3⟩ := h
  have hl : m.length = l.length := by have := congrArg List.length hk; unfold ckeys at this; simpa using this
  refine ⟨⟨h1.1, h1.2.1, by omega, h1.2.2.2⟩, fun c hc => ?_, by rw [hk]; exact h3⟩
  have hm : c.1 ∈ ckeys l := by rw [← hk]; exact List.mem_map.mpr ⟨c, hc, rfl⟩
  obtain ⟨d, hd, he⟩ := List.mem_map.mp hm
  rw [← he]; exact h2 d hd
theorem rep_nset {l : Ctr} {fk : Nat → Int32} {fn fe : Nat → Int64} (h : rep l fk fn fe) {i v : Nat} : rep (nset l i v) fk (fu fn i (lN v)) fe := by
  intro j c hj
  rw [nset_get] at hj
  by_cases e : j = i
  · subst e
    rw [if_pos rfl] at hj
    cases hc : l[j]? with
    | none => rw [hc] at hj; cases hj
    | some d =>
      rw [hc] at hj
      cases hj
      obtain ⟨a, b, c⟩ := h j d hc
      exact ⟨a, fu_self _ _ _, c⟩
  · rw [if_neg e] at hj
    rw [fu_ne _ _ e]
    exact h j c hj
theorem isCtr.nset {E : Ev} {G : Gh} {b P lim : Nat} {l : Ctr} {fk : Nat → Int32} {fn fe : Nat → Int64} {i v : Nat} (h0 : G b = cO 1 [.int (nI lim), .ref (ga E (b + 1)), .ref (ga E (b + 2)), .ref (ga E (b + 3)), .ref (ga E (b + 4)), .int (nI l.length)]) (h1 : G (b + 1) = cI E (2 * lim) fk) (h2 : G (b + 2) = cJ E (2 * lim) (fu fn i (lN v))) (h3 : G (b + 3) = cJ E (2 * lim) fe) (h4 : isKS E G (b + 4) P (fun k => k ∈ ckeys l)) (h5 : rep l fk fn fe) (h6 : cwf l P lim) : isCtr E G b P lim (nset l i v) :=
  ⟨fk, _, fe, by rw [nset_len]; exact h0, h1, h2, h3, by rw [nset_keys]; exact h4, rep_nset h5, cwf_keys h6 (nset_keys l i v)⟩
theorem isCtr.rc {E : Ev} {G : Gh} {b P lim : Nat} {l : Ctr} (h : isCtr E G b P lim l) : G b = cO 1 [.int (nI lim), .ref (ga E (b + 1)), .ref (ga E (b + 2)), .ref (ga E (b + 3)), .ref (ga E (b + 4)), .int (nI l.length)] := by
  obtain ⟨fk, fn, fe, h0, h⟩ := h
  exact h0
def isMis (E : Ev) (G : Gh) (b P lim : Nat) (l : Ctr) (tk : Nat) : Prop := G b = cO 6 [.ref (ga E (b + 1)), .long (lN tk)] ∧ isCtr E G (b + 1) P lim l
theorem isMis.keep {E : Ev} {G G2 : Gh} {b P lim : Nat} {l : Ctr} {tk : Nat} (h : isMis E G b P lim l tk) (hf : ∀ j, b ≤ j → j < b + 7 → G2 j = G j) : isMis E G2 b P lim l tk := ⟨(hf _ (by omega) (by omega)).trans h.1, h.2.keep (fun j a b => hf j (by omega) (by omega))⟩
def numOf (l : Ctr) (x : Nat) : Nat := match kix l x with
  | none => 0
  | some i => match l[i]? with
    | none => 0
    | some c => c.2.1
theorem numOf_none {l : Ctr} {x : Nat} (h : kix l x = none) : numOf l x = 0 := by unfold numOf; rw [h]
theorem numOf_some {l : Ctr} {x i : Nat} {c : Nat × Nat × Nat} (h : kix l x = some i) (hc : l[i]? = some c) : numOf l x = c.2.1 := by unfold numOf; rw [h]; simp only []; rw [hc]

set_option maxHeartbeats 4000000 in
set_option maxRecDepth 100000 in
theorem c_Mis_guess (l : Launch) (E : Ev) (z : Option Nat) {G : Gh} {b P lim : Nat} {l0 : Ctr} {tk : Nat} {x : Nat} (hx : x < P) (hm : isMis E G b P lim l0 tk) : K_X6_guess l E z G [.ref (ga E b), .int (nI x)] (fun r G2 => r = lN (numOf l0 x) ∧ G = G2) := by
  refine Fc.of rfl [some (.ref (ga E b)), some (.int (nI x)), none] 1 rfl (Nat.le_of_ble_eq_true rfl) ?_
  intro M hM0 hini C
  subst hM0
  obtain ⟨hm0, hc⟩ := id hm
  obtain ⟨fk, fn, fe, hb0, hb1, hb2, hb3, hks, hrep, hwf, hkp, hnd⟩ := id hc
  refine v_aload_n C dX6_guess_0 rfl ?_
  refine gf_X6_12 C dX6_guess_1 (by assumption) ?_
  refine v_iload_n C dX6_guess_4 rfl ?_
  refine mc_X6_18 C dX6_guess_5 (by assumption) (c_Ctr_find _ E z hx hc) rfl (fun r5 G5 hp5 => ?_)
  obtain ⟨hr5, rfl⟩ := hp5
  rcases kix_cases hr5 with ⟨hk, rfl⟩ | ⟨i, c, hk, rfl, hci, hcx, hil⟩
  · skip
    refine v_istore_2 C dX6_guess_8 (by decide) rfl ?_
    refine v_iload_n C dX6_guess_9 rfl ?_
    refine v_if_ge C 17 dX6_guess_10 (by decide) (fun h10 => by exfalso; first | omega | exact absurd h10 (by decide) | contradiction | simp_all) (fun h10 => ?_)
    refine v_lconst (v := lN 0) C dX6_guess_13 (by decide) ?_
    refine v_goto C 26 dX6_guess_14 (by decide) ?_
    refine v_lret C dX6_guess_26 ?_
    exact ⟨by rw [numOf_none hk], rfl⟩
  · skip
    refine v_istore_2 C dX6_guess_8 (by decide) rfl ?_
    refine v_iload_n C dX6_guess_9 rfl ?_
    first | refine v_ifn_ge C 17 dX6_guess_10 (by decide) (by omega) (fun h10 => ?_) (fun h10 => by exfalso; first | omega | exact absurd h10 (by decide) | contradiction | simp_all) | refine v_if_ge C 17 dX6_guess_10 (by decide) (fun h10 => ?_) (fun h10 => by exfalso; first | omega | exact absurd h10 (by decide) | contradiction | simp_all)
    refine v_aload_n C dX6_guess_17 rfl ?_
    refine gf_X6_12 C dX6_guess_18 (by assumption) ?_
    refine gf_X6_22 C dX6_guess_21 (by assumption) ?_
    refine v_iload_n C dX6_guess_24 rfl ?_
    refine v_lald C dX6_guess_25 (by assumption) (by omega) (by omega) (hrep i c hci).2.1 ?_
    refine v_lret C dX6_guess_26 ?_
    exact ⟨by rw [numOf_some hk hci], rfl⟩

set_option maxHeartbeats 4000000 in
set_option maxRecDepth 100000 in
theorem c_Mis_low (l : Launch) (E : Ev) (z : Option Nat) {G : Gh} {b P lim : Nat} {l0 : Ctr} {tk : Nat} {x : Nat} (hx : x < P) (hm : isMis E G b P lim l0 tk) : K_X6_low l E z G [.ref (ga E b), .int (nI x)] (fun r G2 => r = lN (numOf l0 x) ∧ G = G2) := by
  refine Fc.of rfl [some (.ref (ga E b)), some (.int (nI x))] 0 rfl (Nat.le_of_ble_eq_true rfl) ?_
  intro M hM0 hini C
  subst hM0
  obtain ⟨hm0, hc⟩ := id hm
  obtain ⟨fk, fn, fe, hb0, hb1, hb2, hb3, hks, hrep, hwf, hkp, hnd⟩ := id hc
  refine v_aload_n C dX6_low_0 rfl ?_
  refine v_iload_n C dX6_low_1 rfl ?_
  refine mc_X6_26 C dX6_low_2 (by assumption) (c_Mis_guess _ E z hx hm) rfl (fun r2 G2 hp2 => ?_)
  obtain ⟨rfl, rfl⟩ := hp2
  refine v_lret C dX6_low_5 ?_
  exact ⟨rfl, rfl⟩

set_option maxHeartbeats 4000000 in
set_option maxRecDepth 100000 in
theorem c_Mis_high (l : Launch) (E : Ev) (z : Option Nat) {G : Gh} {b P lim : Nat} {l0 : Ctr} {tk : Nat} {x : Nat} (hx : x < P) (hm : isMis E G b P lim l0 tk) : K_X6_high l E z G [.ref (ga E b), .int (nI x)] (fun r G2 => r = lN (numOf l0 x + tk) ∧ G = G2) := by
  refine Fc.of rfl [some (.ref (ga E b)), some (.int (nI x))] 0 rfl (Nat.le_of_ble_eq_true rfl) ?_
  intro M hM0 hini C
  subst hM0
  obtain ⟨hm0, hc⟩ := id hm
  obtain ⟨fk, fn, fe, hb0, hb1, hb2, hb3, hks, hrep, hwf, hkp, hnd⟩ := id hc
  refine v_aload_n C dX6_high_0 rfl ?_
  refine v_iload_n C dX6_high_1 rfl ?_
  refine mc_X6_26 C dX6_high_2 (by assumption) (c_Mis_guess _ E z hx hm) rfl (fun r2 G2 hp2 => ?_)
  obtain ⟨rfl, rfl⟩ := hp2
  refine v_aload_n C dX6_high_5 rfl ?_
  refine gf_X6_30 C dX6_high_6 (by assumption) ?_
  first | refine v_laddn C dX6_high_9 ?_ | refine v_ladd C dX6_high_9 ?_
  refine v_lret C dX6_high_10 ?_
  exact ⟨rfl, rfl⟩

def abv (l : Ctr) (v : Nat) : Nat := l.countP (fun c => decide (v < c.2.1))
def nbl (l : Ctr) (v : Nat) : Nat := l.countP (fun c => decide (v ≤ c.2.1))
def grt (l : Ctr) (rank : Nat) : Nat := match l.find? (fun c => decide (abv l c.2.1 < rank ∧ rank ≤ nbl l c.2.1)) with
  | none => 0
  | some c => c.2.1
theorem cnt_take {l : Ctr} {p : Nat × Nat × Nat → Bool} {j : Nat} {c : Nat × Nat × Nat} (h : l[j]? = some c) : (l.take (j + 1)).countP p = (l.take j).countP p + (if p c = true then 1 else 0) := by
  rw [List.take_add_one, h, List.countP_append]
  simp [List.countP_cons]
theorem cnt_le {l : Ctr} {p : Nat × Nat × Nat → Bool} {j : Nat} : (l.take j).countP p ≤ j := Nat.le_trans List.countP_le_length (by rw [List.length_take]; omega)

set_option maxHeartbeats 4000000 in
set_option maxRecDepth 100000 in
theorem grt_in {M : Mx} {E : Ev} {z : Option Nat} (C : Cx M E yX6_greatest.cls cX6_greatest 6 (some .long) 0 0 0 0) {post : Int64 → Gh → Prop} {G : Gh} {b P lim : Nat} {l0 : Ctr} {tk : Nat} {rk i : Nat} {c : Nat × Nat × Nat} (hci : l0[i]? = some c) (hrk : rk < 2 ^ 31) (hn : ∀ c ∈ l0, c.2.1 < 2 ^ 62) (hm : isMis E G b P lim l0 tk) (kend : V M E 6 (QE M E (fun r : Int64 => some (.long r)) z 0 0 post) z 0 0 G 103 [some (.ref (ga E b)), some (.int (nI rk)), some (.int (nI i)), some (.int (nI (abv l0 c.2.1))), some (.int (nI (nbl l0 c.2.1))), some (.int (nI l0.length))] []) : ∀ (t j : Nat), j ≤ l0.length → l0.length - j < t → V M E 6 (QE M E (fun r : Int64 => some (.long r)) z 0 0 post) z 0 0 G 21 [some (.ref (ga E b)), some (.int (nI rk)), some (.int (nI i)), some (.int (nI ((l0.take j).countP (fun d => decide (c.2.1 < d.2.1))))), some (.int (nI ((l0.take j).countP (fun d => decide (c.2.1 ≤ d.2.1))))), some (.int (nI j))] [] := by
  obtain ⟨hm0, hc⟩ := id hm
  obtain ⟨fk, fn, fe, hb0, hb1, hb2, hb3, hks, hrep, hwf, hkp, hnd⟩ := id hc
  have hil := (List.getElem?_eq_some_iff.mp hci).1
  have hnc := hn _ (List.mem_of_getElem? hci)
  intro t
  induction t with
  | zero => intro j _ h; omega
  | succ t ih =>
    intro j hj ht
    refine v_iload C dX6_greatest_21 rfl ?_
    refine v_aload_n C dX6_greatest_23 rfl ?_
    refine gf_X6_12 C dX6_greatest_24 (by assumption) ?_
    refine gf_X6_38 C dX6_greatest_27 (by assumption) ?_
    refine v_icmpn_ge C 103 dX6_greatest_30 (by decide) (by omega) (by omega) (fun h30 => ?_) (fun h30 => ?_)
    · skip
      have e : j = l0.length := by omega
      subst e
      rw [List.take_length]
      exact kend
    · skip
      have hcj : l0[j]? = some l0[j] := List.getElem?_eq_getElem h30
      have hnj := hn _ (List.mem_of_getElem? hcj)
      have ca := cnt_le (l := l0) (p := fun d => decide (c.2.1 < d.2.1)) (j := j)
      have cb := cnt_le (l := l0) (p := fun d => decide (c.2.1 ≤ d.2.1)) (j := j)
      refine v_iload_n C dX6_greatest_33 rfl ?_
      refine v_aload_n C dX6_greatest_34 rfl ?_
      refine gf_X6_12 C dX6_greatest_35 (by assumption) ?_
      refine gf_X6_22 C dX6_greatest_38 (by assumption) ?_
      refine v_iload C dX6_greatest_41 rfl ?_
      refine v_lald C dX6_greatest_43 (by assumption) (by omega) (by omega) (hrep j _ hcj).2.1 ?_
      refine v_aload_n C dX6_greatest_44 rfl ?_
      refine gf_X6_12 C dX6_greatest_45 (by assumption) ?_
      refine gf_X6_22 C dX6_greatest_48 (by assumption) ?_
      refine v_iload_n C dX6_greatest_51 rfl ?_
      refine v_lald C dX6_greatest_52 (by assumption) (by omega) (by omega) (hrep i c hci).2.1 ?_
      refine v_lcmpn_le C 61 dX6_greatest_53 dX6_greatest_54 (by decide) (by omega) (by omega) (fun h53 => ?_) (fun h53 => ?_)
      · skip
        refine v_iconst (v := nI 0) C dX6_greatest_61 (by decide) ?_
        first | refine v_iaddn C dX6_greatest_62 ?_ | refine v_iadd C dX6_greatest_62 ?_
        refine v_istore_3 C dX6_greatest_63 (by decide) rfl ?_
        refine v_iload C dX6_greatest_64 rfl ?_
        refine v_aload_n C dX6_greatest_66 rfl ?_
        refine gf_X6_12 C dX6_greatest_67 (by assumption) ?_
        refine gf_X6_22 C dX6_greatest_70 (by assumption) ?_
        refine v_iload C dX6_greatest_73 rfl ?_
        refine v_lald C dX6_greatest_75 (by assumption) (by omega) (by omega) (hrep j _ hcj).2.1 ?_
        refine v_aload_n C dX6_greatest_76 rfl ?_
        refine gf_X6_12 C dX6_greatest_77 (by assumption) ?_
        refine gf_X6_22 C dX6_greatest_80 (by assumption) ?_
        refine v_iload_n C dX6_greatest_83 rfl ?_
        refine v_lald C dX6_greatest_84 (by assumption) (by omega) (by omega) (hrep i c hci).2.1 ?_
        refine v_lcmpn_lt C 93 dX6_greatest_85 dX6_greatest_86 (by decide) (by omega) (by omega) (fun h85 => ?_) (fun h85 => ?_)
        · skip
          refine v_iconst (v := nI 0) C dX6_greatest_93 (by decide) ?_
          first | refine v_iaddn C dX6_greatest_94 ?_ | refine v_iadd C dX6_greatest_94 ?_
          refine v_istore_4 C dX6_greatest_95 (by decide) rfl ?_
          first | refine v_iinc_5 C dX6_greatest_97 (nI_1 _) (by decide) rfl ?_ | refine v_iinc_5 C dX6_greatest_97 rfl (by decide) rfl ?_
          refine v_goto C 21 dX6_greatest_100 (by decide) ?_
          have e1 := cnt_take (p := fun d => decide (c.2.1 < d.2.1)) hcj
          have e2 := cnt_take (p := fun d => decide (c.2.1 ≤ d.2.1)) hcj
          have key := ih (j + 1) (by omega) (by omega)
          rw [e1, e2] at key
          simp only [decide_eq_true_eq] at key
          first
            | (rw [if_pos (by omega), if_pos (by omega)] at key; exact key)
            | (rw [if_pos (by omega), if_neg (by omega)] at key; exact key)
            | (rw [if_neg (by omega), if_pos (by omega)] at key; exact key)
            | (rw [if_neg (by omega), if_neg (by omega)] at key; exact key)
        · skip
          refine v_iconst (v := nI 1) C dX6_greatest_89 (by decide) ?_
          refine v_goto C 94 dX6_greatest_90 (by decide) ?_
          first | refine v_iaddn C dX6_greatest_94 ?_ | refine v_iadd C dX6_greatest_94 ?_
          refine v_istore_4 C dX6_greatest_95 (by decide) rfl ?_
          first | refine v_iinc_5 C dX6_greatest_97 (nI_1 _) (by decide) rfl ?_ | refine v_iinc_5 C dX6_greatest_97 rfl (by decide) rfl ?_
          refine v_goto C 21 dX6_greatest_100 (by decide) ?_
          have e1 := cnt_take (p := fun d => decide (c.2.1 < d.2.1)) hcj
          have e2 := cnt_take (p := fun d => decide (c.2.1 ≤ d.2.1)) hcj
          have key := ih (j + 1) (by omega) (by omega)
          rw [e1, e2] at key
          simp only [decide_eq_true_eq] at key
          first
            | (rw [if_pos (by omega), if_pos (by omega)] at key; exact key)
            | (rw [if_pos (by omega), if_neg (by omega)] at key; exact key)
            | (rw [if_neg (by omega), if_pos (by omega)] at key; exact key)
            | (rw [if_neg (by omega), if_neg (by omega)] at key; exact key)
      · skip
        refine v_iconst (v := nI 1) C dX6_greatest_57 (by decide) ?_
        refine v_goto C 62 dX6_greatest_58 (by decide) ?_
        first | refine v_iaddn C dX6_greatest_62 ?_ | refine v_iadd C dX6_greatest_62 ?_
        refine v_istore_3 C dX6_greatest_63 (by decide) rfl ?_
        refine v_iload C dX6_greatest_64 rfl ?_
        refine v_aload_n C dX6_greatest_66 rfl ?_
        refine gf_X6_12 C dX6_greatest_67 (by assumption) ?_
        refine gf_X6_22 C dX6_greatest_70 (by assumption) ?_
        refine v_iload C dX6_greatest_73 rfl ?_
        refine v_lald C dX6_greatest_75 (by assumption) (by omega) (by omega) (hrep j _ hcj).2.1 ?_
        refine v_aload_n C dX6_greatest_76 rfl ?_
        refine gf_X6_12 C dX6_greatest_77 (by assumption) ?_
        refine gf_X6_22 C dX6_greatest_80 (by assumption) ?_
        refine v_iload_n C dX6_greatest_83 rfl ?_
        refine v_lald C dX6_greatest_84 (by assumption) (by omega) (by omega) (hrep i c hci).2.1 ?_
        refine v_lcmpn_lt C 93 dX6_greatest_85 dX6_greatest_86 (by decide) (by omega) (by omega) (fun h85 => ?_) (fun h85 => ?_)
        · skip
          refine v_iconst (v := nI 0) C dX6_greatest_93 (by decide) ?_
          first | refine v_iaddn C dX6_greatest_94 ?_ | refine v_iadd C dX6_greatest_94 ?_
          refine v_istore_4 C dX6_greatest_95 (by decide) rfl ?_
          first | refine v_iinc_5 C dX6_greatest_97 (nI_1 _) (by decide) rfl ?_ | refine v_iinc_5 C dX6_greatest_97 rfl (by decide) rfl ?_
          refine v_goto C 21 dX6_greatest_100 (by decide) ?_
          have e1 := cnt_take (p := fun d => decide (c.2.1 < d.2.1)) hcj
          have e2 := cnt_take (p := fun d => decide (c.2.1 ≤ d.2.1)) hcj
          have key := ih (j + 1) (by omega) (by omega)
          rw [e1, e2] at key
          simp only [decide_eq_true_eq] at key
          first
            | (rw [if_pos (by omega), if_pos (by omega)] at key; exact key)
            | (rw [if_pos (by omega), if_neg (by omega)] at key; exact key)
            | (rw [if_neg (by omega), if_pos (by omega)] at key; exact key)
            | (rw [if_neg (by omega), if_neg (by omega)] at key; exact key)
        · skip
          refine v_iconst (v := nI 1) C dX6_greatest_89 (by decide) ?_
          refine v_goto C 94 dX6_greatest_90 (by decide) ?_
          first | refine v_iaddn C dX6_greatest_94 ?_ | refine v_iadd C dX6_greatest_94 ?_
          refine v_istore_4 C dX6_greatest_95 (by decide) rfl ?_
          first | refine v_iinc_5 C dX6_greatest_97 (nI_1 _) (by decide) rfl ?_ | refine v_iinc_5 C dX6_greatest_97 rfl (by decide) rfl ?_
          refine v_goto C 21 dX6_greatest_100 (by decide) ?_
          have e1 := cnt_take (p := fun d => decide (c.2.1 < d.2.1)) hcj
          have e2 := cnt_take (p := fun d => decide (c.2.1 ≤ d.2.1)) hcj
          have key := ih (j + 1) (by omega) (by omega)
          rw [e1, e2] at key
          simp only [decide_eq_true_eq] at key
          first
            | (rw [if_pos (by omega), if_pos (by omega)] at key; exact key)
            | (rw [if_pos (by omega), if_neg (by omega)] at key; exact key)
            | (rw [if_neg (by omega), if_pos (by omega)] at key; exact key)
            | (rw [if_neg (by omega), if_neg (by omega)] at key; exact key)
set_option maxHeartbeats 4000000 in
set_option maxRecDepth 100000 in
theorem grt_out {M : Mx} {E : Ev} {z : Option Nat} (C : Cx M E yX6_greatest.cls cX6_greatest 6 (some .long) 0 0 0 0) {post : Int64 → Gh → Prop} {G : Gh} {b P lim : Nat} {l0 : Ctr} {tk : Nat} {rk : Nat} (hrk : rk < 2 ^ 31) (hn : ∀ c ∈ l0, c.2.1 < 2 ^ 62) (hm : isMis E G b P lim l0 tk) (hend : ∀ {v : Int64}, v = lN (grt l0 rk) → post v G) : ∀ (t i : Nat), i ≤ l0.length → l0.length - i < t → ∀ (x3 x4 x5 : Option Value), lo_c x3 = true → lo_c x4 = true → (∀ j c, j < i → l0[j]? = some c → ¬ (abv l0 c.2.1 < rk ∧ rk ≤ nbl l0 c.2.1)) → V M E 6 (QE M E (fun r : Int64 => some (.long r)) z 0 0 post) z 0 0 G 2 [some (.ref (ga E b)), some (.int (nI rk)), some (.int (nI i)), x3, x4, x5] [] := by
  obtain ⟨hm0, hc⟩ := id hm
  obtain ⟨fk, fn, fe, hb0, hb1, hb2, hb3, hks, hrep, hwf, hkp, hnd⟩ := id hc
  intro t
  induction t with
  | zero => intro i _ h; omega
  | succ t ih =>
    intro i hi ht x3 x4 x5 hx3 hx4 hno
    refine v_iload_n C dX6_greatest_2 rfl ?_
    refine v_aload_n C dX6_greatest_3 rfl ?_
    refine gf_X6_12 C dX6_greatest_4 (by assumption) ?_
    refine gf_X6_38 C dX6_greatest_7 (by assumption) ?_
    refine v_icmpn_ge C 130 dX6_greatest_10 (by decide) (by omega) (by omega) (fun h10 => ?_) (fun h10 => ?_)
    · skip
      refine v_lconst (v := lN 0) C dX6_greatest_130 (by decide) ?_
      refine v_lret C dX6_greatest_131 ?_
      refine hend ?_
      unfold grt
      have hf : l0.find? (fun c => decide (abv l0 c.2.1 < rk ∧ rk ≤ nbl l0 c.2.1)) = none := by
        rw [List.find?_eq_none]
        intro c hc
        obtain ⟨j, hj⟩ := List.getElem?_of_mem hc
        have := hno j c (by have := (List.getElem?_eq_some_iff.mp hj).1; omega) hj
        simpa using this
      rw [hf]
    · skip
      have hci : l0[i]? = some l0[i] := List.getElem?_eq_getElem h10
      have ha9 : abv l0 l0[i].2.1 ≤ l0.length := List.countP_le_length
      have hb9 : nbl l0 l0[i].2.1 ≤ l0.length := List.countP_le_length
      refine v_iconst (v := nI 0) C dX6_greatest_13 (by decide) ?_
      refine v_istore_3 C dX6_greatest_14 (by decide) rfl ?_
      refine v_iconst (v := nI 0) C dX6_greatest_15 (by decide) ?_
      refine v_istore_4 C dX6_greatest_16 (by decide) rfl ?_
      refine v_iconst (v := nI 0) C dX6_greatest_18 (by decide) ?_
      refine v_istore_5 C dX6_greatest_19 (by decide) rfl ?_
      refine grt_in C hci hrk hn hm ?_ (l0.length + 1) 0 (by omega) (by omega)
      refine v_iload_n C dX6_greatest_103 rfl ?_
      refine v_iload_n C dX6_greatest_104 rfl ?_
      refine v_icmpn_ge C 124 dX6_greatest_105 (by decide) (by omega) (by omega) (fun h105 => ?_) (fun h105 => ?_)
      · skip
        first | refine v_iinc_2 C dX6_greatest_124 (nI_1 _) (by decide) rfl ?_ | refine v_iinc_2 C dX6_greatest_124 rfl (by decide) rfl ?_
        refine v_goto C 2 dX6_greatest_127 (by decide) ?_
        refine ih (i + 1) (by omega) (by omega) _ _ _ rfl rfl (fun j c hj hjc => ?_)
        rcases Nat.lt_or_ge j i with q | q
        · exact hno j c q hjc
        · have : j = i := by omega
          subst this; rw [hci] at hjc; cases hjc; omega
      · skip
        refine v_iload_n C dX6_greatest_108 rfl ?_
        refine v_iload C dX6_greatest_109 rfl ?_
        refine v_icmpn_gt C 124 dX6_greatest_111 (by decide) (by omega) (by omega) (fun h111 => ?_) (fun h111 => ?_)
        · skip
          first | refine v_iinc_2 C dX6_greatest_124 (nI_1 _) (by decide) rfl ?_ | refine v_iinc_2 C dX6_greatest_124 rfl (by decide) rfl ?_
          refine v_goto C 2 dX6_greatest_127 (by decide) ?_
          refine ih (i + 1) (by omega) (by omega) _ _ _ rfl rfl (fun j c hj hjc => ?_)
          rcases Nat.lt_or_ge j i with q | q
          · exact hno j c q hjc
          · have : j = i := by omega
            subst this; rw [hci] at hjc; cases hjc; omega
        · skip
          refine v_aload_n C dX6_greatest_114 rfl ?_
          refine gf_X6_12 C dX6_greatest_115 (by assumption) ?_
          refine gf_X6_22 C dX6_greatest_118 (by assumption) ?_
          refine v_iload_n C dX6_greatest_121 rfl ?_
          refine v_lald C dX6_greatest_122 (by assumption) (by omega) (by omega) (hrep i _ hci).2.1 ?_
          refine v_lret C dX6_greatest_123 ?_
          refine hend ?_
          unfold grt
          have hf : l0.find? (fun c => decide (abv l0 c.2.1 < rk ∧ rk ≤ nbl l0 c.2.1)) = some l0[i] := by
            rw [List.find?_eq_some_iff_getElem]
            refine ⟨by simp; omega, i, h10, rfl, fun j hj => ?_⟩
            have := hno j _ hj (List.getElem?_eq_getElem (by omega))
            simp only [Bool.not_eq_true', decide_eq_false_iff_not]
            exact this
          rw [hf]
set_option maxHeartbeats 4000000 in
set_option maxRecDepth 100000 in
theorem c_Mis_greatest (l : Launch) (E : Ev) (z : Option Nat) {G : Gh} {b P lim : Nat} {l0 : Ctr} {tk : Nat} {rk : Nat} (hrk : rk < 2 ^ 31) (hn : ∀ c ∈ l0, c.2.1 < 2 ^ 62) (hm : isMis E G b P lim l0 tk) : K_X6_greatest l E z G [.ref (ga E b), .int (nI rk)] (fun r G2 => r = lN (grt l0 rk) ∧ G = G2) := by
  refine Fc.of rfl [some (.ref (ga E b)), some (.int (nI rk)), none, none, none, none] 4 rfl (Nat.le_of_ble_eq_true rfl) ?_
  intro M hM0 hini C
  subst hM0
  obtain ⟨hm0, hc⟩ := id hm
  obtain ⟨fk, fn, fe, hb0, hb1, hb2, hb3, hks, hrep, hwf, hkp, hnd⟩ := id hc
  refine v_iconst (v := nI 0) C dX6_greatest_0 (by decide) ?_
  refine v_istore_2 C dX6_greatest_1 (by decide) rfl ?_
  exact grt_out C hrk hn hm (fun h => ⟨h, rfl⟩) (l0.length + 1) 0 (by omega) (by omega) _ _ _ rfl rfl (fun j _ h => absurd h (Nat.not_lt_zero j))

