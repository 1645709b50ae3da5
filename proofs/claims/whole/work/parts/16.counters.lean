/-! Counters (class 1): limit, keys, numbers, errors, known, used -/
abbrev Ctr : Type := List (Nat × Nat × Nat)
def kix (l : Ctr) (x : Nat) : Option Nat := l.findIdx? (fun c => c.1 == x)
def kI (o : Option Nat) : Int32 := match o with
  | none => -1
  | some i => nI i
theorem kix_some {l : Ctr} {x i : Nat} (h : kix l x = some i) : ∃ c, l[i]? = some c ∧ c.1 = x ∧ i < l.length := by
  unfold kix at h
  rw [List.findIdx?_eq_some_iff_getElem] at h
  obtain ⟨h1, h2, h3⟩ := h
  exact ⟨l[i], List.getElem?_eq_getElem h1, by simpa using h2, h1⟩
theorem kix_none {l : Ctr} {x : Nat} (h : kix l x = none) : ∀ c ∈ l, c.1 ≠ x := by
  unfold kix at h
  rw [List.findIdx?_eq_none_iff] at h
  intro c hc
  have := h c hc
  simpa using this
theorem kix_is {l : Ctr} {x i : Nat} {c : Nat × Nat × Nat} (h : l[i]? = some c) (hc : c.1 = x) (hn : ∀ j c, j < i → l[j]? = some c → c.1 ≠ x) : kix l x = some i := by
  unfold kix
  rw [List.findIdx?_eq_some_iff_getElem]
  obtain ⟨hl, he⟩ := List.getElem?_eq_some_iff.mp h
  refine ⟨hl, by rw [he]; simpa using hc, fun j hj => ?_⟩
  have := hn j _ hj (List.getElem?_eq_getElem (by omega))
  simpa using this
theorem kix_no {l : Ctr} {x : Nat} (hn : ∀ c ∈ l, c.1 ≠ x) : kix l x = none := by
  unfold kix
  rw [List.findIdx?_eq_none_iff]
  intro c hc
  simpa using hn c hc
def rep (l : Ctr) (fk : Nat → Int32) (fn fe : Nat → Int64) : Prop := ∀ (i : Nat) (c : Nat × Nat × Nat), l[i]? = some c → fk i = nI c.1 ∧ fn i = lN c.2.1 ∧ fe i = lN c.2.2
def ckeys (l : Ctr) : List Nat := l.map (fun c => c.1)
def cwf (l : Ctr) (P lim : Nat) : Prop := (1 ≤ lim ∧ lim ≤ 64 ∧ l.length ≤ 2 * lim ∧ P ≤ 65521) ∧ (∀ c ∈ l, c.1 < P) ∧ (ckeys l).Nodup
def isCtr (E : Ev) (G : Gh) (b P lim : Nat) (l : Ctr) : Prop := ∃ (fk : Nat → Int32) (fn fe : Nat → Int64), G b = cO 1 [.int (nI lim), .ref (ga E (b + 1)), .ref (ga E (b + 2)), .ref (ga E (b + 3)), .ref (ga E (b + 4)), .int (nI l.length)] ∧ G (b + 1) = cI E (2 * lim) fk ∧ G (b + 2) = cJ E (2 * lim) fn ∧ G (b + 3) = cJ E (2 * lim) fe ∧ isKS E G (b + 4) P (fun k => k ∈ ckeys l) ∧ rep l fk fn fe ∧ cwf l P lim
theorem isCtr.keep {E : Ev} {G G2 : Gh} {b P lim : Nat} {l : Ctr} (h : isCtr E G b P lim l) (hf : ∀ j, b ≤ j → j < b + 6 → G2 j = G j) : isCtr E G2 b P lim l := by
  obtain ⟨fk, fn, fe, h0, h1, h2, h3, h4, h5⟩ := h
  exact ⟨fk, fn, fe, (hf _ (by omega) (by omega)).trans h0, (hf _ (by omega) (by omega)).trans h1, (hf _ (by omega) (by omega)).trans h2, (hf _ (by omega) (by omega)).trans h3, h4.keep (fun j a b => hf j (by omega) (by omega)), h5⟩

set_option maxHeartbeats 4000000 in
set_option maxRecDepth 100000 in
theorem c_Ctr_isFull (l : Launch) (E : Ev) (z : Option Nat) {G : Gh} {b P lim : Nat} {l0 : Ctr} (hc : isCtr E G b P lim l0) : K_X1_isFull l E z G [.ref (ga E b)] (fun r G2 => r = decide (lim ≤ l0.length) ∧ G = G2) := by
  refine Fc.of rfl [some (.ref (ga E b))] 0 rfl (Nat.le_of_ble_eq_true rfl) ?_
  intro M hM0 hini C
  subst hM0
  obtain ⟨fk, fn, fe, hb0, hb1, hb2, hb3, hks, hrep, hwf, hkp, hnd⟩ := id hc
  refine v_aload_n C dX1_isFull_0 rfl ?_
  refine gf_X1_35 C dX1_isFull_1 (by assumption) ?_
  refine v_aload_n C dX1_isFull_4 rfl ?_
  refine gf_X1_9 C dX1_isFull_5 (by assumption) ?_
  refine v_icmpn_lt C 15 dX1_isFull_8 (by decide) (by omega) (by omega) (fun h8 => ?_) (fun h8 => ?_)
  · skip
    refine v_iconst (v := bI false) C dX1_isFull_15 (by decide) ?_
    refine v_zret C dX1_isFull_16 ?_
    exact ⟨by simp; omega, rfl⟩
  · skip
    refine v_iconst (v := bI true) C dX1_isFull_11 (by decide) ?_
    refine v_goto C 16 dX1_isFull_12 (by decide) ?_
    refine v_zret C dX1_isFull_16 ?_
    exact ⟨by simp; omega, rfl⟩

set_option maxHeartbeats 4000000 in
set_option maxRecDepth 100000 in
theorem find_loop {M : Mx} {E : Ev} {z : Option Nat} (C : Cx M E yX1_find.cls cX1_find 3 (some .int) 1 21 0 0) {post : Int32 → Gh → Prop} {G : Gh} {b P lim : Nat} {l0 : Ctr} {x : Nat} (hx : x < 2 ^ 31) (hc : isCtr E G b P lim l0) (hend : ∀ {i : Nat}, kix l0 x = some i → post (nI i) G) (hend2 : kix l0 x = none → post (-1) G) : ∀ (t i : Nat), i ≤ l0.length → l0.length - i < t → (∀ j c, j < i → l0[j]? = some c → c.1 ≠ x) → V M E 3 (QE M E (fun r : Int32 => some (.int r)) z 0 0 post) z 0 0 G 13 [some (.ref (ga E b)), some (.int (nI x)), some (.int (nI i))] [] := by
  obtain ⟨fk, fn, fe, hb0, hb1, hb2, hb3, hks, hrep, hwf, hkp, hnd⟩ := id hc
  intro t
  induction t with
  | zero => intro i _ h; omega
  | succ t ih =>
    intro i hi ht hno
    refine v_iload_n C dX1_find_13 rfl ?_
    refine v_aload_n C dX1_find_14 rfl ?_
    refine gf_X1_35 C dX1_find_15 (by assumption) ?_
    refine v_icmpn_ge C 39 dX1_find_18 (by decide) (by omega) (by omega) (fun h18 => ?_) (fun h18 => ?_)
    · skip
      refine v_iconst (v := -1) C dX1_find_39 (by decide) ?_
      refine v_iret C dX1_find_40 ?_
      exact hend2 (kix_no (fun c hc => by
        obtain ⟨j, hj⟩ := List.getElem?_of_mem hc
        exact hno j c (by have := (List.getElem?_eq_some_iff.mp hj).1; omega) hj))
    · skip
      have hci : l0[i]? = some l0[i] := List.getElem?_eq_getElem h18
      have hck := hkp _ (List.mem_of_getElem? hci)
      refine v_aload_n C dX1_find_21 rfl ?_
      refine gf_X1_15 C dX1_find_22 (by assumption) ?_
      refine v_iload_n C dX1_find_25 rfl ?_
      refine v_iald C dX1_find_26 (by assumption) (by omega) (by omega) (hrep i _ hci).1 ?_
      refine v_iload_n C dX1_find_27 rfl ?_
      refine v_icmpn_ne C 33 dX1_find_28 (by decide) (by omega) (by omega) (fun h28 => ?_) (fun h28 => ?_)
      · skip
        first | refine v_iinc_2 C dX1_find_33 (nI_1 _) (by decide) rfl ?_ | refine v_iinc_2 C dX1_find_33 rfl (by decide) rfl ?_
        refine v_goto C 13 dX1_find_36 (by decide) ?_
        refine ih (i + 1) (by omega) (by omega) (fun j c hj hjc => ?_)
        rcases Nat.lt_or_ge j i with q | q
        · exact hno j c q hjc
        · have : j = i := by omega
          subst this
          rw [hci] at hjc
          cases hjc
          exact h28
      · skip
        refine v_iload_n C dX1_find_31 rfl ?_
        refine v_iret C dX1_find_32 ?_
        exact hend (kix_is hci h28 hno)
set_option maxHeartbeats 4000000 in
set_option maxRecDepth 100000 in
theorem c_Ctr_find (l : Launch) (E : Ev) (z : Option Nat) {G : Gh} {b P lim : Nat} {l0 : Ctr} {x : Nat} (hx : x < P) (hc : isCtr E G b P lim l0) : K_X1_find l E z G [.ref (ga E b), .int (nI x)] (fun r G2 => r = kI (kix l0 x) ∧ G = G2) := by
  refine Fc.of rfl [some (.ref (ga E b)), some (.int (nI x)), none] 1 rfl (Nat.le_of_ble_eq_true rfl) ?_
  intro M hM0 hini C
  subst hM0
  obtain ⟨fk, fn, fe, hb0, hb1, hb2, hb3, hks, hrep, hwf, hkp, hnd⟩ := id hc
  refine v_aload_n C dX1_find_0 rfl ?_
  refine gf_X1_31 C dX1_find_1 (by assumption) ?_
  refine v_iload_n C dX1_find_4 rfl ?_
  refine mc_X1_38 C dX1_find_5 (hks.rc) (c_KS_has _ E z (by omega) hx hks) rfl (fun r5 G5 hp5 => ?_)
  obtain ⟨hs5, rfl⟩ := hp5
  first | refine v_ifb_eq C 39 dX1_find_8 (by decide) (fun h8 => ?_) (fun h8 => ?_) | refine v_ifn_eq C 39 dX1_find_8 (by decide) (by omega) (fun h8 => ?_) (fun h8 => ?_) | refine v_if_eq C 39 dX1_find_8 (by decide) (fun h8 => ?_) (fun h8 => ?_)
  · skip
    refine v_iconst (v := -1) C dX1_find_39 (by decide) ?_
    refine v_iret C dX1_find_40 ?_
    have hn : kix l0 x = none := kix_no (fun c hc e => by
      have := hs5 (List.mem_map.mpr ⟨c, hc, e⟩)
      rw [h8] at this
      cases this)
    exact ⟨by rw [hn]; rfl, rfl⟩
  · skip
    refine v_iconst (v := nI 0) C dX1_find_11 (by decide) ?_
    refine v_istore_2 C dX1_find_12 (by decide) rfl ?_
    exact find_loop C (by omega) hc (fun h => ⟨by rw [h]; rfl, rfl⟩) (fun h => ⟨by rw [h]; rfl, rfl⟩) (l0.length + 1) 0 (by omega) (by omega) (fun j _ h => absurd h (Nat.not_lt_zero j))

def cTell (l : Ctr) (i what : Int32) : Int64 := if iin i l.length && iin what 3 then (match l[i.toInt.toNat]? with | none => -1 | some c => if what = nI 0 then lN c.1 else if what = nI 1 then lN c.2.1 else lN c.2.2) else -1
theorem cTell_out {l : Ctr} {i what : Int32} (h : iin i l.length = false) : cTell l i what = -1 := by unfold cTell; rw [h]; rfl
theorem cTell_what {l : Ctr} {i what : Int32} (h : ∀ k, k < 3 → what ≠ nI k) : cTell l i what = -1 := by
  unfold cTell
  by_cases e : iin what 3 = true
  · obtain ⟨k, h1, h2⟩ := iin_of e (by decide)
    exact absurd h2 (h k h1)
  · rw [Bool.eq_false_iff.mpr e, Bool.and_false]; rfl
theorem cTell_in {l : Ctr} {i k : Nat} {c : Nat × Nat × Nat} (h : l[i]? = some c) (hi : i < 2 ^ 31) (hk : k < 3) : cTell l (nI i) (nI k) = if nI k = nI 0 then lN c.1 else if nI k = nI 1 then lN c.2.1 else lN c.2.2 := by
  have hl := (List.getElem?_eq_some_iff.mp h).1
  unfold cTell
  rw [iin_nI hi, iin_nI (by omega), decide_eq_true hl, decide_eq_true hk, nI_toInt hi, Int.toNat_natCast, h]
  rfl

set_option maxHeartbeats 4000000 in
set_option maxRecDepth 100000 in
theorem c_Ctr_tell (l : Launch) (E : Ev) (z : Option Nat) {G : Gh} {b P lim : Nat} {l0 : Ctr} {i what : Int32} (hc : isCtr E G b P lim l0) : K_X1_tell l E z G [.ref (ga E b), .int i, .int what] (fun r G2 => r = cTell l0 i what ∧ G = G2) := by
  refine Fc.of rfl [some (.ref (ga E b)), some (.int i), some (.int what)] 0 rfl (Nat.le_of_ble_eq_true rfl) ?_
  intro M hM0 hini C
  subst hM0
  obtain ⟨fk, fn, fe, hb0, hb1, hb2, hb3, hks, hrep, hwf, hkp, hnd⟩ := id hc
  refine v_iload_n C dX1_tell_0 rfl ?_
  refine v_if_lt C 12 dX1_tell_1 (by decide) (fun h1 => ?_) (fun h1 => ?_)
  · skip
    refine v_ldc2 C tw814 dX1_tell_12 ?_
    refine v_lret C dX1_tell_15 ?_
    first
      | exact ⟨(cTell_out (iin_neg h1)).symm, rfl⟩
      | exact ⟨(cTell_out (iin_ge2 h9 (by omega))).symm, rfl⟩
  · skip
    refine v_iload_n C dX1_tell_4 rfl ?_
    refine v_aload_n C dX1_tell_5 rfl ?_
    refine gf_X1_35 C dX1_tell_6 (by assumption) ?_
    refine v_icmp_lt C 16 dX1_tell_9 (by decide) (fun h9 => ?_) (fun h9 => ?_)
    · skip
      obtain ⟨i, hi, rfl⟩ := iin_of (iin_yes2 (n := l0.length) h1 h9 (by omega)) (by omega)
      have hci : l0[i]? = some l0[i] := List.getElem?_eq_getElem hi
      have hck := hkp _ (List.mem_of_getElem? hci)
      refine v_iload_n C dX1_tell_16 rfl ?_
      refine v_tsw3 C 44 52 59 66 dX1_tell_17 (by decide) (by decide) (by decide) (by decide) (fun h17 => ?_) (fun h17 => ?_) (fun h17 => ?_) (fun h17 => ?_)
      · skip
        refine v_aload_n C dX1_tell_44 rfl ?_
        refine gf_X1_15 C dX1_tell_45 (by assumption) ?_
        refine v_iload_n C dX1_tell_48 rfl ?_
        refine v_iald C dX1_tell_49 (by assumption) (by omega) (by omega) (hrep i _ hci).1 ?_
        first | refine v_i2ln C dX1_tell_50 (by omega) ?_ | refine v_i2l C dX1_tell_50 rfl ?_
        refine v_lret C dX1_tell_51 ?_
        subst h17; exact ⟨(cTell_in (k := 0) hci (by omega) (by decide)).symm, rfl⟩
      · skip
        refine v_aload_n C dX1_tell_52 rfl ?_
        refine gf_X1_19 C dX1_tell_53 (by assumption) ?_
        refine v_iload_n C dX1_tell_56 rfl ?_
        refine v_lald C dX1_tell_57 (by assumption) (by omega) (by omega) (hrep i _ hci).2.1 ?_
        refine v_lret C dX1_tell_58 ?_
        subst h17; exact ⟨(cTell_in (k := 1) hci (by omega) (by decide)).symm, rfl⟩
      · skip
        refine v_aload_n C dX1_tell_59 rfl ?_
        refine gf_X1_23 C dX1_tell_60 (by assumption) ?_
        refine v_iload_n C dX1_tell_63 rfl ?_
        refine v_lald C dX1_tell_64 (by assumption) (by omega) (by omega) (hrep i _ hci).2.2 ?_
        refine v_lret C dX1_tell_65 ?_
        subst h17; exact ⟨(cTell_in (k := 2) hci (by omega) (by decide)).symm, rfl⟩
      · skip
        refine v_ldc2 C tw814 dX1_tell_66 ?_
        refine v_lret C dX1_tell_69 ?_
        exact ⟨(cTell_what h17).symm, rfl⟩
    · skip
      refine v_ldc2 C tw814 dX1_tell_12 ?_
      refine v_lret C dX1_tell_15 ?_
      first
        | exact ⟨(cTell_out (iin_neg h1)).symm, rfl⟩
        | exact ⟨(cTell_out (iin_ge2 h9 (by omega))).symm, rfl⟩

set_option maxHeartbeats 4000000 in
set_option maxRecDepth 100000 in
theorem c_Ctr_shift (l : Launch) (E : Ev) {G : Gh} {b lim n from_ to_ : Nat} {a4 : Value} {fk : Nat → Int32} {fn fe : Nat → Int64} (h1 : lim ≤ 64) (h2 : from_ ≤ n) (h3 : n ≤ 2 * lim) (h4 : to_ + (n - from_) ≤ 2 * lim) (hb0 : G b = cO 1 [.int (nI lim), .ref (ga E (b + 1)), .ref (ga E (b + 2)), .ref (ga E (b + 3)), a4, .int (nI n)]) (hb1 : G (b + 1) = cI E (2 * lim) fk) (hb2 : G (b + 2) = cJ E (2 * lim) fn) (hb3 : G (b + 3) = cJ E (2 * lim) fe) : K_X1_shift l E none G [.ref (ga E b), .int (nI from_), .int (nI to_)] (fun _ G2 => G2 b = cO 1 [.int (nI lim), .ref (ga E (b + 1)), .ref (ga E (b + 2)), .ref (ga E (b + 3)), a4, .int (nI n)] ∧ G2 (b + 1) = cI E (2 * lim) (va_cpy fk fk from_ to_ (n - from_)) ∧ G2 (b + 2) = cJ E (2 * lim) (va_cpy fn fn from_ to_ (n - from_)) ∧ G2 (b + 3) = cJ E (2 * lim) (va_cpy fe fe from_ to_ (n - from_)) ∧ ∀ j, (j < b + 1 ∨ b + 4 ≤ j) → G2 j = G j) := by
  refine Fc.of rfl [some (.ref (ga E b)), some (.int (nI from_)), some (.int (nI to_)), none] 1 rfl (Nat.le_of_ble_eq_true rfl) ?_
  intro M hM0 hini C
  subst hM0
  refine v_aload_n C dX1_shift_0 rfl ?_
  refine gf_X1_35 C dX1_shift_1 (by assumption) ?_
  refine v_iload_n C dX1_shift_4 rfl ?_
  first | refine v_isubn C dX1_shift_5 (by omega) ?_ | refine v_isub C dX1_shift_5 ?_
  refine v_istore_3 C dX1_shift_6 (by decide) rfl ?_
  refine v_aload_n C dX1_shift_7 rfl ?_
  refine gf_X1_15 C dX1_shift_8 (by assumption) ?_
  refine v_iload_n C dX1_shift_11 rfl ?_
  refine v_aload_n C dX1_shift_12 rfl ?_
  refine gf_X1_15 C dX1_shift_13 (by assumption) ?_
  refine v_iload_n C dX1_shift_16 rfl ?_
  refine v_iload_n C dX1_shift_17 rfl ?_
  refine v_cpyI C tw315 dX1_shift_18 hb1 hb1 (by omega) (by omega) (by omega) (by omega) (Nat.le_of_ble_eq_true rfl) (Nat.le_of_ble_eq_true rfl) (fun G hG18 hF18 => ?_)
  first | replace hb0 := (hF18 _ (by omega)).trans hb0 | replace hb0 := hG18 | skip
  first | replace hb1 := (hF18 _ (by omega)).trans hb1 | replace hb1 := hG18 | skip
  first | replace hb2 := (hF18 _ (by omega)).trans hb2 | replace hb2 := hG18 | skip
  first | replace hb3 := (hF18 _ (by omega)).trans hb3 | replace hb3 := hG18 | skip
  refine v_aload_n C dX1_shift_21 rfl ?_
  refine gf_X1_19 C dX1_shift_22 (by assumption) ?_
  refine v_iload_n C dX1_shift_25 rfl ?_
  refine v_aload_n C dX1_shift_26 rfl ?_
  refine gf_X1_19 C dX1_shift_27 (by assumption) ?_
  refine v_iload_n C dX1_shift_30 rfl ?_
  refine v_iload_n C dX1_shift_31 rfl ?_
  refine v_cpyJ C tw315 dX1_shift_32 hb2 hb2 (by omega) (by omega) (by omega) (by omega) (Nat.le_of_ble_eq_true rfl) (Nat.le_of_ble_eq_true rfl) (fun G hG32 hF32 => ?_)
  first | replace hb0 := (hF32 _ (by omega)).trans hb0 | replace hb0 := hG32 | skip
  first | replace hb1 := (hF32 _ (by omega)).trans hb1 | replace hb1 := hG32 | skip
  first | replace hb2 := (hF32 _ (by omega)).trans hb2 | replace hb2 := hG32 | skip
  first | replace hb3 := (hF32 _ (by omega)).trans hb3 | replace hb3 := hG32 | skip
  refine v_aload_n C dX1_shift_35 rfl ?_
  refine gf_X1_23 C dX1_shift_36 (by assumption) ?_
  refine v_iload_n C dX1_shift_39 rfl ?_
  refine v_aload_n C dX1_shift_40 rfl ?_
  refine gf_X1_23 C dX1_shift_41 (by assumption) ?_
  refine v_iload_n C dX1_shift_44 rfl ?_
  refine v_iload_n C dX1_shift_45 rfl ?_
  refine v_cpyJ C tw315 dX1_shift_46 hb3 hb3 (by omega) (by omega) (by omega) (by omega) (Nat.le_of_ble_eq_true rfl) (Nat.le_of_ble_eq_true rfl) (fun G hG46 hF46 => ?_)
  first | replace hb0 := (hF46 _ (by omega)).trans hb0 | replace hb0 := hG46 | skip
  first | replace hb1 := (hF46 _ (by omega)).trans hb1 | replace hb1 := hG46 | skip
  first | replace hb2 := (hF46 _ (by omega)).trans hb2 | replace hb2 := hG46 | skip
  first | replace hb3 := (hF46 _ (by omega)).trans hb3 | replace hb3 := hG46 | skip
  refine v_vret C dX1_shift_49 ?_
  exact ⟨hb0, hb1, hb2, hb3, fun j hj => by rw [hF46 j (by omega), hF32 j (by omega), hF18 j (by omega)]⟩

set_option maxHeartbeats 4000000 in
set_option maxRecDepth 100000 in
theorem c_Ctr_set (l : Launch) (E : Ev) (z : Option Nat) {G : Gh} {b lim n i : Nat} {a4 : Value} {fk : Nat → Int32} {fn fe : Nat → Int64} {x : Int32} {y e : Int64} (h1 : lim ≤ 64) (h2 : i < 2 * lim) (hb0 : G b = cO 1 [.int (nI lim), .ref (ga E (b + 1)), .ref (ga E (b + 2)), .ref (ga E (b + 3)), a4, .int (nI n)]) (hb1 : G (b + 1) = cI E (2 * lim) fk) (hb2 : G (b + 2) = cJ E (2 * lim) fn) (hb3 : G (b + 3) = cJ E (2 * lim) fe) : K_X1_set l E z G [.ref (ga E b), .int (nI i), .int x, .long y, .long e] (fun _ G2 => G2 b = cO 1 [.int (nI lim), .ref (ga E (b + 1)), .ref (ga E (b + 2)), .ref (ga E (b + 3)), a4, .int (nI n)] ∧ G2 (b + 1) = cI E (2 * lim) (fu fk i x) ∧ G2 (b + 2) = cJ E (2 * lim) (fu fn i y) ∧ G2 (b + 3) = cJ E (2 * lim) (fu fe i e) ∧ ∀ j, (j < b + 1 ∨ b + 4 ≤ j) → G2 j = G j) := by
  refine Fc.of rfl [some (.ref (ga E b)), some (.int (nI i)), some (.int x), some (.long y), none, some (.long e), none] 0 rfl (Nat.le_of_ble_eq_true rfl) ?_
  intro M hM0 hini C
  subst hM0
  refine v_aload_n C dX1_set_0 rfl ?_
  refine gf_X1_15 C dX1_set_1 (by assumption) ?_
  refine v_iload_n C dX1_set_4 rfl ?_
  refine v_iload_n C dX1_set_5 rfl ?_
  refine v_iast C dX1_set_6 (by assumption) (by omega) (by omega) (fun G hG6 hF6 => ?_)
  first | replace hb0 := (hF6 _ (by omega)).trans hb0 | replace hb0 := hG6 | skip
  first | replace hb1 := (hF6 _ (by omega)).trans hb1 | replace hb1 := hG6 | skip
  first | replace hb2 := (hF6 _ (by omega)).trans hb2 | replace hb2 := hG6 | skip
  first | replace hb3 := (hF6 _ (by omega)).trans hb3 | replace hb3 := hG6 | skip
  refine v_aload_n C dX1_set_7 rfl ?_
  refine gf_X1_19 C dX1_set_8 (by assumption) ?_
  refine v_iload_n C dX1_set_11 rfl ?_
  refine v_lload_n C dX1_set_12 rfl ?_
  refine v_last C dX1_set_13 (by assumption) (by omega) (by omega) (fun G hG13 hF13 => ?_)
  first | replace hb0 := (hF13 _ (by omega)).trans hb0 | replace hb0 := hG13 | skip
  first | replace hb1 := (hF13 _ (by omega)).trans hb1 | replace hb1 := hG13 | skip
  first | replace hb2 := (hF13 _ (by omega)).trans hb2 | replace hb2 := hG13 | skip
  first | replace hb3 := (hF13 _ (by omega)).trans hb3 | replace hb3 := hG13 | skip
  refine v_aload_n C dX1_set_14 rfl ?_
  refine gf_X1_23 C dX1_set_15 (by assumption) ?_
  refine v_iload_n C dX1_set_18 rfl ?_
  refine v_lload C dX1_set_19 rfl ?_
  refine v_last C dX1_set_21 (by assumption) (by omega) (by omega) (fun G hG21 hF21 => ?_)
  first | replace hb0 := (hF21 _ (by omega)).trans hb0 | replace hb0 := hG21 | skip
  first | replace hb1 := (hF21 _ (by omega)).trans hb1 | replace hb1 := hG21 | skip
  first | replace hb2 := (hF21 _ (by omega)).trans hb2 | replace hb2 := hG21 | skip
  first | replace hb3 := (hF21 _ (by omega)).trans hb3 | replace hb3 := hG21 | skip
  refine v_vret C dX1_set_22 ?_
  exact ⟨hb0, hb1, hb2, hb3, fun j hj => by rw [hF21 j (by omega), hF13 j (by omega), hF6 j (by omega)]⟩

theorem rep_ins {l : Ctr} {fk : Nat → Int32} {fn fe : Nat → Int64} (h : rep l fk fn fe) {i x y e : Nat} (hi : i ≤ l.length) : rep (l.insertIdx i (x, y, e)) (fu (va_cpy fk fk i (i + 1) (l.length - i)) i (nI x)) (fu (va_cpy fn fn i (i + 1) (l.length - i)) i (lN y)) (fu (va_cpy fe fe i (i + 1) (l.length - i)) i (lN e)) := by
  intro j c hj
  rw [List.getElem?_insertIdx] at hj
  by_cases h1 : j < i
  · rw [if_pos h1] at hj
    rw [fu_ne _ _ (by omega), fu_ne _ _ (by omega), fu_ne _ _ (by omega)]
    unfold va_cpy
    rw [if_neg (by omega), if_neg (by omega), if_neg (by omega)]
    exact h j c hj
  · rw [if_neg h1] at hj
    by_cases h2 : j = i
    · subst h2
      rw [if_pos rfl, if_pos hi] at hj
      cases hj
      rw [fu_self, fu_self, fu_self]
      exact ⟨rfl, rfl, rfl⟩
    · rw [if_neg h2] at hj
      have hl := (List.getElem?_eq_some_iff.mp hj).1
      rw [fu_ne _ _ h2, fu_ne _ _ h2, fu_ne _ _ h2]
      unfold va_cpy
      rw [if_pos (by omega), if_pos (by omega), if_pos (by omega), show i + (j - (i + 1)) = j - 1 by omega]
      exact h _ c hj
theorem mem_ins {l : Ctr} {i : Nat} {c d : Nat × Nat × Nat} (hi : i ≤ l.length) : d ∈ l.insertIdx i c ↔ d = c ∨ d ∈ l := List.mem_insertIdx hi
theorem cwf_ins {l : Ctr} {P lim i x y e : Nat} (h : cwf l P lim) (hi : i ≤ l.length) (hl : l.length < 2 * lim) (hx : x < P) (hn : ∀ c ∈ l, c.1 ≠ x) : cwf (l.insertIdx i (x, y, e)) P lim := by
  obtain ⟨h1, h2, h3⟩ := h
  refine ⟨⟨h1.1, h1.2.1, by rw [List.length_insertIdx_of_le_length hi]; omega, h1.2.2.2⟩, fun c hc => ?_, ?_⟩
  · rcases (mem_ins hi).mp hc with e | e
    · rw [e]; exact hx
    · exact h2 c e
  · have hp : (ckeys (l.insertIdx i (x, y, e))).Perm (x :: ckeys l) := by
      unfold ckeys
      exact (List.Perm.map _ (List.perm_insertIdx (x, y, e) l hi)).trans (by rw [List.map_cons])
    rw [hp.nodup_iff, List.nodup_cons]
    refine ⟨fun hm => ?_, h3⟩
    obtain ⟨c, hc, he⟩ := List.mem_map.mp hm
    exact hn c hc he

set_option maxHeartbeats 4000000 in
set_option maxRecDepth 100000 in
theorem c_Ctr_insert (l : Launch) (E : Ev) {G : Gh} {b P lim : Nat} {l0 : Ctr} {i x y e : Nat} (hi : i ≤ l0.length) (hl : l0.length < 2 * lim) (hx : x < P) (hn : ∀ c ∈ l0, c.1 ≠ x) (hc : isCtr E G b P lim l0) : K_X1_insert l E none G [.ref (ga E b), .int (nI i), .int (nI x), .long (lN y), .long (lN e)] (fun _ G2 => isCtr E G2 b P lim (l0.insertIdx i (x, y, e)) ∧ ∀ j, (j < b ∨ b + 6 ≤ j) → G2 j = G j) := by
  refine Fc.of rfl [some (.ref (ga E b)), some (.int (nI i)), some (.int (nI x)), some (.long (lN y)), none, some (.long (lN e)), none] 0 rfl (Nat.le_of_ble_eq_true rfl) ?_
  intro M hM0 hini C
  subst hM0
  obtain ⟨fk, fn, fe, hb0, hb1, hb2, hb3, hks, hrep, hwf, hkp, hnd⟩ := id hc
  refine v_iload_n C dX1_insert_0 rfl ?_
  first | refine v_ifn_lt C 24 dX1_insert_1 (by decide) (by omega) (fun h1 => by exfalso; first | omega | exact absurd h1 (by decide) | contradiction | simp_all) (fun h1 => ?_) | refine v_if_lt C 24 dX1_insert_1 (by decide) (fun h1 => by exfalso; first | omega | exact absurd h1 (by decide) | contradiction | simp_all) (fun h1 => ?_)
  refine v_iload_n C dX1_insert_4 rfl ?_
  refine v_aload_n C dX1_insert_5 rfl ?_
  refine gf_X1_35 C dX1_insert_6 (by assumption) ?_
  refine v_icmpn_gt C 24 dX1_insert_9 (by decide) (by omega) (by omega) (fun h9 => by exfalso; first | omega | exact absurd h9 (by decide) | contradiction | simp_all) (fun h9 => ?_)
  refine v_aload_n C dX1_insert_12 rfl ?_
  refine gf_X1_35 C dX1_insert_13 (by assumption) ?_
  refine v_aload_n C dX1_insert_16 rfl ?_
  refine gf_X1_15 C dX1_insert_17 (by assumption) ?_
  first | refine v_alen_cI C dX1_insert_20 (by assumption) ?_ | refine v_alen_cJ C dX1_insert_20 (by assumption) ?_
  refine v_icmpn_lt C 25 dX1_insert_21 (by decide) (by omega) (by omega) (fun h21 => ?_) (fun h21 => by exfalso; first | omega | exact absurd h21 (by decide) | contradiction | simp_all)
  refine v_aload_n C dX1_insert_25 rfl ?_
  refine v_iload_n C dX1_insert_26 rfl ?_
  refine v_iload_n C dX1_insert_27 rfl ?_
  refine v_iconst (v := nI 1) C dX1_insert_28 (by decide) ?_
  first | refine v_iaddn C dX1_insert_29 ?_ | refine v_iadd C dX1_insert_29 ?_
  refine mc_X1_48 C dX1_insert_30 (by assumption) (c_Ctr_shift _ E (by omega) (by omega) (by omega) (by omega) hb0 hb1 hb2 hb3) rfl (fun r30 G30 hp30 => ?_)
  obtain ⟨hb0, hb1, hb2, hb3, hfr30⟩ := hp30
  have hks := hks.keep (fun j a b => hfr30 j (by omega))
  refine v_aload_n C dX1_insert_33 rfl ?_
  refine v_iload_n C dX1_insert_34 rfl ?_
  refine v_iload_n C dX1_insert_35 rfl ?_
  refine v_lload_n C dX1_insert_36 rfl ?_
  refine v_lload C dX1_insert_37 rfl ?_
  refine mc_X1_52 C dX1_insert_39 (by assumption) (c_Ctr_set _ E none (by omega) (by omega) hb0 hb1 hb2 hb3) rfl (fun r39 G39 hp39 => ?_)
  obtain ⟨hb0, hb1, hb2, hb3, hfr39⟩ := hp39
  have hks := hks.keep (fun j a b => hfr39 j (by omega))
  refine v_aload_n C dX1_insert_42 rfl ?_
  refine v_dup C dX1_insert_43 rfl ?_
  refine gf_X1_35 C dX1_insert_44 (by assumption) ?_
  refine v_iconst (v := nI 1) C dX1_insert_47 (by decide) ?_
  first | refine v_iaddn C dX1_insert_48 ?_ | refine v_iadd C dX1_insert_48 ?_
  refine pf_X1_35 C dX1_insert_49 (by assumption) (fun G hG49 hF49 => ?_)
  first | replace hb0 := (hF49 _ (by omega)).trans hb0 | replace hb0 := hG49 | skip
  first | replace hb1 := (hF49 _ (by omega)).trans hb1 | replace hb1 := hG49 | skip
  first | replace hb2 := (hF49 _ (by omega)).trans hb2 | replace hb2 := hG49 | skip
  first | replace hb3 := (hF49 _ (by omega)).trans hb3 | replace hb3 := hG49 | skip
  have hks := hks.keep (fun j a b => hF49 j (by omega))
  refine v_aload_n C dX1_insert_52 rfl ?_
  refine gf_X1_31 C dX1_insert_53 (by assumption) ?_
  refine v_iload_n C dX1_insert_56 rfl ?_
  refine mc_X1_55 C dX1_insert_57 (hks.rc) (c_KS_put _ E none (by omega) hx hks) rfl (fun r57 G57 hp57 => ?_)
  obtain ⟨hks, hfr57⟩ := hp57
  refine v_vret C dX1_insert_60 ?_
  refine ⟨⟨_, _, _, ?_, (hfr57 _ (by omega)).trans hb1, (hfr57 _ (by omega)).trans hb2, (hfr57 _ (by omega)).trans hb3, hks.sub (fun k hk => ?_), rep_ins hrep hi, cwf_ins ⟨hwf, hkp, hnd⟩ hi hl hx hn⟩, fun j hj => ?_⟩
  · rw [hfr57 _ (by omega), List.length_insertIdx_of_le_length hi]; exact hb0
  · obtain ⟨c, hc, he⟩ := List.mem_map.mp hk
    rcases (mem_ins hi).mp hc with e | e
    · rw [e] at he; exact Or.inr he.symm
    · exact Or.inl (List.mem_map.mpr ⟨c, e, he⟩)
  · rw [hfr57 j (by omega), hF49 j (by omega), hfr39 j (by omega), hfr30 j (by omega)]

set_option maxHeartbeats 4000000 in
set_option maxRecDepth 100000 in
theorem c_Ctr_append (l : Launch) (E : Ev) {G : Gh} {b P lim : Nat} {l0 : Ctr} {x y e : Nat} (hl : l0.length < 2 * lim) (hx : x < P) (hn : ∀ c ∈ l0, c.1 ≠ x) (hc : isCtr E G b P lim l0) : K_X1_append l E none G [.ref (ga E b), .int (nI x), .long (lN y), .long (lN e)] (fun _ G2 => isCtr E G2 b P lim (l0 ++ [(x, y, e)]) ∧ ∀ j, (j < b ∨ b + 6 ≤ j) → G2 j = G j) := by
  refine Fc.of rfl [some (.ref (ga E b)), some (.int (nI x)), some (.long (lN y)), none, some (.long (lN e)), none] 0 rfl (Nat.le_of_ble_eq_true rfl) ?_
  intro M hM0 hini C
  subst hM0
  obtain ⟨fk, fn, fe, hb0, hb1, hb2, hb3, hks, hrep, hwf, hkp, hnd⟩ := id hc
  refine v_aload_n C dX1_append_0 rfl ?_
  refine v_aload_n C dX1_append_1 rfl ?_
  refine gf_X1_35 C dX1_append_2 (by assumption) ?_
  refine v_iload_n C dX1_append_5 rfl ?_
  refine v_lload_n C dX1_append_6 rfl ?_
  refine v_lload C dX1_append_7 rfl ?_
  refine mc_X1_44 C dX1_append_9 (by assumption) (c_Ctr_insert _ E (Nat.le_refl _) hl hx hn hc) rfl (fun r9 G9 hp9 => ?_)
  obtain ⟨h1, h2⟩ := hp9
  refine v_vret C dX1_append_12 ?_
  exact ⟨by rw [← List.insertIdx_length_self]; exact h1, h2⟩

