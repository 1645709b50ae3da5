section SW
variable {M : Mx} {E : Ev} {own : String} {cc : ByteArray} {nL : Nat} {ret : Option FieldType} {FR LO MC MS : Nat} {Q : State → Prop} {z : Option Nat} {cells slots : Nat} {G : Gh} {pc : Nat} {lo : List (Option Value)} {st : List Value}
theorem v_tsw3 (C : Cx M E own cc nL ret FR LO MC MS) {dflt o0 o1 o2 : Int} {len : Nat} {x : Int32} (t0 t1 t2 td : Nat) (hd : decode cc pc = .ok (.tableswitch dflt 0 2 #[o0, o1, o2], len)) (e0 : (pc : Int) + o0 = (t0 : Int)) (e1 : (pc : Int) + o1 = (t1 : Int)) (e2 : (pc : Int) + o2 = (t2 : Int)) (ed : (pc : Int) + dflt = (td : Int)) (k0 : x = nI 0 → V M E nL Q z cells slots G t0 lo st) (k1 : x = nI 1 → V M E nL Q z cells slots G t1 lo st) (k2 : x = nI 2 → V M E nL Q z cells slots G t2 lo st) (kd : (∀ i, i < 3 → x ≠ nI i) → V M E nL Q z cells slots G td lo st) : V M E nL Q z cells slots G pc lo (.int x :: st) := by
  intro H locs ls a b c d
  by_cases h : x.toInt < 0 ∨ 2 < x.toInt
  · exact lv_tableOut C.1 C.2.1 hd h ed (kd (fun i hi e => by rw [e, nI_toInt (by omega)] at h; omega) H locs ls a b c d)
  · have h2 : x.toInt = 0 ∨ x.toInt = 1 ∨ x.toInt = 2 := by omega
    rcases h2 with h2 | h2 | h2
    · exact lv_tableIn C.1 C.2.1 hd (by omega) (by omega) (by rw [h2]; rfl) e0 (k0 (Int32.toInt_inj.mp (by rw [h2]; rfl)) H locs ls a b c d)
    · exact lv_tableIn C.1 C.2.1 hd (by omega) (by omega) (by rw [h2]; rfl) e1 (k1 (Int32.toInt_inj.mp (by rw [h2]; rfl)) H locs ls a b c d)
    · exact lv_tableIn C.1 C.2.1 hd (by omega) (by omega) (by rw [h2]; rfl) e2 (k2 (Int32.toInt_inj.mp (by rw [h2]; rfl)) H locs ls a b c d)

theorem v_tsw4 (C : Cx M E own cc nL ret FR LO MC MS) {dflt o0 o1 o2 o3 : Int} {len : Nat} {x : Int32} (t0 t1 t2 t3 td : Nat) (hd : decode cc pc = .ok (.tableswitch dflt 0 3 #[o0, o1, o2, o3], len)) (e0 : (pc : Int) + o0 = (t0 : Int)) (e1 : (pc : Int) + o1 = (t1 : Int)) (e2 : (pc : Int) + o2 = (t2 : Int)) (e3 : (pc : Int) + o3 = (t3 : Int)) (ed : (pc : Int) + dflt = (td : Int)) (k0 : x = nI 0 → V M E nL Q z cells slots G t0 lo st) (k1 : x = nI 1 → V M E nL Q z cells slots G t1 lo st) (k2 : x = nI 2 → V M E nL Q z cells slots G t2 lo st) (k3 : x = nI 3 → V M E nL Q z cells slots G t3 lo st) (kd : (∀ i, i < 4 → x ≠ nI i) → V M E nL Q z cells slots G td lo st) : V M E nL Q z cells slots G pc lo (.int x :: st) := by
  intro H locs ls a b c d
  by_cases h : x.toInt < 0 ∨ 3 < x.toInt
  · exact lv_tableOut C.1 C.2.1 hd h ed (kd (fun i hi e => by rw [e, nI_toInt (by omega)] at h; omega) H locs ls a b c d)
  · have h2 : x.toInt = 0 ∨ x.toInt = 1 ∨ x.toInt = 2 ∨ x.toInt = 3 := by omega
    rcases h2 with h2 | h2 | h2 | h2
    · exact lv_tableIn C.1 C.2.1 hd (by omega) (by omega) (by rw [h2]; rfl) e0 (k0 (Int32.toInt_inj.mp (by rw [h2]; rfl)) H locs ls a b c d)
    · exact lv_tableIn C.1 C.2.1 hd (by omega) (by omega) (by rw [h2]; rfl) e1 (k1 (Int32.toInt_inj.mp (by rw [h2]; rfl)) H locs ls a b c d)
    · exact lv_tableIn C.1 C.2.1 hd (by omega) (by omega) (by rw [h2]; rfl) e2 (k2 (Int32.toInt_inj.mp (by rw [h2]; rfl)) H locs ls a b c d)
    · exact lv_tableIn C.1 C.2.1 hd (by omega) (by omega) (by rw [h2]; rfl) e3 (k3 (Int32.toInt_inj.mp (by rw [h2]; rfl)) H locs ls a b c d)

theorem v_tsw5 (C : Cx M E own cc nL ret FR LO MC MS) {dflt o0 o1 o2 o3 o4 : Int} {len : Nat} {x : Int32} (t0 t1 t2 t3 t4 td : Nat) (hd : decode cc pc = .ok (.tableswitch dflt 0 4 #[o0, o1, o2, o3, o4], len)) (e0 : (pc : Int) + o0 = (t0 : Int)) (e1 : (pc : Int) + o1 = (t1 : Int)) (e2 : (pc : Int) + o2 = (t2 : Int)) (e3 : (pc : Int) + o3 = (t3 : Int)) (e4 : (pc : Int) + o4 = (t4 : Int)) (ed : (pc : Int) + dflt = (td : Int)) (k0 : x = nI 0 → V M E nL Q z cells slots G t0 lo st) (k1 : x = nI 1 → V M E nL Q z cells slots G t1 lo st) (k2 : x = nI 2 → V M E nL Q z cells slots G t2 lo st) (k3 : x = nI 3 → V M E nL Q z cells slots G t3 lo st) (k4 : x = nI 4 → V M E nL Q z cells slots G t4 lo st) (kd : (∀ i, i < 5 → x ≠ nI i) → V M E nL Q z cells slots G td lo st) : V M E nL Q z cells slots G pc lo (.int x :: st) := by
  intro H locs ls a b c d
  by_cases h : x.toInt < 0 ∨ 4 < x.toInt
  · exact lv_tableOut C.1 C.2.1 hd h ed (kd (fun i hi e => by rw [e, nI_toInt (by omega)] at h; omega) H locs ls a b c d)
  · have h2 : x.toInt = 0 ∨ x.toInt = 1 ∨ x.toInt = 2 ∨ x.toInt = 3 ∨ x.toInt = 4 := by omega
    rcases h2 with h2 | h2 | h2 | h2 | h2
    · exact lv_tableIn C.1 C.2.1 hd (by omega) (by omega) (by rw [h2]; rfl) e0 (k0 (Int32.toInt_inj.mp (by rw [h2]; rfl)) H locs ls a b c d)
    · exact lv_tableIn C.1 C.2.1 hd (by omega) (by omega) (by rw [h2]; rfl) e1 (k1 (Int32.toInt_inj.mp (by rw [h2]; rfl)) H locs ls a b c d)
    · exact lv_tableIn C.1 C.2.1 hd (by omega) (by omega) (by rw [h2]; rfl) e2 (k2 (Int32.toInt_inj.mp (by rw [h2]; rfl)) H locs ls a b c d)
    · exact lv_tableIn C.1 C.2.1 hd (by omega) (by omega) (by rw [h2]; rfl) e3 (k3 (Int32.toInt_inj.mp (by rw [h2]; rfl)) H locs ls a b c d)
    · exact lv_tableIn C.1 C.2.1 hd (by omega) (by omega) (by rw [h2]; rfl) e4 (k4 (Int32.toInt_inj.mp (by rw [h2]; rfl)) H locs ls a b c d)

theorem v_tsw17 (C : Cx M E own cc nL ret FR LO MC MS) {dflt o0 o1 o2 o3 o4 o5 o6 o7 o8 o9 o10 o11 o12 o13 o14 o15 o16 : Int} {len : Nat} {x : Int32} (t0 t1 t2 t3 t4 t5 t6 t7 t8 t9 t10 t11 t12 t13 t14 t15 t16 td : Nat) (hd : decode cc pc = .ok (.tableswitch dflt 0 16 #[o0, o1, o2, o3, o4, o5, o6, o7, o8, o9, o10, o11, o12, o13, o14, o15, o16], len)) (e0 : (pc : Int) + o0 = (t0 : Int)) (e1 : (pc : Int) + o1 = (t1 : Int)) (e2 : (pc : Int) + o2 = (t2 : Int)) (e3 : (pc : Int) + o3 = (t3 : Int)) (e4 : (pc : Int) + o4 = (t4 : Int)) (e5 : (pc : Int) + o5 = (t5 : Int)) (e6 : (pc : Int) + o6 = (t6 : Int)) (e7 : (pc : Int) + o7 = (t7 : Int)) (e8 : (pc : Int) + o8 = (t8 : Int)) (e9 : (pc : Int) + o9 = (t9 : Int)) (e10 : (pc : Int) + o10 = (t10 : Int)) (e11 : (pc : Int) + o11 = (t11 : Int)) (e12 : (pc : Int) + o12 = (t12 : Int)) (e13 : (pc : Int) + o13 = (t13 : Int)) (e14 : (pc : Int) + o14 = (t14 : Int)) (e15 : (pc : Int) + o15 = (t15 : Int)) (e16 : (pc : Int) + o16 = (t16 : Int)) (ed : (pc : Int) + dflt = (td : Int)) (k0 : x = nI 0 → V M E nL Q z cells slots G t0 lo st) (k1 : x = nI 1 → V M E nL Q z cells slots G t1 lo st) (k2 : x = nI 2 → V M E nL Q z cells slots G t2 lo st) (k3 : x = nI 3 → V M E nL Q z cells slots G t3 lo st) (k4 : x = nI 4 → V M E nL Q z cells slots G t4 lo st) (k5 : x = nI 5 → V M E nL Q z cells slots G t5 lo st) (k6 : x = nI 6 → V M E nL Q z cells slots G t6 lo st) (k7 : x = nI 7 → V M E nL Q z cells slots G t7 lo st) (k8 : x = nI 8 → V M E nL Q z cells slots G t8 lo st) (k9 : x = nI 9 → V M E nL Q z cells slots G t9 lo st) (k10 : x = nI 10 → V M E nL Q z cells slots G t10 lo st) (k11 : x = nI 11 → V M E nL Q z cells slots G t11 lo st) (k12 : x = nI 12 → V M E nL Q z cells slots G t12 lo st) (k13 : x = nI 13 → V M E nL Q z cells slots G t13 lo st) (k14 : x = nI 14 → V M E nL Q z cells slots G t14 lo st) (k15 : x = nI 15 → V M E nL Q z cells slots G t15 lo st) (k16 : x = nI 16 → V M E nL Q z cells slots G t16 lo st) (kd : (∀ i, i < 17 → x ≠ nI i) → V M E nL Q z cells slots G td lo st) : V M E nL Q z cells slots G pc lo (.int x :: st) := by
  intro H locs ls a b c d
  by_cases h : x.toInt < 0 ∨ 16 < x.toInt
  · exact lv_tableOut C.1 C.2.1 hd h ed (kd (fun i hi e => by rw [e, nI_toInt (by omega)] at h; omega) H locs ls a b c d)
  · have h2 : x.toInt = 0 ∨ x.toInt = 1 ∨ x.toInt = 2 ∨ x.toInt = 3 ∨ x.toInt = 4 ∨ x.toInt = 5 ∨ x.toInt = 6 ∨ x.toInt = 7 ∨ x.toInt = 8 ∨ x.toInt = 9 ∨ x.toInt = 10 ∨ x.toInt = 11 ∨ x.toInt = 12 ∨ x.toInt = 13 ∨ x.toInt = 14 ∨ x.toInt = 15 ∨ x.toInt = 16 := by omega
    rcases h2 with h2 | h2 | h2 | h2 | h2 | h2 | h2 | h2 | h2 | h2 | h2 | h2 | h2 | h2 | h2 | h2 | h2
    · exact lv_tableIn C.1 C.2.1 hd (by omega) (by omega) (by rw [h2]; rfl) e0 (k0 (Int32.toInt_inj.mp (by rw [h2]; rfl)) H locs ls a b c d)
    · exact lv_tableIn C.1 C.2.1 hd (by omega) (by omega) (by rw [h2]; rfl) e1 (k1 (Int32.toInt_inj.mp (by rw [h2]; rfl)) H locs ls a b c d)
    · exact lv_tableIn C.1 C.2.1 hd (by omega) (by omega) (by rw [h2]; rfl) e2 (k2 (Int32.toInt_inj.mp (by rw [h2]; rfl)) H locs ls a b c d)
    · exact lv_tableIn C.1 C.2.1 hd (by omega) (by omega) (by rw [h2]; rfl) e3 (k3 (Int32.toInt_inj.mp (by rw [h2]; rfl)) H locs ls a b c d)
    · exact lv_tableIn C.1 C.2.1 hd (by omega) (by omega) (by rw [h2]; rfl) e4 (k4 (Int32.toInt_inj.mp (by rw [h2]; rfl)) H locs ls a b c d)
    · exact lv_tableIn C.1 C.2.1 hd (by omega) (by omega) (by rw [h2]; rfl) e5 (k5 (Int32.toInt_inj.mp (by rw [h2]; rfl)) H locs ls a b c d)
    · exact lv_tableIn C.1 C.2.1 hd (by omega) (by omega) (by rw [h2]; rfl) e6 (k6 (Int32.toInt_inj.mp (by rw [h2]; rfl)) H locs ls a b c d)
    · exact lv_tableIn C.1 C.2.1 hd (by omega) (by omega) (by rw [h2]; rfl) e7 (k7 (Int32.toInt_inj.mp (by rw [h2]; rfl)) H locs ls a b c d)
    · exact lv_tableIn C.1 C.2.1 hd (by omega) (by omega) (by rw [h2]; rfl) e8 (k8 (Int32.toInt_inj.mp (by rw [h2]; rfl)) H locs ls a b c d)
    · exact lv_tableIn C.1 C.2.1 hd (by omega) (by omega) (by rw [h2]; rfl) e9 (k9 (Int32.toInt_inj.mp (by rw [h2]; rfl)) H locs ls a b c d)
    · exact lv_tableIn C.1 C.2.1 hd (by omega) (by omega) (by rw [h2]; rfl) e10 (k10 (Int32.toInt_inj.mp (by rw [h2]; rfl)) H locs ls a b c d)
    · exact lv_tableIn C.1 C.2.1 hd (by omega) (by omega) (by rw [h2]; rfl) e11 (k11 (Int32.toInt_inj.mp (by rw [h2]; rfl)) H locs ls a b c d)
    · exact lv_tableIn C.1 C.2.1 hd (by omega) (by omega) (by rw [h2]; rfl) e12 (k12 (Int32.toInt_inj.mp (by rw [h2]; rfl)) H locs ls a b c d)
    · exact lv_tableIn C.1 C.2.1 hd (by omega) (by omega) (by rw [h2]; rfl) e13 (k13 (Int32.toInt_inj.mp (by rw [h2]; rfl)) H locs ls a b c d)
    · exact lv_tableIn C.1 C.2.1 hd (by omega) (by omega) (by rw [h2]; rfl) e14 (k14 (Int32.toInt_inj.mp (by rw [h2]; rfl)) H locs ls a b c d)
    · exact lv_tableIn C.1 C.2.1 hd (by omega) (by omega) (by rw [h2]; rfl) e15 (k15 (Int32.toInt_inj.mp (by rw [h2]; rfl)) H locs ls a b c d)
    · exact lv_tableIn C.1 C.2.1 hd (by omega) (by omega) (by rw [h2]; rfl) e16 (k16 (Int32.toInt_inj.mp (by rw [h2]; rfl)) H locs ls a b c d)

theorem v_lsw2 (C : Cx M E own cc nL ret FR LO MC MS) {dflt o0 o1 b0 b1 : Int} {len : Nat} {x : Int32} (a0 a1 : Nat) (t0 t1 td : Nat) (hd : decode cc pc = .ok (.lookupswitch dflt #[(b0, o0), (b1, o1)], len)) (hs : b0 = (a0 : Int) ∧ b1 = (a1 : Int) ∧ a0 < a1 ∧ a1 < 1000) (e0 : (pc : Int) + o0 = (t0 : Int)) (e1 : (pc : Int) + o1 = (t1 : Int)) (ed : (pc : Int) + dflt = (td : Int)) (k0 : x = nI a0 → V M E nL Q z cells slots G t0 lo st) (k1 : x = nI a1 → V M E nL Q z cells slots G t1 lo st) (kd : x ≠ nI a0 ∧ x ≠ nI a1 → V M E nL Q z cells slots G td lo st) : V M E nL Q z cells slots G pc lo (.int x :: st) := by
  intro H locs ls a b c d
  obtain ⟨rfl, rfl, h3, h4⟩ := hs
  have hp : ((#[((a0 : Int), o0), ((a1 : Int), o1)] : Array (Int × Int)).toList.zip ((#[((a0 : Int), o0), ((a1 : Int), o1)] : Array (Int × Int)).toList.drop 1)).all (fun (a, next) => a.1 < next.1) = true := by
    simp; omega
  have i0 : (nI a0).toInt = (a0 : Int) := nI_toInt (by omega)
  have i1 : (nI a1).toInt = (a1 : Int) := nI_toInt (by omega)
  by_cases h0 : x = nI a0
  · refine lv_lookup C.1 C.2.1 hd hp (off := o0) ?_ e0 (k0 h0 H locs ls a b c d)
    rw [h0, i0]; simp [Op.lookupswitch.offset]
  · by_cases h1 : x = nI a1
    · refine lv_lookup C.1 C.2.1 hd hp (off := o1) ?_ e1 (k1 h1 H locs ls a b c d)
      rw [show (#[((a0 : Int), o0), ((a1 : Int), o1)] : Array (Int × Int)).toList = [((a0 : Int), o0), ((a1 : Int), o1)] from rfl, lv_osw h0 i0, h1, i1]
      simp [Op.lookupswitch.offset]
    · refine lv_lookup C.1 C.2.1 hd hp (off := dflt) ?_ ed (kd ⟨h0, h1⟩ H locs ls a b c d)
      rw [show (#[((a0 : Int), o0), ((a1 : Int), o1)] : Array (Int × Int)).toList = [((a0 : Int), o0), ((a1 : Int), o1)] from rfl, lv_osw h0 i0, lv_osw h1 i1]
      simp [Op.lookupswitch.offset]
end SW

def iin (x : Int32) (n : Nat) : Bool := decide (0 ≤ x.toInt ∧ x.toInt < (n : Int))
theorem iin_of {x : Int32} {n : Nat} (h : iin x n = true) (hn : n < 2 ^ 31) : ∃ k, k < n ∧ x = nI k := by
  unfold iin at h
  have h := of_decide_eq_true h
  refine ⟨x.toInt.toNat, by omega, Int32.toInt_inj.mp ?_⟩
  rw [nI_toInt (by omega)]
  omega
theorem iin_nI {k n : Nat} (hk : k < 2 ^ 31) : iin (nI k) n = decide (k < n) := by
  unfold iin
  rw [nI_toInt hk]
  by_cases h : k < n
  · rw [decide_eq_true h]; simp; omega
  · rw [decide_eq_false h]; simp; omega
theorem iin_neg {x : Int32} {n : Nat} (h : x < 0) : iin x n = false := by
  unfold iin
  rw [Int32.lt_iff_toInt_lt, Int32.toInt_zero] at h
  simp; omega
theorem iin_ge {x : Int32} {n : Nat} (h : nI n ≤ x) (hn : n < 2 ^ 31) : iin x n = false := by
  unfold iin
  rw [Int32.le_iff_toInt_le, nI_toInt hn] at h
  simp; omega
theorem iin_yes {x : Int32} {n : Nat} (h0 : ¬ x < 0) (h : ¬ nI n ≤ x) (hn : n < 2 ^ 31) : iin x n = true := by
  unfold iin
  rw [Int32.le_iff_toInt_le, nI_toInt hn] at h
  rw [Int32.lt_iff_toInt_lt, Int32.toInt_zero] at h0
  simp; omega
theorem iin_yes2 {x : Int32} {n : Nat} (h0 : ¬ x < 0) (h : x < nI n) (hn : n < 2 ^ 31) : iin x n = true := by
  unfold iin
  rw [Int32.lt_iff_toInt_lt, nI_toInt hn] at h
  rw [Int32.lt_iff_toInt_lt, Int32.toInt_zero] at h0
  simp; omega
theorem iin_ge2 {x : Int32} {n : Nat} (h : ¬ x < nI n) (hn : n < 2 ^ 31) : iin x n = false := by
  unfold iin
  rw [Int32.lt_iff_toInt_lt, nI_toInt hn] at h
  simp; omega

