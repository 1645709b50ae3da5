theorem lN_toInt63 {n : Nat} (h : n < 2 ^ 63) : (lN n).toInt = (n : Int) := lg_ofNat_toInt (by omega)
theorem lN_lt63 {a b : Nat} (ha : a < 2 ^ 63) (hb : b < 2 ^ 63) : lN a < lN b ↔ a < b := by
  rw [Int64.lt_iff_toInt_lt, lN_toInt63 ha, lN_toInt63 hb]; omega
theorem lN_le63 {a b : Nat} (ha : a < 2 ^ 63) (hb : b < 2 ^ 63) : lN a ≤ lN b ↔ a ≤ b := by
  rw [Int64.le_iff_toInt_le, lN_toInt63 ha, lN_toInt63 hb]; omega
theorem lN_eq63 {a b : Nat} (ha : a < 2 ^ 63) (hb : b < 2 ^ 63) : lN a = lN b ↔ a = b := by
  rw [← Int64.toInt_inj, lN_toInt63 ha, lN_toInt63 hb]; omega
theorem nI_sub {a b : Nat} (h : b ≤ a) : nI a - nI b = nI (a - b) := by
  have : nI a = nI (a - b) + nI b := by rw [nI_add, Nat.sub_add_cancel h]
  rw [this, Int32.add_sub_cancel]
theorem nI_mul (a b : Nat) : nI a * nI b = nI (a * b) := (Int32.ofNat_mul a b).symm
theorem nI_div {a b : Nat} (ha : a < 2 ^ 31) (hb : b < 2 ^ 31) : nI a / nI b = nI (a / b) := by
  apply Int32.toInt_inj.mp
  have h1 : a / b < 2 ^ 31 := Nat.lt_of_le_of_lt (Nat.div_le_self a b) ha
  rw [nI_toInt h1, Int32.toInt_div, nI_toInt ha, nI_toInt hb, ← Int.ofNat_tdiv]
  generalize a / b = q at h1 ⊢
  rw [Int.bmod_eq_of_le] <;> omega
theorem lN_div {a b : Nat} (ha : a < 2 ^ 63) (hb : b < 2 ^ 63) : lN a / lN b = lN (a / b) := by
  apply Int64.toInt_inj.mp
  have h1 : a / b < 2 ^ 63 := Nat.lt_of_le_of_lt (Nat.div_le_self a b) ha
  rw [lN_toInt63 h1, Int64.toInt_div, lN_toInt63 ha, lN_toInt63 hb, ← Int.ofNat_tdiv]
  generalize a / b = q at h1 ⊢
  rw [Int.bmod_eq_of_le] <;> omega
theorem nI_rem {a b : Nat} (ha : a < 2 ^ 31) (hb : b < 2 ^ 31) : nI a - nI a / nI b * nI b = nI (a % b) := by
  have e : a / b * b ≤ a := Nat.div_mul_le_self a b
  rw [nI_div ha hb, nI_mul, nI_sub e]
  congr 1
  have := Nat.div_add_mod a b
  rw [Nat.mul_comm] at this
  omega
theorem lN_rem {a b : Nat} (ha : a < 2 ^ 63) (hb : b < 2 ^ 63) : lN a - lN a / lN b * lN b = lN (a % b) := by
  have e : a / b * b ≤ a := Nat.div_mul_le_self a b
  rw [lN_div ha hb, lN_mul, lN_sub e]
  congr 1
  have := Nat.div_add_mod a b
  rw [Nat.mul_comm] at this
  omega
theorem lN_ne0 {n : Nat} (h0 : 0 < n) (h : n < 2 ^ 63) : ¬ lN n = 0 := fun q => by
  have := (lN_eq63 h (b := 0) (by decide)).mp q
  omega
def fu {α : Type} (f : Nat → α) (k : Nat) (x : α) : Nat → α := fun j => if j = k then x else f j
theorem fu_self {α : Type} (f : Nat → α) (k : Nat) (x : α) : fu f k x k = x := if_pos rfl
theorem fu_ne {α : Type} (f : Nat → α) {k j : Nat} (x : α) (h : j ≠ k) : fu f k x j = f j := if_neg h
theorem lg_eq (x y : Int64) : (lg_cmp x y = 0) ↔ x = y := by
  unfold lg_cmp
  simp only [gt_iff_lt, Int64.lt_iff_toInt_lt, ← Int64.toInt_inj]
  repeat' split
  all_goals (constructor <;> intro hh <;> first | omega | decide | exact absurd hh (by decide))
theorem lg_gt (x y : Int64) : (0 < lg_cmp x y) ↔ y < x := by
  unfold lg_cmp
  simp only [gt_iff_lt, Int64.lt_iff_toInt_lt, ← Int64.toInt_inj]
  repeat' split
  all_goals (constructor <;> intro hh <;> first | omega | decide | exact absurd hh (by decide))
theorem lg_lt (x y : Int64) : (lg_cmp x y < 0) ↔ x < y := by
  unfold lg_cmp
  simp only [gt_iff_lt, Int64.lt_iff_toInt_lt, ← Int64.toInt_inj]
  repeat' split
  all_goals (constructor <;> intro hh <;> first | omega | decide | exact absurd hh (by decide))

section VR2
variable {M : Mx} {E : Ev} {own : String} {cc : ByteArray} {nL : Nat} {ret : Option FieldType} {FR LO MC MS : Nat} {Q : State → Prop} {z : Option Nat} {cells slots : Nat} {G : Gh} {pc : Nat} {lo : List (Option Value)} {st : List Value}
theorem v_icmp_eq (C : Cx M E own cc nL ret FR LO MC MS) {x y : Int32} {off : Int} (tgt : Nat) (hd : decode cc pc = .ok (.if_icmp .eq off, 3)) (ht : (pc : Int) + off = (tgt : Int)) (k1 : x = y → V M E nL Q z cells slots G tgt lo st) (k2 : ¬ x = y → V M E nL Q z cells slots G (pc + 3) lo st) : V M E nL Q z cells slots G pc lo (.int y :: .int x :: st) := fun H locs ls a b c d => lv_icmp_eq C.1 C.2.1 hd ht (fun h => k1 h H locs ls a b c d) (fun h => k2 h H locs ls a b c d)
theorem v_if_eq (C : Cx M E own cc nL ret FR LO MC MS) {x : Int32} {off : Int} (tgt : Nat) (hd : decode cc pc = .ok (.ifCond .eq off, 3)) (ht : (pc : Int) + off = (tgt : Int)) (k1 : x = 0 → V M E nL Q z cells slots G tgt lo st) (k2 : ¬ x = 0 → V M E nL Q z cells slots G (pc + 3) lo st) : V M E nL Q z cells slots G pc lo (.int x :: st) := fun H locs ls a b c d => lv_if_eq C.1 C.2.1 hd ht (fun h => k1 h H locs ls a b c d) (fun h => k2 h H locs ls a b c d)
theorem v_icmpn_eq (C : Cx M E own cc nL ret FR LO MC MS) {x y : Nat} {off : Int} (tgt : Nat) (hd : decode cc pc = .ok (.if_icmp .eq off, 3)) (ht : (pc : Int) + off = (tgt : Int)) (hx : x < 2 ^ 31) (hy : y < 2 ^ 31) (k1 : x = y → V M E nL Q z cells slots G tgt lo st) (k2 : x ≠ y → V M E nL Q z cells slots G (pc + 3) lo st) : V M E nL Q z cells slots G pc lo (.int (nI y) :: .int (nI x) :: st) := v_icmp_eq C tgt hd ht (fun h => k1 ((nI_eq hx hy).mp h)) (fun h => k2 (by have h9 := mt (nI_eq hx hy).mpr h; omega))
theorem v_ifn_eq (C : Cx M E own cc nL ret FR LO MC MS) {x : Nat} {off : Int} (tgt : Nat) (hd : decode cc pc = .ok (.ifCond .eq off, 3)) (ht : (pc : Int) + off = (tgt : Int)) (hx : x < 2 ^ 31) (k1 : x = 0 → V M E nL Q z cells slots G tgt lo st) (k2 : x ≠ 0 → V M E nL Q z cells slots G (pc + 3) lo st) : V M E nL Q z cells slots G pc lo (.int (nI x) :: st) := by
  have hy : 0 < 2 ^ 31 := by decide
  exact v_if_eq C tgt hd ht (fun h => k1 ((nI_eq hx hy).mp h)) (fun h => k2 (by have h9 := mt (nI_eq hx hy).mpr h; omega))
theorem v_lcmp_eq (C : Cx M E own cc nL ret FR LO MC MS) {x y : Int64} {off : Int} (tgt : Nat) (hd0 : decode cc pc = .ok (.lcmp, 1)) (hd : decode cc (pc + 1) = .ok (.ifCond .eq off, 3)) (ht : ((pc + 1 : Nat) : Int) + off = (tgt : Int)) (k1 : x = y → V M E nL Q z cells slots G tgt lo st) (k2 : ¬ x = y → V M E nL Q z cells slots G (pc + 4) lo st) : V M E nL Q z cells slots G pc lo (.long y :: .long x :: st) := fun H locs ls a b c d => W.lcmp C.1 C.2.1 hd0 (lv_if_eq C.1 C.2.1 hd ht (fun h => k1 ((lg_eq x y).mp h) H locs ls a b c d) (fun h => k2 (fun z => h ((lg_eq x y).mpr z)) H locs ls a b c d))
theorem v_lcmpn_eq (C : Cx M E own cc nL ret FR LO MC MS) {x y : Nat} {off : Int} (tgt : Nat) (hd0 : decode cc pc = .ok (.lcmp, 1)) (hd : decode cc (pc + 1) = .ok (.ifCond .eq off, 3)) (ht : ((pc + 1 : Nat) : Int) + off = (tgt : Int)) (hx : x < 2 ^ 63) (hy : y < 2 ^ 63) (k1 : x = y → V M E nL Q z cells slots G tgt lo st) (k2 : x ≠ y → V M E nL Q z cells slots G (pc + 4) lo st) : V M E nL Q z cells slots G pc lo (.long (lN y) :: .long (lN x) :: st) := v_lcmp_eq C tgt hd0 hd ht (fun h => k1 ((lN_eq63 hx hy).mp h)) (fun h => k2 (by have h9 := mt (lN_eq63 hx hy).mpr h; omega))
theorem v_icmp_ne (C : Cx M E own cc nL ret FR LO MC MS) {x y : Int32} {off : Int} (tgt : Nat) (hd : decode cc pc = .ok (.if_icmp .ne off, 3)) (ht : (pc : Int) + off = (tgt : Int)) (k1 : ¬ x = y → V M E nL Q z cells slots G tgt lo st) (k2 : x = y → V M E nL Q z cells slots G (pc + 3) lo st) : V M E nL Q z cells slots G pc lo (.int y :: .int x :: st) := fun H locs ls a b c d => lv_icmp_ne C.1 C.2.1 hd ht (fun h => k1 h H locs ls a b c d) (fun h => k2 h H locs ls a b c d)
theorem v_if_ne (C : Cx M E own cc nL ret FR LO MC MS) {x : Int32} {off : Int} (tgt : Nat) (hd : decode cc pc = .ok (.ifCond .ne off, 3)) (ht : (pc : Int) + off = (tgt : Int)) (k1 : ¬ x = 0 → V M E nL Q z cells slots G tgt lo st) (k2 : x = 0 → V M E nL Q z cells slots G (pc + 3) lo st) : V M E nL Q z cells slots G pc lo (.int x :: st) := fun H locs ls a b c d => lv_if_ne C.1 C.2.1 hd ht (fun h => k1 h H locs ls a b c d) (fun h => k2 h H locs ls a b c d)
theorem v_icmpn_ne (C : Cx M E own cc nL ret FR LO MC MS) {x y : Nat} {off : Int} (tgt : Nat) (hd : decode cc pc = .ok (.if_icmp .ne off, 3)) (ht : (pc : Int) + off = (tgt : Int)) (hx : x < 2 ^ 31) (hy : y < 2 ^ 31) (k1 : x ≠ y → V M E nL Q z cells slots G tgt lo st) (k2 : x = y → V M E nL Q z cells slots G (pc + 3) lo st) : V M E nL Q z cells slots G pc lo (.int (nI y) :: .int (nI x) :: st) := v_icmp_ne C tgt hd ht (fun h => k1 (by have h9 := mt (nI_eq hx hy).mpr h; omega)) (fun h => k2 ((nI_eq hx hy).mp h))
theorem v_ifn_ne (C : Cx M E own cc nL ret FR LO MC MS) {x : Nat} {off : Int} (tgt : Nat) (hd : decode cc pc = .ok (.ifCond .ne off, 3)) (ht : (pc : Int) + off = (tgt : Int)) (hx : x < 2 ^ 31) (k1 : x ≠ 0 → V M E nL Q z cells slots G tgt lo st) (k2 : x = 0 → V M E nL Q z cells slots G (pc + 3) lo st) : V M E nL Q z cells slots G pc lo (.int (nI x) :: st) := by
  have hy : 0 < 2 ^ 31 := by decide
  exact v_if_ne C tgt hd ht (fun h => k1 (by have h9 := mt (nI_eq hx hy).mpr h; omega)) (fun h => k2 ((nI_eq hx hy).mp h))
theorem v_lcmp_ne (C : Cx M E own cc nL ret FR LO MC MS) {x y : Int64} {off : Int} (tgt : Nat) (hd0 : decode cc pc = .ok (.lcmp, 1)) (hd : decode cc (pc + 1) = .ok (.ifCond .ne off, 3)) (ht : ((pc + 1 : Nat) : Int) + off = (tgt : Int)) (k1 : ¬ x = y → V M E nL Q z cells slots G tgt lo st) (k2 : x = y → V M E nL Q z cells slots G (pc + 4) lo st) : V M E nL Q z cells slots G pc lo (.long y :: .long x :: st) := fun H locs ls a b c d => W.lcmp C.1 C.2.1 hd0 (lv_if_ne C.1 C.2.1 hd ht (fun h => k1 (fun z => h ((lg_eq x y).mpr z)) H locs ls a b c d) (fun h => k2 ((lg_eq x y).mp h) H locs ls a b c d))
theorem v_lcmpn_ne (C : Cx M E own cc nL ret FR LO MC MS) {x y : Nat} {off : Int} (tgt : Nat) (hd0 : decode cc pc = .ok (.lcmp, 1)) (hd : decode cc (pc + 1) = .ok (.ifCond .ne off, 3)) (ht : ((pc + 1 : Nat) : Int) + off = (tgt : Int)) (hx : x < 2 ^ 63) (hy : y < 2 ^ 63) (k1 : x ≠ y → V M E nL Q z cells slots G tgt lo st) (k2 : x = y → V M E nL Q z cells slots G (pc + 4) lo st) : V M E nL Q z cells slots G pc lo (.long (lN y) :: .long (lN x) :: st) := v_lcmp_ne C tgt hd0 hd ht (fun h => k1 (by have h9 := mt (lN_eq63 hx hy).mpr h; omega)) (fun h => k2 ((lN_eq63 hx hy).mp h))
theorem v_icmp_lt (C : Cx M E own cc nL ret FR LO MC MS) {x y : Int32} {off : Int} (tgt : Nat) (hd : decode cc pc = .ok (.if_icmp .lt off, 3)) (ht : (pc : Int) + off = (tgt : Int)) (k1 : x < y → V M E nL Q z cells slots G tgt lo st) (k2 : ¬ x < y → V M E nL Q z cells slots G (pc + 3) lo st) : V M E nL Q z cells slots G pc lo (.int y :: .int x :: st) := fun H locs ls a b c d => lv_icmp_lt C.1 C.2.1 hd ht (fun h => k1 h H locs ls a b c d) (fun h => k2 h H locs ls a b c d)
theorem v_if_lt (C : Cx M E own cc nL ret FR LO MC MS) {x : Int32} {off : Int} (tgt : Nat) (hd : decode cc pc = .ok (.ifCond .lt off, 3)) (ht : (pc : Int) + off = (tgt : Int)) (k1 : x < 0 → V M E nL Q z cells slots G tgt lo st) (k2 : ¬ x < 0 → V M E nL Q z cells slots G (pc + 3) lo st) : V M E nL Q z cells slots G pc lo (.int x :: st) := fun H locs ls a b c d => lv_if_lt C.1 C.2.1 hd ht (fun h => k1 h H locs ls a b c d) (fun h => k2 h H locs ls a b c d)
theorem v_icmpn_lt (C : Cx M E own cc nL ret FR LO MC MS) {x y : Nat} {off : Int} (tgt : Nat) (hd : decode cc pc = .ok (.if_icmp .lt off, 3)) (ht : (pc : Int) + off = (tgt : Int)) (hx : x < 2 ^ 31) (hy : y < 2 ^ 31) (k1 : x < y → V M E nL Q z cells slots G tgt lo st) (k2 : y ≤ x → V M E nL Q z cells slots G (pc + 3) lo st) : V M E nL Q z cells slots G pc lo (.int (nI y) :: .int (nI x) :: st) := v_icmp_lt C tgt hd ht (fun h => k1 ((nI_ltI hx hy).mp h)) (fun h => k2 (by have h9 := mt (nI_ltI hx hy).mpr h; omega))
theorem v_ifn_lt (C : Cx M E own cc nL ret FR LO MC MS) {x : Nat} {off : Int} (tgt : Nat) (hd : decode cc pc = .ok (.ifCond .lt off, 3)) (ht : (pc : Int) + off = (tgt : Int)) (hx : x < 2 ^ 31) (k1 : x < 0 → V M E nL Q z cells slots G tgt lo st) (k2 : 0 ≤ x → V M E nL Q z cells slots G (pc + 3) lo st) : V M E nL Q z cells slots G pc lo (.int (nI x) :: st) := by
  have hy : 0 < 2 ^ 31 := by decide
  exact v_if_lt C tgt hd ht (fun h => k1 ((nI_ltI hx hy).mp h)) (fun h => k2 (by have h9 := mt (nI_ltI hx hy).mpr h; omega))
theorem v_lcmp_lt (C : Cx M E own cc nL ret FR LO MC MS) {x y : Int64} {off : Int} (tgt : Nat) (hd0 : decode cc pc = .ok (.lcmp, 1)) (hd : decode cc (pc + 1) = .ok (.ifCond .lt off, 3)) (ht : ((pc + 1 : Nat) : Int) + off = (tgt : Int)) (k1 : x < y → V M E nL Q z cells slots G tgt lo st) (k2 : ¬ x < y → V M E nL Q z cells slots G (pc + 4) lo st) : V M E nL Q z cells slots G pc lo (.long y :: .long x :: st) := fun H locs ls a b c d => W.lcmp C.1 C.2.1 hd0 (lv_if_lt C.1 C.2.1 hd ht (fun h => k1 ((lg_lt x y).mp h) H locs ls a b c d) (fun h => k2 (fun z => h ((lg_lt x y).mpr z)) H locs ls a b c d))
theorem v_lcmpn_lt (C : Cx M E own cc nL ret FR LO MC MS) {x y : Nat} {off : Int} (tgt : Nat) (hd0 : decode cc pc = .ok (.lcmp, 1)) (hd : decode cc (pc + 1) = .ok (.ifCond .lt off, 3)) (ht : ((pc + 1 : Nat) : Int) + off = (tgt : Int)) (hx : x < 2 ^ 63) (hy : y < 2 ^ 63) (k1 : x < y → V M E nL Q z cells slots G tgt lo st) (k2 : y ≤ x → V M E nL Q z cells slots G (pc + 4) lo st) : V M E nL Q z cells slots G pc lo (.long (lN y) :: .long (lN x) :: st) := v_lcmp_lt C tgt hd0 hd ht (fun h => k1 ((lN_lt63 hx hy).mp h)) (fun h => k2 (by have h9 := mt (lN_lt63 hx hy).mpr h; omega))
theorem v_icmp_ge (C : Cx M E own cc nL ret FR LO MC MS) {x y : Int32} {off : Int} (tgt : Nat) (hd : decode cc pc = .ok (.if_icmp .ge off, 3)) (ht : (pc : Int) + off = (tgt : Int)) (k1 : y ≤ x → V M E nL Q z cells slots G tgt lo st) (k2 : ¬ y ≤ x → V M E nL Q z cells slots G (pc + 3) lo st) : V M E nL Q z cells slots G pc lo (.int y :: .int x :: st) := fun H locs ls a b c d => lv_icmp_ge C.1 C.2.1 hd ht (fun h => k1 h H locs ls a b c d) (fun h => k2 h H locs ls a b c d)
theorem v_if_ge (C : Cx M E own cc nL ret FR LO MC MS) {x : Int32} {off : Int} (tgt : Nat) (hd : decode cc pc = .ok (.ifCond .ge off, 3)) (ht : (pc : Int) + off = (tgt : Int)) (k1 : 0 ≤ x → V M E nL Q z cells slots G tgt lo st) (k2 : ¬ 0 ≤ x → V M E nL Q z cells slots G (pc + 3) lo st) : V M E nL Q z cells slots G pc lo (.int x :: st) := fun H locs ls a b c d => lv_if_ge C.1 C.2.1 hd ht (fun h => k1 h H locs ls a b c d) (fun h => k2 h H locs ls a b c d)
theorem v_icmpn_ge (C : Cx M E own cc nL ret FR LO MC MS) {x y : Nat} {off : Int} (tgt : Nat) (hd : decode cc pc = .ok (.if_icmp .ge off, 3)) (ht : (pc : Int) + off = (tgt : Int)) (hx : x < 2 ^ 31) (hy : y < 2 ^ 31) (k1 : y ≤ x → V M E nL Q z cells slots G tgt lo st) (k2 : x < y → V M E nL Q z cells slots G (pc + 3) lo st) : V M E nL Q z cells slots G pc lo (.int (nI y) :: .int (nI x) :: st) := v_icmp_ge C tgt hd ht (fun h => k1 ((nI_leI hy hx).mp h)) (fun h => k2 (by have h9 := mt (nI_leI hy hx).mpr h; omega))
theorem v_ifn_ge (C : Cx M E own cc nL ret FR LO MC MS) {x : Nat} {off : Int} (tgt : Nat) (hd : decode cc pc = .ok (.ifCond .ge off, 3)) (ht : (pc : Int) + off = (tgt : Int)) (hx : x < 2 ^ 31) (k1 : 0 ≤ x → V M E nL Q z cells slots G tgt lo st) (k2 : x < 0 → V M E nL Q z cells slots G (pc + 3) lo st) : V M E nL Q z cells slots G pc lo (.int (nI x) :: st) := by
  have hy : 0 < 2 ^ 31 := by decide
  exact v_if_ge C tgt hd ht (fun h => k1 ((nI_leI hy hx).mp h)) (fun h => k2 (by have h9 := mt (nI_leI hy hx).mpr h; omega))
theorem v_lcmp_ge (C : Cx M E own cc nL ret FR LO MC MS) {x y : Int64} {off : Int} (tgt : Nat) (hd0 : decode cc pc = .ok (.lcmp, 1)) (hd : decode cc (pc + 1) = .ok (.ifCond .ge off, 3)) (ht : ((pc + 1 : Nat) : Int) + off = (tgt : Int)) (k1 : y ≤ x → V M E nL Q z cells slots G tgt lo st) (k2 : ¬ y ≤ x → V M E nL Q z cells slots G (pc + 4) lo st) : V M E nL Q z cells slots G pc lo (.long y :: .long x :: st) := fun H locs ls a b c d => W.lcmp C.1 C.2.1 hd0 (lv_if_ge C.1 C.2.1 hd ht (fun h => k1 ((lg_cmp_ge x y).mp h) H locs ls a b c d) (fun h => k2 (fun z => h ((lg_cmp_ge x y).mpr z)) H locs ls a b c d))
theorem v_lcmpn_ge (C : Cx M E own cc nL ret FR LO MC MS) {x y : Nat} {off : Int} (tgt : Nat) (hd0 : decode cc pc = .ok (.lcmp, 1)) (hd : decode cc (pc + 1) = .ok (.ifCond .ge off, 3)) (ht : ((pc + 1 : Nat) : Int) + off = (tgt : Int)) (hx : x < 2 ^ 63) (hy : y < 2 ^ 63) (k1 : y ≤ x → V M E nL Q z cells slots G tgt lo st) (k2 : x < y → V M E nL Q z cells slots G (pc + 4) lo st) : V M E nL Q z cells slots G pc lo (.long (lN y) :: .long (lN x) :: st) := v_lcmp_ge C tgt hd0 hd ht (fun h => k1 ((lN_le63 hy hx).mp h)) (fun h => k2 (by have h9 := mt (lN_le63 hy hx).mpr h; omega))
theorem v_icmp_gt (C : Cx M E own cc nL ret FR LO MC MS) {x y : Int32} {off : Int} (tgt : Nat) (hd : decode cc pc = .ok (.if_icmp .gt off, 3)) (ht : (pc : Int) + off = (tgt : Int)) (k1 : y < x → V M E nL Q z cells slots G tgt lo st) (k2 : ¬ y < x → V M E nL Q z cells slots G (pc + 3) lo st) : V M E nL Q z cells slots G pc lo (.int y :: .int x :: st) := fun H locs ls a b c d => lv_icmp_gt C.1 C.2.1 hd ht (fun h => k1 h H locs ls a b c d) (fun h => k2 h H locs ls a b c d)
theorem v_if_gt (C : Cx M E own cc nL ret FR LO MC MS) {x : Int32} {off : Int} (tgt : Nat) (hd : decode cc pc = .ok (.ifCond .gt off, 3)) (ht : (pc : Int) + off = (tgt : Int)) (k1 : 0 < x → V M E nL Q z cells slots G tgt lo st) (k2 : ¬ 0 < x → V M E nL Q z cells slots G (pc + 3) lo st) : V M E nL Q z cells slots G pc lo (.int x :: st) := fun H locs ls a b c d => lv_if_gt C.1 C.2.1 hd ht (fun h => k1 h H locs ls a b c d) (fun h => k2 h H locs ls a b c d)
theorem v_icmpn_gt (C : Cx M E own cc nL ret FR LO MC MS) {x y : Nat} {off : Int} (tgt : Nat) (hd : decode cc pc = .ok (.if_icmp .gt off, 3)) (ht : (pc : Int) + off = (tgt : Int)) (hx : x < 2 ^ 31) (hy : y < 2 ^ 31) (k1 : y < x → V M E nL Q z cells slots G tgt lo st) (k2 : x ≤ y → V M E nL Q z cells slots G (pc + 3) lo st) : V M E nL Q z cells slots G pc lo (.int (nI y) :: .int (nI x) :: st) := v_icmp_gt C tgt hd ht (fun h => k1 ((nI_ltI hy hx).mp h)) (fun h => k2 (by have h9 := mt (nI_ltI hy hx).mpr h; omega))
theorem v_ifn_gt (C : Cx M E own cc nL ret FR LO MC MS) {x : Nat} {off : Int} (tgt : Nat) (hd : decode cc pc = .ok (.ifCond .gt off, 3)) (ht : (pc : Int) + off = (tgt : Int)) (hx : x < 2 ^ 31) (k1 : 0 < x → V M E nL Q z cells slots G tgt lo st) (k2 : x ≤ 0 → V M E nL Q z cells slots G (pc + 3) lo st) : V M E nL Q z cells slots G pc lo (.int (nI x) :: st) := by
  have hy : 0 < 2 ^ 31 := by decide
  exact v_if_gt C tgt hd ht (fun h => k1 ((nI_ltI hy hx).mp h)) (fun h => k2 (by have h9 := mt (nI_ltI hy hx).mpr h; omega))
theorem v_lcmp_gt (C : Cx M E own cc nL ret FR LO MC MS) {x y : Int64} {off : Int} (tgt : Nat) (hd0 : decode cc pc = .ok (.lcmp, 1)) (hd : decode cc (pc + 1) = .ok (.ifCond .gt off, 3)) (ht : ((pc + 1 : Nat) : Int) + off = (tgt : Int)) (k1 : y < x → V M E nL Q z cells slots G tgt lo st) (k2 : ¬ y < x → V M E nL Q z cells slots G (pc + 4) lo st) : V M E nL Q z cells slots G pc lo (.long y :: .long x :: st) := fun H locs ls a b c d => W.lcmp C.1 C.2.1 hd0 (lv_if_gt C.1 C.2.1 hd ht (fun h => k1 ((lg_gt x y).mp h) H locs ls a b c d) (fun h => k2 (fun z => h ((lg_gt x y).mpr z)) H locs ls a b c d))
theorem v_lcmpn_gt (C : Cx M E own cc nL ret FR LO MC MS) {x y : Nat} {off : Int} (tgt : Nat) (hd0 : decode cc pc = .ok (.lcmp, 1)) (hd : decode cc (pc + 1) = .ok (.ifCond .gt off, 3)) (ht : ((pc + 1 : Nat) : Int) + off = (tgt : Int)) (hx : x < 2 ^ 63) (hy : y < 2 ^ 63) (k1 : y < x → V M E nL Q z cells slots G tgt lo st) (k2 : x ≤ y → V M E nL Q z cells slots G (pc + 4) lo st) : V M E nL Q z cells slots G pc lo (.long (lN y) :: .long (lN x) :: st) := v_lcmp_gt C tgt hd0 hd ht (fun h => k1 ((lN_lt63 hy hx).mp h)) (fun h => k2 (by have h9 := mt (lN_lt63 hy hx).mpr h; omega))
theorem v_icmp_le (C : Cx M E own cc nL ret FR LO MC MS) {x y : Int32} {off : Int} (tgt : Nat) (hd : decode cc pc = .ok (.if_icmp .le off, 3)) (ht : (pc : Int) + off = (tgt : Int)) (k1 : x ≤ y → V M E nL Q z cells slots G tgt lo st) (k2 : ¬ x ≤ y → V M E nL Q z cells slots G (pc + 3) lo st) : V M E nL Q z cells slots G pc lo (.int y :: .int x :: st) := fun H locs ls a b c d => lv_icmp_le C.1 C.2.1 hd ht (fun h => k1 h H locs ls a b c d) (fun h => k2 h H locs ls a b c d)
theorem v_if_le (C : Cx M E own cc nL ret FR LO MC MS) {x : Int32} {off : Int} (tgt : Nat) (hd : decode cc pc = .ok (.ifCond .le off, 3)) (ht : (pc : Int) + off = (tgt : Int)) (k1 : x ≤ 0 → V M E nL Q z cells slots G tgt lo st) (k2 : ¬ x ≤ 0 → V M E nL Q z cells slots G (pc + 3) lo st) : V M E nL Q z cells slots G pc lo (.int x :: st) := fun H locs ls a b c d => lv_if_le C.1 C.2.1 hd ht (fun h => k1 h H locs ls a b c d) (fun h => k2 h H locs ls a b c d)
theorem v_icmpn_le (C : Cx M E own cc nL ret FR LO MC MS) {x y : Nat} {off : Int} (tgt : Nat) (hd : decode cc pc = .ok (.if_icmp .le off, 3)) (ht : (pc : Int) + off = (tgt : Int)) (hx : x < 2 ^ 31) (hy : y < 2 ^ 31) (k1 : x ≤ y → V M E nL Q z cells slots G tgt lo st) (k2 : y < x → V M E nL Q z cells slots G (pc + 3) lo st) : V M E nL Q z cells slots G pc lo (.int (nI y) :: .int (nI x) :: st) := v_icmp_le C tgt hd ht (fun h => k1 ((nI_leI hx hy).mp h)) (fun h => k2 (by have h9 := mt (nI_leI hx hy).mpr h; omega))
theorem v_ifn_le (C : Cx M E own cc nL ret FR LO MC MS) {x : Nat} {off : Int} (tgt : Nat) (hd : decode cc pc = .ok (.ifCond .le off, 3)) (ht : (pc : Int) + off = (tgt : Int)) (hx : x < 2 ^ 31) (k1 : x ≤ 0 → V M E nL Q z cells slots G tgt lo st) (k2 : 0 < x → V M E nL Q z cells slots G (pc + 3) lo st) : V M E nL Q z cells slots G pc lo (.int (nI x) :: st) := by
  have hy : 0 < 2 ^ 31 := by decide
  exact v_if_le C tgt hd ht (fun h => k1 ((nI_leI hx hy).mp h)) (fun h => k2 (by have h9 := mt (nI_leI hx hy).mpr h; omega))
theorem v_lcmp_le (C : Cx M E own cc nL ret FR LO MC MS) {x y : Int64} {off : Int} (tgt : Nat) (hd0 : decode cc pc = .ok (.lcmp, 1)) (hd : decode cc (pc + 1) = .ok (.ifCond .le off, 3)) (ht : ((pc + 1 : Nat) : Int) + off = (tgt : Int)) (k1 : x ≤ y → V M E nL Q z cells slots G tgt lo st) (k2 : ¬ x ≤ y → V M E nL Q z cells slots G (pc + 4) lo st) : V M E nL Q z cells slots G pc lo (.long y :: .long x :: st) := fun H locs ls a b c d => W.lcmp C.1 C.2.1 hd0 (lv_if_le C.1 C.2.1 hd ht (fun h => k1 ((lg_cmp_le x y).mp h) H locs ls a b c d) (fun h => k2 (fun z => h ((lg_cmp_le x y).mpr z)) H locs ls a b c d))
theorem v_lcmpn_le (C : Cx M E own cc nL ret FR LO MC MS) {x y : Nat} {off : Int} (tgt : Nat) (hd0 : decode cc pc = .ok (.lcmp, 1)) (hd : decode cc (pc + 1) = .ok (.ifCond .le off, 3)) (ht : ((pc + 1 : Nat) : Int) + off = (tgt : Int)) (hx : x < 2 ^ 63) (hy : y < 2 ^ 63) (k1 : x ≤ y → V M E nL Q z cells slots G tgt lo st) (k2 : y < x → V M E nL Q z cells slots G (pc + 4) lo st) : V M E nL Q z cells slots G pc lo (.long (lN y) :: .long (lN x) :: st) := v_lcmp_le C tgt hd0 hd ht (fun h => k1 ((lN_le63 hx hy).mp h)) (fun h => k2 (by have h9 := mt (lN_le63 hx hy).mpr h; omega))
theorem v_ifb_eq (C : Cx M E own cc nL ret FR LO MC MS) {q : Bool} {off : Int} (tgt : Nat) (hd : decode cc pc = .ok (.ifCond .eq off, 3)) (ht : (pc : Int) + off = (tgt : Int)) (k1 : q = false → V M E nL Q z cells slots G tgt lo st) (k2 : q = true → V M E nL Q z cells slots G (pc + 3) lo st) : V M E nL Q z cells slots G pc lo (.int (bI q) :: st) := v_if_eq C tgt hd ht (fun h => k1 (by cases q <;> simp [bI] at h ⊢)) (fun h => k2 (by cases q <;> simp [bI] at h ⊢))
theorem v_ifb_ne (C : Cx M E own cc nL ret FR LO MC MS) {q : Bool} {off : Int} (tgt : Nat) (hd : decode cc pc = .ok (.ifCond .ne off, 3)) (ht : (pc : Int) + off = (tgt : Int)) (k1 : q = true → V M E nL Q z cells slots G tgt lo st) (k2 : q = false → V M E nL Q z cells slots G (pc + 3) lo st) : V M E nL Q z cells slots G pc lo (.int (bI q) :: st) := v_if_ne C tgt hd ht (fun h => k1 (by cases q <;> simp [bI] at h ⊢)) (fun h => k2 (by cases q <;> simp [bI] at h ⊢))
theorem v_ifnull (C : Cx M E own cc nL ret FR LO MC MS) {x : Nat} {off : Int} (hd : decode cc pc = .ok (.ifnull off, 3)) (kk : V M E nL Q z cells slots G (pc + 3) lo st) : V M E nL Q z cells slots G pc lo (.ref x :: st) := fun H locs ls a b c d => lv_ifnull C.1 C.2.1 hd (kk H locs ls a b c d)
theorem v_ifnullN (C : Cx M E own cc nL ret FR LO MC MS) {off : Int} (tgt : Nat) (hd : decode cc pc = .ok (.ifnull off, 3)) (ht : (pc : Int) + off = (tgt : Int)) (kk : V M E nL Q z cells slots G tgt lo st) : V M E nL Q z cells slots G pc lo (.null :: st) := fun H locs ls a b c d => lv_ifnullN C.1 C.2.1 hd ht (kk H locs ls a b c d)
theorem v_ifnonnull (C : Cx M E own cc nL ret FR LO MC MS) {x : Nat} {off : Int} (tgt : Nat) (hd : decode cc pc = .ok (.ifnonnull off, 3)) (ht : (pc : Int) + off = (tgt : Int)) (kk : V M E nL Q z cells slots G tgt lo st) : V M E nL Q z cells slots G pc lo (.ref x :: st) := fun H locs ls a b c d => lv_ifnonnull C.1 C.2.1 hd ht (kk H locs ls a b c d)
theorem v_ifnonnullN (C : Cx M E own cc nL ret FR LO MC MS) {off : Int} (hd : decode cc pc = .ok (.ifnonnull off, 3)) (kk : V M E nL Q z cells slots G (pc + 3) lo st) : V M E nL Q z cells slots G pc lo (.null :: st) := fun H locs ls a b c d => lv_ifnonnullN C.1 C.2.1 hd (kk H locs ls a b c d)
theorem v_iaddn (C : Cx M E own cc nL ret FR LO MC MS) {x y : Nat} (hd : decode cc pc = .ok (.iadd, 1)) (kk : V M E nL Q z cells slots G (pc + 1) lo (.int (nI (x + y)) :: st)) : V M E nL Q z cells slots G pc lo (.int (nI y) :: .int (nI x) :: st) := v_iadd C hd (v_topi (nI_add x y) kk)
theorem v_imuln (C : Cx M E own cc nL ret FR LO MC MS) {x y : Nat} (hd : decode cc pc = .ok (.imul, 1)) (kk : V M E nL Q z cells slots G (pc + 1) lo (.int (nI (x * y)) :: st)) : V M E nL Q z cells slots G pc lo (.int (nI y) :: .int (nI x) :: st) := v_imul C hd (v_topi (nI_mul x y) kk)
theorem v_isubn (C : Cx M E own cc nL ret FR LO MC MS) {x y : Nat} (hd : decode cc pc = .ok (.isub, 1)) (h : y ≤ x) (kk : V M E nL Q z cells slots G (pc + 1) lo (.int (nI (x - y)) :: st)) : V M E nL Q z cells slots G pc lo (.int (nI y) :: .int (nI x) :: st) := v_isub C hd (v_topi (nI_sub h) kk)
theorem v_idivn (C : Cx M E own cc nL ret FR LO MC MS) {x y : Nat} (hd : decode cc pc = .ok (.idiv, 1)) (h0 : 0 < y) (hx : x < 2 ^ 31) (hy : y < 2 ^ 31) (kk : V M E nL Q z cells slots G (pc + 1) lo (.int (nI (x / y)) :: st)) : V M E nL Q z cells slots G pc lo (.int (nI y) :: .int (nI x) :: st) := v_idiv C hd (nI_ne0 h0 hy) (v_topi (nI_div hx hy) kk)
theorem v_iremn (C : Cx M E own cc nL ret FR LO MC MS) {x y : Nat} (hd : decode cc pc = .ok (.irem, 1)) (h0 : 0 < y) (hx : x < 2 ^ 31) (hy : y < 2 ^ 31) (kk : V M E nL Q z cells slots G (pc + 1) lo (.int (nI (x % y)) :: st)) : V M E nL Q z cells slots G pc lo (.int (nI y) :: .int (nI x) :: st) := v_irem C hd (nI_ne0 h0 hy) (v_topi (nI_rem hx hy) kk)
theorem v_laddn (C : Cx M E own cc nL ret FR LO MC MS) {x y : Nat} (hd : decode cc pc = .ok (.ladd, 1)) (kk : V M E nL Q z cells slots G (pc + 1) lo (.long (lN (x + y)) :: st)) : V M E nL Q z cells slots G pc lo (.long (lN y) :: .long (lN x) :: st) := v_ladd C hd (v_topl (lN_add x y) kk)
theorem v_lmuln (C : Cx M E own cc nL ret FR LO MC MS) {x y : Nat} (hd : decode cc pc = .ok (.lmul, 1)) (kk : V M E nL Q z cells slots G (pc + 1) lo (.long (lN (x * y)) :: st)) : V M E nL Q z cells slots G pc lo (.long (lN y) :: .long (lN x) :: st) := v_lmul C hd (v_topl (lN_mul x y) kk)
theorem v_lsubn (C : Cx M E own cc nL ret FR LO MC MS) {x y : Nat} (hd : decode cc pc = .ok (.lsub, 1)) (h : y ≤ x) (kk : V M E nL Q z cells slots G (pc + 1) lo (.long (lN (x - y)) :: st)) : V M E nL Q z cells slots G pc lo (.long (lN y) :: .long (lN x) :: st) := v_lsub C hd (v_topl (lN_sub h) kk)
theorem v_ldivn (C : Cx M E own cc nL ret FR LO MC MS) {x y : Nat} (hd : decode cc pc = .ok (.ldiv, 1)) (h0 : 0 < y) (hx : x < 2 ^ 63) (hy : y < 2 ^ 63) (kk : V M E nL Q z cells slots G (pc + 1) lo (.long (lN (x / y)) :: st)) : V M E nL Q z cells slots G pc lo (.long (lN y) :: .long (lN x) :: st) := v_ldiv C hd (lN_ne0 h0 hy) (v_topl (lN_div hx hy) kk)
theorem v_lremn (C : Cx M E own cc nL ret FR LO MC MS) {x y : Nat} (hd : decode cc pc = .ok (.lrem, 1)) (h0 : 0 < y) (hx : x < 2 ^ 63) (hy : y < 2 ^ 63) (kk : V M E nL Q z cells slots G (pc + 1) lo (.long (lN (x % y)) :: st)) : V M E nL Q z cells slots G pc lo (.long (lN y) :: .long (lN x) :: st) := v_lrem C hd (lN_ne0 h0 hy) (v_topl (lN_rem hx hy) kk)
theorem v_i2ln (C : Cx M E own cc nL ret FR LO MC MS) {x : Nat} (hd : decode cc pc = .ok (.i2l, 1)) (hx : x < 2 ^ 31) (kk : V M E nL Q z cells slots G (pc + 1) lo (.long (lN x) :: st)) : V M E nL Q z cells slots G pc lo (.int (nI x) :: st) := v_i2l C hd (nI_l hx) kk
theorem v_l2in (C : Cx M E own cc nL ret FR LO MC MS) {x : Nat} (hd : decode cc pc = .ok (.l2i, 1)) (kk : V M E nL Q z cells slots G (pc + 1) lo (.int (nI x) :: st)) : V M E nL Q z cells slots G pc lo (.long (lN x) :: st) := v_l2i C hd (lN_i x) kk
theorem v_get0 (C : Cx M E own cc nL ret FR LO MC MS) {Cn : String} {T : u_T} {N ci index i k : Nat} {fs : List Value} {v : Value} (hw : Cond.fieldLink own index (T k).1 (T k).2.1 (T k).2.2.1 ∈ lw_tb2) (hin : ∀ w ∈ u_ws Cn T N, w ∈ lw_tb2) (hc : vwCl[ci]? = some (Cn, T, N)) (hk : k < N) (hv : fs[k]? = some v) (hd : decode cc pc = .ok (.getfield index, 3)) (hG : G i = cO ci fs) (kk : V M E nL Q z cells slots G (pc + 3) lo (v :: st)) : V M E nL Q z cells slots G pc lo (.ref (ga E i) :: st) :=
  fun H locs ls a b c d => va_get C.1 C.2.1 (fun w hw => C.2.2.2.2.1.1.use hw) hin C.2.2.2.1 C.2.2.2.2.1.2.2 (a.one hG) 0 rfl hc k hk (C.2.2.2.2.1.1.use hw) (fun _ h => h) hv hd (kk H locs ls a b c d)
theorem v_getN0 (C : Cx M E own cc nL ret FR LO MC MS) {Cn host : String} {T : u_T} {N ci index i k : Nat} {fs : List Value} {v : Value} (hw : Cond.fieldLinkNest own index (T k).1 (T k).2.1 (T k).2.2.1 host ∈ lw_tb2) (hin : ∀ w ∈ u_ws Cn T N, w ∈ lw_tb2) (hc : vwCl[ci]? = some (Cn, T, N)) (hk : k < N) (hv : fs[k]? = some v) (hd : decode cc pc = .ok (.getfield index, 3)) (hG : G i = cO ci fs) (kk : V M E nL Q z cells slots G (pc + 3) lo (v :: st)) : V M E nL Q z cells slots G pc lo (.ref (ga E i) :: st) :=
  fun H locs ls a b c d => va_getN C.1 C.2.1 (fun w hw => C.2.2.2.2.1.1.use hw) hin C.2.2.2.1 C.2.2.2.2.1.2.2 (a.one hG) 0 rfl hc k hk (C.2.2.2.2.1.1.use hw) (fun _ h => h) hv hd (kk H locs ls a b c d)
theorem v_put0 (C : Cx M E own cc nL ret FR LO MC MS) {Cn : String} {T : u_T} {N ci index i k : Nat} {fs : List Value} {v : Value} (hw : Cond.fieldLink own index (T k).1 (T k).2.1 (T k).2.2.1 ∈ lw_tb2) (hin : ∀ w ∈ u_ws Cn T N, w ∈ lw_tb2) (ty0 : Nat → FieldType) (hty : ∀ k, k < N → parseFieldDescriptor (T k).2.2.1 = some (ty0 k)) (hnm : ∀ a, a < N → ∀ b, b < N → a ≠ b → (T a).2.1 ≠ (T b).2.1) (hc : vwCl[ci]? = some (Cn, T, N)) (hk : k < N) (hfin : (T k).2.2.2 = false) (hl : k < fs.length) (hn : narrow (ty0 k) v = v) (hfit : fits (ty0 k) v = true) (hd : decode cc pc = .ok (.putfield index, 3)) (hG : G i = cO ci fs)
    (kk : ∀ G' : Gh, G' i = cO ci (fs.set k v) → (∀ j, j ≠ i → G' j = G j) → V M E nL Q z cells slots G' (pc + 3) lo st) : V M E nL Q z cells slots G pc lo (v :: .ref (ga E i) :: st) := by
  intro H locs ls hg hz hs hl2
  have hts : ∀ w ∈ lw_tb2, w.before M.2.2.2.2.2.2.1 M.2.2.2.2.1 = true := fun w hw => C.2.2.2.2.1.1.use hw
  have hK := C.2.2.2.2.1.2.2
  have hap := va_apart (own := own) hts hin ty0 hty hnm hK hc
  obtain ⟨r, h1, cell, q1, q2, q3, q4⟩ := hg i _ hG
  have hr : r = (Cn, T, N) := Option.some.inj (h1.symm.trans hc)
  subst hr
  obtain ⟨hS, hfc, kC, hkC, hkind⟩ := hK.1 ci _ hc
  obtain ⟨cf, kf, fi, f, hi, hsl⟩ := hS k hk
  have hlay := hts _ (hin _ (u_in_lay hk))
  unfold u_lay at hlay
  rw [if_neg (by rw [hfin]; decide)] at hlay
  have hst := (u_facts hfc hkC (u_lays hts hin hk) hi).1
  have h6 := u_store hfc hkC hkind hlay hi (hty k hk) hn hfit
  refine W.putK C.1 C.2.1 (f := f) ⟨C.2.2.2.1, hts _ hw, ⟨_, _, _, hi⟩, hst⟩ (by rw [q2]; exact h6) q1 q3 (by rw [hsl]; exact k2_hasslot (q4 k hk)) rfl rfl hd fun H' e1 e2 e3 => ?_
  rw [hsl] at e1 ⊢
  exact kk (gup G i (some (.inr (ci, fs.set k v)))) (gup_self _ _ _) (fun j hj => gup_ne _ _ hj) H' _ ls (hg.set ⟨_, hc, t_OB.to (V := updV (vp_V fs) k v) ⟨_, e1, q2, q3, t_set q4 hap hk v⟩ (fun j _ => vp_updV_set hl v j)⟩ e3) (hz.put e2) (hs.put e2 e3 (ga_A E i)) hl2
theorem v_putN0 (C : Cx M E own cc nL ret FR LO MC MS) {Cn host : String} {T : u_T} {N ci index i k : Nat} {fs : List Value} {v : Value} (hw : Cond.fieldLinkNest own index (T k).1 (T k).2.1 (T k).2.2.1 host ∈ lw_tb2) (hin : ∀ w ∈ u_ws Cn T N, w ∈ lw_tb2) (ty0 : Nat → FieldType) (hty : ∀ k, k < N → parseFieldDescriptor (T k).2.2.1 = some (ty0 k)) (hnm : ∀ a, a < N → ∀ b, b < N → a ≠ b → (T a).2.1 ≠ (T b).2.1) (hc : vwCl[ci]? = some (Cn, T, N)) (hk : k < N) (hfin : (T k).2.2.2 = false) (hl : k < fs.length) (hn : narrow (ty0 k) v = v) (hfit : fits (ty0 k) v = true) (hd : decode cc pc = .ok (.putfield index, 3)) (hG : G i = cO ci fs)
    (kk : ∀ G' : Gh, G' i = cO ci (fs.set k v) → (∀ j, j ≠ i → G' j = G j) → V M E nL Q z cells slots G' (pc + 3) lo st) : V M E nL Q z cells slots G pc lo (v :: .ref (ga E i) :: st) := by
  intro H locs ls hg hz hs hl2
  have hts : ∀ w ∈ lw_tb2, w.before M.2.2.2.2.2.2.1 M.2.2.2.2.1 = true := fun w hw => C.2.2.2.2.1.1.use hw
  have hK := C.2.2.2.2.1.2.2
  have hap := va_apart (own := own) hts hin ty0 hty hnm hK hc
  obtain ⟨r, h1, cell, q1, q2, q3, q4⟩ := hg i _ hG
  have hr : r = (Cn, T, N) := Option.some.inj (h1.symm.trans hc)
  subst hr
  obtain ⟨hS, hfc, kC, hkC, hkind⟩ := hK.1 ci _ hc
  obtain ⟨cf, kf, fi, f, hi, hsl⟩ := hS k hk
  have hlay := hts _ (hin _ (u_in_lay hk))
  unfold u_lay at hlay
  rw [if_neg (by rw [hfin]; decide)] at hlay
  have hst := (u_facts hfc hkC (u_lays hts hin hk) hi).1
  have h6 := u_store hfc hkC hkind hlay hi (hty k hk) hn hfit
  refine va_WputK C.1 C.2.1 (f := f) C.2.2.2.1 (hts _ hw) hi hst (by rw [q2]; exact h6) q1 q3 (by rw [hsl]; exact k2_hasslot (q4 k hk)) rfl rfl hd fun H' e1 e2 e3 => ?_
  rw [hsl] at e1 ⊢
  exact kk (gup G i (some (.inr (ci, fs.set k v)))) (gup_self _ _ _) (fun j hj => gup_ne _ _ hj) H' _ ls (hg.set ⟨_, hc, t_OB.to (V := updV (vp_V fs) k v) ⟨_, e1, q2, q3, t_set q4 hap hk v⟩ (fun j _ => vp_updV_set hl v j)⟩ e3) (hz.put e2) (hs.put e2 e3 (ga_A E i)) hl2
theorem v_putF0 (C : Cx M E own cc nL ret FR LO MC MS) {Cn : String} {T : u_T} {N ci index i k : Nat} {fs : List Value} {v : Value} (hw : Cond.fieldLink own index (T k).1 (T k).2.1 (T k).2.2.1 ∈ lw_tb2) (hin : ∀ w ∈ u_ws Cn T N, w ∈ lw_tb2) (ty0 : Nat → FieldType) (hty : ∀ k, k < N → parseFieldDescriptor (T k).2.2.1 = some (ty0 k)) (hnm : ∀ a, a < N → ∀ b, b < N → a ≠ b → (T a).2.1 ≠ (T b).2.1) (hc : vwCl[ci]? = some (Cn, T, N)) (hk : k < N) (hfin : (T k).2.2.2 = true) (hini : M.2.2.2.2.2.2.2.2.1.name = "<init>") (hdecl : (T k).1 = own) (hl : k < fs.length) (hn : narrow (ty0 k) v = v) (hfit : fits (ty0 k) v = true) (hd : decode cc pc = .ok (.putfield index, 3)) (hG : G i = cO ci fs)
    (kk : ∀ G' : Gh, G' i = cO ci (fs.set k v) → (∀ j, j ≠ i → G' j = G j) → V M E nL Q z cells slots G' (pc + 3) lo st) : V M E nL Q z cells slots G pc lo (v :: .ref (ga E i) :: st) := by
  intro H locs ls hg hz hs hl2
  have hts : ∀ w ∈ lw_tb2, w.before M.2.2.2.2.2.2.1 M.2.2.2.2.1 = true := fun w hw => C.2.2.2.2.1.1.use hw
  have hK := C.2.2.2.2.1.2.2
  have hap := va_apart (own := own) hts hin ty0 hty hnm hK hc
  obtain ⟨r, h1, cell, q1, q2, q3, q4⟩ := hg i _ hG
  have hr : r = (Cn, T, N) := Option.some.inj (h1.symm.trans hc)
  subst hr
  obtain ⟨hS, hfc, kC, hkC, hkind⟩ := hK.1 ci _ hc
  obtain ⟨cf, kf, fi, f, hi, hsl⟩ := hS k hk
  have hlay := hts _ (hin _ (u_in_lay hk))
  unfold u_lay at hlay
  rw [if_pos hfin] at hlay
  have hst := (u_facts hfc hkC (u_lays hts hin hk) hi).1
  have hcf : M.2.2.2.2.2.1.cls = cf := by
    obtain ⟨_, _, c', _, _, _, -, -, hf', -, -, -, hown2, -⟩ := Cond.laysFinal_spec hlay
    have e1 : c' = cf := by have := hi.symm.trans hf'; simp at this; exact this.1.symm
    rw [hdecl] at hown2
    rw [← e1]; exact Option.some.inj (C.2.2.2.1.symm.trans hown2)
  have h6 := u_fits hfc hkC hkind (Or.inr hlay) hi (hty k hk) hn hfit
  refine W.putFinK C.1 C.2.1 C.2.2.2.1 (hts _ hw) hi hst hcf hini (by rw [q2]; exact h6) q1 q3 (by rw [hsl]; exact k2_hasslot (q4 k hk)) rfl rfl hd fun H' e1 e2 e3 => ?_
  rw [hsl] at e1 ⊢
  exact kk (gup G i (some (.inr (ci, fs.set k v)))) (gup_self _ _ _) (fun j hj => gup_ne _ _ hj) H' _ ls (hg.set ⟨_, hc, t_OB.to (V := updV (vp_V fs) k v) ⟨_, e1, q2, q3, t_set q4 hap hk v⟩ (fun j _ => vp_updV_set hl v j)⟩ e3) (hz.put e2) (hs.put e2 e3 (ga_A E i)) hl2
theorem v_iald (C : Cx M E own cc nL ret FR LO MC MS) {i n k : Nat} {f : Nat → Int32} {v : Int32} (hd : decode cc pc = .ok (.iaload, 1)) (hG : G i = cI E n f) (hk : k < n) (hn : n < 2 ^ 31) (hv : f k = v) (kk : V M E nL Q z cells slots G (pc + 1) lo (.int v :: st)) : V M E nL Q z cells slots G pc lo (.int (nI k) :: .ref (ga E i) :: st) :=
  fun H locs ls a b c d => va_iald C.1 C.2.1 C.2.2.2.2.1.2.2 (a.one hG) 0 0 rfl rfl (vp_in_nI hk hn) hd (by rw [nI_clamp (by omega), hv]; exact (kk H locs ls a b c d))
theorem v_lald (C : Cx M E own cc nL ret FR LO MC MS) {i n k : Nat} {f : Nat → Int64} {v : Int64} (hd : decode cc pc = .ok (.laload, 1)) (hG : G i = cJ E n f) (hk : k < n) (hn : n < 2 ^ 31) (hv : f k = v) (kk : V M E nL Q z cells slots G (pc + 1) lo (.long v :: st)) : V M E nL Q z cells slots G pc lo (.int (nI k) :: .ref (ga E i) :: st) :=
  fun H locs ls a b c d => va_lald C.1 C.2.1 C.2.2.2.2.1.2.2 (a.one hG) 0 1 rfl rfl (vp_in_nI hk hn) hd (by rw [nI_clamp (by omega), hv]; exact (kk H locs ls a b c d))
theorem v_zald (C : Cx M E own cc nL ret FR LO MC MS) {i n k : Nat} {f : Nat → Int32} {v : Int32} (hd : decode cc pc = .ok (.baload, 1)) (hG : G i = cZ E n f) (hk : k < n) (hn : n < 2 ^ 31) (hv : f k = v) (kk : V M E nL Q z cells slots G (pc + 1) lo (.int v :: st)) : V M E nL Q z cells slots G pc lo (.int (nI k) :: .ref (ga E i) :: st) :=
  fun H locs ls a b c d => va_zald C.1 C.2.1 C.2.2.2.2.1.2.2 (a.one hG) 0 2 rfl rfl (vp_in_nI hk hn) hd (by rw [nI_clamp (by omega), hv]; exact (kk H locs ls a b c d))
theorem v_aald (C : Cx M E own cc nL ret FR LO MC MS) {i n k t : Nat} {Cn : String} {f : Nat → Option Nat} {v : Option Nat} (hd : decode cc pc = .ok (.aaload, 1)) (hG : G i = cR E t n f) (ht : (tysE E)[t]? = some (E.2.1 t, .object Cn)) (hk : k < n) (hn : n < 2 ^ 31) (hv : f k = v) (kk : V M E nL Q z cells slots G (pc + 1) lo (va_rf v :: st)) : V M E nL Q z cells slots G pc lo (.int (nI k) :: .ref (ga E i) :: st) :=
  fun H locs ls a b c d => va_aldq C.1 C.2.1 C.2.2.2.2.1.2.2 (a.one hG) 0 t rfl ht (vp_in_nI hk hn) hd (by rw [nI_clamp (by omega), hv]; exact (kk H locs ls a b c d))
theorem v_alen_cI (C : Cx M E own cc nL ret FR LO MC MS) {i n : Nat} {f : Nat → Int32} (hd : decode cc pc = .ok (.arraylength, 1)) (hG : G i = cI E n f) (kk : V M E nL Q z cells slots G (pc + 1) lo (.int (nI n) :: st)) : V M E nL Q z cells slots G pc lo (.ref (ga E i) :: st) :=
  fun H locs ls a b c d => va_alen C.1 C.2.1 C.2.2.2.2.1.2.2 (a.one hG) 0 0 rfl rfl rfl hd (kk H locs ls a b c d)
theorem v_alen_cJ (C : Cx M E own cc nL ret FR LO MC MS) {i n : Nat} {f : Nat → Int64} (hd : decode cc pc = .ok (.arraylength, 1)) (hG : G i = cJ E n f) (kk : V M E nL Q z cells slots G (pc + 1) lo (.int (nI n) :: st)) : V M E nL Q z cells slots G pc lo (.ref (ga E i) :: st) :=
  fun H locs ls a b c d => va_alen C.1 C.2.1 C.2.2.2.2.1.2.2 (a.one hG) 0 1 rfl rfl rfl hd (kk H locs ls a b c d)
theorem v_alen_cZ (C : Cx M E own cc nL ret FR LO MC MS) {i n : Nat} {f : Nat → Int32} (hd : decode cc pc = .ok (.arraylength, 1)) (hG : G i = cZ E n f) (kk : V M E nL Q z cells slots G (pc + 1) lo (.int (nI n) :: st)) : V M E nL Q z cells slots G pc lo (.ref (ga E i) :: st) :=
  fun H locs ls a b c d => va_alen C.1 C.2.1 C.2.2.2.2.1.2.2 (a.one hG) 0 2 rfl rfl rfl hd (kk H locs ls a b c d)
theorem v_iast (C : Cx M E own cc nL ret FR LO MC MS) {i n k : Nat} {f : Nat → Int32} {x : Int32} (hd : decode cc pc = .ok (.iastore, 1)) (hG : G i = cI E n f) (hk : k < n) (hn : n < 2 ^ 31) (kk : ∀ G' : Gh, G' i = cI E n (fu f k x) → (∀ j, j ≠ i → G' j = G j) → V M E nL Q z cells slots G' (pc + 1) lo st) : V M E nL Q z cells slots G pc lo (.int x :: .int (nI k) :: .ref (ga E i) :: st) := by
  intro H locs ls hg hz hs hl2
  have hK := C.2.2.2.2.1.2.2
  have ht : (tysE E)[0]? = some (E.2.1 0, .int) := rfl
  refine W.iast C.1 C.2.1 (hg i _ hG) ((hK.2 0 _ ht).1 n (fun j => .int (f j))) (fun q => by cases q) (by show ¬ (nI k < 0 ∨ (arrV _ _ _).slots.size ≤ _); rw [arrV_size]; exact vp_in_nI hk hn) rfl rfl hd fun H1 e z1 oq => ?_
  refine kk (gup G i (cI E n (fu f k x))) (gup_self _ _ _) (fun j hj => gup_ne _ _ hj) H1 _ ls (hg.set (e := .inl (E.2.1 0, n, .inl (fu f k x))) ?_ oq) (hz.put z1) (hs.put z1 oq (ga_A E i)) hl2
  show H1[ga E i]? = some (vp_cell _ _)
  rw [e]
  skip
  skip
  rw [vp_cell_i, vp_cell_i, arrV_store, nI_clamp (by omega)]
  congr 2
  funext q
  by_cases hq : q = k
  · subst hq
    simp [updV, fu]
  · simp [updV, fu, hq]
theorem v_last (C : Cx M E own cc nL ret FR LO MC MS) {i n k : Nat} {f : Nat → Int64} {x : Int64} (hd : decode cc pc = .ok (.lastore, 1)) (hG : G i = cJ E n f) (hk : k < n) (hn : n < 2 ^ 31) (kk : ∀ G' : Gh, G' i = cJ E n (fu f k x) → (∀ j, j ≠ i → G' j = G j) → V M E nL Q z cells slots G' (pc + 1) lo st) : V M E nL Q z cells slots G pc lo (.long x :: .int (nI k) :: .ref (ga E i) :: st) := by
  intro H locs ls hg hz hs hl2
  have hK := C.2.2.2.2.1.2.2
  have ht : (tysE E)[1]? = some (E.2.1 1, .long) := rfl
  refine W.last C.1 C.2.1 (hg i _ hG) ((hK.2 1 _ ht).1 n (fun j => .long (f j))) (fun q => by cases q) (by show ¬ (nI k < 0 ∨ (arrV _ _ _).slots.size ≤ _); rw [arrV_size]; exact vp_in_nI hk hn) rfl rfl hd fun H1 e z1 oq => ?_
  refine kk (gup G i (cJ E n (fu f k x))) (gup_self _ _ _) (fun j hj => gup_ne _ _ hj) H1 _ ls (hg.set (e := .inl (E.2.1 1, n, .inr (.inl (fu f k x)))) ?_ oq) (hz.put z1) (hs.put z1 oq (ga_A E i)) hl2
  show H1[ga E i]? = some (vp_cell _ _)
  rw [e]
  skip
  skip
  rw [vp_cell_l, vp_cell_l, arrV_store, nI_clamp (by omega)]
  congr 2
  funext q
  by_cases hq : q = k
  · subst hq
    simp [updV, fu]
  · simp [updV, fu, hq]
theorem v_zast (C : Cx M E own cc nL ret FR LO MC MS) {i n k : Nat} {f : Nat → Int32} {x : Int32} (hd : decode cc pc = .ok (.bastore, 1)) (hG : G i = cZ E n f) (hk : k < n) (hn : n < 2 ^ 31) (hx : x = 0 ∨ x = 1) (kk : ∀ G' : Gh, G' i = cZ E n (fu f k x) → (∀ j, j ≠ i → G' j = G j) → V M E nL Q z cells slots G' (pc + 1) lo st) : V M E nL Q z cells slots G pc lo (.int x :: .int (nI k) :: .ref (ga E i) :: st) := by
  intro H locs ls hg hz hs hl2
  have hK := C.2.2.2.2.1.2.2
  have ht : (tysE E)[2]? = some (E.2.1 2, .boolean) := rfl
  refine W.zast C.1 C.2.1 (hg i _ hG) ((hK.2 2 _ ht).1 n (fun j => .int (f j))) (fun q => by cases q) (by show ¬ (nI k < 0 ∨ (arrV _ _ _).slots.size ≤ _); rw [arrV_size]; exact vp_in_nI hk hn) rfl rfl hd fun H1 e z1 oq => ?_
  refine kk (gup G i (cZ E n (fu f k x))) (gup_self _ _ _) (fun j hj => gup_ne _ _ hj) H1 _ ls (hg.set (e := .inl (E.2.1 2, n, .inl (fu f k x))) ?_ oq) (hz.put z1) (hs.put z1 oq (ga_A E i)) hl2
  show H1[ga E i]? = some (vp_cell _ _)
  rw [e]
  have hnw : narrow .boolean (.int x) = .int x := by rcases hx with rfl | rfl <;> rfl
  rw [hnw]
  rw [vp_cell_i, vp_cell_i, arrV_store, nI_clamp (by omega)]
  congr 2
  funext q
  by_cases hq : q = k
  · subst hq
    simp [updV, fu]
  · simp [updV, fu, hq]
theorem v_iret {post : Int32 → Gh → Prop} {x : Int32} (C : Cx M E own cc nL (some .int) FR LO MC MS) (hd : decode cc pc = .ok (.ireturn, 1)) (hq : post x G) : V M E nL (QE M E (fun r : Int32 => some (.int r)) z cells slots post) z cells slots G pc lo [.int x] :=
  fun H locs ls a b c d => W.iret C.1 C.2.1 C.2.2.2.2.2.1 (fun t ht hW => ⟨⟨x, G, rfl, hq, by rw [ht]; exact a, by rw [ht]; exact b⟩, c.F ht⟩) c.2.2 hd C.2.2.2.2.2.2.1
theorem v_lret {post : Int64 → Gh → Prop} {x : Int64} (C : Cx M E own cc nL (some .long) FR LO MC MS) (hd : decode cc pc = .ok (.lreturn, 1)) (hq : post x G) : V M E nL (QE M E (fun r : Int64 => some (.long r)) z cells slots post) z cells slots G pc lo [.long x] :=
  fun H locs ls a b c d => W.lret C.1 C.2.1 C.2.2.2.2.2.1 (fun t ht hW => ⟨⟨x, G, rfl, hq, by rw [ht]; exact a, by rw [ht]; exact b⟩, c.F ht⟩) c.2.2 hd C.2.2.2.2.2.2.1
theorem v_zret {post : Bool → Gh → Prop} {x : Bool} (C : Cx M E own cc nL (some .boolean) FR LO MC MS) (hd : decode cc pc = .ok (.ireturn, 1)) (hq : post x G) : V M E nL (QE M E (fun r : Bool => some (.int (bI r))) z cells slots post) z cells slots G pc lo [.int (bI x)] :=
  fun H locs ls a b c d => W.zret C.1 C.2.1 C.2.2.2.2.2.1 (by cases x <;> rfl) (fun t ht hW => ⟨⟨x, G, rfl, hq, by rw [ht]; exact a, by rw [ht]; exact b⟩, c.F ht⟩) c.2.2 hd C.2.2.2.2.2.2.1
theorem v_vret {post : Unit → Gh → Prop} (C : Cx M E own cc nL none FR LO MC MS) (hd : decode cc pc = .ok (.return_, 1)) (hq : post () G) : V M E nL (QE M E (fun _ : Unit => none) z cells slots post) z cells slots G pc lo [] :=
  fun H locs ls a b c d => W.vret C.1 C.2.1 C.2.2.2.2.2.1 (fun t ht hW => ⟨⟨(), G, rfl, hq, by rw [ht]; exact a, by rw [ht]; exact b⟩, c.F ht⟩) c.2.2 hd C.2.2.2.2.2.2.1
theorem v_aret {post : Option Nat → Gh → Prop} {x : Option Nat} {Cn : String} (C : Cx M E own cc nL (some (.object Cn)) FR LO MC MS) (hd : decode cc pc = .ok (.areturn, 1)) (hq : post x G) : V M E nL (QE M E (fun r : Option Nat => some (va_rf r)) z cells slots post) z cells slots G pc lo [va_rf x] :=
  fun H locs ls a b c d => W.aret C.1 C.2.1 C.2.2.2.2.2.1 (Or.inl ⟨_, rfl⟩) (by cases x with | none => exact Or.inl rfl | some x => exact Or.inr ⟨x, rfl⟩) (fun t ht hW => ⟨⟨x, G, rfl, hq, by rw [ht]; exact a, by rw [ht]; exact b⟩, c.F ht⟩) c.2.2 hd C.2.2.2.2.2.2.1
end VR2
