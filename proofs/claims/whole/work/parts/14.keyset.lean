/-! KeySet (class 5): bits -/
theorem nI_and (a b : Nat) : nI a &&& nI b = nI (a &&& b) := by
  apply Int32.toBitVec_inj.mp
  rw [Int32.toBitVec_and]
  show BitVec.ofNat 32 a &&& BitVec.ofNat 32 b = BitVec.ofNat 32 (a &&& b)
  exact BitVec.ofNat_and.symm
theorem nI_63 (k : Nat) : nI k &&& nI 63 = nI (k % 64) := by
  rw [nI_and]
  congr 1
  exact Nat.and_two_pow_sub_one_eq_mod k 6
theorem nI_s6 {k : Nat} (h : k < 2 ^ 31) : nI k >>> (nI 6 &&& 31) = nI (k / 64) := by
  apply Int32.toBitVec_inj.mp
  rw [Int32.toBitVec_shiftRight]
  have e : ((nI 6 &&& 31).toBitVec.smod 32) = 6#32 := by decide
  rw [e]
  apply BitVec.eq_of_toInt_eq
  have e1 : (nI k).toBitVec.toInt = (k : Int) := nI_toInt h
  have e2 : (nI (k / 64)).toBitVec.toInt = ((k / 64 : Nat) : Int) := nI_toInt (by omega)
  rw [e2, BitVec.sshiftRight_eq', BitVec.toInt_sshiftRight, e1, show (6#32).toNat = 6 from rfl, Int.shiftRight_eq_div_pow]
  simp
theorem bw_cu : ∀ k, k < 64 → ((nI k).toInt64.toUInt64 &&& Int64.toUInt64 63).toNat = k := by decide +kernel
theorem bw_one : ∀ k, k < 64 → (lN 1 <<< ((nI k).toInt64 &&& 63)).toBitVec = BitVec.twoPow 64 k := by decide +kernel
theorem bw_has {w : Int64} {k : Nat} (hk : k < 64) (hb : w.toBitVec.getLsbD k = true) : ¬ ((w.toUInt64 >>> ((nI k).toInt64.toUInt64 &&& Int64.toUInt64 63)).toInt64 &&& lN 1) = lN 0 := by
  intro h
  have h2 := congrArg (fun x : Int64 => x.toBitVec.getLsbD 0) h
  simp only [Int64.toBitVec_and, BitVec.getLsbD_and] at h2
  have e1 : (lN 1).toBitVec.getLsbD 0 = true := by decide
  have e0 : (lN 0).toBitVec.getLsbD 0 = false := by decide
  rw [e1, e0, Bool.and_true] at h2
  have e2 : ((w.toUInt64 >>> ((nI k).toInt64.toUInt64 &&& Int64.toUInt64 63)).toInt64).toBitVec = w.toBitVec >>> k := by
    show (w.toUInt64 >>> ((nI k).toInt64.toUInt64 &&& Int64.toUInt64 63)).toBitVec = _
    rw [UInt64.toBitVec_shiftRight]
    apply BitVec.eq_of_toNat_eq
    simp only [BitVec.toNat_ushiftRight, BitVec.ushiftRight_eq', BitVec.toNat_umod]
    have e3 := bw_cu k hk
    rw [← UInt64.toNat_toBitVec] at e3
    rw [e3]
    rw [show (64 : BitVec 64).toNat = 64 from rfl, Nat.mod_eq_of_lt hk]
    rfl
  rw [e2, BitVec.getLsbD_ushiftRight, Nat.add_zero, hb] at h2
  cases h2
def kb (f : Nat → Int64) (k : Nat) : Bool := (f (k / 64)).toBitVec.getLsbD (k % 64)
theorem kb_put {f : Nat → Int64} {k : Nat} : ∀ j, kb f j = true ∨ j = k → kb (fu f (k / 64) (f (k / 64) ||| lN 1 <<< ((nI (k % 64)).toInt64 &&& 63))) j = true := by
  intro j h
  unfold kb
  have hk := bw_one (k % 64) (Nat.mod_lt _ (by decide))
  by_cases e : j / 64 = k / 64
  · rw [e, fu_self, Int64.toBitVec_or, BitVec.getLsbD_or, hk, BitVec.getLsbD_twoPow]
    rcases h with h | h
    · unfold kb at h; rw [e] at h; rw [h]; rfl
    · subst h
      have : j % 64 < 64 := Nat.mod_lt _ (by decide)
      simp [this]
  · rw [fu_ne _ _ e]
    rcases h with h | h
    · exact h
    · exact absurd (by rw [h]) e
theorem kb_drop {f : Nat → Int64} {k : Nat} : ∀ j, kb f j = true → j ≠ k → kb (fu f (k / 64) (f (k / 64) &&& ((lN 1 <<< ((nI (k % 64)).toInt64 &&& 63)) ^^^ (-1)))) j = true := by
  intro j h hne
  unfold kb at h ⊢
  have hk := bw_one (k % 64) (Nat.mod_lt _ (by decide))
  by_cases e : j / 64 = k / 64
  · have e2 : ¬ j % 64 = k % 64 := fun z => hne (by omega)
    have h3 : j % 64 < 64 := Nat.mod_lt _ (by decide)
    have e4 : ((-1 : Int64).toBitVec).getLsbD (j % 64) = true := by
      show (BitVec.allOnes 64).getLsbD (j % 64) = true
      rw [BitVec.getLsbD_allOnes]; simp [h3]
    rw [e, fu_self, Int64.toBitVec_and, BitVec.getLsbD_and, Int64.toBitVec_xor, BitVec.getLsbD_xor, hk, BitVec.getLsbD_twoPow, e4]
    rw [e] at h
    rw [h]
    have : ¬ k % 64 = j % 64 := fun z => e2 z.symm
    simp [this]
  · rw [fu_ne _ _ e]; exact h
def isKS (E : Ev) (G : Gh) (b P : Nat) (S : Nat → Prop) : Prop := ∃ f : Nat → Int64, G b = cO 5 [.ref (ga E (b + 1))] ∧ G (b + 1) = cJ E (P / 64 + 1) f ∧ ∀ k, S k → kb f k = true
theorem isKS.keep {E : Ev} {G G2 : Gh} {b P : Nat} {S : Nat → Prop} (h : isKS E G b P S) (hf : ∀ j, b ≤ j → j < b + 2 → G2 j = G j) : isKS E G2 b P S := by
  obtain ⟨f, h0, h1, h2⟩ := h
  exact ⟨f, (hf _ (by omega) (by omega)).trans h0, (hf _ (by omega) (by omega)).trans h1, h2⟩
theorem isKS.rc {E : Ev} {G : Gh} {b P : Nat} {S : Nat → Prop} (h : isKS E G b P S) : G b = cO 5 [.ref (ga E (b + 1))] := by
  obtain ⟨f, h0, h1, h2⟩ := h
  exact h0
theorem isKS.sub {E : Ev} {G : Gh} {b P : Nat} {S S2 : Nat → Prop} (h : isKS E G b P S) (hs : ∀ k, S2 k → S k) : isKS E G b P S2 := by
  obtain ⟨f, h0, h1, h2⟩ := h
  exact ⟨f, h0, h1, fun k hk => h2 k (hs k hk)⟩

set_option maxHeartbeats 4000000 in
set_option maxRecDepth 100000 in
theorem c_KS_has (l : Launch) (E : Ev) (z : Option Nat) {G : Gh} {b P k : Nat} {S : Nat → Prop} (hP : P ≤ 65521) (hk : k < P) (hs : isKS E G b P S) : K_X5_has l E z G [.ref (ga E b), .int (nI k)] (fun r G2 => (S k → r = true) ∧ G = G2) := by
  refine Fc.of rfl [some (.ref (ga E b)), some (.int (nI k))] 0 rfl (Nat.le_of_ble_eq_true rfl) ?_
  intro M hM0 hini C
  subst hM0
  obtain ⟨f, hb0, hb1, hf⟩ := id hs
  have hkd : k / 64 < P / 64 + 1 := by omega
  refine v_aload_n C dX5_has_0 rfl ?_
  refine gf_X5_7 C dX5_has_1 (by assumption) ?_
  refine v_iload_n C dX5_has_4 rfl ?_
  refine v_bipush (v := nI 6) C dX5_has_5 (by decide) ?_
  refine v_ishr C dX5_has_7 (nI_s6 (by omega)) ?_
  refine v_lald C dX5_has_8 (by assumption) (by omega) (by omega) rfl ?_
  refine v_iload_n C dX5_has_9 rfl ?_
  refine v_bipush (v := nI 63) C dX5_has_10 (by decide) ?_
  refine v_iand C dX5_has_12 ?_
  refine v_topi (nI_63 k) ?_
  refine v_lushr C dX5_has_13 rfl ?_
  refine v_lconst (v := lN 1) C dX5_has_14 (by decide) ?_
  refine v_land C dX5_has_15 ?_
  refine v_lconst (v := lN 0) C dX5_has_16 (by decide) ?_
  refine v_lcmp_eq C 25 dX5_has_17 dX5_has_18 (by decide) (fun h17 => ?_) (fun h17 => ?_)
  · skip
    refine v_iconst (v := bI false) C dX5_has_25 (by decide) ?_
    refine v_zret C dX5_has_26 ?_
    first
      | exact ⟨fun _ => rfl, rfl⟩
      | exact ⟨fun h => absurd h17 (bw_has (Nat.mod_lt _ (by decide)) (hf k h)), rfl⟩
  · skip
    refine v_iconst (v := bI true) C dX5_has_21 (by decide) ?_
    refine v_goto C 26 dX5_has_22 (by decide) ?_
    refine v_zret C dX5_has_26 ?_
    first
      | exact ⟨fun _ => rfl, rfl⟩
      | exact ⟨fun h => absurd h17 (bw_has (Nat.mod_lt _ (by decide)) (hf k h)), rfl⟩

set_option maxHeartbeats 4000000 in
set_option maxRecDepth 100000 in
theorem c_KS_put (l : Launch) (E : Ev) (z : Option Nat) {G : Gh} {b P k : Nat} {S : Nat → Prop} (hP : P ≤ 65521) (hk : k < P) (hs : isKS E G b P S) : K_X5_put l E z G [.ref (ga E b), .int (nI k)] (fun _ G2 => isKS E G2 b P (fun j => S j ∨ j = k) ∧ ∀ j, j ≠ b + 1 → G2 j = G j) := by
  refine Fc.of rfl [some (.ref (ga E b)), some (.int (nI k))] 0 rfl (Nat.le_of_ble_eq_true rfl) ?_
  intro M hM0 hini C
  subst hM0
  obtain ⟨f, hb0, hb1, hf⟩ := id hs
  have hkd : k / 64 < P / 64 + 1 := by omega
  refine v_aload_n C dX5_put_0 rfl ?_
  refine gf_X5_7 C dX5_put_1 (by assumption) ?_
  refine v_iload_n C dX5_put_4 rfl ?_
  refine v_bipush (v := nI 6) C dX5_put_5 (by decide) ?_
  refine v_ishr C dX5_put_7 (nI_s6 (by omega)) ?_
  refine v_dup2 C dX5_put_8 rfl rfl ?_
  refine v_lald C dX5_put_9 (by assumption) (by omega) (by omega) rfl ?_
  refine v_lconst (v := lN 1) C dX5_put_10 (by decide) ?_
  refine v_iload_n C dX5_put_11 rfl ?_
  refine v_bipush (v := nI 63) C dX5_put_12 (by decide) ?_
  refine v_iand C dX5_put_14 ?_
  refine v_topi (nI_63 k) ?_
  refine v_lshl C dX5_put_15 rfl ?_
  refine v_lor C dX5_put_16 ?_
  refine v_last C dX5_put_17 (by assumption) (by omega) (by omega) (fun G hG17 hF17 => ?_)
  first | replace hb0 := (hF17 _ (by omega)).trans hb0 | replace hb0 := hG17 | skip
  first | replace hb1 := (hF17 _ (by omega)).trans hb1 | replace hb1 := hG17 | skip
  refine v_vret C dX5_put_18 ?_
  exact ⟨⟨_, hb0, hb1, fun j hj => kb_put j (hj.elim (fun h => Or.inl (hf j h)) Or.inr)⟩, hF17⟩

set_option maxHeartbeats 4000000 in
set_option maxRecDepth 100000 in
theorem c_KS_drop (l : Launch) (E : Ev) (z : Option Nat) {G : Gh} {b P k : Nat} {S : Nat → Prop} (hP : P ≤ 65521) (hk : k < P) (hs : isKS E G b P S) : K_X5_drop l E z G [.ref (ga E b), .int (nI k)] (fun _ G2 => isKS E G2 b P (fun j => S j ∧ j ≠ k) ∧ ∀ j, j ≠ b + 1 → G2 j = G j) := by
  refine Fc.of rfl [some (.ref (ga E b)), some (.int (nI k))] 0 rfl (Nat.le_of_ble_eq_true rfl) ?_
  intro M hM0 hini C
  subst hM0
  obtain ⟨f, hb0, hb1, hf⟩ := id hs
  have hkd : k / 64 < P / 64 + 1 := by omega
  refine v_aload_n C dX5_drop_0 rfl ?_
  refine gf_X5_7 C dX5_drop_1 (by assumption) ?_
  refine v_iload_n C dX5_drop_4 rfl ?_
  refine v_bipush (v := nI 6) C dX5_drop_5 (by decide) ?_
  refine v_ishr C dX5_drop_7 (nI_s6 (by omega)) ?_
  refine v_dup2 C dX5_drop_8 rfl rfl ?_
  refine v_lald C dX5_drop_9 (by assumption) (by omega) (by omega) rfl ?_
  refine v_lconst (v := lN 1) C dX5_drop_10 (by decide) ?_
  refine v_iload_n C dX5_drop_11 rfl ?_
  refine v_bipush (v := nI 63) C dX5_drop_12 (by decide) ?_
  refine v_iand C dX5_drop_14 ?_
  refine v_topi (nI_63 k) ?_
  refine v_lshl C dX5_drop_15 rfl ?_
  refine v_ldc2 C tw811 dX5_drop_16 ?_
  refine v_lxor C dX5_drop_19 ?_
  refine v_land C dX5_drop_20 ?_
  refine v_last C dX5_drop_21 (by assumption) (by omega) (by omega) (fun G hG21 hF21 => ?_)
  first | replace hb0 := (hF21 _ (by omega)).trans hb0 | replace hb0 := hG21 | skip
  first | replace hb1 := (hF21 _ (by omega)).trans hb1 | replace hb1 := hG21 | skip
  refine v_vret C dX5_drop_22 ?_
  exact ⟨⟨_, hb0, hb1, fun j hj => kb_drop j (hf j hj.1) hj.2⟩, hF21⟩

set_option maxHeartbeats 4000000 in
set_option maxRecDepth 100000 in
theorem c_KS_makeEmpty (l : Launch) (E : Ev) (z : Option Nat) {G : Gh} {b P : Nat} {S : Nat → Prop} (hP : P ≤ 65521) (hs : isKS E G b P S) : K_X5_makeEmpty l E z G [.ref (ga E b)] (fun _ G2 => isKS E G2 b P (fun _ => False) ∧ ∀ j, j ≠ b + 1 → G2 j = G j) := by
  refine Fc.of rfl [some (.ref (ga E b))] 0 rfl (Nat.le_of_ble_eq_true rfl) ?_
  intro M hM0 hini C
  subst hM0
  obtain ⟨f, hb0, hb1, hf⟩ := id hs
  refine v_aload_n C dX5_makeEmpty_0 rfl ?_
  refine gf_X5_7 C dX5_makeEmpty_1 (by assumption) ?_
  refine v_lconst (v := lN 0) C dX5_makeEmpty_4 (by decide) ?_
  refine mc_X5_15 C dX5_makeEmpty_5 (c_fill _ E z (by omega) hb1) rfl (fun r5 G5 hp5 => ?_)
  obtain ⟨f2, h1, h2, h3⟩ := hp5
  refine v_vret C dX5_makeEmpty_8 ?_
  exact ⟨⟨f2, (h2 _ (by omega)).trans hb0, h1, fun _ h => h.elim⟩, h2⟩

set_option maxHeartbeats 4000000 in
set_option maxRecDepth 100000 in
theorem c_KS_become (l : Launch) (E : Ev) {G : Gh} {b b2 P : Nat} {S S2 : Nat → Prop} (hP : P ≤ 65521) (hS : ∀ k, S2 k → k < P) (hs : isKS E G b P S) (hs2 : isKS E G b2 P S2) : K_X5_become l E none G [.ref (ga E b), .ref (ga E b2)] (fun _ G2 => isKS E G2 b P S2 ∧ ∀ j, j ≠ b + 1 → G2 j = G j) := by
  refine Fc.of rfl [some (.ref (ga E b)), some (.ref (ga E b2))] 0 rfl (Nat.le_of_ble_eq_true rfl) ?_
  intro M hM0 hini C
  subst hM0
  obtain ⟨f, hb0, hb1, hf⟩ := id hs
  obtain ⟨fd, hd0, hd1, hd⟩ := id hs2
  refine v_aload_n C dX5_become_0 rfl ?_
  refine gf_X5_7 C dX5_become_1 (by assumption) ?_
  refine v_iconst (v := nI 0) C dX5_become_4 (by decide) ?_
  refine v_aload_n C dX5_become_5 rfl ?_
  refine gf_X5_7 C dX5_become_6 (by assumption) ?_
  refine v_iconst (v := nI 0) C dX5_become_9 (by decide) ?_
  refine v_aload_n C dX5_become_10 rfl ?_
  refine gf_X5_7 C dX5_become_11 (by assumption) ?_
  first | refine v_alen_cI C dX5_become_14 (by assumption) ?_ | refine v_alen_cJ C dX5_become_14 (by assumption) ?_
  refine v_cpyJ C tw358 dX5_become_15 hd1 hb1 (by omega) (by omega) (by omega) (by omega) (Nat.le_of_ble_eq_true rfl) (Nat.le_of_ble_eq_true rfl) (fun G hG15 hF15 => ?_)
  refine v_vret C dX5_become_18 ?_
  refine ⟨⟨_, (hF15 _ (by omega)).trans hb0, hG15, fun k hk => ?_⟩, hF15⟩
  have h1 := hd k hk
  unfold kb at h1 ⊢
  unfold va_cpy
  by_cases e : k / 64 < P / 64 + 1
  · rw [if_pos (by omega), show 0 + (k / 64 - 0) = k / 64 by omega]
    exact h1
  · exact absurd (hS k hk) (by omega)

