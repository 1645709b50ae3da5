/-! Family (class 3): prime, width, rows, as, bs -/
def isFam (E : Ev) (G : Gh) (b P W R : Nat) (A B : Nat → Nat) : Prop := ∃ fa fb : Nat → Int32, G b = cO 3 [.int (nI P), .int (nI W), .int (nI R), .ref (ga E (b + 1)), .ref (ga E (b + 2))] ∧ G (b + 1) = cI E R fa ∧ G (b + 2) = cI E R fb ∧ (∀ i, i < R → fa i = nI (A i)) ∧ (∀ i, i < R → fb i = nI (B i)) ∧ (2 ≤ P ∧ P ≤ 65521 ∧ 1 ≤ W ∧ W ≤ 256 ∧ 1 ≤ R ∧ R ≤ 8) ∧ (∀ i, i < R → A i < P ∧ B i < P)
def hsh (P W a b x : Nat) : Nat := (a * x + b) % P % W

set_option maxHeartbeats 4000000 in
set_option maxRecDepth 100000 in
theorem c_Fam_isRow (l : Launch) (E : Ev) (z : Option Nat) {G : Gh} {b P W R : Nat} {A B : Nat → Nat} {k : Nat} (hk : k < 2 ^ 31) (hF : isFam E G b P W R A B) : K_X3_isRow l E z G [.ref (ga E b), .int (nI k)] (fun r G2 => r = decide (k < R) ∧ G = G2) := by
  refine Fc.of rfl [some (.ref (ga E b)), some (.int (nI k))] 0 rfl (Nat.le_of_ble_eq_true rfl) ?_
  intro M hM0 hini C
  subst hM0
  obtain ⟨fa, fb, hb0, hb1, hb2, hfa, hfb, hr, hab⟩ := hF
  refine v_iload_n C dX3_isRow_0 rfl ?_
  first | refine v_ifn_lt C 16 dX3_isRow_1 (by decide) (by omega) (fun h1 => ?_) (fun h1 => ?_) | refine v_if_lt C 16 dX3_isRow_1 (by decide) (fun h1 => ?_) (fun h1 => ?_)
  · skip
    refine v_iconst (v := bI false) C dX3_isRow_16 (by decide) ?_
    refine v_zret C dX3_isRow_17 ?_
    exact ⟨by simp; omega, rfl⟩
  · skip
    refine v_iload_n C dX3_isRow_4 rfl ?_
    refine v_aload_n C dX3_isRow_5 rfl ?_
    refine gf_X3_16 C dX3_isRow_6 (by assumption) ?_
    refine v_icmpn_ge C 16 dX3_isRow_9 (by decide) (by omega) (by omega) (fun h9 => ?_) (fun h9 => ?_)
    · skip
      refine v_iconst (v := bI false) C dX3_isRow_16 (by decide) ?_
      refine v_zret C dX3_isRow_17 ?_
      exact ⟨by simp; omega, rfl⟩
    · skip
      refine v_iconst (v := bI true) C dX3_isRow_12 (by decide) ?_
      refine v_goto C 17 dX3_isRow_13 (by decide) ?_
      refine v_zret C dX3_isRow_17 ?_
      exact ⟨by simp; omega, rfl⟩

set_option maxHeartbeats 4000000 in
set_option maxRecDepth 100000 in
theorem c_Fam_isKey (l : Launch) (E : Ev) (z : Option Nat) {G : Gh} {b P W R : Nat} {A B : Nat → Nat} {k : Nat} (hk : k < 2 ^ 31) (hF : isFam E G b P W R A B) : K_X3_isKey l E z G [.ref (ga E b), .int (nI k)] (fun r G2 => r = decide (k < P) ∧ G = G2) := by
  refine Fc.of rfl [some (.ref (ga E b)), some (.int (nI k))] 0 rfl (Nat.le_of_ble_eq_true rfl) ?_
  intro M hM0 hini C
  subst hM0
  obtain ⟨fa, fb, hb0, hb1, hb2, hfa, hfb, hr, hab⟩ := hF
  refine v_iload_n C dX3_isKey_0 rfl ?_
  first | refine v_ifn_lt C 16 dX3_isKey_1 (by decide) (by omega) (fun h1 => ?_) (fun h1 => ?_) | refine v_if_lt C 16 dX3_isKey_1 (by decide) (fun h1 => ?_) (fun h1 => ?_)
  · skip
    refine v_iconst (v := bI false) C dX3_isKey_16 (by decide) ?_
    refine v_zret C dX3_isKey_17 ?_
    exact ⟨by simp; omega, rfl⟩
  · skip
    refine v_iload_n C dX3_isKey_4 rfl ?_
    refine v_aload_n C dX3_isKey_5 rfl ?_
    refine gf_X3_7 C dX3_isKey_6 (by assumption) ?_
    refine v_icmpn_ge C 16 dX3_isKey_9 (by decide) (by omega) (by omega) (fun h9 => ?_) (fun h9 => ?_)
    · skip
      refine v_iconst (v := bI false) C dX3_isKey_16 (by decide) ?_
      refine v_zret C dX3_isKey_17 ?_
      exact ⟨by simp; omega, rfl⟩
    · skip
      refine v_iconst (v := bI true) C dX3_isKey_12 (by decide) ?_
      refine v_goto C 17 dX3_isKey_13 (by decide) ?_
      refine v_zret C dX3_isKey_17 ?_
      exact ⟨by simp; omega, rfl⟩

set_option maxHeartbeats 4000000 in
set_option maxRecDepth 100000 in
theorem c_Fam_column (l : Launch) (E : Ev) (z : Option Nat) {G : Gh} {b P W R : Nat} {A B : Nat → Nat} {row x : Nat} (hrow : row < R) (hx : x < P) (hF : isFam E G b P W R A B) : K_X3_column l E z G [.ref (ga E b), .int (nI row), .int (nI x)] (fun r G2 => r = nI (hsh P W (A row) (B row) x) ∧ G = G2) := by
  refine Fc.of rfl [some (.ref (ga E b)), some (.int (nI row)), some (.int (nI x)), none, none] 2 rfl (Nat.le_of_ble_eq_true rfl) ?_
  intro M hM0 hini C
  subst hM0
  obtain ⟨fa, fb, hb0, hb1, hb2, hfa, hfb, hr, hab⟩ := hF
  have h1 := hab row hrow
  have h2 : A row * x ≤ 65521 * 65521 := Nat.mul_le_mul (by omega) (by omega)
  have h3 := Nat.mod_lt (A row * x + B row) (show 0 < P by omega)
  refine v_aload_n C dX3_column_0 rfl ?_
  refine gf_X3_19 C dX3_column_1 (by assumption) ?_
  refine v_iload_n C dX3_column_4 rfl ?_
  refine v_iald C dX3_column_5 (by assumption) (by omega) (by omega) (hfa _ hrow) ?_
  first | refine v_i2ln C dX3_column_6 (by omega) ?_ | refine v_i2l C dX3_column_6 rfl ?_
  refine v_iload_n C dX3_column_7 rfl ?_
  first | refine v_i2ln C dX3_column_8 (by omega) ?_ | refine v_i2l C dX3_column_8 rfl ?_
  first | refine v_lmuln C dX3_column_9 ?_ | refine v_lmul C dX3_column_9 ?_
  refine v_aload_n C dX3_column_10 rfl ?_
  refine gf_X3_23 C dX3_column_11 (by assumption) ?_
  refine v_iload_n C dX3_column_14 rfl ?_
  refine v_iald C dX3_column_15 (by assumption) (by omega) (by omega) (hfb _ hrow) ?_
  first | refine v_i2ln C dX3_column_16 (by omega) ?_ | refine v_i2l C dX3_column_16 rfl ?_
  first | refine v_laddn C dX3_column_17 ?_ | refine v_ladd C dX3_column_17 ?_
  refine v_lstore_3 C dX3_column_18 (by decide) rfl ?_
  refine v_lload_n C dX3_column_19 rfl ?_
  refine v_aload_n C dX3_column_20 rfl ?_
  refine gf_X3_7 C dX3_column_21 (by assumption) ?_
  first | refine v_i2ln C dX3_column_24 (by omega) ?_ | refine v_i2l C dX3_column_24 rfl ?_
  refine v_lremn C dX3_column_25 (by omega) (by omega) (by omega) ?_
  first | refine v_l2in C dX3_column_26 ?_ | refine v_l2i C dX3_column_26 rfl ?_
  refine v_aload_n C dX3_column_27 rfl ?_
  refine gf_X3_13 C dX3_column_28 (by assumption) ?_
  refine v_iremn C dX3_column_31 (by omega) (by omega) (by omega) ?_
  refine v_iret C dX3_column_32 ?_
  exact ⟨rfl, rfl⟩

set_option maxHeartbeats 4000000 in
set_option maxRecDepth 100000 in
theorem c_Fam_isPair (l : Launch) (E : Ev) (z : Option Nat) {G : Gh} {b P W R : Nat} {A B : Nat → Nat} {a c : Nat} (ha : a < 2 ^ 31) (hc : c < 2 ^ 31) (hF : isFam E G b P W R A B) : K_X3_isPair l E z G [.ref (ga E b), .int (nI a), .int (nI c)] (fun r G2 => r = decide (1 ≤ a ∧ a < P ∧ c < P) ∧ G = G2) := by
  refine Fc.of rfl [some (.ref (ga E b)), some (.int (nI a)), some (.int (nI c))] 0 rfl (Nat.le_of_ble_eq_true rfl) ?_
  intro M hM0 hini C
  subst hM0
  obtain ⟨fa, fb, hb0, hb1, hb2, hfa, hfb, hr, hab⟩ := hF
  refine v_iload_n C dX3_isPair_0 rfl ?_
  refine v_iconst (v := nI 1) C dX3_isPair_1 (by decide) ?_
  refine v_icmpn_lt C 29 dX3_isPair_2 (by decide) (by omega) (by omega) (fun h2 => ?_) (fun h2 => ?_)
  · skip
    refine v_iconst (v := bI false) C dX3_isPair_29 (by decide) ?_
    refine v_zret C dX3_isPair_30 ?_
    exact ⟨by simp; omega, rfl⟩
  · skip
    refine v_iload_n C dX3_isPair_5 rfl ?_
    refine v_aload_n C dX3_isPair_6 rfl ?_
    refine gf_X3_7 C dX3_isPair_7 (by assumption) ?_
    refine v_icmpn_ge C 29 dX3_isPair_10 (by decide) (by omega) (by omega) (fun h10 => ?_) (fun h10 => ?_)
    · skip
      refine v_iconst (v := bI false) C dX3_isPair_29 (by decide) ?_
      refine v_zret C dX3_isPair_30 ?_
      exact ⟨by simp; omega, rfl⟩
    · skip
      refine v_iload_n C dX3_isPair_13 rfl ?_
      first | refine v_ifn_lt C 29 dX3_isPair_14 (by decide) (by omega) (fun h14 => ?_) (fun h14 => ?_) | refine v_if_lt C 29 dX3_isPair_14 (by decide) (fun h14 => ?_) (fun h14 => ?_)
      · skip
        refine v_iconst (v := bI false) C dX3_isPair_29 (by decide) ?_
        refine v_zret C dX3_isPair_30 ?_
        exact ⟨by simp; omega, rfl⟩
      · skip
        refine v_iload_n C dX3_isPair_17 rfl ?_
        refine v_aload_n C dX3_isPair_18 rfl ?_
        refine gf_X3_7 C dX3_isPair_19 (by assumption) ?_
        refine v_icmpn_ge C 29 dX3_isPair_22 (by decide) (by omega) (by omega) (fun h22 => ?_) (fun h22 => ?_)
        · skip
          refine v_iconst (v := bI false) C dX3_isPair_29 (by decide) ?_
          refine v_zret C dX3_isPair_30 ?_
          exact ⟨by simp; omega, rfl⟩
        · skip
          refine v_iconst (v := bI true) C dX3_isPair_25 (by decide) ?_
          refine v_goto C 30 dX3_isPair_26 (by decide) ?_
          refine v_zret C dX3_isPair_30 ?_
          exact ⟨by simp; omega, rfl⟩

set_option maxHeartbeats 4000000 in
set_option maxRecDepth 100000 in
theorem c_Fam_setPair (l : Launch) (E : Ev) (z : Option Nat) {G : Gh} {b P W R : Nat} {A B : Nat → Nat} {row a c : Nat} (hrow : row < R) (ha : a < P) (hc : c < P) (hF : isFam E G b P W R A B) : K_X3_setPair l E z G [.ref (ga E b), .int (nI row), .int (nI a), .int (nI c)] (fun _ G2 => isFam E G2 b P W R (fu A row a) (fu B row c) ∧ ∀ j, (j < b ∨ b + 3 ≤ j) → G2 j = G j) := by
  refine Fc.of rfl [some (.ref (ga E b)), some (.int (nI row)), some (.int (nI a)), some (.int (nI c))] 0 rfl (Nat.le_of_ble_eq_true rfl) ?_
  intro M hM0 hini C
  subst hM0
  obtain ⟨fa, fb, hb0, hb1, hb2, hfa, hfb, hr, hab⟩ := hF
  refine v_aload_n C dX3_setPair_0 rfl ?_
  refine gf_X3_19 C dX3_setPair_1 (by assumption) ?_
  refine v_iload_n C dX3_setPair_4 rfl ?_
  refine v_iload_n C dX3_setPair_5 rfl ?_
  refine v_iast C dX3_setPair_6 (by assumption) (by omega) (by omega) (fun G hG6 hF6 => ?_)
  first | replace hb0 := (hF6 _ (by omega)).trans hb0 | replace hb0 := hG6 | skip
  first | replace hb1 := (hF6 _ (by omega)).trans hb1 | replace hb1 := hG6 | skip
  first | replace hb2 := (hF6 _ (by omega)).trans hb2 | replace hb2 := hG6 | skip
  refine v_aload_n C dX3_setPair_7 rfl ?_
  refine gf_X3_23 C dX3_setPair_8 (by assumption) ?_
  refine v_iload_n C dX3_setPair_11 rfl ?_
  refine v_iload_n C dX3_setPair_12 rfl ?_
  refine v_iast C dX3_setPair_13 (by assumption) (by omega) (by omega) (fun G hG13 hF13 => ?_)
  first | replace hb0 := (hF13 _ (by omega)).trans hb0 | replace hb0 := hG13 | skip
  first | replace hb1 := (hF13 _ (by omega)).trans hb1 | replace hb1 := hG13 | skip
  first | replace hb2 := (hF13 _ (by omega)).trans hb2 | replace hb2 := hG13 | skip
  refine v_vret C dX3_setPair_14 ?_
  refine ⟨⟨_, _, hb0, hb1, hb2, fun i hi => ?_, fun i hi => ?_, hr, fun i hi => ?_⟩, fun j hj => ?_⟩
  · by_cases e : i = row
    · subst e; rw [fu_self, fu_self]
    · rw [fu_ne _ _ e, fu_ne _ _ e]; exact hfa i hi
  · by_cases e : i = row
    · subst e; rw [fu_self, fu_self]
    · rw [fu_ne _ _ e, fu_ne _ _ e]; exact hfb i hi
  · by_cases e : i = row
    · subst e; rw [fu_self, fu_self]; exact ⟨ha, hc⟩
    · rw [fu_ne _ _ e, fu_ne _ _ e]; exact hab i hi
  · rw [hF13 j (by omega), hF6 j (by omega)]

def meetN (P W : Nat) : Nat := P % W * (P / W + 1) * (P / W) + (W - P % W) * (P / W) * (P / W - 1)
