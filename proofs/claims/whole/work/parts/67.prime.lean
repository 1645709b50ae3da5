theorem okr_s {a FR b LO c cells MC slots MS : Nat} (h : okr a FR b LO c 0 0 0 0 = true) (h1 : cells ≤ MC) (h2 : slots ≤ MS) : okr a FR b LO c cells MC slots MS = true := by
  obtain ⟨g1, g2, g3, -, -⟩ := okr_1 h
  simp only [okr, Bool.and_eq_true, Nat.ble_eq]
  exact ⟨⟨⟨⟨g1, g2⟩, g3⟩, h1⟩, h2⟩
def prm (n : Nat) : Prop := 2 ≤ n ∧ ∀ d, 2 ≤ d → d * d ≤ n → n % d ≠ 0
def lpS (n p : Nat) : Prop := n ≤ p ∧ p ≤ 65521 ∧ prm p ∧ ∀ q, n ≤ q → q < p → ¬ prm q
theorem lpS_eq {n p q : Nat} (h1 : lpS n p) (h2 : lpS n q) : p = q := by
  rcases Nat.lt_trichotomy p q with h | h | h
  · exact absurd h1.2.2.1 (h2.2.2.2 p h1.1 h)
  · exact h
  · exact absurd h2.2.2.1 (h1.2.2.2 q h2.1 h)
theorem prm_last : prm 65521 := by
  refine ⟨by decide, fun d h1 h2 h3 => ?_⟩
  have hd : d < 256 := Nat.lt_of_not_le (fun h => by have := Nat.mul_le_mul h h; omega)
  have hall : ∀ d, d < 256 → 2 ≤ d → 65521 % d ≠ 0 := by decide +kernel
  exact hall d hd h1 h3
def wi (x : Int32) (lo hi : Nat) : Nat := (max (lo : Int) (min (hi : Int) x.toInt)).toNat
theorem wi_bd {x : Int32} {lo hi : Nat} (h : lo ≤ hi) : lo ≤ wi x lo hi ∧ wi x lo hi ≤ hi := by unfold wi; omega
theorem wi_eq {x y : Int32} {lo hi : Nat} (h : lo ≤ hi) (hh : hi < 2 ^ 31) (hy : y.toInt = max (lo : Int) (min (hi : Int) x.toInt)) : y = nI (wi x lo hi) := by
  apply Int32.toInt_inj.mp
  have hb := wi_bd (x := x) h
  rw [nI_toInt (by omega), hy]
  unfold wi
  omega
theorem sq_lt {d n : Nat} (h : d * d ≤ n) (hn : n ≤ 65521) : d < 256 := Nat.lt_of_not_le (fun h9 => by have := Nat.mul_le_mul h9 h9; omega)
theorem sq_le {d : Nat} (h : d ≤ 256) : d * d ≤ 65536 := Nat.mul_le_mul h h
theorem prm_of {n d : Nat} (h2 : 2 ≤ n) (hd : n < d * d) (h : ∀ e, 2 ≤ e → e < d → n % e ≠ 0) : prm n := ⟨h2, fun e he1 he2 => h e he1 (Nat.lt_of_not_le (fun h9 => by have := Nat.mul_le_mul h9 h9; omega))⟩
def famA (P i : Nat) : Nat := 1 + (7919 * i + 13) % (P - 1)
def famB (P i : Nat) : Nat := (104729 * i + 5) % P

set_option maxHeartbeats 4000000 in
set_option maxRecDepth 100000 in
theorem c_FS_within (l : Launch) (E : Ev) (z : Option Nat) {G : Gh} {x : Int32} {a b : Nat} (hab : a ≤ b) (hb : b < 2 ^ 31)  : K_X11_within l E z G [.int x, .int (nI a), .int (nI b)] (fun r G2 => r = nI (wi x a b) ∧ G = G2) := by
  refine Fc.of rfl [some (.int x), some (.int (nI a)), some (.int (nI b))] 0 rfl (Nat.le_of_ble_eq_true rfl) ?_
  intro M hM0 hini C
  subst hM0
  refine v_iload_n C dX11_within_0 rfl ?_
  refine v_iload_n C dX11_within_1 rfl ?_
  refine v_iload_n C dX11_within_2 rfl ?_
  refine mc_X11_45 C dX11_within_3 rfl ?_
  refine mc_X11_208 C dX11_within_6 rfl ?_
  refine v_iret C dX11_within_9 ?_
  refine ⟨wi_eq hab hb ?_, rfl⟩
  have e1 : (nI a).toInt = a := nI_toInt (by omega)
  have e2 : (nI b).toInt = b := nI_toInt (by omega)
  have e3 : (if x < nI b then x else nI b).toInt = min (b : Int) x.toInt := by
    split <;> rename_i h9 <;> rw [Int32.lt_iff_toInt_lt] at h9 <;> omega
  generalize (if x < nI b then x else nI b) = y at e3 ⊢
  split <;> rename_i h9 <;> rw [Int32.lt_iff_toInt_lt, e3, e1] at h9 <;> omega

set_option maxHeartbeats 4000000 in
set_option maxRecDepth 100000 in
theorem c_Mo_within (l : Launch) (E : Ev) (z : Option Nat) {G : Gh} {x : Int32} {a b : Nat} (hab : a ≤ b) (hb : b < 2 ^ 31)  : K_X12_within l E z G [.int x, .int (nI a), .int (nI b)] (fun r G2 => r = nI (wi x a b) ∧ G = G2) := by
  refine Fc.of rfl [some (.int x), some (.int (nI a)), some (.int (nI b))] 0 rfl (Nat.le_of_ble_eq_true rfl) ?_
  intro M hM0 hini C
  subst hM0
  refine v_iload_n C dX12_within_0 rfl ?_
  refine v_iload_n C dX12_within_1 rfl ?_
  refine v_icmp_ge C 9 dX12_within_2 (by decide) (fun h2 => ?_) (fun h2 => ?_)
  · skip
    refine v_iload_n C dX12_within_9 rfl ?_
    refine v_iload_n C dX12_within_10 rfl ?_
    refine v_icmp_le C 18 dX12_within_11 (by decide) (fun h11 => ?_) (fun h11 => ?_)
    · skip
      refine v_iload_n C dX12_within_18 rfl ?_
      refine v_iret C dX12_within_19 ?_
      refine ⟨wi_eq hab hb ?_, rfl⟩
      have e1 : (nI a).toInt = a := nI_toInt (by omega)
      have e2 : (nI b).toInt = b := nI_toInt (by omega)
      first
        | (rw [Int32.le_iff_toInt_le] at h2; rw [Int32.le_iff_toInt_le] at h11; omega)
        | (rw [Int32.le_iff_toInt_le] at h2; omega)
    · skip
      refine v_iload_n C dX12_within_14 rfl ?_
      refine v_goto C 19 dX12_within_15 (by decide) ?_
      refine v_iret C dX12_within_19 ?_
      refine ⟨wi_eq hab hb ?_, rfl⟩
      have e1 : (nI a).toInt = a := nI_toInt (by omega)
      have e2 : (nI b).toInt = b := nI_toInt (by omega)
      first
        | (rw [Int32.le_iff_toInt_le] at h2; rw [Int32.le_iff_toInt_le] at h11; omega)
        | (rw [Int32.le_iff_toInt_le] at h2; omega)
  · skip
    refine v_iload_n C dX12_within_5 rfl ?_
    refine v_goto C 19 dX12_within_6 (by decide) ?_
    refine v_iret C dX12_within_19 ?_
    refine ⟨wi_eq hab hb ?_, rfl⟩
    have e1 : (nI a).toInt = a := nI_toInt (by omega)
    have e2 : (nI b).toInt = b := nI_toInt (by omega)
    first
      | (rw [Int32.le_iff_toInt_le] at h2; rw [Int32.le_iff_toInt_le] at h11; omega)
      | (rw [Int32.le_iff_toInt_le] at h2; omega)

set_option maxHeartbeats 4000000 in
set_option maxRecDepth 100000 in
theorem isp_loop {M : Mx} {E : Ev} {z : Option Nat} (C : Cx M E yX11_isPrime.cls cX11_isPrime 2 (some .boolean) 0 0 0 0) {post : Bool → Gh → Prop} {G : Gh} {n : Nat} (hn : n ≤ 65521) (hend : ∀ {r : Bool}, (r = true → prm n) → (prm n → r = true) → post r G) : ∀ (t d : Nat), 2 ≤ d → d ≤ 256 → 257 - d < t → (∀ e, 2 ≤ e → e < d → n % e ≠ 0) → V M E 2 (QE M E (fun r : Bool => some (.int (bI r))) z 0 0 post) z 0 0 G 2 [some (.int (nI n)), some (.int (nI d))] [] := by
  intro t
  induction t with
  | zero => intro d _ _ h; omega
  | succ t ih =>
    intro d hd2 hd ht hno
    have hsq := sq_le hd
    refine v_iload_n C dX11_isPrime_2 rfl ?_
    refine v_iload_n C dX11_isPrime_3 rfl ?_
    first | refine v_imuln C dX11_isPrime_4 ?_ | refine v_imul C dX11_isPrime_4 ?_
    refine v_iload_n C dX11_isPrime_5 rfl ?_
    refine v_icmpn_gt C 23 dX11_isPrime_6 (by decide) (by omega) (by omega) (fun h6 => ?_) (fun h6 => ?_)
    · skip
      refine v_iload_n C dX11_isPrime_23 rfl ?_
      refine v_iconst (v := nI 2) C dX11_isPrime_24 (by decide) ?_
      refine v_icmpn_lt C 32 dX11_isPrime_25 (by decide) (by omega) (by omega) (fun h25 => ?_) (fun h25 => ?_)
      · skip
        refine v_iconst (v := bI false) C dX11_isPrime_32 (by decide) ?_
        refine v_zret C dX11_isPrime_33 ?_
        first
          | exact hend (fun _ => prm_of (by omega) (by omega) hno) (fun _ => rfl)
          | exact hend (by simp) (fun h => by have := h.1; omega)
      · skip
        refine v_iconst (v := bI true) C dX11_isPrime_28 (by decide) ?_
        refine v_goto C 33 dX11_isPrime_29 (by decide) ?_
        refine v_zret C dX11_isPrime_33 ?_
        first
          | exact hend (fun _ => prm_of (by omega) (by omega) hno) (fun _ => rfl)
          | exact hend (by simp) (fun h => by have := h.1; omega)
    · skip
      have hd5 := sq_lt h6 hn
      have hmd := Nat.mod_lt n (show d > 0 by omega)
      refine v_iload_n C dX11_isPrime_9 rfl ?_
      refine v_iload_n C dX11_isPrime_10 rfl ?_
      refine v_iremn C dX11_isPrime_11 (by omega) (by omega) (by omega) ?_
      first | refine v_ifb_ne C 17 dX11_isPrime_12 (by decide) (fun h12 => ?_) (fun h12 => ?_) | refine v_ifn_ne C 17 dX11_isPrime_12 (by decide) (by omega) (fun h12 => ?_) (fun h12 => ?_) | refine v_if_ne C 17 dX11_isPrime_12 (by decide) (fun h12 => ?_) (fun h12 => ?_)
      · skip
        first | refine v_iinc_1 C dX11_isPrime_17 (nI_1 _) (by decide) (by first | rfl | assumption) ?_ | refine v_iinc_1 C dX11_isPrime_17 rfl (by decide) (by first | rfl | assumption) ?_
        refine v_goto C 2 dX11_isPrime_20 (by decide) ?_
        refine ih (d + 1) (by omega) (by omega) (by omega) (fun e h1 h2 => ?_)
        by_cases q9 : e = d
        · subst q9; omega
        · exact hno e h1 (by omega)
      · skip
        refine v_iconst (v := bI false) C dX11_isPrime_15 (by decide) ?_
        refine v_zret C dX11_isPrime_16 ?_
        exact hend (by simp) (fun h => absurd h12 (h.2 d hd2 h6))
set_option maxHeartbeats 4000000 in
set_option maxRecDepth 100000 in
theorem c_FS_isPrime (l : Launch) (E : Ev) (z : Option Nat) {G : Gh} {n : Nat} (hn : n ≤ 65521)  : K_X11_isPrime l E z G [.int (nI n)] (fun r G2 => (r = true ↔ prm n) ∧ G = G2) := by
  refine Fc.of rfl [some (.int (nI n)), none] 1 rfl (Nat.le_of_ble_eq_true rfl) ?_
  intro M hM0 hini C
  subst hM0
  refine v_iconst (v := nI 2) C dX11_isPrime_0 (by decide) ?_
  refine v_istore_1 C dX11_isPrime_1 (by decide) (by first | rfl | assumption) ?_
  exact isp_loop C hn (fun h1 h2 => ⟨⟨h1, h2⟩, rfl⟩) 257 2 (by omega) (by omega) (by omega) (fun e h1 h2 => by omega)

set_option maxHeartbeats 4000000 in
set_option maxRecDepth 100000 in
theorem lpf_loop {M : Mx} {E : Ev} {z : Option Nat} (C : Cx M E yX11_leastPrimeFrom.cls cX11_leastPrimeFrom 2 (some .int) 1 21 0 0) {post : Int32 → Gh → Prop} {G : Gh} {n : Nat} (hend : ∀ p {v : Int32}, lpS n p → v = nI p → post v G) : ∀ (t c : Nat), n ≤ c → c ≤ 65521 → 65522 - c < t → (∀ q, n ≤ q → q < c → ¬ prm q) → V M E 2 (QE M E (fun r : Int32 => some (.int r)) z 0 0 post) z 0 0 G 2 [some (.int (nI n)), some (.int (nI c))] [] := by
  intro t
  induction t with
  | zero => intro d _ _ h; omega
  | succ t ih =>
    intro c hnc hc ht hno
    refine v_iload_n C dX11_leastPrimeFrom_2 rfl ?_
    refine v_ldc C tw783 dX11_leastPrimeFrom_3 ?_
    refine v_topi (show _ = nI 65521 by decide) ?_
    refine v_icmpn_ge C 23 dX11_leastPrimeFrom_5 (by decide) (by omega) (by omega) (fun h5 => ?_) (fun h5 => ?_)
    · skip
      refine v_ldc C tw783 dX11_leastPrimeFrom_23 ?_
      refine v_topi (show _ = nI 65521 by decide) ?_
      refine v_iret C dX11_leastPrimeFrom_25 ?_
      have e9 : c = 65521 := by omega
      subst e9
      exact hend 65521 ⟨hnc, by omega, prm_last, hno⟩ rfl
    · skip
      refine v_iload_n C dX11_leastPrimeFrom_8 rfl ?_
      refine mc_X11_211 C dX11_leastPrimeFrom_9 (c_FS_isPrime _ E z (n := c) (by omega)) rfl (fun r9 G9 hp9 => ?_)
      obtain ⟨hr9, rfl⟩ := hp9
      first | refine v_ifb_eq C 17 dX11_leastPrimeFrom_12 (by decide) (fun h12 => ?_) (fun h12 => ?_) | refine v_ifn_eq C 17 dX11_leastPrimeFrom_12 (by decide) (by omega) (fun h12 => ?_) (fun h12 => ?_) | refine v_if_eq C 17 dX11_leastPrimeFrom_12 (by decide) (fun h12 => ?_) (fun h12 => ?_)
      · skip
        first | refine v_iinc_1 C dX11_leastPrimeFrom_17 (nI_1 _) (by decide) (by first | rfl | assumption) ?_ | refine v_iinc_1 C dX11_leastPrimeFrom_17 rfl (by decide) (by first | rfl | assumption) ?_
        refine v_goto C 2 dX11_leastPrimeFrom_20 (by decide) ?_
        refine ih (c + 1) (by omega) (by omega) (by omega) (fun q h1 h2 => ?_)
        by_cases q9 : q = c
        · subst q9; exact fun h => by have := hr9.mpr h; rw [h12] at this; cases this
        · exact hno q h1 (by omega)
      · skip
        refine v_iload_n C dX11_leastPrimeFrom_15 rfl ?_
        refine v_iret C dX11_leastPrimeFrom_16 ?_
        exact hend c ⟨hnc, by omega, hr9.mp h12, hno⟩ rfl
set_option maxHeartbeats 4000000 in
set_option maxRecDepth 100000 in
theorem c_FS_lpf (l : Launch) (E : Ev) (z : Option Nat) {G : Gh} {n : Nat} (hn : n ≤ 65521)  : K_X11_leastPrimeFrom l E z G [.int (nI n)] (fun r G2 => (∃ p, lpS n p ∧ r = nI p) ∧ G = G2) := by
  refine Fc.of rfl [some (.int (nI n)), none] 1 rfl (Nat.le_of_ble_eq_true rfl) ?_
  intro M hM0 hini C
  subst hM0
  refine v_iload_n C dX11_leastPrimeFrom_0 rfl ?_
  refine v_istore_1 C dX11_leastPrimeFrom_1 (by decide) (by first | rfl | assumption) ?_
  exact lpf_loop C (fun p _ h1 h2 => ⟨⟨p, h1, h2⟩, rfl⟩) 65523 n (by omega) hn (by omega) (fun q h1 h2 => by omega)

set_option maxHeartbeats 4000000 in
set_option maxRecDepth 100000 in
theorem mip_f {M : Mx} {E : Ev} {z : Option Nat} (C : Cx M E yX12_isPrime.cls cX12_isPrime 3 (some .boolean) 0 0 0 0) {post : Bool → Gh → Prop} {G : Gh} {n d : Nat} (hn : n ≤ 65521) (hd : d ≤ 257) (hend : post false G) : V M E 3 (QE M E (fun r : Bool => some (.int (bI r))) z 0 0 post) z 0 0 G 13 [some (.int (nI n)), some (.int (bI false)), some (.int (nI d))] [] := by
  have hsq : d * d ≤ 257 * 257 := Nat.mul_le_mul hd hd
  refine v_iload_n C dX12_isPrime_13 rfl ?_
  refine v_iload_n C dX12_isPrime_14 rfl ?_
  first | refine v_imuln C dX12_isPrime_15 ?_ | refine v_imul C dX12_isPrime_15 ?_
  refine v_iload_n C dX12_isPrime_16 rfl ?_
  refine v_icmpn_gt C 42 dX12_isPrime_17 (by decide) (by omega) (by omega) (fun h17 => ?_) (fun h17 => ?_)
  · skip
    refine v_iload_n C dX12_isPrime_42 rfl ?_
    refine v_zret C dX12_isPrime_43 ?_
    exact hend
  · skip
    refine v_iload_n C dX12_isPrime_20 rfl ?_
    first | refine v_ifb_eq C 42 dX12_isPrime_21 (by decide) (fun h21 => ?_) (fun h21 => by exfalso; first | omega | exact absurd h21 (by decide) | (have h9 := of_decide_eq_true h21; omega) | (have h9 := of_decide_eq_false h21; omega) | contradiction | simp_all) | refine v_ifn_eq C 42 dX12_isPrime_21 (by decide) (by omega) (fun h21 => ?_) (fun h21 => by exfalso; first | omega | exact absurd h21 (by decide) | (have h9 := of_decide_eq_true h21; omega) | (have h9 := of_decide_eq_false h21; omega) | contradiction | simp_all) | refine v_if_eq C 42 dX12_isPrime_21 (by decide) (fun h21 => ?_) (fun h21 => by exfalso; first | omega | exact absurd h21 (by decide) | (have h9 := of_decide_eq_true h21; omega) | (have h9 := of_decide_eq_false h21; omega) | contradiction | simp_all)
    refine v_iload_n C dX12_isPrime_42 rfl ?_
    refine v_zret C dX12_isPrime_43 ?_
    exact hend
set_option maxHeartbeats 4000000 in
set_option maxRecDepth 100000 in
theorem mip_loop {M : Mx} {E : Ev} {z : Option Nat} (C : Cx M E yX12_isPrime.cls cX12_isPrime 3 (some .boolean) 0 0 0 0) {post : Bool → Gh → Prop} {G : Gh} {n : Nat} (h2 : 2 ≤ n) (hn : n ≤ 65521) (hend : ∀ {r : Bool}, (r = true → prm n) → (prm n → r = true) → post r G) : ∀ (t d : Nat), 2 ≤ d → d ≤ 256 → 257 - d < t → (∀ e, 2 ≤ e → e < d → n % e ≠ 0) → V M E 3 (QE M E (fun r : Bool => some (.int (bI r))) z 0 0 post) z 0 0 G 13 [some (.int (nI n)), some (.int (bI true)), some (.int (nI d))] [] := by
  intro t
  induction t with
  | zero => intro d _ _ h; omega
  | succ t ih =>
    intro d hd2 hd ht hno
    have hsq := sq_le hd
    refine v_iload_n C dX12_isPrime_13 rfl ?_
    refine v_iload_n C dX12_isPrime_14 rfl ?_
    first | refine v_imuln C dX12_isPrime_15 ?_ | refine v_imul C dX12_isPrime_15 ?_
    refine v_iload_n C dX12_isPrime_16 rfl ?_
    refine v_icmpn_gt C 42 dX12_isPrime_17 (by decide) (by omega) (by omega) (fun h17 => ?_) (fun h17 => ?_)
    · skip
      refine v_iload_n C dX12_isPrime_42 rfl ?_
      refine v_zret C dX12_isPrime_43 ?_
      exact hend (fun _ => prm_of h2 (by omega) hno) (fun _ => rfl)
    · skip
      have hd5 := sq_lt h17 hn
      have hmd := Nat.mod_lt n (show d > 0 by omega)
      refine v_iload_n C dX12_isPrime_20 rfl ?_
      first | refine v_ifb_eq C 42 dX12_isPrime_21 (by decide) (fun h21 => by exfalso; first | omega | exact absurd h21 (by decide) | (have h9 := of_decide_eq_true h21; omega) | (have h9 := of_decide_eq_false h21; omega) | contradiction | simp_all) (fun h21 => ?_) | refine v_ifn_eq C 42 dX12_isPrime_21 (by decide) (by omega) (fun h21 => by exfalso; first | omega | exact absurd h21 (by decide) | (have h9 := of_decide_eq_true h21; omega) | (have h9 := of_decide_eq_false h21; omega) | contradiction | simp_all) (fun h21 => ?_) | refine v_if_eq C 42 dX12_isPrime_21 (by decide) (fun h21 => by exfalso; first | omega | exact absurd h21 (by decide) | (have h9 := of_decide_eq_true h21; omega) | (have h9 := of_decide_eq_false h21; omega) | contradiction | simp_all) (fun h21 => ?_)
      refine v_iload_n C dX12_isPrime_24 rfl ?_
      refine v_iload_n C dX12_isPrime_25 rfl ?_
      refine v_iremn C dX12_isPrime_26 (by omega) (by omega) (by omega) ?_
      first | refine v_ifb_eq C 34 dX12_isPrime_27 (by decide) (fun h27 => ?_) (fun h27 => ?_) | refine v_ifn_eq C 34 dX12_isPrime_27 (by decide) (by omega) (fun h27 => ?_) (fun h27 => ?_) | refine v_if_eq C 34 dX12_isPrime_27 (by decide) (fun h27 => ?_) (fun h27 => ?_)
      · skip
        refine v_iconst (v := bI false) C dX12_isPrime_34 (by decide) ?_
        refine v_istore_1 C dX12_isPrime_35 (by decide) (by first | rfl | assumption) ?_
        first | refine v_iinc_2 C dX12_isPrime_36 (nI_1 _) (by decide) (by first | rfl | assumption) ?_ | refine v_iinc_2 C dX12_isPrime_36 rfl (by decide) (by first | rfl | assumption) ?_
        refine v_goto C 13 dX12_isPrime_39 (by decide) ?_
        first
          | (refine ih (d + 1) (by omega) (by omega) (by omega) (fun e h1 h2 => ?_)
             by_cases q9 : e = d
             · subst q9; omega
             · exact hno e h1 (by omega))
          | exact mip_f C hn (by omega) (hend (by simp) (fun h => absurd h27 (h.2 d hd2 h17)))
      · skip
        refine v_iconst (v := bI true) C dX12_isPrime_30 (by decide) ?_
        refine v_goto C 35 dX12_isPrime_31 (by decide) ?_
        refine v_istore_1 C dX12_isPrime_35 (by decide) (by first | rfl | assumption) ?_
        first | refine v_iinc_2 C dX12_isPrime_36 (nI_1 _) (by decide) (by first | rfl | assumption) ?_ | refine v_iinc_2 C dX12_isPrime_36 rfl (by decide) (by first | rfl | assumption) ?_
        refine v_goto C 13 dX12_isPrime_39 (by decide) ?_
        first
          | (refine ih (d + 1) (by omega) (by omega) (by omega) (fun e h1 h2 => ?_)
             by_cases q9 : e = d
             · subst q9; omega
             · exact hno e h1 (by omega))
          | exact mip_f C hn (by omega) (hend (by simp) (fun h => absurd h27 (h.2 d hd2 h17)))
set_option maxHeartbeats 4000000 in
set_option maxRecDepth 100000 in
theorem c_Mo_isPrime (l : Launch) (E : Ev) (z : Option Nat) {G : Gh} {n : Nat} (hn : n ≤ 65521)  : K_X12_isPrime l E z G [.int (nI n)] (fun r G2 => (r = true ↔ prm n) ∧ G = G2) := by
  refine Fc.of rfl [some (.int (nI n)), none, none] 2 rfl (Nat.le_of_ble_eq_true rfl) ?_
  intro M hM0 hini C
  subst hM0
  refine v_iload_n C dX12_isPrime_0 rfl ?_
  refine v_iconst (v := nI 1) C dX12_isPrime_1 (by decide) ?_
  refine v_icmpn_le C 9 dX12_isPrime_2 (by decide) (by omega) (by omega) (fun h2 => ?_) (fun h2 => ?_)
  · skip
    refine v_iconst (v := bI false) C dX12_isPrime_9 (by decide) ?_
    refine v_istore_1 C dX12_isPrime_10 (by decide) (by first | rfl | assumption) ?_
    refine v_iconst (v := nI 2) C dX12_isPrime_11 (by decide) ?_
    refine v_istore_2 C dX12_isPrime_12 (by decide) (by first | rfl | assumption) ?_
    first
      | exact mip_loop C (by omega) hn (fun h1 h2 => ⟨⟨h1, h2⟩, rfl⟩) 257 2 (by omega) (by omega) (by omega) (fun e h1 h2 => by omega)
      | exact mip_f C hn (by omega) ⟨⟨by simp, fun h => by have := h.1; omega⟩, rfl⟩
  · skip
    refine v_iconst (v := bI true) C dX12_isPrime_5 (by decide) ?_
    refine v_goto C 10 dX12_isPrime_6 (by decide) ?_
    refine v_istore_1 C dX12_isPrime_10 (by decide) (by first | rfl | assumption) ?_
    refine v_iconst (v := nI 2) C dX12_isPrime_11 (by decide) ?_
    refine v_istore_2 C dX12_isPrime_12 (by decide) (by first | rfl | assumption) ?_
    first
      | exact mip_loop C (by omega) hn (fun h1 h2 => ⟨⟨h1, h2⟩, rfl⟩) 257 2 (by omega) (by omega) (by omega) (fun e h1 h2 => by omega)
      | exact mip_f C hn (by omega) ⟨⟨by simp, fun h => by have := h.1; omega⟩, rfl⟩

set_option maxHeartbeats 4000000 in
set_option maxRecDepth 100000 in
theorem fam_loop {M : Mx} {E : Ev} {b P W R : Nat} (C : Cx M E yX3_init.cls cX3_init 5 none 1 24 2 (2 * R)) {post : Unit → Gh → Prop} {G0 : Gh} (hr : 2 ≤ P ∧ P ≤ 65521 ∧ 1 ≤ W ∧ W ≤ 256 ∧ 1 ≤ R ∧ R ≤ 8) (hend : ∀ G, isFam E G b P W R (famA P) (famB P) → (∀ j, (j < b ∨ b + 3 ≤ j) → G j = G0 j) → post () G) : ∀ (t i : Nat), i ≤ R → R - i < t → ∀ (G : Gh) (fa fb : Nat → Int32), G b = cO 3 [.int (nI P), .int (nI W), .int (nI R), .ref (ga E (b + 1)), .ref (ga E (b + 2))] → G (b + 1) = cI E R fa → G (b + 2) = cI E R fb → (∀ j, j < i → fa j = nI (famA P j) ∧ fb j = nI (famB P j)) → (∀ j, (j < b ∨ b + 3 ≤ j) → G j = G0 j) → V M E 5 (QE M E (fun _ : Unit => none) (some (ga E (b + 3))) 2 (2 * R) post) (some (ga E (b + 3))) 2 (R + R) G 36 [some (.ref (ga E b)), some (.int (nI P)), some (.int (nI W)), some (.int (nI R)), some (.int (nI i))] [] := by
  intro t
  induction t with
  | zero => intro i _ h; omega
  | succ t ih =>
    intro i hi ht G fa fb h0 h1 h2 hfab hfr
    refine v_iload C dX3_init_36 rfl ?_
    refine v_iload_n C dX3_init_38 rfl ?_
    refine v_icmpn_ge C 86 dX3_init_39 (by decide) (by omega) (by omega) (fun h39 => ?_) (fun h39 => ?_)
    · skip
      refine v_sl (cells2 := 2) (slots2 := 2 * R) (by omega) (by omega) ?_
      refine v_vret C dX3_init_86 ?_
      have e9 : i = R := by omega
      subst e9
      exact hend G ⟨fa, fb, h0, h1, h2, fun j hj => (hfab j hj).1, fun j hj => (hfab j hj).2, hr, fun j hj => ⟨by unfold famA; have := Nat.mod_lt (7919 * j + 13) (show 0 < P - 1 by omega); omega, by unfold famB; exact Nat.mod_lt _ (by omega)⟩⟩ hfr
    · skip
      refine v_aload_n C dX3_init_42 rfl ?_
      refine gf_X3_19 C dX3_init_43 (by assumption) ?_
      refine v_iload C dX3_init_46 rfl ?_
      refine v_iconst (v := nI 1) C dX3_init_48 (by decide) ?_
      refine v_sipush (v := nI 7919) C dX3_init_49 (by decide) ?_
      refine v_iload C dX3_init_52 rfl ?_
      first | refine v_imuln C dX3_init_54 ?_ | refine v_imul C dX3_init_54 ?_
      refine v_bipush (v := nI 13) C dX3_init_55 (by decide) ?_
      first | refine v_iaddn C dX3_init_57 ?_ | refine v_iadd C dX3_init_57 ?_
      refine v_iload_n C dX3_init_58 rfl ?_
      refine v_iconst (v := nI 1) C dX3_init_59 (by decide) ?_
      first | refine v_isubn C dX3_init_60 (by omega) ?_ | refine v_isub C dX3_init_60 ?_
      refine v_iremn C dX3_init_61 (by omega) (by omega) (by omega) ?_
      first | refine v_iaddn C dX3_init_62 ?_ | refine v_iadd C dX3_init_62 ?_
      refine v_iast C dX3_init_63 (by assumption) (by omega) (by omega) (fun G hG63 hF63 => ?_)
      first | replace h0 := (hF63 _ (by omega)).trans h0 | replace h0 := hG63 | skip
      first | replace h1 := (hF63 _ (by omega)).trans h1 | replace h1 := hG63 | skip
      first | replace h2 := (hF63 _ (by omega)).trans h2 | replace h2 := hG63 | skip
      refine v_aload_n C dX3_init_64 rfl ?_
      refine gf_X3_23 C dX3_init_65 (by assumption) ?_
      refine v_iload C dX3_init_68 rfl ?_
      refine v_ldc C tw784 dX3_init_70 ?_
      refine v_topi (show _ = nI 104729 by decide) ?_
      refine v_iload C dX3_init_72 rfl ?_
      first | refine v_imuln C dX3_init_74 ?_ | refine v_imul C dX3_init_74 ?_
      refine v_iconst (v := nI 5) C dX3_init_75 (by decide) ?_
      first | refine v_iaddn C dX3_init_76 ?_ | refine v_iadd C dX3_init_76 ?_
      refine v_iload_n C dX3_init_77 rfl ?_
      refine v_iremn C dX3_init_78 (by omega) (by omega) (by omega) ?_
      refine v_iast C dX3_init_79 (by assumption) (by omega) (by omega) (fun G hG79 hF79 => ?_)
      first | replace h0 := (hF79 _ (by omega)).trans h0 | replace h0 := hG79 | skip
      first | replace h1 := (hF79 _ (by omega)).trans h1 | replace h1 := hG79 | skip
      first | replace h2 := (hF79 _ (by omega)).trans h2 | replace h2 := hG79 | skip
      first | refine v_iinc_4 C dX3_init_80 (nI_1 _) (by decide) (by first | rfl | assumption) ?_ | refine v_iinc_4 C dX3_init_80 rfl (by decide) (by first | rfl | assumption) ?_
      refine v_goto C 36 dX3_init_83 (by decide) ?_
      refine ih (i + 1) (by omega) (by omega) G _ _ h0 h1 h2 (fun j hj => ?_) (fun j hj => by rw [hF79 j (by omega), hF63 j (by omega)]; exact hfr j hj)
      by_cases q9 : j = i
      · subst q9; rw [fu_self, fu_self]; exact ⟨rfl, rfl⟩
      · rw [fu_ne _ _ q9, fu_ne _ _ q9]; exact hfab j (by omega)
set_option maxHeartbeats 4000000 in
set_option maxRecDepth 100000 in
theorem i_Fam (l : Launch) (E : Ev) {G : Gh} {b P W R : Nat} (hr : 2 ≤ P ∧ P ≤ 65521 ∧ 1 ≤ W ∧ W ≤ 256 ∧ 1 ≤ R ∧ R ≤ 8) (h0 : G b = cO 3 [.int (nI 0), .int (nI 0), .int (nI 0), .null, .null]) : K_X3_init l E (2) (2 * R) (some (ga E (b + 1))) (some (ga E (b + 3))) G [.ref (ga E b), .int (nI P), .int (nI W), .int (nI R)] (fun _ G2 => isFam E G2 b P W R (famA P) (famB P) ∧ ∀ j, (j < b ∨ b + 3 ≤ j) → G2 j = G j) := by
  refine Fc.of rfl [some (.ref (ga E b)), some (.int (nI P)), some (.int (nI W)), some (.int (nI R)), none] 1 rfl (Nat.le_of_ble_eq_true rfl) ?_
  intro M hM0 hini C
  subst hM0
  replace hini := hini rfl
  refine v_aload_n C dX3_init_0 rfl ?_
  refine mc_X3_1 C dX3_init_1 (Nat.le_of_ble_eq_true rfl) (Nat.le_of_ble_eq_true rfl) ?_
  refine v_aload_n C dX3_init_4 rfl ?_
  refine v_iload_n C dX3_init_5 rfl ?_
  refine pf_X3_7 C dX3_init_6 hini (by assumption) (fun G hG6 hF6 => ?_)
  first | replace h0 := (hF6 _ (by omega)).trans h0 | replace h0 := hG6 | skip
  refine v_aload_n C dX3_init_9 rfl ?_
  refine v_iload_n C dX3_init_10 rfl ?_
  refine pf_X3_13 C dX3_init_11 hini (by assumption) (fun G hG11 hF11 => ?_)
  first | replace h0 := (hF11 _ (by omega)).trans h0 | replace h0 := hG11 | skip
  refine v_aload_n C dX3_init_14 rfl ?_
  refine v_iload_n C dX3_init_15 rfl ?_
  refine pf_X3_16 C dX3_init_16 hini (by assumption) (fun G hG16 hF16 => ?_)
  first | replace h0 := (hF16 _ (by omega)).trans h0 | replace h0 := hG16 | skip
  refine v_aload_n C dX3_init_19 rfl ?_
  refine v_iload_n C dX3_init_20 rfl ?_
  refine v_newaI C dX3_init_21 (by omega) ⟨by omega, by omega⟩ (fun G hG21 hF21 => ?_)
  first | replace h0 := (hF21 _ (by omega)).trans h0 | replace h0 := hG21 | skip
  have h1 := hG21
  refine pf_X3_19 C dX3_init_23 hini (by assumption) (fun G hG23 hF23 => ?_)
  first | replace h0 := (hF23 _ (by omega)).trans h0 | replace h0 := hG23 | skip
  first | replace h1 := (hF23 _ (by omega)).trans h1 | replace h1 := hG23 | skip
  refine v_aload_n C dX3_init_26 rfl ?_
  refine v_iload_n C dX3_init_27 rfl ?_
  refine v_newaI C dX3_init_28 (by omega) ⟨by omega, by omega⟩ (fun G hG28 hF28 => ?_)
  first | replace h0 := (hF28 _ (by omega)).trans h0 | replace h0 := hG28 | skip
  first | replace h1 := (hF28 _ (by omega)).trans h1 | replace h1 := hG28 | skip
  have h2 := hG28
  refine pf_X3_23 C dX3_init_30 hini (by assumption) (fun G hG30 hF30 => ?_)
  first | replace h0 := (hF30 _ (by omega)).trans h0 | replace h0 := hG30 | skip
  first | replace h1 := (hF30 _ (by omega)).trans h1 | replace h1 := hG30 | skip
  first | replace h2 := (hF30 _ (by omega)).trans h2 | replace h2 := hG30 | skip
  refine v_iconst (v := nI 0) C dX3_init_33 (by decide) ?_
  refine v_istore_4 C dX3_init_34 (by decide) (by first | rfl | assumption) ?_
  refine v_sl (cells2 := 2) (slots2 := R + R) (by omega) (by omega) ?_
  exact fam_loop C hr (fun G h1 h2 => ⟨h1, h2⟩) (R + 1) 0 (by omega) (by omega) G _ _ h0 h1 h2 (fun j hj => by omega) (fun j hj => by rw [hF30 j (by omega), hF28 j (by omega), hF23 j (by omega), hF21 j (by omega), hF16 j (by omega), hF11 j (by omega), hF6 j (by omega)])

