/-! The reference (class 11): its object, id 104, and its arrays, 105 .. 126 -/
abbrev moO (E : Ev) (P W R lim rp po : Nat) : Option va_E := cO 11 [.int (nI P), .int (nI W), .int (nI R), .int (nI lim), .ref (ga E 105), .ref (ga E 106), .ref (ga E 107), .ref (ga E 108), .ref (ga E 109), .ref (ga E 110), .ref (ga E 111), .ref (ga E 112), .ref (ga E 113), .ref (ga E 114), .ref (ga E 115), .ref (ga E 116), .ref (ga E 117), .ref (ga E 118), .ref (ga E 119), .ref (ga E 120), .ref (ga E 121), .int (nI rp), .ref (ga E 122), .ref (ga E 123), .int (nI po), .ref (ga E 124), .ref (ga E 125), .ref (ga E 126)]
def isMo (E : Ev) (G : Gh) (P W R lim rp po : Nat) (A B : Nat → Nat) : Prop := ∃ fa fb : Nat → Int32, G 104 = moO E P W R lim rp po ∧ G 105 = cI E 8 fa ∧ G 106 = cI E 8 fb ∧ (∀ i, i < R → fa i = nI (A i)) ∧ (∀ i, i < R → fb i = nI (B i)) ∧ (2 ≤ P ∧ P ≤ 65521 ∧ 1 ≤ W ∧ W ≤ 256 ∧ 1 ≤ R ∧ R ≤ 8) ∧ (1 ≤ lim ∧ lim ≤ 64) ∧ ∀ i, i < R → A i < P ∧ B i < P
theorem isMo.keep {E : Ev} {G G2 : Gh} {P W R lim rp po : Nat} {A B : Nat → Nat} (h : isMo E G P W R lim rp po A B) (hf : ∀ j, 104 ≤ j → j < 107 → G2 j = G j) : isMo E G2 P W R lim rp po A B := by
  obtain ⟨fa, fb, h0, h1, h2, h3⟩ := h
  exact ⟨fa, fb, (hf _ (by omega) (by omega)).trans h0, (hf _ (by omega) (by omega)).trans h1, (hf _ (by omega) (by omega)).trans h2, h3⟩
def inn (v l h : Int32) : Bool := decide (l ≤ v) && decide (v ≤ h)
theorem inn_iin {v : Int32} {n : Nat} (h0 : 0 < n) (hn : n < 2 ^ 31) : inn v (nI 0) (nI (n - 1)) = iin v n := by
  unfold inn iin
  rw [Bool.eq_iff_iff]
  simp only [Bool.and_eq_true, decide_eq_true_eq, Int32.le_iff_toInt_le]
  rw [nI_toInt (by decide), nI_toInt (by omega)]
  omega
theorem inn_itm {v : Int32} {n : Nat} (hn : n < 2 ^ 31) : inn v (nI 1) (nI n) = itm v n := by
  unfold inn itm
  rw [Bool.eq_iff_iff]
  simp only [Bool.and_eq_true, decide_eq_true_eq, Int32.le_iff_toInt_le]
  rw [nI_toInt (by decide), nI_toInt hn]
  omega

set_option maxHeartbeats 4000000 in
set_option maxRecDepth 100000 in
theorem c_Mo_in (l : Launch) (E : Ev) (z : Option Nat) {G : Gh} {v lo hi : Int32}  : K_X12_in l E z G [.int v, .int lo, .int hi] (fun r G2 => r = inn v lo hi ∧ G = G2) := by
  refine Fc.of rfl [some (.int v), some (.int lo), some (.int hi)] 0 rfl (Nat.le_of_ble_eq_true rfl) ?_
  intro M hM0 hini C
  subst hM0
  refine v_iload_n C dX12_in_0 rfl ?_
  refine v_iload_n C dX12_in_1 rfl ?_
  refine v_icmp_lt C 14 dX12_in_2 (by decide) (fun h2 => ?_) (fun h2 => ?_)
  · skip
    refine v_iconst (v := bI false) C dX12_in_14 (by decide) ?_
    refine v_zret C dX12_in_15 ?_
    refine ⟨?_, rfl⟩
    unfold inn
    first
      | (rw [decide_eq_false (Int32.not_le.mpr h2)]; rfl)
      | (rw [decide_eq_false (Int32.not_le.mpr h7), Bool.and_false])
      | (rw [decide_eq_true (Int32.not_lt.mp h2), decide_eq_true (Int32.not_lt.mp h7)]; rfl)
  · skip
    refine v_iload_n C dX12_in_5 rfl ?_
    refine v_iload_n C dX12_in_6 rfl ?_
    refine v_icmp_gt C 14 dX12_in_7 (by decide) (fun h7 => ?_) (fun h7 => ?_)
    · skip
      refine v_iconst (v := bI false) C dX12_in_14 (by decide) ?_
      refine v_zret C dX12_in_15 ?_
      refine ⟨?_, rfl⟩
      unfold inn
      first
        | (rw [decide_eq_false (Int32.not_le.mpr h2)]; rfl)
        | (rw [decide_eq_false (Int32.not_le.mpr h7), Bool.and_false])
        | (rw [decide_eq_true (Int32.not_lt.mp h2), decide_eq_true (Int32.not_lt.mp h7)]; rfl)
    · skip
      refine v_iconst (v := bI true) C dX12_in_10 (by decide) ?_
      refine v_goto C 15 dX12_in_11 (by decide) ?_
      refine v_zret C dX12_in_15 ?_
      refine ⟨?_, rfl⟩
      unfold inn
      first
        | (rw [decide_eq_false (Int32.not_le.mpr h2)]; rfl)
        | (rw [decide_eq_false (Int32.not_le.mpr h7), Bool.and_false])
        | (rw [decide_eq_true (Int32.not_lt.mp h2), decide_eq_true (Int32.not_lt.mp h7)]; rfl)

set_option maxHeartbeats 4000000 in
set_option maxRecDepth 100000 in
theorem c_Mo_isStream (l : Launch) (E : Ev) (z : Option Nat) {G : Gh} {x1 : Int32}  : K_X12_isStream l E z G [.int x1] (fun r G2 => r = iin x1 4 ∧ G = G2) := by
  refine Fc.of rfl [some (.int x1)] 0 rfl (Nat.le_of_ble_eq_true rfl) ?_
  intro M hM0 hini C
  subst hM0
  refine v_iload_n C dX12_isStream_0 rfl ?_
  refine v_iconst (v := nI 0) C dX12_isStream_1 (by decide) ?_
  refine v_iconst (v := nI 3) C dX12_isStream_2 (by decide) ?_
  refine mc_X12_101 C dX12_isStream_3 (c_Mo_in _ E z) rfl (fun r3 G3 hp3 => ?_)
  obtain ⟨rfl, rfl⟩ := hp3
  refine v_zret C dX12_isStream_6 ?_
  exact ⟨inn_iin (n := 4) (by decide) (by decide), rfl⟩

set_option maxHeartbeats 4000000 in
set_option maxRecDepth 100000 in
theorem c_Mo_isKey (l : Launch) (E : Ev) (z : Option Nat) {G : Gh} {P W R lim rp po : Nat} {A B : Nat → Nat} {x1 : Int32} (hm : isMo E G P W R lim rp po A B) : K_X12_isKey l E z G [.ref (ga E 104), .int x1] (fun r G2 => r = iin x1 P ∧ G = G2) := by
  refine Fc.of rfl [some (.ref (ga E 104)), some (.int x1)] 0 rfl (Nat.le_of_ble_eq_true rfl) ?_
  intro M hM0 hini C
  subst hM0
  obtain ⟨fa, fb, ho, h5, h6, hfa, hfb, hrg, hlim, hab⟩ := id hm
  refine v_iload_n C dX12_isKey_0 rfl ?_
  refine v_iconst (v := nI 0) C dX12_isKey_1 (by decide) ?_
  refine v_aload_n C dX12_isKey_2 rfl ?_
  refine gf_X12_87 C dX12_isKey_3 (by assumption) ?_
  refine v_iconst (v := nI 1) C dX12_isKey_6 (by decide) ?_
  first | refine v_isubn C dX12_isKey_7 (by omega) ?_ | refine v_isub C dX12_isKey_7 ?_
  refine mc_X12_101 C dX12_isKey_8 (c_Mo_in _ E z) rfl (fun r8 G8 hp8 => ?_)
  obtain ⟨rfl, rfl⟩ := hp8
  refine v_zret C dX12_isKey_11 ?_
  exact ⟨inn_iin (n := P) (by omega) (by omega), rfl⟩

set_option maxHeartbeats 4000000 in
set_option maxRecDepth 100000 in
theorem c_Mo_hashed (l : Launch) (E : Ev) (z : Option Nat) {G : Gh} {P W R lim rp po : Nat} {A B : Nat → Nat} {a b x : Nat} (ha : a < P) (hb : b < P) (hx : x < P) (hm : isMo E G P W R lim rp po A B) : K_X12_hashed l E z G [.ref (ga E 104), .int (nI a), .int (nI b), .int (nI x)] (fun r G2 => r = nI (hsh P W a b x) ∧ G = G2) := by
  refine Fc.of rfl [some (.ref (ga E 104)), some (.int (nI a)), some (.int (nI b)), some (.int (nI x))] 0 rfl (Nat.le_of_ble_eq_true rfl) ?_
  intro M hM0 hini C
  subst hM0
  obtain ⟨fa, fb, ho, h5, h6, hfa, hfb, hrg, hlim, hab⟩ := id hm
  have h2 : a * x ≤ 65521 * 65521 := Nat.mul_le_mul (by omega) (by omega)
  have h3 := Nat.mod_lt (a * x + b) (show 0 < P by omega)
  refine v_iload_n C dX12_hashed_0 rfl ?_
  first | refine v_i2ln C dX12_hashed_1 (by omega) ?_ | refine v_i2l C dX12_hashed_1 rfl ?_
  refine v_iload_n C dX12_hashed_2 rfl ?_
  first | refine v_i2ln C dX12_hashed_3 (by omega) ?_ | refine v_i2l C dX12_hashed_3 rfl ?_
  first | refine v_lmuln C dX12_hashed_4 ?_ | refine v_lmul C dX12_hashed_4 ?_
  refine v_iload_n C dX12_hashed_5 rfl ?_
  first | refine v_i2ln C dX12_hashed_6 (by omega) ?_ | refine v_i2l C dX12_hashed_6 rfl ?_
  first | refine v_laddn C dX12_hashed_7 ?_ | refine v_ladd C dX12_hashed_7 ?_
  refine v_aload_n C dX12_hashed_8 rfl ?_
  refine gf_X12_87 C dX12_hashed_9 (by assumption) ?_
  first | refine v_i2ln C dX12_hashed_12 (by omega) ?_ | refine v_i2l C dX12_hashed_12 rfl ?_
  refine v_lremn C dX12_hashed_13 (by omega) (by omega) (by omega) ?_
  refine v_aload_n C dX12_hashed_14 rfl ?_
  refine gf_X12_91 C dX12_hashed_15 (by assumption) ?_
  first | refine v_i2ln C dX12_hashed_18 (by omega) ?_ | refine v_i2l C dX12_hashed_18 rfl ?_
  refine v_lremn C dX12_hashed_19 (by omega) (by omega) (by omega) ?_
  first | refine v_l2in C dX12_hashed_20 ?_ | refine v_l2i C dX12_hashed_20 rfl ?_
  refine v_iret C dX12_hashed_21 ?_
  exact ⟨rfl, rfl⟩

set_option maxHeartbeats 4000000 in
set_option maxRecDepth 100000 in
theorem c_Mo_size (l : Launch) (E : Ev) (z : Option Nat) {G : Gh} {P W R lim rp po : Nat} {A B : Nat → Nat} {x1 : Int32} (hm : isMo E G P W R lim rp po A B) : K_X12_size l E z G [.ref (ga E 104), .int x1] (fun r G2 => r = oSize P W R lim x1 ∧ G = G2) := by
  refine Fc.of rfl [some (.ref (ga E 104)), some (.int x1)] 0 rfl (Nat.le_of_ble_eq_true rfl) ?_
  intro M hM0 hini C
  subst hM0
  obtain ⟨fa, fb, ho, h5, h6, hfa, hfb, hrg, hlim, hab⟩ := id hm
  refine v_iload_n C dX12_size_0 rfl ?_
  refine v_tsw4 C 32 37 42 47 52 dX12_size_1 (by decide) (by decide) (by decide) (by decide) (by decide) (fun h1 => ?_) (fun h1 => ?_) (fun h1 => ?_) (fun h1 => ?_) (fun h1 => ?_)
  · skip
    refine v_aload_n C dX12_size_32 rfl ?_
    refine gf_X12_87 C dX12_size_33 (by assumption) ?_
    refine v_iret C dX12_size_36 ?_
    subst h1; exact ⟨by unfold oSize; rw [if_pos rfl], rfl⟩
  · skip
    refine v_aload_n C dX12_size_37 rfl ?_
    refine gf_X12_91 C dX12_size_38 (by assumption) ?_
    refine v_iret C dX12_size_41 ?_
    subst h1; exact ⟨by unfold oSize; rw [if_neg (by decide)]; rw [if_pos rfl], rfl⟩
  · skip
    refine v_aload_n C dX12_size_42 rfl ?_
    refine gf_X12_94 C dX12_size_43 (by assumption) ?_
    refine v_iret C dX12_size_46 ?_
    subst h1; exact ⟨by unfold oSize; rw [if_neg (by decide)]; rw [if_neg (by decide)]; rw [if_pos rfl], rfl⟩
  · skip
    refine v_aload_n C dX12_size_47 rfl ?_
    refine gf_X12_97 C dX12_size_48 (by assumption) ?_
    refine v_iret C dX12_size_51 ?_
    subst h1; exact ⟨by unfold oSize; rw [if_neg (by decide)]; rw [if_neg (by decide)]; rw [if_neg (by decide)]; rw [if_pos rfl], rfl⟩
  · skip
    refine v_iconst (v := -1) C dX12_size_52 (by decide) ?_
    refine v_iret C dX12_size_53 ?_
    exact ⟨by unfold oSize; rw [if_neg (h1 0 (by decide)), if_neg (h1 1 (by decide)), if_neg (h1 2 (by decide)), if_neg (h1 3 (by decide))], rfl⟩

set_option maxHeartbeats 4000000 in
set_option maxRecDepth 100000 in
theorem c_Mo_hash (l : Launch) (E : Ev) (z : Option Nat) {G : Gh} {P W R lim rp po : Nat} {A B : Nat → Nat} {x1 x2 : Int32} (hm : isMo E G P W R lim rp po A B) : K_X12_hash l E z G [.ref (ga E 104), .int x1, .int x2] (fun r G2 => r = oHash P W R A B x1 x2 ∧ G = G2) := by
  refine Fc.of rfl [some (.ref (ga E 104)), some (.int x1), some (.int x2)] 0 rfl (Nat.le_of_ble_eq_true rfl) ?_
  intro M hM0 hini C
  subst hM0
  obtain ⟨fa, fb, ho, h5, h6, hfa, hfb, hrg, hlim, hab⟩ := id hm
  cases hi1 : iin x1 R with
  | false =>
    refine v_iload_n C dX12_hash_0 rfl ?_
    refine v_iconst (v := nI 0) C dX12_hash_1 (by decide) ?_
    refine v_aload_n C dX12_hash_2 rfl ?_
    refine gf_X12_94 C dX12_hash_3 (by assumption) ?_
    refine v_iconst (v := nI 1) C dX12_hash_6 (by decide) ?_
    first | refine v_isubn C dX12_hash_7 (by omega) ?_ | refine v_isub C dX12_hash_7 ?_
    refine mc_X12_101 C dX12_hash_8 (c_Mo_in _ E z) rfl (fun r8 G8 hp8 => ?_)
    obtain ⟨hr8, rfl⟩ := hp8
    rw [inn_iin (n := R) (by omega) (by omega), hi1] at hr8
    subst hr8
    first | refine v_ifb_eq C 42 dX12_hash_11 (by decide) (fun h11 => ?_) (fun h11 => by exfalso; first | omega | exact absurd h11 (by decide) | (have h9 := of_decide_eq_true h11; omega) | (have h9 := of_decide_eq_false h11; omega) | contradiction | simp_all) | refine v_ifn_eq C 42 dX12_hash_11 (by decide) (by omega) (fun h11 => ?_) (fun h11 => by exfalso; first | omega | exact absurd h11 (by decide) | (have h9 := of_decide_eq_true h11; omega) | (have h9 := of_decide_eq_false h11; omega) | contradiction | simp_all) | refine v_if_eq C 42 dX12_hash_11 (by decide) (fun h11 => ?_) (fun h11 => by exfalso; first | omega | exact absurd h11 (by decide) | (have h9 := of_decide_eq_true h11; omega) | (have h9 := of_decide_eq_false h11; omega) | contradiction | simp_all)
    refine v_iconst (v := -1) C dX12_hash_42 (by decide) ?_
    refine v_iret C dX12_hash_43 ?_
    exact ⟨by unfold oHash; rw [if_neg (by rw [hi1]; decide)], rfl⟩
  | true =>
    obtain ⟨row, hrow, rfl⟩ := iin_of hi1 (by omega)
    have hrx : ix (nI row) = row := ix_nI (by omega)
    cases hi2 : iin x2 P with
    | false =>
      refine v_iload_n C dX12_hash_0 rfl ?_
      refine v_iconst (v := nI 0) C dX12_hash_1 (by decide) ?_
      refine v_aload_n C dX12_hash_2 rfl ?_
      refine gf_X12_94 C dX12_hash_3 (by assumption) ?_
      refine v_iconst (v := nI 1) C dX12_hash_6 (by decide) ?_
      first | refine v_isubn C dX12_hash_7 (by omega) ?_ | refine v_isub C dX12_hash_7 ?_
      refine mc_X12_101 C dX12_hash_8 (c_Mo_in _ E z) rfl (fun r8 G8 hp8 => ?_)
      obtain ⟨hr8, rfl⟩ := hp8
      rw [inn_iin (n := R) (by omega) (by omega), hi1] at hr8
      subst hr8
      first | refine v_ifb_eq C 42 dX12_hash_11 (by decide) (fun h11 => by exfalso; first | omega | exact absurd h11 (by decide) | (have h9 := of_decide_eq_true h11; omega) | (have h9 := of_decide_eq_false h11; omega) | contradiction | simp_all) (fun h11 => ?_) | refine v_ifn_eq C 42 dX12_hash_11 (by decide) (by omega) (fun h11 => by exfalso; first | omega | exact absurd h11 (by decide) | (have h9 := of_decide_eq_true h11; omega) | (have h9 := of_decide_eq_false h11; omega) | contradiction | simp_all) (fun h11 => ?_) | refine v_if_eq C 42 dX12_hash_11 (by decide) (fun h11 => by exfalso; first | omega | exact absurd h11 (by decide) | (have h9 := of_decide_eq_true h11; omega) | (have h9 := of_decide_eq_false h11; omega) | contradiction | simp_all) (fun h11 => ?_)
      refine v_aload_n C dX12_hash_14 rfl ?_
      refine v_iload_n C dX12_hash_15 rfl ?_
      refine mc_X12_105 C dX12_hash_16 (by assumption) (c_Mo_isKey _ E z hm) rfl (fun r16 G16 hp16 => ?_)
      obtain ⟨hr16, rfl⟩ := hp16
      rw [hi2] at hr16
      subst hr16
      first | refine v_ifb_eq C 42 dX12_hash_19 (by decide) (fun h19 => ?_) (fun h19 => by exfalso; first | omega | exact absurd h19 (by decide) | (have h9 := of_decide_eq_true h19; omega) | (have h9 := of_decide_eq_false h19; omega) | contradiction | simp_all) | refine v_ifn_eq C 42 dX12_hash_19 (by decide) (by omega) (fun h19 => ?_) (fun h19 => by exfalso; first | omega | exact absurd h19 (by decide) | (have h9 := of_decide_eq_true h19; omega) | (have h9 := of_decide_eq_false h19; omega) | contradiction | simp_all) | refine v_if_eq C 42 dX12_hash_19 (by decide) (fun h19 => ?_) (fun h19 => by exfalso; first | omega | exact absurd h19 (by decide) | (have h9 := of_decide_eq_true h19; omega) | (have h9 := of_decide_eq_false h19; omega) | contradiction | simp_all)
      refine v_iconst (v := -1) C dX12_hash_42 (by decide) ?_
      refine v_iret C dX12_hash_43 ?_
      exact ⟨by unfold oHash; rw [if_pos hi1]; rw [if_neg (by rw [hi2]; decide)], rfl⟩
    | true =>
      obtain ⟨x, hx, rfl⟩ := iin_of hi2 (by omega)
      have hxx : ix (nI x) = x := ix_nI (by omega)
      refine v_iload_n C dX12_hash_0 rfl ?_
      refine v_iconst (v := nI 0) C dX12_hash_1 (by decide) ?_
      refine v_aload_n C dX12_hash_2 rfl ?_
      refine gf_X12_94 C dX12_hash_3 (by assumption) ?_
      refine v_iconst (v := nI 1) C dX12_hash_6 (by decide) ?_
      first | refine v_isubn C dX12_hash_7 (by omega) ?_ | refine v_isub C dX12_hash_7 ?_
      refine mc_X12_101 C dX12_hash_8 (c_Mo_in _ E z) rfl (fun r8 G8 hp8 => ?_)
      obtain ⟨hr8, rfl⟩ := hp8
      rw [inn_iin (n := R) (by omega) (by omega), hi1] at hr8
      subst hr8
      first | refine v_ifb_eq C 42 dX12_hash_11 (by decide) (fun h11 => by exfalso; first | omega | exact absurd h11 (by decide) | (have h9 := of_decide_eq_true h11; omega) | (have h9 := of_decide_eq_false h11; omega) | contradiction | simp_all) (fun h11 => ?_) | refine v_ifn_eq C 42 dX12_hash_11 (by decide) (by omega) (fun h11 => by exfalso; first | omega | exact absurd h11 (by decide) | (have h9 := of_decide_eq_true h11; omega) | (have h9 := of_decide_eq_false h11; omega) | contradiction | simp_all) (fun h11 => ?_) | refine v_if_eq C 42 dX12_hash_11 (by decide) (fun h11 => by exfalso; first | omega | exact absurd h11 (by decide) | (have h9 := of_decide_eq_true h11; omega) | (have h9 := of_decide_eq_false h11; omega) | contradiction | simp_all) (fun h11 => ?_)
      refine v_aload_n C dX12_hash_14 rfl ?_
      refine v_iload_n C dX12_hash_15 rfl ?_
      refine mc_X12_105 C dX12_hash_16 (by assumption) (c_Mo_isKey _ E z hm) rfl (fun r16 G16 hp16 => ?_)
      obtain ⟨hr16, rfl⟩ := hp16
      rw [hi2] at hr16
      subst hr16
      first | refine v_ifb_eq C 42 dX12_hash_19 (by decide) (fun h19 => by exfalso; first | omega | exact absurd h19 (by decide) | (have h9 := of_decide_eq_true h19; omega) | (have h9 := of_decide_eq_false h19; omega) | contradiction | simp_all) (fun h19 => ?_) | refine v_ifn_eq C 42 dX12_hash_19 (by decide) (by omega) (fun h19 => by exfalso; first | omega | exact absurd h19 (by decide) | (have h9 := of_decide_eq_true h19; omega) | (have h9 := of_decide_eq_false h19; omega) | contradiction | simp_all) (fun h19 => ?_) | refine v_if_eq C 42 dX12_hash_19 (by decide) (fun h19 => by exfalso; first | omega | exact absurd h19 (by decide) | (have h9 := of_decide_eq_true h19; omega) | (have h9 := of_decide_eq_false h19; omega) | contradiction | simp_all) (fun h19 => ?_)
      refine v_aload_n C dX12_hash_22 rfl ?_
      refine v_aload_n C dX12_hash_23 rfl ?_
      refine gf_X12_7 C dX12_hash_24 (by assumption) ?_
      refine v_iload_n C dX12_hash_27 rfl ?_
      refine v_iald C dX12_hash_28 (by assumption) (by omega) (by omega) (hfa row hrow) ?_
      refine v_aload_n C dX12_hash_29 rfl ?_
      refine gf_X12_13 C dX12_hash_30 (by assumption) ?_
      refine v_iload_n C dX12_hash_33 rfl ?_
      refine v_iald C dX12_hash_34 (by assumption) (by omega) (by omega) (hfb row hrow) ?_
      refine v_iload_n C dX12_hash_35 rfl ?_
      refine mc_X12_108 C dX12_hash_36 (by assumption) (c_Mo_hashed _ E z (hab row hrow).1 (hab row hrow).2 hx hm) rfl (fun r36 G36 hp36 => ?_)
      obtain ⟨rfl, rfl⟩ := hp36
      refine v_goto C 43 dX12_hash_39 (by decide) ?_
      refine v_iret C dX12_hash_43 ?_
      exact ⟨by unfold oHash; rw [if_pos hi1]; rw [if_pos hi2]; rw [hrx, hxx], rfl⟩

set_option maxHeartbeats 4000000 in
set_option maxRecDepth 100000 in
theorem c_Mo_cellOf (l : Launch) (E : Ev) (z : Option Nat) {G : Gh} {P W R lim rp po : Nat} {A B : Nat → Nat} {s r x : Nat} (hs : s < 4) (hr : r < R) (hx : x < P) (hm : isMo E G P W R lim rp po A B) : K_X12_cellOf l E z G [.ref (ga E 104), .int (nI s), .int (nI r), .int (nI x)] (fun r9 G2 => r9 = nI (2048 * s + 256 * r + hsh P W (A r) (B r) x) ∧ G = G2) := by
  refine Fc.of rfl [some (.ref (ga E 104)), some (.int (nI s)), some (.int (nI r)), some (.int (nI x))] 0 rfl (Nat.le_of_ble_eq_true rfl) ?_
  intro M hM0 hini C
  subst hM0
  obtain ⟨fa, fb, ho, h5, h6, hfa, hfb, hrg, hlim, hab⟩ := id hm
  refine v_sipush (v := nI 2048) C dX12_cellOf_0 (by decide) ?_
  refine v_iload_n C dX12_cellOf_3 rfl ?_
  first | refine v_imuln C dX12_cellOf_4 ?_ | refine v_imul C dX12_cellOf_4 ?_
  refine v_sipush (v := nI 256) C dX12_cellOf_5 (by decide) ?_
  refine v_iload_n C dX12_cellOf_8 rfl ?_
  first | refine v_imuln C dX12_cellOf_9 ?_ | refine v_imul C dX12_cellOf_9 ?_
  first | refine v_iaddn C dX12_cellOf_10 ?_ | refine v_iadd C dX12_cellOf_10 ?_
  refine v_aload_n C dX12_cellOf_11 rfl ?_
  refine v_aload_n C dX12_cellOf_12 rfl ?_
  refine gf_X12_7 C dX12_cellOf_13 (by assumption) ?_
  refine v_iload_n C dX12_cellOf_16 rfl ?_
  refine v_iald C dX12_cellOf_17 (by assumption) (by omega) (by omega) (hfa r hr) ?_
  refine v_aload_n C dX12_cellOf_18 rfl ?_
  refine gf_X12_13 C dX12_cellOf_19 (by assumption) ?_
  refine v_iload_n C dX12_cellOf_22 rfl ?_
  refine v_iald C dX12_cellOf_23 (by assumption) (by omega) (by omega) (hfb r hr) ?_
  refine v_iload_n C dX12_cellOf_24 rfl ?_
  refine mc_X12_108 C dX12_cellOf_25 (by assumption) (c_Mo_hashed _ E z (hab r hr).1 (hab r hr).2 hx hm) rfl (fun r25 G25 hp25 => ?_)
  obtain ⟨rfl, rfl⟩ := hp25
  first | refine v_iaddn C dX12_cellOf_28 ?_ | refine v_iadd C dX12_cellOf_28 ?_
  refine v_iret C dX12_cellOf_29 ?_
  exact ⟨rfl, rfl⟩

