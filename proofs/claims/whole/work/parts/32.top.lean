/-! FrequencySketches (class 10): what its object is -/
def ix (x : Int32) : Nat := x.toInt.toNat
theorem ix_nI {k : Nat} (h : k < 2 ^ 31) : ix (nI k) = k := by unfold ix; rw [nI_toInt h]; exact Int.toNat_natCast k
def sId (k : Nat) : Nat := 5 + 24 * k
def isFS (E : Ev) (G : Gh) (P W R lim : Nat) (A B : Nat → Nat) (Z : Nat → Str) (rk : Rnk) : Prop := G 0 = cO 10 [.ref (ga E 1), .int (nI lim), .ref (ga E 4), .ref (ga E 101)] ∧ isFam E G 1 P W R A B ∧ G 4 = cR E 3 4 (fun k => some (ga E (sId k))) ∧ (∀ k, k < 4 → isStr E G (sId k) 1 P W R lim (min P 300) (Z k)) ∧ isRnk E G 101 (min P 300) rk ∧ (1 ≤ lim ∧ lim ≤ 64)
theorem isFS.rng {E : Ev} {G : Gh} {P W R lim : Nat} {A B : Nat → Nat} {Z : Nat → Str} {rk : Rnk} (h : isFS E G P W R lim A B Z rk) : 2 ≤ P ∧ P ≤ 65521 ∧ 1 ≤ W ∧ W ≤ 256 ∧ 1 ≤ R ∧ R ≤ 8 := h.2.1.choose_spec.choose_spec.2.2.2.2.2.1
theorem isFS.keep {E : Ev} {G G2 : Gh} {P W R lim : Nat} {A B : Nat → Nat} {Z : Nat → Str} {rk : Rnk} (h : isFS E G P W R lim A B Z rk) (hf : ∀ j, j < 104 → G2 j = G j) : isFS E G2 P W R lim A B Z rk := by
  obtain ⟨h0, h1, h2, h3, h4, h5⟩ := h
  refine ⟨(hf _ (by omega)).trans h0, h1.keep (fun j a b => hf j (by omega)), (hf _ (by omega)).trans h2, fun k hk => (h3 k hk).keep (fun j a b => hf j ?_), h4.keep (fun j a b => hf j (by omega)), h5⟩
  unfold sId at b
  omega
theorem i32_lt0 {x : Int32} (h : x < 0) : x.toInt < 0 := by rw [Int32.lt_iff_toInt_lt, Int32.toInt_zero] at h; exact h
theorem i32_nlt0 {x : Int32} (h : ¬ x < 0) : 0 ≤ x.toInt := by rw [Int32.lt_iff_toInt_lt, Int32.toInt_zero] at h; omega
theorem i32_ge {x : Int32} {n : Nat} (hn : n < 2 ^ 31) (h : nI n ≤ x) : (n : Int) ≤ x.toInt := by rw [Int32.le_iff_toInt_le, nI_toInt hn] at h; exact h
theorem i32_nge {x : Int32} {n : Nat} (hn : n < 2 ^ 31) (h : ¬ nI n ≤ x) : x.toInt < n := by rw [Int32.le_iff_toInt_le, nI_toInt hn] at h; omega
theorem i32_lt {x : Int32} {n : Nat} (hn : n < 2 ^ 31) (h : x < nI n) : x.toInt < n := by rw [Int32.lt_iff_toInt_lt, nI_toInt hn] at h; exact h
theorem i32_nlt {x : Int32} {n : Nat} (hn : n < 2 ^ 31) (h : ¬ x < nI n) : (n : Int) ≤ x.toInt := by rw [Int32.lt_iff_toInt_lt, nI_toInt hn] at h; omega
theorem i32_le {x : Int32} {n : Nat} (hn : n < 2 ^ 31) (h : x ≤ nI n) : x.toInt ≤ n := by rw [Int32.le_iff_toInt_le, nI_toInt hn] at h; exact h
theorem i32_nle {x : Int32} {n : Nat} (hn : n < 2 ^ 31) (h : ¬ x ≤ nI n) : (n : Int) < x.toInt := by rw [Int32.le_iff_toInt_le, nI_toInt hn] at h; omega
def ipr (a c : Int32) (P : Nat) : Bool := decide (1 ≤ a.toInt ∧ a.toInt < (P : Int) ∧ 0 ≤ c.toInt ∧ c.toInt < (P : Int))

set_option maxHeartbeats 4000000 in
set_option maxRecDepth 100000 in
theorem c_Fam_isRow2 (l : Launch) (E : Ev) (z : Option Nat) {G : Gh} {b P W R : Nat} {A B : Nat → Nat} {x : Int32} (hF : isFam E G b P W R A B) : K_X3_isRow l E z G [.ref (ga E b), .int x] (fun r G2 => r = iin x R ∧ G = G2) := by
  refine Fc.of rfl [some (.ref (ga E b)), some (.int x)] 0 rfl (Nat.le_of_ble_eq_true rfl) ?_
  intro M hM0 hini C
  subst hM0
  obtain ⟨fa, fb, hb0, hb1, hb2, hfa, hfb, hr, hab⟩ := hF
  refine v_iload_n C dX3_isRow_0 rfl ?_
  refine v_if_lt C 16 dX3_isRow_1 (by decide) (fun h1 => ?_) (fun h1 => ?_)
  · skip
    refine v_iconst (v := bI false) C dX3_isRow_16 (by decide) ?_
    refine v_zret C dX3_isRow_17 ?_
    first
      | exact ⟨(iin_neg h1).symm, rfl⟩
      | exact ⟨(iin_ge h9 (by omega)).symm, rfl⟩
      | exact ⟨(iin_yes h1 h9 (by omega)).symm, rfl⟩
  · skip
    refine v_iload_n C dX3_isRow_4 rfl ?_
    refine v_aload_n C dX3_isRow_5 rfl ?_
    refine gf_X3_16 C dX3_isRow_6 (by assumption) ?_
    refine v_icmp_ge C 16 dX3_isRow_9 (by decide) (fun h9 => ?_) (fun h9 => ?_)
    · skip
      refine v_iconst (v := bI false) C dX3_isRow_16 (by decide) ?_
      refine v_zret C dX3_isRow_17 ?_
      first
        | exact ⟨(iin_neg h1).symm, rfl⟩
        | exact ⟨(iin_ge h9 (by omega)).symm, rfl⟩
        | exact ⟨(iin_yes h1 h9 (by omega)).symm, rfl⟩
    · skip
      refine v_iconst (v := bI true) C dX3_isRow_12 (by decide) ?_
      refine v_goto C 17 dX3_isRow_13 (by decide) ?_
      refine v_zret C dX3_isRow_17 ?_
      first
        | exact ⟨(iin_neg h1).symm, rfl⟩
        | exact ⟨(iin_ge h9 (by omega)).symm, rfl⟩
        | exact ⟨(iin_yes h1 h9 (by omega)).symm, rfl⟩

set_option maxHeartbeats 4000000 in
set_option maxRecDepth 100000 in
theorem c_Fam_isKey2 (l : Launch) (E : Ev) (z : Option Nat) {G : Gh} {b P W R : Nat} {A B : Nat → Nat} {x : Int32} (hF : isFam E G b P W R A B) : K_X3_isKey l E z G [.ref (ga E b), .int x] (fun r G2 => r = iin x P ∧ G = G2) := by
  refine Fc.of rfl [some (.ref (ga E b)), some (.int x)] 0 rfl (Nat.le_of_ble_eq_true rfl) ?_
  intro M hM0 hini C
  subst hM0
  obtain ⟨fa, fb, hb0, hb1, hb2, hfa, hfb, hr, hab⟩ := hF
  refine v_iload_n C dX3_isKey_0 rfl ?_
  refine v_if_lt C 16 dX3_isKey_1 (by decide) (fun h1 => ?_) (fun h1 => ?_)
  · skip
    refine v_iconst (v := bI false) C dX3_isKey_16 (by decide) ?_
    refine v_zret C dX3_isKey_17 ?_
    first
      | exact ⟨(iin_neg h1).symm, rfl⟩
      | exact ⟨(iin_ge h9 (by omega)).symm, rfl⟩
      | exact ⟨(iin_yes h1 h9 (by omega)).symm, rfl⟩
  · skip
    refine v_iload_n C dX3_isKey_4 rfl ?_
    refine v_aload_n C dX3_isKey_5 rfl ?_
    refine gf_X3_7 C dX3_isKey_6 (by assumption) ?_
    refine v_icmp_ge C 16 dX3_isKey_9 (by decide) (fun h9 => ?_) (fun h9 => ?_)
    · skip
      refine v_iconst (v := bI false) C dX3_isKey_16 (by decide) ?_
      refine v_zret C dX3_isKey_17 ?_
      first
        | exact ⟨(iin_neg h1).symm, rfl⟩
        | exact ⟨(iin_ge h9 (by omega)).symm, rfl⟩
        | exact ⟨(iin_yes h1 h9 (by omega)).symm, rfl⟩
    · skip
      refine v_iconst (v := bI true) C dX3_isKey_12 (by decide) ?_
      refine v_goto C 17 dX3_isKey_13 (by decide) ?_
      refine v_zret C dX3_isKey_17 ?_
      first
        | exact ⟨(iin_neg h1).symm, rfl⟩
        | exact ⟨(iin_ge h9 (by omega)).symm, rfl⟩
        | exact ⟨(iin_yes h1 h9 (by omega)).symm, rfl⟩

set_option maxHeartbeats 4000000 in
set_option maxRecDepth 100000 in
theorem c_Fam_isPair2 (l : Launch) (E : Ev) (z : Option Nat) {G : Gh} {b P W R : Nat} {A B : Nat → Nat} {x y : Int32} (hF : isFam E G b P W R A B) : K_X3_isPair l E z G [.ref (ga E b), .int x, .int y] (fun r G2 => r = ipr x y P ∧ G = G2) := by
  refine Fc.of rfl [some (.ref (ga E b)), some (.int x), some (.int y)] 0 rfl (Nat.le_of_ble_eq_true rfl) ?_
  intro M hM0 hini C
  subst hM0
  obtain ⟨fa, fb, hb0, hb1, hb2, hfa, hfb, hr, hab⟩ := hF
  refine v_iload_n C dX3_isPair_0 rfl ?_
  refine v_iconst (v := nI 1) C dX3_isPair_1 (by decide) ?_
  refine v_icmp_lt C 29 dX3_isPair_2 (by decide) (fun h2 => ?_) (fun h2 => ?_)
  · skip
    refine v_iconst (v := bI false) C dX3_isPair_29 (by decide) ?_
    refine v_zret C dX3_isPair_30 ?_
    refine ⟨?_, rfl⟩
    unfold ipr
    first
      | (have q1 := i32_lt (by decide) h2; simp; omega)
      | (have q1 := i32_ge (by omega) h10; simp; omega)
      | (have q1 := i32_lt0 h14; simp; omega)
      | (have q1 := i32_ge (by omega) h22; simp; omega)
      | (have q1 := i32_nlt (by decide) h2; have q2 := i32_nge (by omega) h10; have q3 := i32_nlt0 h14; have q4 := i32_nge (by omega) h22; simp; omega)
  · skip
    refine v_iload_n C dX3_isPair_5 rfl ?_
    refine v_aload_n C dX3_isPair_6 rfl ?_
    refine gf_X3_7 C dX3_isPair_7 (by assumption) ?_
    refine v_icmp_ge C 29 dX3_isPair_10 (by decide) (fun h10 => ?_) (fun h10 => ?_)
    · skip
      refine v_iconst (v := bI false) C dX3_isPair_29 (by decide) ?_
      refine v_zret C dX3_isPair_30 ?_
      refine ⟨?_, rfl⟩
      unfold ipr
      first
        | (have q1 := i32_lt (by decide) h2; simp; omega)
        | (have q1 := i32_ge (by omega) h10; simp; omega)
        | (have q1 := i32_lt0 h14; simp; omega)
        | (have q1 := i32_ge (by omega) h22; simp; omega)
        | (have q1 := i32_nlt (by decide) h2; have q2 := i32_nge (by omega) h10; have q3 := i32_nlt0 h14; have q4 := i32_nge (by omega) h22; simp; omega)
    · skip
      refine v_iload_n C dX3_isPair_13 rfl ?_
      refine v_if_lt C 29 dX3_isPair_14 (by decide) (fun h14 => ?_) (fun h14 => ?_)
      · skip
        refine v_iconst (v := bI false) C dX3_isPair_29 (by decide) ?_
        refine v_zret C dX3_isPair_30 ?_
        refine ⟨?_, rfl⟩
        unfold ipr
        first
          | (have q1 := i32_lt (by decide) h2; simp; omega)
          | (have q1 := i32_ge (by omega) h10; simp; omega)
          | (have q1 := i32_lt0 h14; simp; omega)
          | (have q1 := i32_ge (by omega) h22; simp; omega)
          | (have q1 := i32_nlt (by decide) h2; have q2 := i32_nge (by omega) h10; have q3 := i32_nlt0 h14; have q4 := i32_nge (by omega) h22; simp; omega)
      · skip
        refine v_iload_n C dX3_isPair_17 rfl ?_
        refine v_aload_n C dX3_isPair_18 rfl ?_
        refine gf_X3_7 C dX3_isPair_19 (by assumption) ?_
        refine v_icmp_ge C 29 dX3_isPair_22 (by decide) (fun h22 => ?_) (fun h22 => ?_)
        · skip
          refine v_iconst (v := bI false) C dX3_isPair_29 (by decide) ?_
          refine v_zret C dX3_isPair_30 ?_
          refine ⟨?_, rfl⟩
          unfold ipr
          first
            | (have q1 := i32_lt (by decide) h2; simp; omega)
            | (have q1 := i32_ge (by omega) h10; simp; omega)
            | (have q1 := i32_lt0 h14; simp; omega)
            | (have q1 := i32_ge (by omega) h22; simp; omega)
            | (have q1 := i32_nlt (by decide) h2; have q2 := i32_nge (by omega) h10; have q3 := i32_nlt0 h14; have q4 := i32_nge (by omega) h22; simp; omega)
        · skip
          refine v_iconst (v := bI true) C dX3_isPair_25 (by decide) ?_
          refine v_goto C 30 dX3_isPair_26 (by decide) ?_
          refine v_zret C dX3_isPair_30 ?_
          refine ⟨?_, rfl⟩
          unfold ipr
          first
            | (have q1 := i32_lt (by decide) h2; simp; omega)
            | (have q1 := i32_ge (by omega) h10; simp; omega)
            | (have q1 := i32_lt0 h14; simp; omega)
            | (have q1 := i32_ge (by omega) h22; simp; omega)
            | (have q1 := i32_nlt (by decide) h2; have q2 := i32_nge (by omega) h10; have q3 := i32_nlt0 h14; have q4 := i32_nge (by omega) h22; simp; omega)

set_option maxHeartbeats 4000000 in
set_option maxRecDepth 100000 in
theorem c_FS_at (l : Launch) (E : Ev) (z : Option Nat) {G : Gh} {P W R lim : Nat} {A B : Nat → Nat} {Z : Nat → Str} {rk : Rnk} {k : Nat} (hk : k < 4) (hfs : isFS E G P W R lim A B Z rk) : K_X11_streamAt l E z G [.ref (ga E 0), .int (nI k)] (fun r G2 => r = some (ga E (sId k)) ∧ G = G2) := by
  refine Fc.of rfl [some (.ref (ga E 0)), some (.int (nI k))] 0 rfl (Nat.le_of_ble_eq_true rfl) ?_
  intro M hM0 hini C
  subst hM0
  obtain ⟨hf0, hF, hf4, hfst, hfr0, hlim⟩ := id hfs
  have hrg := hfs.rng
  refine v_iload_n C dX11_streamAt_0 rfl ?_
  first | refine v_ifn_lt C 18 dX11_streamAt_1 (by decide) (by omega) (fun h1 => by exfalso; first | omega | exact absurd h1 (by decide) | (have h9 := of_decide_eq_true h1; omega) | (have h9 := of_decide_eq_false h1; omega) | contradiction | simp_all) (fun h1 => ?_) | refine v_if_lt C 18 dX11_streamAt_1 (by decide) (fun h1 => by exfalso; first | omega | exact absurd h1 (by decide) | (have h9 := of_decide_eq_true h1; omega) | (have h9 := of_decide_eq_false h1; omega) | contradiction | simp_all) (fun h1 => ?_)
  refine v_iload_n C dX11_streamAt_4 rfl ?_
  refine v_iconst (v := nI 4) C dX11_streamAt_5 (by decide) ?_
  refine v_icmpn_ge C 18 dX11_streamAt_6 (by decide) (by omega) (by omega) (fun h6 => by exfalso; first | omega | exact absurd h6 (by decide) | (have h9 := of_decide_eq_true h6; omega) | (have h9 := of_decide_eq_false h6; omega) | contradiction | simp_all) (fun h6 => ?_)
  refine v_aload_n C dX11_streamAt_9 rfl ?_
  refine gf_X11_33 C dX11_streamAt_10 (by assumption) ?_
  refine v_iload_n C dX11_streamAt_13 rfl ?_
  refine v_aald (v := some (ga E (sId k))) C dX11_streamAt_14 hf4 rfl (by omega) (by omega) rfl ?_
  refine v_goto C 19 dX11_streamAt_15 (by decide) ?_
  refine v_aret C dX11_streamAt_19 ?_
  exact ⟨rfl, rfl⟩

set_option maxHeartbeats 4000000 in
set_option maxRecDepth 100000 in
theorem c_FS_atN (l : Launch) (E : Ev) (z : Option Nat) {G : Gh} {P W R lim : Nat} {A B : Nat → Nat} {Z : Nat → Str} {rk : Rnk} {x : Int32} (hx : iin x 4 = false) (hfs : isFS E G P W R lim A B Z rk) : K_X11_streamAt l E z G [.ref (ga E 0), .int x] (fun r G2 => r = none ∧ G = G2) := by
  refine Fc.of rfl [some (.ref (ga E 0)), some (.int x)] 0 rfl (Nat.le_of_ble_eq_true rfl) ?_
  intro M hM0 hini C
  subst hM0
  obtain ⟨hf0, hF, hf4, hfst, hfr0, hlim⟩ := id hfs
  have hrg := hfs.rng
  refine v_iload_n C dX11_streamAt_0 rfl ?_
  refine v_if_lt C 18 dX11_streamAt_1 (by decide) (fun h1 => ?_) (fun h1 => ?_)
  · skip
    refine v_null C dX11_streamAt_18 ?_
    exact v_aret (x := none) C dX11_streamAt_19 ⟨rfl, rfl⟩
  · skip
    refine v_iload_n C dX11_streamAt_4 rfl ?_
    refine v_iconst (v := nI 4) C dX11_streamAt_5 (by decide) ?_
    refine v_icmp_ge C 18 dX11_streamAt_6 (by decide) (fun h6 => ?_) (fun h6 => ?_)
    · skip
      refine v_null C dX11_streamAt_18 ?_
      exact v_aret (x := none) C dX11_streamAt_19 ⟨rfl, rfl⟩
    · skip
      exact absurd (iin_yes (n := 4) h1 h6 (by decide)) (by rw [hx]; decide)

def kId (k q : Nat) : Nat := match q with
  | 0 => sId k + 1
  | 1 => sId k + 3
  | 2 => sId k + 5
  | 3 => sId k + 12
  | _ => sId k + 23
theorem skf_k {E : Ev} {k q : Nat} : skf E (sId k) q = some (ga E (kId k q)) := by
  match q with
  | 0 => rfl
  | 1 => rfl
  | 2 => rfl
  | 3 => rfl
  | n + 4 => rfl

set_option maxHeartbeats 4000000 in
set_option maxRecDepth 100000 in
theorem c_FS_sk (l : Launch) (E : Ev) (z : Option Nat) {G : Gh} {P W R lim : Nat} {A B : Nat → Nat} {Z : Nat → Str} {rk : Rnk} {k q : Nat} (hk : k < 4) (hq : q < 5) (hfs : isFS E G P W R lim A B Z rk) : K_X11_sketchAt l E z G [.ref (ga E 0), .int (nI k), .int (nI q)] (fun r G2 => r = some (ga E (kId k q)) ∧ G = G2) := by
  refine Fc.of rfl [some (.ref (ga E 0)), some (.int (nI k)), some (.int (nI q)), none] 1 rfl (Nat.le_of_ble_eq_true rfl) ?_
  intro M hM0 hini C
  subst hM0
  obtain ⟨hf0, hF, hf4, hfst, hfr0, hlim⟩ := id hfs
  have hrg := hfs.rng
  refine v_aload_n C dX11_sketchAt_0 rfl ?_
  refine v_iload_n C dX11_sketchAt_1 rfl ?_
  refine mc_X11_85 C dX11_sketchAt_2 (by assumption) (c_FS_at _ E z hk hfs) rfl (fun r2 G2 hp2 => ?_)
  obtain ⟨rfl, rfl⟩ := hp2
  refine v_astore_3 C dX11_sketchAt_5 (by decide) (by first | rfl | assumption) ?_
  refine v_aload_n C dX11_sketchAt_6 rfl ?_
  refine v_ifnull C dX11_sketchAt_7 ?_
  refine v_iload_n C dX11_sketchAt_10 rfl ?_
  first | refine v_ifn_lt C 19 dX11_sketchAt_11 (by decide) (by omega) (fun h11 => by exfalso; first | omega | exact absurd h11 (by decide) | (have h9 := of_decide_eq_true h11; omega) | (have h9 := of_decide_eq_false h11; omega) | contradiction | simp_all) (fun h11 => ?_) | refine v_if_lt C 19 dX11_sketchAt_11 (by decide) (fun h11 => by exfalso; first | omega | exact absurd h11 (by decide) | (have h9 := of_decide_eq_true h11; omega) | (have h9 := of_decide_eq_false h11; omega) | contradiction | simp_all) (fun h11 => ?_)
  refine v_iload_n C dX11_sketchAt_14 rfl ?_
  refine v_iconst (v := nI 5) C dX11_sketchAt_15 (by decide) ?_
  refine v_icmpn_lt C 21 dX11_sketchAt_16 (by decide) (by omega) (by omega) (fun h16 => ?_) (fun h16 => by exfalso; first | omega | exact absurd h16 (by decide) | (have h9 := of_decide_eq_true h16; omega) | (have h9 := of_decide_eq_false h16; omega) | contradiction | simp_all)
  have hstk := hfst k hk
  obtain ⟨hs0, hg1, hg2, hms, hsv, hct, hs22, hs23⟩ := id hstk
  refine v_aload_n C dX11_sketchAt_21 rfl ?_
  refine gf_X11_204 C dX11_sketchAt_22 (by assumption) ?_
  refine v_iload_n C dX11_sketchAt_25 rfl ?_
  refine v_aald (v := some (ga E (kId k q))) C dX11_sketchAt_26 hs22 rfl (by omega) (by omega) skf_k ?_
  refine v_aret C dX11_sketchAt_27 ?_
  exact ⟨rfl, rfl⟩

set_option maxHeartbeats 4000000 in
set_option maxRecDepth 100000 in
theorem c_FS_skN (l : Launch) (E : Ev) (z : Option Nat) {G : Gh} {P W R lim : Nat} {A B : Nat → Nat} {Z : Nat → Str} {rk : Rnk} {x y : Int32} (hx : iin x 4 = false) (hfs : isFS E G P W R lim A B Z rk) : K_X11_sketchAt l E z G [.ref (ga E 0), .int x, .int y] (fun r G2 => r = none ∧ G = G2) := by
  refine Fc.of rfl [some (.ref (ga E 0)), some (.int x), some (.int y), none] 1 rfl (Nat.le_of_ble_eq_true rfl) ?_
  intro M hM0 hini C
  subst hM0
  obtain ⟨hf0, hF, hf4, hfst, hfr0, hlim⟩ := id hfs
  have hrg := hfs.rng
  refine v_aload_n C dX11_sketchAt_0 rfl ?_
  refine v_iload_n C dX11_sketchAt_1 rfl ?_
  refine mc_X11_85 C dX11_sketchAt_2 (by assumption) (c_FS_atN _ E z hx hfs) rfl (fun r2 G2 hp2 => ?_)
  obtain ⟨rfl, rfl⟩ := hp2
  refine v_astoreN_3 C dX11_sketchAt_5 (by decide) (by first | rfl | assumption) ?_
  refine v_aload_nN C dX11_sketchAt_6 rfl ?_
  refine v_ifnullN C 19 dX11_sketchAt_7 (by decide) ?_
  refine v_null C dX11_sketchAt_19 ?_
  exact v_aret (x := none) C dX11_sketchAt_20 ⟨rfl, rfl⟩

set_option maxHeartbeats 4000000 in
set_option maxRecDepth 100000 in
theorem c_FS_skM (l : Launch) (E : Ev) (z : Option Nat) {G : Gh} {P W R lim : Nat} {A B : Nat → Nat} {Z : Nat → Str} {rk : Rnk} {k : Nat} {y : Int32} (hk : k < 4) (hy : iin y 5 = false) (hfs : isFS E G P W R lim A B Z rk) : K_X11_sketchAt l E z G [.ref (ga E 0), .int (nI k), .int y] (fun r G2 => r = none ∧ G = G2) := by
  refine Fc.of rfl [some (.ref (ga E 0)), some (.int (nI k)), some (.int y), none] 1 rfl (Nat.le_of_ble_eq_true rfl) ?_
  intro M hM0 hini C
  subst hM0
  obtain ⟨hf0, hF, hf4, hfst, hfr0, hlim⟩ := id hfs
  have hrg := hfs.rng
  refine v_aload_n C dX11_sketchAt_0 rfl ?_
  refine v_iload_n C dX11_sketchAt_1 rfl ?_
  refine mc_X11_85 C dX11_sketchAt_2 (by assumption) (c_FS_at _ E z hk hfs) rfl (fun r2 G2 hp2 => ?_)
  obtain ⟨rfl, rfl⟩ := hp2
  refine v_astore_3 C dX11_sketchAt_5 (by decide) (by first | rfl | assumption) ?_
  refine v_aload_n C dX11_sketchAt_6 rfl ?_
  refine v_ifnull C dX11_sketchAt_7 ?_
  refine v_iload_n C dX11_sketchAt_10 rfl ?_
  refine v_if_lt C 19 dX11_sketchAt_11 (by decide) (fun h11 => ?_) (fun h11 => ?_)
  · skip
    refine v_null C dX11_sketchAt_19 ?_
    exact v_aret (x := none) C dX11_sketchAt_20 ⟨rfl, rfl⟩
  · skip
    refine v_iload_n C dX11_sketchAt_14 rfl ?_
    refine v_iconst (v := nI 5) C dX11_sketchAt_15 (by decide) ?_
    refine v_icmp_lt C 21 dX11_sketchAt_16 (by decide) (fun h16 => ?_) (fun h16 => ?_)
    · skip
      exact absurd (iin_yes2 (n := 5) h11 h16 (by decide)) (by rw [hy]; decide)
    · skip
      refine v_null C dX11_sketchAt_19 ?_
      exact v_aret (x := none) C dX11_sketchAt_20 ⟨rfl, rfl⟩

def oTotal (Z : Nat → Str) (x1 : Int32) : Int64 := if iin x1 4 = true then lN (zN (Z (ix x1))) else -1
set_option maxHeartbeats 4000000 in
set_option maxRecDepth 100000 in
theorem c_FS_total (l : Launch) (E : Ev) (z : Option Nat) {G : Gh} {P W R lim : Nat} {A B : Nat → Nat} {Z : Nat → Str} {rk : Rnk} {x1 : Int32} (hfs : isFS E G P W R lim A B Z rk) : K_X11_total l E z G [.ref (ga E 0), .int x1] (fun r G2 => r = oTotal Z x1 ∧ G = G2) := by
  refine Fc.of rfl [some (.ref (ga E 0)), some (.int x1), none] 1 rfl (Nat.le_of_ble_eq_true rfl) ?_
  intro M hM0 hini C
  subst hM0
  obtain ⟨hf0, hF, hf4, hfst, hfr0, hlim⟩ := id hfs
  have hrg := hfs.rng
  cases hi1 : iin x1 4 with
  | false =>
    refine v_aload_n C dX11_total_0 rfl ?_
    refine v_iload_n C dX11_total_1 rfl ?_
    refine mc_X11_85 C dX11_total_2 (by assumption) (c_FS_atN _ E z hi1 hfs) rfl (fun r2 G2 hp2 => ?_)
    obtain ⟨rfl, rfl⟩ := hp2
    refine v_astoreN_2 C dX11_total_5 (by decide) (by first | rfl | assumption) ?_
    refine v_aload_nN C dX11_total_6 rfl ?_
    refine v_ifnonnullN C dX11_total_7 ?_
    refine v_ldc2 C tw809 dX11_total_10 ?_
    refine v_goto C 20 dX11_total_13 (by decide) ?_
    refine v_lret C dX11_total_20 ?_
    exact ⟨by unfold oTotal; rw [hi1]; rfl, rfl⟩
  | true =>
    obtain ⟨k, hk, rfl⟩ := iin_of hi1 (by decide)
    have hstk := hfst k hk
    have hkx : ix (nI k) = k := ix_nI (by omega)
    obtain ⟨hs0, hg1, hg2, hms, hsv, hct, hs22, hs23⟩ := id hstk
    refine v_aload_n C dX11_total_0 rfl ?_
    refine v_iload_n C dX11_total_1 rfl ?_
    refine mc_X11_85 C dX11_total_2 (by assumption) (c_FS_at _ E z hk hfs) rfl (fun r2 G2 hp2 => ?_)
    obtain ⟨rfl, rfl⟩ := hp2
    refine v_astore_2 C dX11_total_5 (by decide) (by first | rfl | assumption) ?_
    refine v_aload_n C dX11_total_6 rfl ?_
    refine v_ifnonnull C 16 dX11_total_7 (by decide) ?_
    refine v_aload_n C dX11_total_16 rfl ?_
    refine gf_X11_91 C dX11_total_17 (by assumption) ?_
    refine v_lret C dX11_total_20 ?_
    exact ⟨by unfold oTotal; rw [if_pos hi1, hkx], rfl⟩

def oSize (P W R lim : Nat) (x1 : Int32) : Int32 := if x1 = nI 0 then nI P else if x1 = nI 1 then nI W else if x1 = nI 2 then nI R else if x1 = nI 3 then nI lim else -1
set_option maxHeartbeats 4000000 in
set_option maxRecDepth 100000 in
theorem c_FS_size (l : Launch) (E : Ev) (z : Option Nat) {G : Gh} {P W R lim : Nat} {A B : Nat → Nat} {Z : Nat → Str} {rk : Rnk} {x1 : Int32} (hfs : isFS E G P W R lim A B Z rk) : K_X11_size l E z G [.ref (ga E 0), .int x1] (fun r G2 => r = oSize P W R lim x1 ∧ G = G2) := by
  refine Fc.of rfl [some (.ref (ga E 0)), some (.int x1)] 0 rfl (Nat.le_of_ble_eq_true rfl) ?_
  intro M hM0 hini C
  subst hM0
  obtain ⟨hf0, hF, hf4, hfst, hfr0, hlim⟩ := id hfs
  have hrg := hfs.rng
  obtain ⟨fa, fb, hb0, hb1, hb2, hfa, hfb, hr, hab⟩ := id hF
  refine v_iload_n C dX11_size_0 rfl ?_
  refine v_tsw4 C 32 40 48 56 61 dX11_size_1 (by decide) (by decide) (by decide) (by decide) (by decide) (fun h1 => ?_) (fun h1 => ?_) (fun h1 => ?_) (fun h1 => ?_) (fun h1 => ?_)
  · skip
    refine v_aload_n C dX11_size_32 rfl ?_
    refine gf_X11_23 C dX11_size_33 (by assumption) ?_
    refine gf_X11_42 C dX11_size_36 (by assumption) ?_
    refine v_iret C dX11_size_39 ?_
    subst h1; exact ⟨by unfold oSize; rw [if_pos rfl], rfl⟩
  · skip
    refine v_aload_n C dX11_size_40 rfl ?_
    refine gf_X11_23 C dX11_size_41 (by assumption) ?_
    refine gf_X11_58 C dX11_size_44 (by assumption) ?_
    refine v_iret C dX11_size_47 ?_
    subst h1; exact ⟨by unfold oSize; rw [if_neg (by decide), if_pos rfl], rfl⟩
  · skip
    refine v_aload_n C dX11_size_48 rfl ?_
    refine gf_X11_23 C dX11_size_49 (by assumption) ?_
    refine gf_X11_61 C dX11_size_52 (by assumption) ?_
    refine v_iret C dX11_size_55 ?_
    subst h1; exact ⟨by unfold oSize; rw [if_neg (by decide), if_neg (by decide), if_pos rfl], rfl⟩
  · skip
    refine v_aload_n C dX11_size_56 rfl ?_
    refine gf_X11_27 C dX11_size_57 (by assumption) ?_
    refine v_iret C dX11_size_60 ?_
    subst h1; exact ⟨by unfold oSize; rw [if_neg (by decide), if_neg (by decide), if_neg (by decide), if_pos rfl], rfl⟩
  · skip
    refine v_iconst (v := -1) C dX11_size_61 (by decide) ?_
    refine v_iret C dX11_size_62 ?_
    exact ⟨by unfold oSize; rw [if_neg (h1 0 (by decide)), if_neg (h1 1 (by decide)), if_neg (h1 2 (by decide)), if_neg (h1 3 (by decide))], rfl⟩

