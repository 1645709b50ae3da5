def kLow (P W R : Nat) (A B : Nat → Nat) (lim : Nat) (S : Str) (q x : Nat) : Int64 := match q with
  | 0 => lN 0
  | 1 => lN 0
  | 2 => lN (numOf (zM S) x)
  | 3 => sLow (zS S) x
  | _ => bLow (lN (numOf (zM S) x)) (sLow (zS S) x)
def kHigh (P W R : Nat) (A B : Nat → Nat) (lim : Nat) (S : Str) (q x : Nat) : Int64 := match q with
  | 0 => lN (gEst P W R A B (zP S) x)
  | 1 => lN (gEst P W R A B (zC S) x)
  | 2 => lN (numOf (zM S) x + zT S)
  | 3 => lN (sEst lim (zS S) x)
  | _ => bHigh (lN (numOf (zM S) x + zT S)) (lN (sEst lim (zS S) x)) (lN (gEst P W R A B (zP S) x)) (lN (gEst P W R A B (zC S) x))
def kGuess (P W R : Nat) (A B : Nat → Nat) (lim : Nat) (S : Str) (q x : Nat) : Int64 := match q with
  | 0 => lN (gEst P W R A B (zP S) x)
  | 1 => lN (gEst P W R A B (zC S) x)
  | 2 => lN (numOf (zM S) x)
  | 3 => lN (sEst lim (zS S) x)
  | _ => (kLow P W R A B lim S 4 x + kHigh P W R A B lim S 4 x) / 2
def oEst (P W R : Nat) (A B : Nat → Nat) (lim : Nat) (Z : Nat → Str) (x1 x2 x3 x4 : Int32) : Int64 := if iin x1 4 = true then (if iin x2 5 = true then (if iin x3 P = true then (if x4 = nI 0 then kGuess P W R A B lim (Z (ix x1)) (ix x2) (ix x3) else if x4 = nI 1 then kLow P W R A B lim (Z (ix x1)) (ix x2) (ix x3) else if x4 = nI 2 then kHigh P W R A B lim (Z (ix x1)) (ix x2) (ix x3) else -1) else -1) else -1) else -1
set_option maxHeartbeats 4000000 in
set_option maxRecDepth 100000 in
theorem c_FS_est0 (l : Launch) (E : Ev) (z : Option Nat) {G : Gh} {P W R lim : Nat} {A B : Nat → Nat} {Z : Nat → Str} {rk : Rnk} {k : Nat} {x3 x4 : Int32} (hk : k < 4) (hbd : ∀ k, k < 4 → bdS R W lim (Z k)) (hfs : isFS E G P W R lim A B Z rk) : K_X11_estimate l E z G [.ref (ga E 0), .int (nI k), .int (nI 0), .int x3, .int x4] (fun r G2 => r = oEst P W R A B lim Z (nI k) (nI 0) x3 x4 ∧ G = G2) := by
  refine Fc.of rfl [some (.ref (ga E 0)), some (.int (nI k)), some (.int (nI 0)), some (.int x3), some (.int x4), none] 1 rfl (Nat.le_of_ble_eq_true rfl) ?_
  intro M hM0 hini C
  subst hM0
  obtain ⟨hf0, hF, hf4, hfst, hfr0, hlim⟩ := id hfs
  have hrg := hfs.rng
  have hstk := hfst k hk
  have hkx : ix (nI k) = k := ix_nI (by omega)
  have hi1 : iin (nI k) 4 = true := by rw [iin_nI (by omega)]; simp [hk]
  obtain ⟨hs0, hg1, hg2, hms, hsv, hct, hs22, hs23⟩ := id hstk
  have hbp := (hbd k hk).1
  have hbc := (hbd k hk).2.1
  have hi2 : iin (nI 0) 5 = true := by decide
  have hqx : ix (nI 0) = 0 := ix_nI (by decide)
  cases hi3 : iin x3 P with
  | false =>
    refine v_aload_n C dX11_estimate_0 rfl ?_
    refine v_iload_n C dX11_estimate_1 rfl ?_
    refine v_iload_n C dX11_estimate_2 rfl ?_
    refine mc_X11_111 C dX11_estimate_3 (by assumption) (c_FS_sk _ E z (q := 0) hk (by decide) hfs) rfl (fun r3 G3 hp3 => ?_)
    obtain ⟨rfl, rfl⟩ := hp3
    refine v_astore_5 C dX11_estimate_6 (by decide) (by first | rfl | assumption) ?_
    refine v_aload C dX11_estimate_8 rfl ?_
    refine v_ifnull C dX11_estimate_10 ?_
    refine v_aload_n C dX11_estimate_13 rfl ?_
    refine gf_X11_23 C dX11_estimate_14 (by assumption) ?_
    refine v_iload_n C dX11_estimate_17 rfl ?_
    refine mc_X11_79 C dX11_estimate_18 (hF.rc) (c_Fam_isKey2 _ E z hF) rfl (fun r18 G18 hp18 => ?_)
    obtain ⟨hr18, rfl⟩ := hp18
    rw [hi3] at hr18
    subst hr18
    first | refine v_ifb_ne C 28 dX11_estimate_21 (by decide) (fun h21 => by exfalso; first | omega | exact absurd h21 (by decide) | (have h9 := of_decide_eq_true h21; omega) | (have h9 := of_decide_eq_false h21; omega) | contradiction | simp_all) (fun h21 => ?_) | refine v_ifn_ne C 28 dX11_estimate_21 (by decide) (by omega) (fun h21 => by exfalso; first | omega | exact absurd h21 (by decide) | (have h9 := of_decide_eq_true h21; omega) | (have h9 := of_decide_eq_false h21; omega) | contradiction | simp_all) (fun h21 => ?_) | refine v_if_ne C 28 dX11_estimate_21 (by decide) (fun h21 => by exfalso; first | omega | exact absurd h21 (by decide) | (have h9 := of_decide_eq_true h21; omega) | (have h9 := of_decide_eq_false h21; omega) | contradiction | simp_all) (fun h21 => ?_)
    refine v_ldc2 C tw809 dX11_estimate_24 ?_
    refine v_lret C dX11_estimate_27 ?_
    exact ⟨by unfold oEst; rw [if_pos hi1]; rw [if_pos hi2]; rw [if_neg (by rw [hi3]; decide)], rfl⟩
  | true =>
    obtain ⟨x, hx, rfl⟩ := iin_of hi3 (by omega)
    have hxx : ix (nI x) = x := ix_nI (by omega)
    refine v_aload_n C dX11_estimate_0 rfl ?_
    refine v_iload_n C dX11_estimate_1 rfl ?_
    refine v_iload_n C dX11_estimate_2 rfl ?_
    refine mc_X11_111 C dX11_estimate_3 (by assumption) (c_FS_sk _ E z (q := 0) hk (by decide) hfs) rfl (fun r3 G3 hp3 => ?_)
    obtain ⟨rfl, rfl⟩ := hp3
    refine v_astore_5 C dX11_estimate_6 (by decide) (by first | rfl | assumption) ?_
    refine v_aload C dX11_estimate_8 rfl ?_
    refine v_ifnull C dX11_estimate_10 ?_
    refine v_aload_n C dX11_estimate_13 rfl ?_
    refine gf_X11_23 C dX11_estimate_14 (by assumption) ?_
    refine v_iload_n C dX11_estimate_17 rfl ?_
    refine mc_X11_79 C dX11_estimate_18 (hF.rc) (c_Fam_isKey2 _ E z hF) rfl (fun r18 G18 hp18 => ?_)
    obtain ⟨hr18, rfl⟩ := hp18
    rw [hi3] at hr18
    subst hr18
    first | refine v_ifb_ne C 28 dX11_estimate_21 (by decide) (fun h21 => ?_) (fun h21 => by exfalso; first | omega | exact absurd h21 (by decide) | (have h9 := of_decide_eq_true h21; omega) | (have h9 := of_decide_eq_false h21; omega) | contradiction | simp_all) | refine v_ifn_ne C 28 dX11_estimate_21 (by decide) (by omega) (fun h21 => ?_) (fun h21 => by exfalso; first | omega | exact absurd h21 (by decide) | (have h9 := of_decide_eq_true h21; omega) | (have h9 := of_decide_eq_false h21; omega) | contradiction | simp_all) | refine v_if_ne C 28 dX11_estimate_21 (by decide) (fun h21 => ?_) (fun h21 => by exfalso; first | omega | exact absurd h21 (by decide) | (have h9 := of_decide_eq_true h21; omega) | (have h9 := of_decide_eq_false h21; omega) | contradiction | simp_all)
    refine v_iload C dX11_estimate_28 rfl ?_
    refine v_tsw3 C 56 65 74 83 dX11_estimate_30 (by decide) (by decide) (by decide) (by decide) (fun h30 => ?_) (fun h30 => ?_) (fun h30 => ?_) (fun h30 => ?_)
    · skip
      show V _ _ _ _ _ _ _ _ _ [_, _, _, _, _, some (.ref (ga E (sId k + 1)))] _
      refine v_aload C dX11_estimate_56 rfl ?_
      refine v_iload_n C dX11_estimate_58 rfl ?_
      refine mc_X11_115_X4 C dX11_estimate_59 (hg1.rc) (c_Grid_guess _ E z hx hbp hF hg1) rfl (fun r59 G59 hp59 => ?_)
      obtain ⟨rfl, rfl⟩ := hp59
      refine v_lret C dX11_estimate_64 ?_
      subst h30
      exact ⟨by unfold oEst; rw [if_pos hi1, if_pos hi2, if_pos hi3, if_pos rfl, hkx, hqx, hxx]; rfl, rfl⟩
    · skip
      show V _ _ _ _ _ _ _ _ _ [_, _, _, _, _, some (.ref (ga E (sId k + 1)))] _
      refine v_aload C dX11_estimate_65 rfl ?_
      refine v_iload_n C dX11_estimate_67 rfl ?_
      refine mc_X11_121_X4 C dX11_estimate_68 (hg1.rc) (c_Grid_low _ E z) rfl (fun r68 G68 hp68 => ?_)
      obtain ⟨rfl, rfl⟩ := hp68
      refine v_lret C dX11_estimate_73 ?_
      subst h30
      exact ⟨by unfold oEst; rw [if_pos hi1, if_pos hi2, if_pos hi3, if_neg (by decide), if_pos rfl, hkx, hqx, hxx]; rfl, rfl⟩
    · skip
      show V _ _ _ _ _ _ _ _ _ [_, _, _, _, _, some (.ref (ga E (sId k + 1)))] _
      refine v_aload C dX11_estimate_74 rfl ?_
      refine v_iload_n C dX11_estimate_76 rfl ?_
      refine mc_X11_124_X4 C dX11_estimate_77 (hg1.rc) (c_Grid_high _ E z hx hbp hF hg1) rfl (fun r77 G77 hp77 => ?_)
      obtain ⟨rfl, rfl⟩ := hp77
      refine v_lret C dX11_estimate_82 ?_
      subst h30
      exact ⟨by unfold oEst; rw [if_pos hi1, if_pos hi2, if_pos hi3, if_neg (by decide), if_neg (by decide), if_pos rfl, hkx, hqx, hxx]; rfl, rfl⟩
    · skip
      refine v_ldc2 C tw809 dX11_estimate_83 ?_
      refine v_lret C dX11_estimate_86 ?_
      exact ⟨by unfold oEst; rw [if_pos hi1, if_pos hi2, if_pos hi3, if_neg (h30 0 (by decide)), if_neg (h30 1 (by decide)), if_neg (h30 2 (by decide))], rfl⟩

set_option maxHeartbeats 4000000 in
set_option maxRecDepth 100000 in
theorem c_FS_est1 (l : Launch) (E : Ev) (z : Option Nat) {G : Gh} {P W R lim : Nat} {A B : Nat → Nat} {Z : Nat → Str} {rk : Rnk} {k : Nat} {x3 x4 : Int32} (hk : k < 4) (hbd : ∀ k, k < 4 → bdS R W lim (Z k)) (hfs : isFS E G P W R lim A B Z rk) : K_X11_estimate l E z G [.ref (ga E 0), .int (nI k), .int (nI 1), .int x3, .int x4] (fun r G2 => r = oEst P W R A B lim Z (nI k) (nI 1) x3 x4 ∧ G = G2) := by
  refine Fc.of rfl [some (.ref (ga E 0)), some (.int (nI k)), some (.int (nI 1)), some (.int x3), some (.int x4), none] 1 rfl (Nat.le_of_ble_eq_true rfl) ?_
  intro M hM0 hini C
  subst hM0
  obtain ⟨hf0, hF, hf4, hfst, hfr0, hlim⟩ := id hfs
  have hrg := hfs.rng
  have hstk := hfst k hk
  have hkx : ix (nI k) = k := ix_nI (by omega)
  have hi1 : iin (nI k) 4 = true := by rw [iin_nI (by omega)]; simp [hk]
  obtain ⟨hs0, hg1, hg2, hms, hsv, hct, hs22, hs23⟩ := id hstk
  have hbp := (hbd k hk).1
  have hbc := (hbd k hk).2.1
  have hi2 : iin (nI 1) 5 = true := by decide
  have hqx : ix (nI 1) = 1 := ix_nI (by decide)
  cases hi3 : iin x3 P with
  | false =>
    refine v_aload_n C dX11_estimate_0 rfl ?_
    refine v_iload_n C dX11_estimate_1 rfl ?_
    refine v_iload_n C dX11_estimate_2 rfl ?_
    refine mc_X11_111 C dX11_estimate_3 (by assumption) (c_FS_sk _ E z (q := 1) hk (by decide) hfs) rfl (fun r3 G3 hp3 => ?_)
    obtain ⟨rfl, rfl⟩ := hp3
    refine v_astore_5 C dX11_estimate_6 (by decide) (by first | rfl | assumption) ?_
    refine v_aload C dX11_estimate_8 rfl ?_
    refine v_ifnull C dX11_estimate_10 ?_
    refine v_aload_n C dX11_estimate_13 rfl ?_
    refine gf_X11_23 C dX11_estimate_14 (by assumption) ?_
    refine v_iload_n C dX11_estimate_17 rfl ?_
    refine mc_X11_79 C dX11_estimate_18 (hF.rc) (c_Fam_isKey2 _ E z hF) rfl (fun r18 G18 hp18 => ?_)
    obtain ⟨hr18, rfl⟩ := hp18
    rw [hi3] at hr18
    subst hr18
    first | refine v_ifb_ne C 28 dX11_estimate_21 (by decide) (fun h21 => by exfalso; first | omega | exact absurd h21 (by decide) | (have h9 := of_decide_eq_true h21; omega) | (have h9 := of_decide_eq_false h21; omega) | contradiction | simp_all) (fun h21 => ?_) | refine v_ifn_ne C 28 dX11_estimate_21 (by decide) (by omega) (fun h21 => by exfalso; first | omega | exact absurd h21 (by decide) | (have h9 := of_decide_eq_true h21; omega) | (have h9 := of_decide_eq_false h21; omega) | contradiction | simp_all) (fun h21 => ?_) | refine v_if_ne C 28 dX11_estimate_21 (by decide) (fun h21 => by exfalso; first | omega | exact absurd h21 (by decide) | (have h9 := of_decide_eq_true h21; omega) | (have h9 := of_decide_eq_false h21; omega) | contradiction | simp_all) (fun h21 => ?_)
    refine v_ldc2 C tw809 dX11_estimate_24 ?_
    refine v_lret C dX11_estimate_27 ?_
    exact ⟨by unfold oEst; rw [if_pos hi1]; rw [if_pos hi2]; rw [if_neg (by rw [hi3]; decide)], rfl⟩
  | true =>
    obtain ⟨x, hx, rfl⟩ := iin_of hi3 (by omega)
    have hxx : ix (nI x) = x := ix_nI (by omega)
    refine v_aload_n C dX11_estimate_0 rfl ?_
    refine v_iload_n C dX11_estimate_1 rfl ?_
    refine v_iload_n C dX11_estimate_2 rfl ?_
    refine mc_X11_111 C dX11_estimate_3 (by assumption) (c_FS_sk _ E z (q := 1) hk (by decide) hfs) rfl (fun r3 G3 hp3 => ?_)
    obtain ⟨rfl, rfl⟩ := hp3
    refine v_astore_5 C dX11_estimate_6 (by decide) (by first | rfl | assumption) ?_
    refine v_aload C dX11_estimate_8 rfl ?_
    refine v_ifnull C dX11_estimate_10 ?_
    refine v_aload_n C dX11_estimate_13 rfl ?_
    refine gf_X11_23 C dX11_estimate_14 (by assumption) ?_
    refine v_iload_n C dX11_estimate_17 rfl ?_
    refine mc_X11_79 C dX11_estimate_18 (hF.rc) (c_Fam_isKey2 _ E z hF) rfl (fun r18 G18 hp18 => ?_)
    obtain ⟨hr18, rfl⟩ := hp18
    rw [hi3] at hr18
    subst hr18
    first | refine v_ifb_ne C 28 dX11_estimate_21 (by decide) (fun h21 => ?_) (fun h21 => by exfalso; first | omega | exact absurd h21 (by decide) | (have h9 := of_decide_eq_true h21; omega) | (have h9 := of_decide_eq_false h21; omega) | contradiction | simp_all) | refine v_ifn_ne C 28 dX11_estimate_21 (by decide) (by omega) (fun h21 => ?_) (fun h21 => by exfalso; first | omega | exact absurd h21 (by decide) | (have h9 := of_decide_eq_true h21; omega) | (have h9 := of_decide_eq_false h21; omega) | contradiction | simp_all) | refine v_if_ne C 28 dX11_estimate_21 (by decide) (fun h21 => ?_) (fun h21 => by exfalso; first | omega | exact absurd h21 (by decide) | (have h9 := of_decide_eq_true h21; omega) | (have h9 := of_decide_eq_false h21; omega) | contradiction | simp_all)
    refine v_iload C dX11_estimate_28 rfl ?_
    refine v_tsw3 C 56 65 74 83 dX11_estimate_30 (by decide) (by decide) (by decide) (by decide) (fun h30 => ?_) (fun h30 => ?_) (fun h30 => ?_) (fun h30 => ?_)
    · skip
      show V _ _ _ _ _ _ _ _ _ [_, _, _, _, _, some (.ref (ga E (sId k + 3)))] _
      refine v_aload C dX11_estimate_56 rfl ?_
      refine v_iload_n C dX11_estimate_58 rfl ?_
      refine mc_X11_115_X4 C dX11_estimate_59 (hg2.rc) (c_Grid_guess _ E z hx hbc hF hg2) rfl (fun r59 G59 hp59 => ?_)
      obtain ⟨rfl, rfl⟩ := hp59
      refine v_lret C dX11_estimate_64 ?_
      subst h30
      exact ⟨by unfold oEst; rw [if_pos hi1, if_pos hi2, if_pos hi3, if_pos rfl, hkx, hqx, hxx]; rfl, rfl⟩
    · skip
      show V _ _ _ _ _ _ _ _ _ [_, _, _, _, _, some (.ref (ga E (sId k + 3)))] _
      refine v_aload C dX11_estimate_65 rfl ?_
      refine v_iload_n C dX11_estimate_67 rfl ?_
      refine mc_X11_121_X4 C dX11_estimate_68 (hg2.rc) (c_Grid_low _ E z) rfl (fun r68 G68 hp68 => ?_)
      obtain ⟨rfl, rfl⟩ := hp68
      refine v_lret C dX11_estimate_73 ?_
      subst h30
      exact ⟨by unfold oEst; rw [if_pos hi1, if_pos hi2, if_pos hi3, if_neg (by decide), if_pos rfl, hkx, hqx, hxx]; rfl, rfl⟩
    · skip
      show V _ _ _ _ _ _ _ _ _ [_, _, _, _, _, some (.ref (ga E (sId k + 3)))] _
      refine v_aload C dX11_estimate_74 rfl ?_
      refine v_iload_n C dX11_estimate_76 rfl ?_
      refine mc_X11_124_X4 C dX11_estimate_77 (hg2.rc) (c_Grid_high _ E z hx hbc hF hg2) rfl (fun r77 G77 hp77 => ?_)
      obtain ⟨rfl, rfl⟩ := hp77
      refine v_lret C dX11_estimate_82 ?_
      subst h30
      exact ⟨by unfold oEst; rw [if_pos hi1, if_pos hi2, if_pos hi3, if_neg (by decide), if_neg (by decide), if_pos rfl, hkx, hqx, hxx]; rfl, rfl⟩
    · skip
      refine v_ldc2 C tw809 dX11_estimate_83 ?_
      refine v_lret C dX11_estimate_86 ?_
      exact ⟨by unfold oEst; rw [if_pos hi1, if_pos hi2, if_pos hi3, if_neg (h30 0 (by decide)), if_neg (h30 1 (by decide)), if_neg (h30 2 (by decide))], rfl⟩

set_option maxHeartbeats 4000000 in
set_option maxRecDepth 100000 in
theorem c_FS_est2 (l : Launch) (E : Ev) (z : Option Nat) {G : Gh} {P W R lim : Nat} {A B : Nat → Nat} {Z : Nat → Str} {rk : Rnk} {k : Nat} {x3 x4 : Int32} (hk : k < 4) (hbd : ∀ k, k < 4 → bdS R W lim (Z k)) (hfs : isFS E G P W R lim A B Z rk) : K_X11_estimate l E z G [.ref (ga E 0), .int (nI k), .int (nI 2), .int x3, .int x4] (fun r G2 => r = oEst P W R A B lim Z (nI k) (nI 2) x3 x4 ∧ G = G2) := by
  refine Fc.of rfl [some (.ref (ga E 0)), some (.int (nI k)), some (.int (nI 2)), some (.int x3), some (.int x4), none] 1 rfl (Nat.le_of_ble_eq_true rfl) ?_
  intro M hM0 hini C
  subst hM0
  obtain ⟨hf0, hF, hf4, hfst, hfr0, hlim⟩ := id hfs
  have hrg := hfs.rng
  have hstk := hfst k hk
  have hkx : ix (nI k) = k := ix_nI (by omega)
  have hi1 : iin (nI k) 4 = true := by rw [iin_nI (by omega)]; simp [hk]
  obtain ⟨hs0, hg1, hg2, hms, hsv, hct, hs22, hs23⟩ := id hstk
  have hbp := (hbd k hk).1
  have hbc := (hbd k hk).2.1
  have hi2 : iin (nI 2) 5 = true := by decide
  have hqx : ix (nI 2) = 2 := ix_nI (by decide)
  cases hi3 : iin x3 P with
  | false =>
    refine v_aload_n C dX11_estimate_0 rfl ?_
    refine v_iload_n C dX11_estimate_1 rfl ?_
    refine v_iload_n C dX11_estimate_2 rfl ?_
    refine mc_X11_111 C dX11_estimate_3 (by assumption) (c_FS_sk _ E z (q := 2) hk (by decide) hfs) rfl (fun r3 G3 hp3 => ?_)
    obtain ⟨rfl, rfl⟩ := hp3
    refine v_astore_5 C dX11_estimate_6 (by decide) (by first | rfl | assumption) ?_
    refine v_aload C dX11_estimate_8 rfl ?_
    refine v_ifnull C dX11_estimate_10 ?_
    refine v_aload_n C dX11_estimate_13 rfl ?_
    refine gf_X11_23 C dX11_estimate_14 (by assumption) ?_
    refine v_iload_n C dX11_estimate_17 rfl ?_
    refine mc_X11_79 C dX11_estimate_18 (hF.rc) (c_Fam_isKey2 _ E z hF) rfl (fun r18 G18 hp18 => ?_)
    obtain ⟨hr18, rfl⟩ := hp18
    rw [hi3] at hr18
    subst hr18
    first | refine v_ifb_ne C 28 dX11_estimate_21 (by decide) (fun h21 => by exfalso; first | omega | exact absurd h21 (by decide) | (have h9 := of_decide_eq_true h21; omega) | (have h9 := of_decide_eq_false h21; omega) | contradiction | simp_all) (fun h21 => ?_) | refine v_ifn_ne C 28 dX11_estimate_21 (by decide) (by omega) (fun h21 => by exfalso; first | omega | exact absurd h21 (by decide) | (have h9 := of_decide_eq_true h21; omega) | (have h9 := of_decide_eq_false h21; omega) | contradiction | simp_all) (fun h21 => ?_) | refine v_if_ne C 28 dX11_estimate_21 (by decide) (fun h21 => by exfalso; first | omega | exact absurd h21 (by decide) | (have h9 := of_decide_eq_true h21; omega) | (have h9 := of_decide_eq_false h21; omega) | contradiction | simp_all) (fun h21 => ?_)
    refine v_ldc2 C tw809 dX11_estimate_24 ?_
    refine v_lret C dX11_estimate_27 ?_
    exact ⟨by unfold oEst; rw [if_pos hi1]; rw [if_pos hi2]; rw [if_neg (by rw [hi3]; decide)], rfl⟩
  | true =>
    obtain ⟨x, hx, rfl⟩ := iin_of hi3 (by omega)
    have hxx : ix (nI x) = x := ix_nI (by omega)
    refine v_aload_n C dX11_estimate_0 rfl ?_
    refine v_iload_n C dX11_estimate_1 rfl ?_
    refine v_iload_n C dX11_estimate_2 rfl ?_
    refine mc_X11_111 C dX11_estimate_3 (by assumption) (c_FS_sk _ E z (q := 2) hk (by decide) hfs) rfl (fun r3 G3 hp3 => ?_)
    obtain ⟨rfl, rfl⟩ := hp3
    refine v_astore_5 C dX11_estimate_6 (by decide) (by first | rfl | assumption) ?_
    refine v_aload C dX11_estimate_8 rfl ?_
    refine v_ifnull C dX11_estimate_10 ?_
    refine v_aload_n C dX11_estimate_13 rfl ?_
    refine gf_X11_23 C dX11_estimate_14 (by assumption) ?_
    refine v_iload_n C dX11_estimate_17 rfl ?_
    refine mc_X11_79 C dX11_estimate_18 (hF.rc) (c_Fam_isKey2 _ E z hF) rfl (fun r18 G18 hp18 => ?_)
    obtain ⟨hr18, rfl⟩ := hp18
    rw [hi3] at hr18
    subst hr18
    first | refine v_ifb_ne C 28 dX11_estimate_21 (by decide) (fun h21 => ?_) (fun h21 => by exfalso; first | omega | exact absurd h21 (by decide) | (have h9 := of_decide_eq_true h21; omega) | (have h9 := of_decide_eq_false h21; omega) | contradiction | simp_all) | refine v_ifn_ne C 28 dX11_estimate_21 (by decide) (by omega) (fun h21 => ?_) (fun h21 => by exfalso; first | omega | exact absurd h21 (by decide) | (have h9 := of_decide_eq_true h21; omega) | (have h9 := of_decide_eq_false h21; omega) | contradiction | simp_all) | refine v_if_ne C 28 dX11_estimate_21 (by decide) (fun h21 => ?_) (fun h21 => by exfalso; first | omega | exact absurd h21 (by decide) | (have h9 := of_decide_eq_true h21; omega) | (have h9 := of_decide_eq_false h21; omega) | contradiction | simp_all)
    refine v_iload C dX11_estimate_28 rfl ?_
    refine v_tsw3 C 56 65 74 83 dX11_estimate_30 (by decide) (by decide) (by decide) (by decide) (fun h30 => ?_) (fun h30 => ?_) (fun h30 => ?_) (fun h30 => ?_)
    · skip
      show V _ _ _ _ _ _ _ _ _ [_, _, _, _, _, some (.ref (ga E (sId k + 5)))] _
      refine v_aload C dX11_estimate_56 rfl ?_
      refine v_iload_n C dX11_estimate_58 rfl ?_
      refine mc_X11_115_X6 C dX11_estimate_59 (hms.1) (c_Mis_guess _ E z hx hms) rfl (fun r59 G59 hp59 => ?_)
      obtain ⟨rfl, rfl⟩ := hp59
      refine v_lret C dX11_estimate_64 ?_
      subst h30
      exact ⟨by unfold oEst; rw [if_pos hi1, if_pos hi2, if_pos hi3, if_pos rfl, hkx, hqx, hxx]; rfl, rfl⟩
    · skip
      show V _ _ _ _ _ _ _ _ _ [_, _, _, _, _, some (.ref (ga E (sId k + 5)))] _
      refine v_aload C dX11_estimate_65 rfl ?_
      refine v_iload_n C dX11_estimate_67 rfl ?_
      refine mc_X11_121_X6 C dX11_estimate_68 (hms.1) (c_Mis_low _ E z hx hms) rfl (fun r68 G68 hp68 => ?_)
      obtain ⟨rfl, rfl⟩ := hp68
      refine v_lret C dX11_estimate_73 ?_
      subst h30
      exact ⟨by unfold oEst; rw [if_pos hi1, if_pos hi2, if_pos hi3, if_neg (by decide), if_pos rfl, hkx, hqx, hxx]; rfl, rfl⟩
    · skip
      show V _ _ _ _ _ _ _ _ _ [_, _, _, _, _, some (.ref (ga E (sId k + 5)))] _
      refine v_aload C dX11_estimate_74 rfl ?_
      refine v_iload_n C dX11_estimate_76 rfl ?_
      refine mc_X11_124_X6 C dX11_estimate_77 (hms.1) (c_Mis_high _ E z hx hms) rfl (fun r77 G77 hp77 => ?_)
      obtain ⟨rfl, rfl⟩ := hp77
      refine v_lret C dX11_estimate_82 ?_
      subst h30
      exact ⟨by unfold oEst; rw [if_pos hi1, if_pos hi2, if_pos hi3, if_neg (by decide), if_neg (by decide), if_pos rfl, hkx, hqx, hxx]; rfl, rfl⟩
    · skip
      refine v_ldc2 C tw809 dX11_estimate_83 ?_
      refine v_lret C dX11_estimate_86 ?_
      exact ⟨by unfold oEst; rw [if_pos hi1, if_pos hi2, if_pos hi3, if_neg (h30 0 (by decide)), if_neg (h30 1 (by decide)), if_neg (h30 2 (by decide))], rfl⟩

set_option maxHeartbeats 4000000 in
set_option maxRecDepth 100000 in
theorem c_FS_est3 (l : Launch) (E : Ev) (z : Option Nat) {G : Gh} {P W R lim : Nat} {A B : Nat → Nat} {Z : Nat → Str} {rk : Rnk} {k : Nat} {x3 x4 : Int32} (hk : k < 4) (hbd : ∀ k, k < 4 → bdS R W lim (Z k)) (hfs : isFS E G P W R lim A B Z rk) : K_X11_estimate l E z G [.ref (ga E 0), .int (nI k), .int (nI 3), .int x3, .int x4] (fun r G2 => r = oEst P W R A B lim Z (nI k) (nI 3) x3 x4 ∧ G = G2) := by
  refine Fc.of rfl [some (.ref (ga E 0)), some (.int (nI k)), some (.int (nI 3)), some (.int x3), some (.int x4), none] 1 rfl (Nat.le_of_ble_eq_true rfl) ?_
  intro M hM0 hini C
  subst hM0
  obtain ⟨hf0, hF, hf4, hfst, hfr0, hlim⟩ := id hfs
  have hrg := hfs.rng
  have hstk := hfst k hk
  have hkx : ix (nI k) = k := ix_nI (by omega)
  have hi1 : iin (nI k) 4 = true := by rw [iin_nI (by omega)]; simp [hk]
  obtain ⟨hs0, hg1, hg2, hms, hsv, hct, hs22, hs23⟩ := id hstk
  have hbp := (hbd k hk).1
  have hbc := (hbd k hk).2.1
  have hi2 : iin (nI 3) 5 = true := by decide
  have hqx : ix (nI 3) = 3 := ix_nI (by decide)
  cases hi3 : iin x3 P with
  | false =>
    refine v_aload_n C dX11_estimate_0 rfl ?_
    refine v_iload_n C dX11_estimate_1 rfl ?_
    refine v_iload_n C dX11_estimate_2 rfl ?_
    refine mc_X11_111 C dX11_estimate_3 (by assumption) (c_FS_sk _ E z (q := 3) hk (by decide) hfs) rfl (fun r3 G3 hp3 => ?_)
    obtain ⟨rfl, rfl⟩ := hp3
    refine v_astore_5 C dX11_estimate_6 (by decide) (by first | rfl | assumption) ?_
    refine v_aload C dX11_estimate_8 rfl ?_
    refine v_ifnull C dX11_estimate_10 ?_
    refine v_aload_n C dX11_estimate_13 rfl ?_
    refine gf_X11_23 C dX11_estimate_14 (by assumption) ?_
    refine v_iload_n C dX11_estimate_17 rfl ?_
    refine mc_X11_79 C dX11_estimate_18 (hF.rc) (c_Fam_isKey2 _ E z hF) rfl (fun r18 G18 hp18 => ?_)
    obtain ⟨hr18, rfl⟩ := hp18
    rw [hi3] at hr18
    subst hr18
    first | refine v_ifb_ne C 28 dX11_estimate_21 (by decide) (fun h21 => by exfalso; first | omega | exact absurd h21 (by decide) | (have h9 := of_decide_eq_true h21; omega) | (have h9 := of_decide_eq_false h21; omega) | contradiction | simp_all) (fun h21 => ?_) | refine v_ifn_ne C 28 dX11_estimate_21 (by decide) (by omega) (fun h21 => by exfalso; first | omega | exact absurd h21 (by decide) | (have h9 := of_decide_eq_true h21; omega) | (have h9 := of_decide_eq_false h21; omega) | contradiction | simp_all) (fun h21 => ?_) | refine v_if_ne C 28 dX11_estimate_21 (by decide) (fun h21 => by exfalso; first | omega | exact absurd h21 (by decide) | (have h9 := of_decide_eq_true h21; omega) | (have h9 := of_decide_eq_false h21; omega) | contradiction | simp_all) (fun h21 => ?_)
    refine v_ldc2 C tw809 dX11_estimate_24 ?_
    refine v_lret C dX11_estimate_27 ?_
    exact ⟨by unfold oEst; rw [if_pos hi1]; rw [if_pos hi2]; rw [if_neg (by rw [hi3]; decide)], rfl⟩
  | true =>
    obtain ⟨x, hx, rfl⟩ := iin_of hi3 (by omega)
    have hxx : ix (nI x) = x := ix_nI (by omega)
    refine v_aload_n C dX11_estimate_0 rfl ?_
    refine v_iload_n C dX11_estimate_1 rfl ?_
    refine v_iload_n C dX11_estimate_2 rfl ?_
    refine mc_X11_111 C dX11_estimate_3 (by assumption) (c_FS_sk _ E z (q := 3) hk (by decide) hfs) rfl (fun r3 G3 hp3 => ?_)
    obtain ⟨rfl, rfl⟩ := hp3
    refine v_astore_5 C dX11_estimate_6 (by decide) (by first | rfl | assumption) ?_
    refine v_aload C dX11_estimate_8 rfl ?_
    refine v_ifnull C dX11_estimate_10 ?_
    refine v_aload_n C dX11_estimate_13 rfl ?_
    refine gf_X11_23 C dX11_estimate_14 (by assumption) ?_
    refine v_iload_n C dX11_estimate_17 rfl ?_
    refine mc_X11_79 C dX11_estimate_18 (hF.rc) (c_Fam_isKey2 _ E z hF) rfl (fun r18 G18 hp18 => ?_)
    obtain ⟨hr18, rfl⟩ := hp18
    rw [hi3] at hr18
    subst hr18
    first | refine v_ifb_ne C 28 dX11_estimate_21 (by decide) (fun h21 => ?_) (fun h21 => by exfalso; first | omega | exact absurd h21 (by decide) | (have h9 := of_decide_eq_true h21; omega) | (have h9 := of_decide_eq_false h21; omega) | contradiction | simp_all) | refine v_ifn_ne C 28 dX11_estimate_21 (by decide) (by omega) (fun h21 => ?_) (fun h21 => by exfalso; first | omega | exact absurd h21 (by decide) | (have h9 := of_decide_eq_true h21; omega) | (have h9 := of_decide_eq_false h21; omega) | contradiction | simp_all) | refine v_if_ne C 28 dX11_estimate_21 (by decide) (fun h21 => ?_) (fun h21 => by exfalso; first | omega | exact absurd h21 (by decide) | (have h9 := of_decide_eq_true h21; omega) | (have h9 := of_decide_eq_false h21; omega) | contradiction | simp_all)
    refine v_iload C dX11_estimate_28 rfl ?_
    refine v_tsw3 C 56 65 74 83 dX11_estimate_30 (by decide) (by decide) (by decide) (by decide) (fun h30 => ?_) (fun h30 => ?_) (fun h30 => ?_) (fun h30 => ?_)
    · skip
      show V _ _ _ _ _ _ _ _ _ [_, _, _, _, _, some (.ref (ga E (sId k + 12)))] _
      refine v_aload C dX11_estimate_56 rfl ?_
      refine v_iload_n C dX11_estimate_58 rfl ?_
      refine mc_X11_115_X8 C dX11_estimate_59 (hsv.1) (c_Sav_guess _ E z hx hsv) rfl (fun r59 G59 hp59 => ?_)
      obtain ⟨rfl, rfl⟩ := hp59
      refine v_lret C dX11_estimate_64 ?_
      subst h30
      exact ⟨by unfold oEst; rw [if_pos hi1, if_pos hi2, if_pos hi3, if_pos rfl, hkx, hqx, hxx]; rfl, rfl⟩
    · skip
      show V _ _ _ _ _ _ _ _ _ [_, _, _, _, _, some (.ref (ga E (sId k + 12)))] _
      refine v_aload C dX11_estimate_65 rfl ?_
      refine v_iload_n C dX11_estimate_67 rfl ?_
      refine mc_X11_121_X8 C dX11_estimate_68 (hsv.1) (c_Sav_low _ E z hx hsv) rfl (fun r68 G68 hp68 => ?_)
      obtain ⟨rfl, rfl⟩ := hp68
      refine v_lret C dX11_estimate_73 ?_
      subst h30
      exact ⟨by unfold oEst; rw [if_pos hi1, if_pos hi2, if_pos hi3, if_neg (by decide), if_pos rfl, hkx, hqx, hxx]; rfl, rfl⟩
    · skip
      show V _ _ _ _ _ _ _ _ _ [_, _, _, _, _, some (.ref (ga E (sId k + 12)))] _
      refine v_aload C dX11_estimate_74 rfl ?_
      refine v_iload_n C dX11_estimate_76 rfl ?_
      refine mc_X11_124_X8 C dX11_estimate_77 (hsv.1) (c_Sav_high _ E z hx hsv) rfl (fun r77 G77 hp77 => ?_)
      obtain ⟨rfl, rfl⟩ := hp77
      refine v_lret C dX11_estimate_82 ?_
      subst h30
      exact ⟨by unfold oEst; rw [if_pos hi1, if_pos hi2, if_pos hi3, if_neg (by decide), if_neg (by decide), if_pos rfl, hkx, hqx, hxx]; rfl, rfl⟩
    · skip
      refine v_ldc2 C tw809 dX11_estimate_83 ?_
      refine v_lret C dX11_estimate_86 ?_
      exact ⟨by unfold oEst; rw [if_pos hi1, if_pos hi2, if_pos hi3, if_neg (h30 0 (by decide)), if_neg (h30 1 (by decide)), if_neg (h30 2 (by decide))], rfl⟩

set_option maxHeartbeats 4000000 in
set_option maxRecDepth 100000 in
theorem c_FS_est4 (l : Launch) (E : Ev) (z : Option Nat) {G : Gh} {P W R lim : Nat} {A B : Nat → Nat} {Z : Nat → Str} {rk : Rnk} {k : Nat} {x3 x4 : Int32} (hk : k < 4) (hbd : ∀ k, k < 4 → bdS R W lim (Z k)) (hfs : isFS E G P W R lim A B Z rk) : K_X11_estimate l E z G [.ref (ga E 0), .int (nI k), .int (nI 4), .int x3, .int x4] (fun r G2 => r = oEst P W R A B lim Z (nI k) (nI 4) x3 x4 ∧ G = G2) := by
  refine Fc.of rfl [some (.ref (ga E 0)), some (.int (nI k)), some (.int (nI 4)), some (.int x3), some (.int x4), none] 1 rfl (Nat.le_of_ble_eq_true rfl) ?_
  intro M hM0 hini C
  subst hM0
  obtain ⟨hf0, hF, hf4, hfst, hfr0, hlim⟩ := id hfs
  have hrg := hfs.rng
  have hstk := hfst k hk
  have hkx : ix (nI k) = k := ix_nI (by omega)
  have hi1 : iin (nI k) 4 = true := by rw [iin_nI (by omega)]; simp [hk]
  obtain ⟨hs0, hg1, hg2, hms, hsv, hct, hs22, hs23⟩ := id hstk
  have hbp := (hbd k hk).1
  have hbc := (hbd k hk).2.1
  have hi2 : iin (nI 4) 5 = true := by decide
  have hqx : ix (nI 4) = 4 := ix_nI (by decide)
  cases hi3 : iin x3 P with
  | false =>
    refine v_aload_n C dX11_estimate_0 rfl ?_
    refine v_iload_n C dX11_estimate_1 rfl ?_
    refine v_iload_n C dX11_estimate_2 rfl ?_
    refine mc_X11_111 C dX11_estimate_3 (by assumption) (c_FS_sk _ E z (q := 4) hk (by decide) hfs) rfl (fun r3 G3 hp3 => ?_)
    obtain ⟨rfl, rfl⟩ := hp3
    refine v_astore_5 C dX11_estimate_6 (by decide) (by first | rfl | assumption) ?_
    refine v_aload C dX11_estimate_8 rfl ?_
    refine v_ifnull C dX11_estimate_10 ?_
    refine v_aload_n C dX11_estimate_13 rfl ?_
    refine gf_X11_23 C dX11_estimate_14 (by assumption) ?_
    refine v_iload_n C dX11_estimate_17 rfl ?_
    refine mc_X11_79 C dX11_estimate_18 (hF.rc) (c_Fam_isKey2 _ E z hF) rfl (fun r18 G18 hp18 => ?_)
    obtain ⟨hr18, rfl⟩ := hp18
    rw [hi3] at hr18
    subst hr18
    first | refine v_ifb_ne C 28 dX11_estimate_21 (by decide) (fun h21 => by exfalso; first | omega | exact absurd h21 (by decide) | (have h9 := of_decide_eq_true h21; omega) | (have h9 := of_decide_eq_false h21; omega) | contradiction | simp_all) (fun h21 => ?_) | refine v_ifn_ne C 28 dX11_estimate_21 (by decide) (by omega) (fun h21 => by exfalso; first | omega | exact absurd h21 (by decide) | (have h9 := of_decide_eq_true h21; omega) | (have h9 := of_decide_eq_false h21; omega) | contradiction | simp_all) (fun h21 => ?_) | refine v_if_ne C 28 dX11_estimate_21 (by decide) (fun h21 => by exfalso; first | omega | exact absurd h21 (by decide) | (have h9 := of_decide_eq_true h21; omega) | (have h9 := of_decide_eq_false h21; omega) | contradiction | simp_all) (fun h21 => ?_)
    refine v_ldc2 C tw809 dX11_estimate_24 ?_
    refine v_lret C dX11_estimate_27 ?_
    exact ⟨by unfold oEst; rw [if_pos hi1]; rw [if_pos hi2]; rw [if_neg (by rw [hi3]; decide)], rfl⟩
  | true =>
    obtain ⟨x, hx, rfl⟩ := iin_of hi3 (by omega)
    have hxx : ix (nI x) = x := ix_nI (by omega)
    refine v_aload_n C dX11_estimate_0 rfl ?_
    refine v_iload_n C dX11_estimate_1 rfl ?_
    refine v_iload_n C dX11_estimate_2 rfl ?_
    refine mc_X11_111 C dX11_estimate_3 (by assumption) (c_FS_sk _ E z (q := 4) hk (by decide) hfs) rfl (fun r3 G3 hp3 => ?_)
    obtain ⟨rfl, rfl⟩ := hp3
    refine v_astore_5 C dX11_estimate_6 (by decide) (by first | rfl | assumption) ?_
    refine v_aload C dX11_estimate_8 rfl ?_
    refine v_ifnull C dX11_estimate_10 ?_
    refine v_aload_n C dX11_estimate_13 rfl ?_
    refine gf_X11_23 C dX11_estimate_14 (by assumption) ?_
    refine v_iload_n C dX11_estimate_17 rfl ?_
    refine mc_X11_79 C dX11_estimate_18 (hF.rc) (c_Fam_isKey2 _ E z hF) rfl (fun r18 G18 hp18 => ?_)
    obtain ⟨hr18, rfl⟩ := hp18
    rw [hi3] at hr18
    subst hr18
    first | refine v_ifb_ne C 28 dX11_estimate_21 (by decide) (fun h21 => ?_) (fun h21 => by exfalso; first | omega | exact absurd h21 (by decide) | (have h9 := of_decide_eq_true h21; omega) | (have h9 := of_decide_eq_false h21; omega) | contradiction | simp_all) | refine v_ifn_ne C 28 dX11_estimate_21 (by decide) (by omega) (fun h21 => ?_) (fun h21 => by exfalso; first | omega | exact absurd h21 (by decide) | (have h9 := of_decide_eq_true h21; omega) | (have h9 := of_decide_eq_false h21; omega) | contradiction | simp_all) | refine v_if_ne C 28 dX11_estimate_21 (by decide) (fun h21 => ?_) (fun h21 => by exfalso; first | omega | exact absurd h21 (by decide) | (have h9 := of_decide_eq_true h21; omega) | (have h9 := of_decide_eq_false h21; omega) | contradiction | simp_all)
    refine v_iload C dX11_estimate_28 rfl ?_
    refine v_tsw3 C 56 65 74 83 dX11_estimate_30 (by decide) (by decide) (by decide) (by decide) (fun h30 => ?_) (fun h30 => ?_) (fun h30 => ?_) (fun h30 => ?_)
    · skip
      show V _ _ _ _ _ _ _ _ _ [_, _, _, _, _, some (.ref (ga E (sId k + 23)))] _
      refine v_aload C dX11_estimate_56 rfl ?_
      refine v_iload_n C dX11_estimate_58 rfl ?_
      refine mc_X11_115_X0 C dX11_estimate_59 (hs23) (c_Best_guess _ E z hx hbp hbc hF hstk) rfl (fun r59 G59 hp59 => ?_)
      obtain ⟨rfl, rfl⟩ := hp59
      refine v_lret C dX11_estimate_64 ?_
      subst h30
      exact ⟨by unfold oEst; rw [if_pos hi1, if_pos hi2, if_pos hi3, if_pos rfl, hkx, hqx, hxx]; rfl, rfl⟩
    · skip
      show V _ _ _ _ _ _ _ _ _ [_, _, _, _, _, some (.ref (ga E (sId k + 23)))] _
      refine v_aload C dX11_estimate_65 rfl ?_
      refine v_iload_n C dX11_estimate_67 rfl ?_
      refine mc_X11_121_X0 C dX11_estimate_68 (hs23) (c_Best_low _ E z hx hF hstk) rfl (fun r68 G68 hp68 => ?_)
      obtain ⟨rfl, rfl⟩ := hp68
      refine v_lret C dX11_estimate_73 ?_
      subst h30
      exact ⟨by unfold oEst; rw [if_pos hi1, if_pos hi2, if_pos hi3, if_neg (by decide), if_pos rfl, hkx, hqx, hxx]; rfl, rfl⟩
    · skip
      show V _ _ _ _ _ _ _ _ _ [_, _, _, _, _, some (.ref (ga E (sId k + 23)))] _
      refine v_aload C dX11_estimate_74 rfl ?_
      refine v_iload_n C dX11_estimate_76 rfl ?_
      refine mc_X11_124_X0 C dX11_estimate_77 (hs23) (c_Best_high _ E z hx hbp hbc hF hstk) rfl (fun r77 G77 hp77 => ?_)
      obtain ⟨rfl, rfl⟩ := hp77
      refine v_lret C dX11_estimate_82 ?_
      subst h30
      exact ⟨by unfold oEst; rw [if_pos hi1, if_pos hi2, if_pos hi3, if_neg (by decide), if_neg (by decide), if_pos rfl, hkx, hqx, hxx]; rfl, rfl⟩
    · skip
      refine v_ldc2 C tw809 dX11_estimate_83 ?_
      refine v_lret C dX11_estimate_86 ?_
      exact ⟨by unfold oEst; rw [if_pos hi1, if_pos hi2, if_pos hi3, if_neg (h30 0 (by decide)), if_neg (h30 1 (by decide)), if_neg (h30 2 (by decide))], rfl⟩

set_option maxHeartbeats 4000000 in
set_option maxRecDepth 100000 in
theorem c_FS_estN (l : Launch) (E : Ev) (z : Option Nat) {G : Gh} {P W R lim : Nat} {A B : Nat → Nat} {Z : Nat → Str} {rk : Rnk} {x1 x2 x3 x4 : Int32} (hi1 : iin x1 4 = false) (hfs : isFS E G P W R lim A B Z rk) : K_X11_estimate l E z G [.ref (ga E 0), .int x1, .int x2, .int x3, .int x4] (fun r G2 => r = oEst P W R A B lim Z x1 x2 x3 x4 ∧ G = G2) := by
  refine Fc.of rfl [some (.ref (ga E 0)), some (.int x1), some (.int x2), some (.int x3), some (.int x4), none] 1 rfl (Nat.le_of_ble_eq_true rfl) ?_
  intro M hM0 hini C
  subst hM0
  obtain ⟨hf0, hF, hf4, hfst, hfr0, hlim⟩ := id hfs
  have hrg := hfs.rng
  refine v_aload_n C dX11_estimate_0 rfl ?_
  refine v_iload_n C dX11_estimate_1 rfl ?_
  refine v_iload_n C dX11_estimate_2 rfl ?_
  refine mc_X11_111 C dX11_estimate_3 (by assumption) (c_FS_skN _ E z hi1 hfs) rfl (fun r3 G3 hp3 => ?_)
  obtain ⟨rfl, rfl⟩ := hp3
  refine v_astoreN_5 C dX11_estimate_6 (by decide) (by first | rfl | assumption) ?_
  refine v_aloadN C dX11_estimate_8 rfl ?_
  refine v_ifnullN C 24 dX11_estimate_10 (by decide) ?_
  refine v_ldc2 C tw809 dX11_estimate_24 ?_
  refine v_lret C dX11_estimate_27 ?_
  exact ⟨by unfold oEst; rw [if_neg (by rw [hi1]; decide)], rfl⟩

set_option maxHeartbeats 4000000 in
set_option maxRecDepth 100000 in
theorem c_FS_estM (l : Launch) (E : Ev) (z : Option Nat) {G : Gh} {P W R lim : Nat} {A B : Nat → Nat} {Z : Nat → Str} {rk : Rnk} {k : Nat} {x2 x3 x4 : Int32} (hk : k < 4) (hi2 : iin x2 5 = false) (hfs : isFS E G P W R lim A B Z rk) : K_X11_estimate l E z G [.ref (ga E 0), .int (nI k), .int x2, .int x3, .int x4] (fun r G2 => r = oEst P W R A B lim Z (nI k) x2 x3 x4 ∧ G = G2) := by
  refine Fc.of rfl [some (.ref (ga E 0)), some (.int (nI k)), some (.int x2), some (.int x3), some (.int x4), none] 1 rfl (Nat.le_of_ble_eq_true rfl) ?_
  intro M hM0 hini C
  subst hM0
  obtain ⟨hf0, hF, hf4, hfst, hfr0, hlim⟩ := id hfs
  have hrg := hfs.rng
  have hi1 : iin (nI k) 4 = true := by rw [iin_nI (by omega)]; simp [hk]
  refine v_aload_n C dX11_estimate_0 rfl ?_
  refine v_iload_n C dX11_estimate_1 rfl ?_
  refine v_iload_n C dX11_estimate_2 rfl ?_
  refine mc_X11_111 C dX11_estimate_3 (by assumption) (c_FS_skM _ E z hk hi2 hfs) rfl (fun r3 G3 hp3 => ?_)
  obtain ⟨rfl, rfl⟩ := hp3
  refine v_astoreN_5 C dX11_estimate_6 (by decide) (by first | rfl | assumption) ?_
  refine v_aloadN C dX11_estimate_8 rfl ?_
  refine v_ifnullN C 24 dX11_estimate_10 (by decide) ?_
  refine v_ldc2 C tw809 dX11_estimate_24 ?_
  refine v_lret C dX11_estimate_27 ?_
  exact ⟨by unfold oEst; rw [if_pos hi1]; rw [if_neg (by rw [hi2]; decide)], rfl⟩

theorem c_FS_estimate (l : Launch) (E : Ev) (z : Option Nat) {G : Gh} {P W R lim : Nat} {A B : Nat → Nat} {Z : Nat → Str} {rk : Rnk} {x1 x2 x3 x4 : Int32} (hbd : ∀ k, k < 4 → bdS R W lim (Z k)) (hfs : isFS E G P W R lim A B Z rk) : K_X11_estimate l E z G [.ref (ga E 0), .int x1, .int x2, .int x3, .int x4] (fun r G2 => r = oEst P W R A B lim Z x1 x2 x3 x4 ∧ G = G2) := by
  cases hi1 : iin x1 4 with
  | false => exact c_FS_estN l E z hi1 hfs
  | true =>
    obtain ⟨k, hk, rfl⟩ := iin_of hi1 (by decide)
    cases hi2 : iin x2 5 with
    | false => exact c_FS_estM l E z hk hi2 hfs
    | true =>
      obtain ⟨q, hq, rfl⟩ := iin_of hi2 (by decide)
      rcases (show q = 0 ∨ q = 1 ∨ q = 2 ∨ q = 3 ∨ q = 4 by omega) with rfl | rfl | rfl | rfl | rfl
      · exact c_FS_est0 l E z hk hbd hfs
      · exact c_FS_est1 l E z hk hbd hfs
      · exact c_FS_est2 l E z hk hbd hfs
      · exact c_FS_est3 l E z hk hbd hfs
      · exact c_FS_est4 l E z hk hbd hfs
def meetL (P W : Nat) : Int64 := lN (P % W * (P / W + 1) * (P / W)) + lN ((W - P % W) * (P / W)) * (lN (P / W) - lN 1)
set_option maxHeartbeats 4000000 in
set_option maxRecDepth 100000 in
theorem c_Fam_meet (l : Launch) (E : Ev) (z : Option Nat) {G : Gh} {b P W R : Nat} {A B : Nat → Nat} (hF : isFam E G b P W R A B) : K_X3_pairsThatMeet l E z G [.ref (ga E b)] (fun r G2 => r = meetL P W ∧ G = G2) := by
  refine Fc.of rfl [some (.ref (ga E b)), none, none, none, none] 4 rfl (Nat.le_of_ble_eq_true rfl) ?_
  intro M hM0 hini C
  subst hM0
  obtain ⟨fa, fb, hb0, hb1, hb2, hfa, hfb, hr, hab⟩ := hF
  have hpm := Nat.mod_lt P (show 0 < W by omega)
  have hpd := Nat.div_le_self P W
  refine v_aload_n C dX3_pairsThatMeet_0 rfl ?_
  refine gf_X3_7 C dX3_pairsThatMeet_1 (by assumption) ?_
  refine v_aload_n C dX3_pairsThatMeet_4 rfl ?_
  refine gf_X3_13 C dX3_pairsThatMeet_5 (by assumption) ?_
  refine v_idivn C dX3_pairsThatMeet_8 (by omega) (by omega) (by omega) ?_
  first | refine v_i2ln C dX3_pairsThatMeet_9 (by omega) ?_ | refine v_i2l C dX3_pairsThatMeet_9 rfl ?_
  refine v_lstore_1 C dX3_pairsThatMeet_10 (by decide) (by first | rfl | assumption) ?_
  refine v_aload_n C dX3_pairsThatMeet_11 rfl ?_
  refine gf_X3_7 C dX3_pairsThatMeet_12 (by assumption) ?_
  refine v_aload_n C dX3_pairsThatMeet_15 rfl ?_
  refine gf_X3_13 C dX3_pairsThatMeet_16 (by assumption) ?_
  refine v_iremn C dX3_pairsThatMeet_19 (by omega) (by omega) (by omega) ?_
  first | refine v_i2ln C dX3_pairsThatMeet_20 (by omega) ?_ | refine v_i2l C dX3_pairsThatMeet_20 rfl ?_
  refine v_lstore_3 C dX3_pairsThatMeet_21 (by decide) (by first | rfl | assumption) ?_
  refine v_lload_n C dX3_pairsThatMeet_22 rfl ?_
  refine v_lload_n C dX3_pairsThatMeet_23 rfl ?_
  refine v_lconst (v := lN 1) C dX3_pairsThatMeet_24 (by decide) ?_
  first | refine v_laddn C dX3_pairsThatMeet_25 ?_ | refine v_ladd C dX3_pairsThatMeet_25 ?_
  first | refine v_lmuln C dX3_pairsThatMeet_26 ?_ | refine v_lmul C dX3_pairsThatMeet_26 ?_
  refine v_lload_n C dX3_pairsThatMeet_27 rfl ?_
  first | refine v_lmuln C dX3_pairsThatMeet_28 ?_ | refine v_lmul C dX3_pairsThatMeet_28 ?_
  refine v_aload_n C dX3_pairsThatMeet_29 rfl ?_
  refine gf_X3_13 C dX3_pairsThatMeet_30 (by assumption) ?_
  first | refine v_i2ln C dX3_pairsThatMeet_33 (by omega) ?_ | refine v_i2l C dX3_pairsThatMeet_33 rfl ?_
  refine v_lload_n C dX3_pairsThatMeet_34 rfl ?_
  first | refine v_lsubn C dX3_pairsThatMeet_35 (by omega) ?_ | refine v_lsub C dX3_pairsThatMeet_35 ?_
  refine v_lload_n C dX3_pairsThatMeet_36 rfl ?_
  first | refine v_lmuln C dX3_pairsThatMeet_37 ?_ | refine v_lmul C dX3_pairsThatMeet_37 ?_
  refine v_lload_n C dX3_pairsThatMeet_38 rfl ?_
  refine v_lconst (v := lN 1) C dX3_pairsThatMeet_39 (by decide) ?_
  refine v_lsub C dX3_pairsThatMeet_40 ?_
  refine v_lmul C dX3_pairsThatMeet_41 ?_
  refine v_ladd C dX3_pairsThatMeet_42 ?_
  refine v_lret C dX3_pairsThatMeet_43 ?_
  exact ⟨by unfold meetL; rfl, rfl⟩

def oOver (P W : Nat) (Z : Nat → Str) (x1 x2 : Int32) : Int64 := if iin x1 4 = true then (if iin x2 P = true then (if zG (Z (ix x1)) = true then -1 else if 131 < P then -1 else if lN 100000000000000 < lN (zN (Z (ix x1))) then -1 else (lN (zN (Z (ix x1))) - lN (cNum (zK (Z (ix x1))) (ix x2))) * meetL P W) else -1) else -1
set_option maxHeartbeats 4000000 in
set_option maxRecDepth 100000 in
theorem c_FS_over (l : Launch) (E : Ev) (z : Option Nat) {G : Gh} {P W R lim : Nat} {A B : Nat → Nat} {Z : Nat → Str} {rk : Rnk} {x1 x2 : Int32} (hfs : isFS E G P W R lim A B Z rk) : K_X11_overcounts l E z G [.ref (ga E 0), .int x1, .int x2] (fun r G2 => r = oOver P W Z x1 x2 ∧ G = G2) := by
  refine Fc.of rfl [some (.ref (ga E 0)), some (.int x1), some (.int x2), none] 1 rfl (Nat.le_of_ble_eq_true rfl) ?_
  intro M hM0 hini C
  subst hM0
  obtain ⟨hf0, hF, hf4, hfst, hfr0, hlim⟩ := id hfs
  have hrg := hfs.rng
  cases hi1 : iin x1 4 with
  | false =>
    refine v_aload_n C dX11_overcounts_0 rfl ?_
    refine v_iload_n C dX11_overcounts_1 rfl ?_
    refine mc_X11_85 C dX11_overcounts_2 (by assumption) (c_FS_atN _ E z hi1 hfs) rfl (fun r2 G2 hp2 => ?_)
    obtain ⟨rfl, rfl⟩ := hp2
    refine v_astoreN_3 C dX11_overcounts_5 (by decide) (by first | rfl | assumption) ?_
    refine v_aload_nN C dX11_overcounts_6 rfl ?_
    refine v_ifnullN C 31 dX11_overcounts_7 (by decide) ?_
    refine v_ldc2 C tw809 dX11_overcounts_31 ?_
    refine v_lret C dX11_overcounts_34 ?_
    exact ⟨by unfold oOver; rw [if_neg (by rw [hi1]; decide)], rfl⟩
  | true =>
    obtain ⟨k, hk, rfl⟩ := iin_of hi1 (by decide)
    have hstk := hfst k hk
    have hkx : ix (nI k) = k := ix_nI (by omega)
    obtain ⟨hs0, hg1, hg2, hms, hsv, hct, hs22, hs23⟩ := id hstk
    cases hi2 : iin x2 P with
    | false =>
      refine v_aload_n C dX11_overcounts_0 rfl ?_
      refine v_iload_n C dX11_overcounts_1 rfl ?_
      refine mc_X11_85 C dX11_overcounts_2 (by assumption) (c_FS_at _ E z hk hfs) rfl (fun r2 G2 hp2 => ?_)
      obtain ⟨rfl, rfl⟩ := hp2
      refine v_astore_3 C dX11_overcounts_5 (by decide) (by first | rfl | assumption) ?_
      refine v_aload_n C dX11_overcounts_6 rfl ?_
      refine v_ifnull C dX11_overcounts_7 ?_
      refine v_aload_n C dX11_overcounts_10 rfl ?_
      refine gf_X11_23 C dX11_overcounts_11 (by assumption) ?_
      refine v_iload_n C dX11_overcounts_14 rfl ?_
      refine mc_X11_79 C dX11_overcounts_15 (hF.rc) (c_Fam_isKey2 _ E z hF) rfl (fun r15 G15 hp15 => ?_)
      obtain ⟨hr15, rfl⟩ := hp15
      rw [hi2] at hr15
      subst hr15
      first | refine v_ifb_eq C 31 dX11_overcounts_18 (by decide) (fun h18 => ?_) (fun h18 => by exfalso; first | omega | exact absurd h18 (by decide) | (have h9 := of_decide_eq_true h18; omega) | (have h9 := of_decide_eq_false h18; omega) | contradiction | simp_all) | refine v_ifn_eq C 31 dX11_overcounts_18 (by decide) (by omega) (fun h18 => ?_) (fun h18 => by exfalso; first | omega | exact absurd h18 (by decide) | (have h9 := of_decide_eq_true h18; omega) | (have h9 := of_decide_eq_false h18; omega) | contradiction | simp_all) | refine v_if_eq C 31 dX11_overcounts_18 (by decide) (fun h18 => ?_) (fun h18 => by exfalso; first | omega | exact absurd h18 (by decide) | (have h9 := of_decide_eq_true h18; omega) | (have h9 := of_decide_eq_false h18; omega) | contradiction | simp_all)
      refine v_ldc2 C tw809 dX11_overcounts_31 ?_
      refine v_lret C dX11_overcounts_34 ?_
      exact ⟨by unfold oOver; rw [if_pos hi1]; rw [if_neg (by rw [hi2]; decide)], rfl⟩
    | true =>
      obtain ⟨x, hx, rfl⟩ := iin_of hi2 (by omega)
      have hxx : ix (nI x) = x := ix_nI (by omega)
      refine v_aload_n C dX11_overcounts_0 rfl ?_
      refine v_iload_n C dX11_overcounts_1 rfl ?_
      refine mc_X11_85 C dX11_overcounts_2 (by assumption) (c_FS_at _ E z hk hfs) rfl (fun r2 G2 hp2 => ?_)
      obtain ⟨rfl, rfl⟩ := hp2
      refine v_astore_3 C dX11_overcounts_5 (by decide) (by first | rfl | assumption) ?_
      refine v_aload_n C dX11_overcounts_6 rfl ?_
      refine v_ifnull C dX11_overcounts_7 ?_
      have hkc := hct.rc
      have hfc := hF.rc
      refine v_aload_n C dX11_overcounts_10 rfl ?_
      refine gf_X11_23 C dX11_overcounts_11 (by assumption) ?_
      refine v_iload_n C dX11_overcounts_14 rfl ?_
      refine mc_X11_79 C dX11_overcounts_15 (hF.rc) (c_Fam_isKey2 _ E z hF) rfl (fun r15 G15 hp15 => ?_)
      obtain ⟨hr15, rfl⟩ := hp15
      rw [hi2] at hr15
      subst hr15
      first | refine v_ifb_eq C 31 dX11_overcounts_18 (by decide) (fun h18 => by exfalso; first | omega | exact absurd h18 (by decide) | (have h9 := of_decide_eq_true h18; omega) | (have h9 := of_decide_eq_false h18; omega) | contradiction | simp_all) (fun h18 => ?_) | refine v_ifn_eq C 31 dX11_overcounts_18 (by decide) (by omega) (fun h18 => by exfalso; first | omega | exact absurd h18 (by decide) | (have h9 := of_decide_eq_true h18; omega) | (have h9 := of_decide_eq_false h18; omega) | contradiction | simp_all) (fun h18 => ?_) | refine v_if_eq C 31 dX11_overcounts_18 (by decide) (fun h18 => by exfalso; first | omega | exact absurd h18 (by decide) | (have h9 := of_decide_eq_true h18; omega) | (have h9 := of_decide_eq_false h18; omega) | contradiction | simp_all) (fun h18 => ?_)
      refine v_aload_n C dX11_overcounts_21 rfl ?_
      refine gf_X11_127 C dX11_overcounts_22 (by assumption) ?_
      refine gf_X11_131 C dX11_overcounts_25 (by assumption) ?_
      first | refine v_ifb_eq C 35 dX11_overcounts_28 (by decide) (fun h28 => ?_) (fun h28 => ?_) | refine v_ifn_eq C 35 dX11_overcounts_28 (by decide) (by omega) (fun h28 => ?_) (fun h28 => ?_) | refine v_if_eq C 35 dX11_overcounts_28 (by decide) (fun h28 => ?_) (fun h28 => ?_)
      · skip
        refine v_aload_n C dX11_overcounts_35 rfl ?_
        refine gf_X11_23 C dX11_overcounts_36 (by assumption) ?_
        refine gf_X11_42 C dX11_overcounts_39 (by assumption) ?_
        refine v_sipush (v := nI 131) C dX11_overcounts_42 (by decide) ?_
        refine v_icmpn_gt C 59 dX11_overcounts_45 (by decide) (by omega) (by omega) (fun h45 => ?_) (fun h45 => ?_)
        · skip
          refine v_ldc2 C tw809 dX11_overcounts_59 ?_
          refine v_lret C dX11_overcounts_62 ?_
          first
            | exact ⟨by unfold oOver; rw [if_pos hi1]; rw [if_pos hi2]; rw [hkx]; rw [if_neg (by rw [h28]; decide)]; rw [if_pos h45], rfl⟩
            | exact ⟨by unfold oOver; rw [if_pos hi1]; rw [if_pos hi2]; rw [hkx]; rw [if_neg (by rw [h28]; decide)]; rw [if_neg (by omega)]; rw [if_pos (Int64.not_le.mp h55)], rfl⟩
        · skip
          refine v_aload_n C dX11_overcounts_48 rfl ?_
          refine gf_X11_91 C dX11_overcounts_49 (by assumption) ?_
          refine v_ldc2 C tw817 dX11_overcounts_52 ?_
          refine v_topl (show (100000000000000 : Int64) = lN 100000000000000 by decide) ?_
          refine v_lcmp_le C 63 dX11_overcounts_55 dX11_overcounts_56 (by decide) (fun h55 => ?_) (fun h55 => ?_)
          · skip
            refine v_aload_n C dX11_overcounts_63 rfl ?_
            refine gf_X11_91 C dX11_overcounts_64 (by assumption) ?_
            refine v_aload_n C dX11_overcounts_67 rfl ?_
            refine gf_X11_127 C dX11_overcounts_68 (by assumption) ?_
            refine v_iload_n C dX11_overcounts_71 rfl ?_
            refine mc_X11_137 C dX11_overcounts_72 (hct.rc) (c_Cnt_numberOf _ E z (by omega) hct) rfl (fun r72 G72 hp72 => ?_)
            obtain ⟨rfl, rfl⟩ := hp72
            refine v_lsub C dX11_overcounts_75 ?_
            refine v_aload_n C dX11_overcounts_76 rfl ?_
            refine gf_X11_23 C dX11_overcounts_77 (by assumption) ?_
            refine mc_X11_197 C dX11_overcounts_80 (hF.rc) (c_Fam_meet _ E z hF) rfl (fun r80 G80 hp80 => ?_)
            obtain ⟨rfl, rfl⟩ := hp80
            refine v_lmul C dX11_overcounts_83 ?_
            refine v_lret C dX11_overcounts_84 ?_
            exact ⟨by unfold oOver; rw [if_pos hi1]; rw [if_pos hi2]; rw [hkx]; rw [if_neg (by rw [h28]; decide)]; rw [if_neg (by omega)]; rw [if_neg (Int64.not_lt.mpr h55)]; rw [hxx], rfl⟩
          · skip
            refine v_ldc2 C tw809 dX11_overcounts_59 ?_
            refine v_lret C dX11_overcounts_62 ?_
            first
              | exact ⟨by unfold oOver; rw [if_pos hi1]; rw [if_pos hi2]; rw [hkx]; rw [if_neg (by rw [h28]; decide)]; rw [if_pos h45], rfl⟩
              | exact ⟨by unfold oOver; rw [if_pos hi1]; rw [if_pos hi2]; rw [hkx]; rw [if_neg (by rw [h28]; decide)]; rw [if_neg (by omega)]; rw [if_pos (Int64.not_le.mp h55)], rfl⟩
      · skip
        refine v_ldc2 C tw809 dX11_overcounts_31 ?_
        refine v_lret C dX11_overcounts_34 ?_
        exact ⟨by unfold oOver; rw [if_pos hi1]; rw [if_pos hi2]; rw [hkx]; rw [if_pos h28], rfl⟩

