theorem isFS.upd {E : Ev} {G G2 : Gh} {P W R lim : Nat} {A B : Nat → Nat} {Z : Nat → Str} {rk : Rnk} {k : Nat} {S : Str} (h : isFS E G P W R lim A B Z rk) (hk : k < 4) (hs : isStr E G2 (sId k) 1 P W R lim (min P 300) S) (hf : ∀ j, (j < sId k ∨ sId k + 24 ≤ j) → G2 j = G j) : isFS E G2 P W R lim A B (fu Z k S) rk := by
  obtain ⟨h0, h1, h2, h3, h4, h5⟩ := h
  have e9 : sId k = 5 + 24 * k := rfl
  refine ⟨(hf _ (by omega)).trans h0, h1.keep (fun j a b => hf j (by omega)), (hf _ (by omega)).trans h2, fun q hq => ?_, h4.keep (fun j a b => hf j (by omega)), h5⟩
  by_cases hqk : q = k
  · subst hqk; rw [fu_self]; exact hs
  · rw [fu_ne _ _ hqk]
    refine (h3 q hq).keep (fun j a b => hf j ?_)
    unfold sId at a b e9 ⊢
    omega
def itm (x : Int32) (n : Nat) : Bool := decide (1 ≤ x.toInt ∧ x.toInt ≤ (n : Int))
theorem itm_of {x : Int32} {n : Nat} (h : itm x n = true) (hn : n < 2 ^ 31) : ∃ t, 1 ≤ t ∧ t ≤ n ∧ x = nI t := by
  unfold itm at h
  have h := of_decide_eq_true h
  refine ⟨x.toInt.toNat, by omega, by omega, Int32.toInt_inj.mp ?_⟩
  rw [nI_toInt (by omega)]
  omega
theorem itm_lo {x : Int32} {n : Nat} (h : x < nI 1) : itm x n = false := by
  have q1 := i32_lt (by decide) h
  unfold itm; simp; omega
theorem itm_hi {x : Int32} {n : Nat} (hn : n < 2 ^ 31) (h : ¬ x ≤ nI n) : itm x n = false := by
  have q1 := i32_nle hn h
  unfold itm; simp; omega
theorem itm_ok {x : Int32} {n : Nat} (hn : n < 2 ^ 31) (h1 : ¬ x < nI 1) (h : x ≤ nI n) : itm x n = true := by
  have q1 := i32_nlt (by decide) h1
  have q2 := i32_le hn h
  unfold itm; simp; omega
def N15 : Nat := 1000000000000000
def oAdd (P W R : Nat) (A B : Nat → Nat) (lim : Nat) (Z : Nat → Str) (x1 x2 x3 : Int32) : Int64 × (Nat → Str) := if iin x1 4 = true then (if iin x2 P = true then (if itm x3 1000 = true then (if zN (Z (ix x1)) + ix x3 ≤ N15 then (lN (zN (Z (ix x1)) + ix x3), fu Z (ix x1) (strTake P W R A B lim (min P 300) (Z (ix x1)) (ix x2) (ix x3))) else (-1, Z)) else (-1, Z)) else (-1, Z)) else (-1, Z)

set_option maxHeartbeats 4000000 in
set_option maxRecDepth 100000 in
theorem c_FS_add (l : Launch) (E : Ev) {G : Gh} {P W R lim : Nat} {A B : Nat → Nat} {Z : Nat → Str} {rk : Rnk} {x1 x2 x3 : Int32} (hbd : ∀ k, k < 4 → bdS R W lim (Z k)) (hn15 : ∀ k, k < 4 → zN (Z k) ≤ N15) (hfs : isFS E G P W R lim A B Z rk) : K_X11_add l E none G [.ref (ga E 0), .int x1, .int x2, .int x3] (fun r G2 => r = (oAdd P W R A B lim Z x1 x2 x3).1 ∧ isFS E G2 P W R lim A B (oAdd P W R A B lim Z x1 x2 x3).2 rk ∧ ∀ j, 104 ≤ j → G2 j = G j) := by
  refine Fc.of rfl [some (.ref (ga E 0)), some (.int x1), some (.int x2), some (.int x3), none] 1 rfl (Nat.le_of_ble_eq_true rfl) ?_
  intro M hM0 hini C
  subst hM0
  obtain ⟨hf0, hF, hf4, hfst, hfr0, hlim⟩ := id hfs
  have hrg := hfs.rng
  cases hi1 : iin x1 4 with
  | false =>
    refine v_aload_n C dX11_add_0 rfl ?_
    refine v_iload_n C dX11_add_1 rfl ?_
    refine mc_X11_85 C dX11_add_2 (by assumption) (c_FS_atN _ E none hi1 hfs) rfl (fun r2 G2 hp2 => ?_)
    obtain ⟨rfl, rfl⟩ := hp2
    refine v_astoreN_4 C dX11_add_5 (by decide) (by first | rfl | assumption) ?_
    refine v_aloadN C dX11_add_7 rfl ?_
    refine v_ifnullN C 35 dX11_add_9 (by decide) ?_
    refine v_ldc2 C tw809 dX11_add_35 ?_
    refine v_lret C dX11_add_38 ?_
    refine ⟨?_, ?_, fun _ _ => rfl⟩
    · unfold oAdd; rw [if_neg (by rw [hi1]; decide)]
    · unfold oAdd; rw [if_neg (by rw [hi1]; decide)]; exact hfs
  | true =>
    obtain ⟨k, hk, rfl⟩ := iin_of hi1 (by decide)
    have hstk := hfst k hk
    have hkx : ix (nI k) = k := ix_nI (by omega)
    obtain ⟨hs0, hg1, hg2, hms, hsv, hct, hs22, hs23⟩ := id hstk
    cases hi2 : iin x2 P with
    | false =>
      refine v_aload_n C dX11_add_0 rfl ?_
      refine v_iload_n C dX11_add_1 rfl ?_
      refine mc_X11_85 C dX11_add_2 (by assumption) (c_FS_at _ E none hk hfs) rfl (fun r2 G2 hp2 => ?_)
      obtain ⟨rfl, rfl⟩ := hp2
      refine v_astore_4 C dX11_add_5 (by decide) (by first | rfl | assumption) ?_
      refine v_aload C dX11_add_7 rfl ?_
      refine v_ifnull C dX11_add_9 ?_
      refine v_aload_n C dX11_add_12 rfl ?_
      refine gf_X11_23 C dX11_add_13 (by assumption) ?_
      refine v_iload_n C dX11_add_16 rfl ?_
      refine mc_X11_79 C dX11_add_17 (hF.rc) (c_Fam_isKey2 _ E none hF) rfl (fun r17 G17 hp17 => ?_)
      obtain ⟨hr17, rfl⟩ := hp17
      rw [hi2] at hr17
      subst hr17
      first | refine v_ifb_eq C 35 dX11_add_20 (by decide) (fun h20 => ?_) (fun h20 => by exfalso; first | omega | exact absurd h20 (by decide) | (have h9 := of_decide_eq_true h20; omega) | (have h9 := of_decide_eq_false h20; omega) | contradiction | simp_all) | refine v_ifn_eq C 35 dX11_add_20 (by decide) (by omega) (fun h20 => ?_) (fun h20 => by exfalso; first | omega | exact absurd h20 (by decide) | (have h9 := of_decide_eq_true h20; omega) | (have h9 := of_decide_eq_false h20; omega) | contradiction | simp_all) | refine v_if_eq C 35 dX11_add_20 (by decide) (fun h20 => ?_) (fun h20 => by exfalso; first | omega | exact absurd h20 (by decide) | (have h9 := of_decide_eq_true h20; omega) | (have h9 := of_decide_eq_false h20; omega) | contradiction | simp_all)
      refine v_ldc2 C tw809 dX11_add_35 ?_
      refine v_lret C dX11_add_38 ?_
      refine ⟨?_, ?_, fun _ _ => rfl⟩
      · unfold oAdd; rw [if_pos hi1]; rw [if_neg (by rw [hi2]; decide)]
      · unfold oAdd; rw [if_pos hi1]; rw [if_neg (by rw [hi2]; decide)]; exact hfs
    | true =>
      obtain ⟨x, hx, rfl⟩ := iin_of hi2 (by omega)
      have hxx : ix (nI x) = x := ix_nI (by omega)
      cases hi3 : itm x3 1000 with
      | false =>
        refine v_aload_n C dX11_add_0 rfl ?_
        refine v_iload_n C dX11_add_1 rfl ?_
        refine mc_X11_85 C dX11_add_2 (by assumption) (c_FS_at _ E none hk hfs) rfl (fun r2 G2 hp2 => ?_)
        obtain ⟨rfl, rfl⟩ := hp2
        refine v_astore_4 C dX11_add_5 (by decide) (by first | rfl | assumption) ?_
        refine v_aload C dX11_add_7 rfl ?_
        refine v_ifnull C dX11_add_9 ?_
        refine v_aload_n C dX11_add_12 rfl ?_
        refine gf_X11_23 C dX11_add_13 (by assumption) ?_
        refine v_iload_n C dX11_add_16 rfl ?_
        refine mc_X11_79 C dX11_add_17 (hF.rc) (c_Fam_isKey2 _ E none hF) rfl (fun r17 G17 hp17 => ?_)
        obtain ⟨hr17, rfl⟩ := hp17
        rw [hi2] at hr17
        subst hr17
        first | refine v_ifb_eq C 35 dX11_add_20 (by decide) (fun h20 => by exfalso; first | omega | exact absurd h20 (by decide) | (have h9 := of_decide_eq_true h20; omega) | (have h9 := of_decide_eq_false h20; omega) | contradiction | simp_all) (fun h20 => ?_) | refine v_ifn_eq C 35 dX11_add_20 (by decide) (by omega) (fun h20 => by exfalso; first | omega | exact absurd h20 (by decide) | (have h9 := of_decide_eq_true h20; omega) | (have h9 := of_decide_eq_false h20; omega) | contradiction | simp_all) (fun h20 => ?_) | refine v_if_eq C 35 dX11_add_20 (by decide) (fun h20 => by exfalso; first | omega | exact absurd h20 (by decide) | (have h9 := of_decide_eq_true h20; omega) | (have h9 := of_decide_eq_false h20; omega) | contradiction | simp_all) (fun h20 => ?_)
        refine v_iload_n C dX11_add_23 rfl ?_
        refine v_iconst (v := nI 1) C dX11_add_24 (by decide) ?_
        refine v_icmp_lt C 35 dX11_add_25 (by decide) (fun h25 => ?_) (fun h25 => ?_)
        · skip
          refine v_ldc2 C tw809 dX11_add_35 ?_
          refine v_lret C dX11_add_38 ?_
          refine ⟨?_, ?_, fun _ _ => rfl⟩
          · unfold oAdd; rw [if_pos hi1]; rw [if_pos hi2]; rw [if_neg (by rw [hi3]; decide)]
          · unfold oAdd; rw [if_pos hi1]; rw [if_pos hi2]; rw [if_neg (by rw [hi3]; decide)]; exact hfs
        · skip
          refine v_iload_n C dX11_add_28 rfl ?_
          refine v_sipush (v := nI 1000) C dX11_add_29 (by decide) ?_
          refine v_icmp_le C 39 dX11_add_32 (by decide) (fun h32 => ?_) (fun h32 => ?_)
          · skip
            exact absurd (itm_ok (by decide) h25 h32) (by rw [hi3]; decide)
          · skip
            refine v_ldc2 C tw809 dX11_add_35 ?_
            refine v_lret C dX11_add_38 ?_
            refine ⟨?_, ?_, fun _ _ => rfl⟩
            · unfold oAdd; rw [if_pos hi1]; rw [if_pos hi2]; rw [if_neg (by rw [hi3]; decide)]
            · unfold oAdd; rw [if_pos hi1]; rw [if_pos hi2]; rw [if_neg (by rw [hi3]; decide)]; exact hfs
      | true =>
        obtain ⟨t, ht1, ht2, rfl⟩ := itm_of hi3 (by decide)
        have htx : ix (nI t) = t := ix_nI (by omega)
        refine v_aload_n C dX11_add_0 rfl ?_
        refine v_iload_n C dX11_add_1 rfl ?_
        refine mc_X11_85 C dX11_add_2 (by assumption) (c_FS_at _ E none hk hfs) rfl (fun r2 G2 hp2 => ?_)
        obtain ⟨rfl, rfl⟩ := hp2
        refine v_astore_4 C dX11_add_5 (by decide) (by first | rfl | assumption) ?_
        refine v_aload C dX11_add_7 rfl ?_
        refine v_ifnull C dX11_add_9 ?_
        refine v_aload_n C dX11_add_12 rfl ?_
        refine gf_X11_23 C dX11_add_13 (by assumption) ?_
        refine v_iload_n C dX11_add_16 rfl ?_
        refine mc_X11_79 C dX11_add_17 (hF.rc) (c_Fam_isKey2 _ E none hF) rfl (fun r17 G17 hp17 => ?_)
        obtain ⟨hr17, rfl⟩ := hp17
        rw [hi2] at hr17
        subst hr17
        first | refine v_ifb_eq C 35 dX11_add_20 (by decide) (fun h20 => by exfalso; first | omega | exact absurd h20 (by decide) | (have h9 := of_decide_eq_true h20; omega) | (have h9 := of_decide_eq_false h20; omega) | contradiction | simp_all) (fun h20 => ?_) | refine v_ifn_eq C 35 dX11_add_20 (by decide) (by omega) (fun h20 => by exfalso; first | omega | exact absurd h20 (by decide) | (have h9 := of_decide_eq_true h20; omega) | (have h9 := of_decide_eq_false h20; omega) | contradiction | simp_all) (fun h20 => ?_) | refine v_if_eq C 35 dX11_add_20 (by decide) (fun h20 => by exfalso; first | omega | exact absurd h20 (by decide) | (have h9 := of_decide_eq_true h20; omega) | (have h9 := of_decide_eq_false h20; omega) | contradiction | simp_all) (fun h20 => ?_)
        refine v_iload_n C dX11_add_23 rfl ?_
        refine v_iconst (v := nI 1) C dX11_add_24 (by decide) ?_
        refine v_icmpn_lt C 35 dX11_add_25 (by decide) (by omega) (by omega) (fun h25 => by exfalso; first | omega | exact absurd h25 (by decide) | (have h9 := of_decide_eq_true h25; omega) | (have h9 := of_decide_eq_false h25; omega) | contradiction | simp_all) (fun h25 => ?_)
        refine v_iload_n C dX11_add_28 rfl ?_
        refine v_sipush (v := nI 1000) C dX11_add_29 (by decide) ?_
        refine v_icmpn_le C 39 dX11_add_32 (by decide) (by omega) (by omega) (fun h32 => ?_) (fun h32 => by exfalso; first | omega | exact absurd h32 (by decide) | (have h9 := of_decide_eq_true h32; omega) | (have h9 := of_decide_eq_false h32; omega) | contradiction | simp_all)
        have hn9 := hn15 k hk
        unfold N15 at hn9
        refine v_aload C dX11_add_39 rfl ?_
        refine gf_X11_91 C dX11_add_41 (by assumption) ?_
        refine v_iload_n C dX11_add_44 rfl ?_
        first | refine v_i2ln C dX11_add_45 (by omega) ?_ | refine v_i2l C dX11_add_45 rfl ?_
        first | refine v_laddn C dX11_add_46 ?_ | refine v_ladd C dX11_add_46 ?_
        refine v_ldc2 C tw810 dX11_add_47 ?_
        refine v_topl (show (1000000000000000 : Int64) = lN 1000000000000000 by decide) ?_
        refine v_lcmpn_le C 58 dX11_add_50 dX11_add_51 (by decide) (by omega) (by omega) (fun h50 => ?_) (fun h50 => ?_)
        · skip
          refine v_aload C dX11_add_58 rfl ?_
          refine v_iload_n C dX11_add_60 rfl ?_
          refine v_iload_n C dX11_add_61 rfl ?_
          refine mc_X11_97 C dX11_add_62 (by assumption) (c_Str_take _ E hx ht1 ht2 (hbd k hk) (by unfold sId; omega) hF hstk) rfl (fun r62 G62 hp62 => ?_)
          obtain ⟨hst62, hfr62⟩ := hp62
          have hs62 := hst62.1
          refine v_aload C dX11_add_65 rfl ?_
          refine gf_X11_91 C dX11_add_67 (by assumption) ?_
          refine v_lret C dX11_add_70 ?_
          have e9 : oAdd P W R A B lim Z (nI k) (nI x) (nI t) = (lN (zN (Z k) + t), fu Z k (strTake P W R A B lim (min P 300) (Z k) x t)) := by
            unfold oAdd; rw [if_pos hi1, if_pos hi2, if_pos hi3, hkx, htx, hxx, if_pos (by unfold N15; omega)]
          rw [e9]
          exact ⟨rfl, hfs.upd hk hst62 hfr62, fun j hj => hfr62 j (by unfold sId; omega)⟩
        · skip
          refine v_ldc2 C tw809 dX11_add_54 ?_
          refine v_lret C dX11_add_57 ?_
          refine ⟨?_, ?_, fun _ _ => rfl⟩
          · unfold oAdd; rw [if_pos hi1]; rw [if_pos hi2]; rw [if_pos hi3]; rw [hkx]; rw [htx]; rw [if_neg (by unfold N15; omega)]
          · unfold oAdd; rw [if_pos hi1]; rw [if_pos hi2]; rw [if_pos hi3]; rw [hkx]; rw [htx]; rw [if_neg (by unfold N15; omega)]; exact hfs

def oClear (Z : Nat → Str) (x1 : Int32) : Bool × (Nat → Str) := if iin x1 4 = true then (true, fu Z (ix x1) strEmpty) else (false, Z)
set_option maxHeartbeats 4000000 in
set_option maxRecDepth 100000 in
theorem c_FS_clear (l : Launch) (E : Ev) (z : Option Nat) {G : Gh} {P W R lim : Nat} {A B : Nat → Nat} {Z : Nat → Str} {rk : Rnk} {x1 : Int32} (hfs : isFS E G P W R lim A B Z rk) : K_X11_clear l E z G [.ref (ga E 0), .int x1] (fun r G2 => r = (oClear Z x1).1 ∧ isFS E G2 P W R lim A B (oClear Z x1).2 rk ∧ ∀ j, 104 ≤ j → G2 j = G j) := by
  refine Fc.of rfl [some (.ref (ga E 0)), some (.int x1), none] 1 rfl (Nat.le_of_ble_eq_true rfl) ?_
  intro M hM0 hini C
  subst hM0
  obtain ⟨hf0, hF, hf4, hfst, hfr0, hlim⟩ := id hfs
  have hrg := hfs.rng
  cases hi1 : iin x1 4 with
  | false =>
    refine v_aload_n C dX11_clear_0 rfl ?_
    refine v_iload_n C dX11_clear_1 rfl ?_
    refine mc_X11_85 C dX11_clear_2 (by assumption) (c_FS_atN _ E z hi1 hfs) rfl (fun r2 G2 hp2 => ?_)
    obtain ⟨rfl, rfl⟩ := hp2
    refine v_astoreN_2 C dX11_clear_5 (by decide) (by first | rfl | assumption) ?_
    refine v_aload_nN C dX11_clear_6 rfl ?_
    refine v_ifnonnullN C dX11_clear_7 ?_
    refine v_iconst (v := bI false) C dX11_clear_10 (by decide) ?_
    refine v_zret C dX11_clear_11 ?_
    refine ⟨?_, ?_, fun _ _ => rfl⟩
    · unfold oClear; rw [if_neg (by rw [hi1]; decide)]
    · unfold oClear; rw [if_neg (by rw [hi1]; decide)]; exact hfs
  | true =>
    obtain ⟨k, hk, rfl⟩ := iin_of hi1 (by decide)
    have hstk := hfst k hk
    have hkx : ix (nI k) = k := ix_nI (by omega)
    obtain ⟨hs0, hg1, hg2, hms, hsv, hct, hs22, hs23⟩ := id hstk
    refine v_aload_n C dX11_clear_0 rfl ?_
    refine v_iload_n C dX11_clear_1 rfl ?_
    refine mc_X11_85 C dX11_clear_2 (by assumption) (c_FS_at _ E z hk hfs) rfl (fun r2 G2 hp2 => ?_)
    obtain ⟨rfl, rfl⟩ := hp2
    refine v_astore_2 C dX11_clear_5 (by decide) (by first | rfl | assumption) ?_
    refine v_aload_n C dX11_clear_6 rfl ?_
    refine v_ifnonnull C 12 dX11_clear_7 (by decide) ?_
    refine v_aload_n C dX11_clear_12 rfl ?_
    refine mc_X11_101 C dX11_clear_13 (by assumption) (c_Str_makeEmpty _ E z (by unfold sId; omega) hF hstk) rfl (fun r13 G13 hp13 => ?_)
    obtain ⟨hst13, hfr13⟩ := hp13
    refine v_iconst (v := bI true) C dX11_clear_16 (by decide) ?_
    refine v_zret C dX11_clear_17 ?_
    have e9 : oClear Z (nI k) = (true, fu Z k strEmpty) := by unfold oClear; rw [if_pos hi1, hkx]
    rw [e9]
    exact ⟨rfl, hfs.upd hk hst13 hfr13, fun j hj => hfr13 j (by unfold sId; omega)⟩

def oCopy (Z : Nat → Str) (x1 x2 : Int32) : Bool × (Nat → Str) := if iin x1 4 = true then (if iin x2 4 = true then (true, fu Z (ix x1) (Z (ix x2))) else (false, Z)) else (false, Z)
set_option maxHeartbeats 4000000 in
set_option maxRecDepth 100000 in
theorem c_FS_copy (l : Launch) (E : Ev) {G : Gh} {P W R lim : Nat} {A B : Nat → Nat} {Z : Nat → Str} {rk : Rnk} {x1 x2 : Int32} (hfs : isFS E G P W R lim A B Z rk) : K_X11_copy l E none G [.ref (ga E 0), .int x1, .int x2] (fun r G2 => r = (oCopy Z x1 x2).1 ∧ isFS E G2 P W R lim A B (oCopy Z x1 x2).2 rk ∧ ∀ j, 104 ≤ j → G2 j = G j) := by
  refine Fc.of rfl [some (.ref (ga E 0)), some (.int x1), some (.int x2), none, none] 2 rfl (Nat.le_of_ble_eq_true rfl) ?_
  intro M hM0 hini C
  subst hM0
  obtain ⟨hf0, hF, hf4, hfst, hfr0, hlim⟩ := id hfs
  have hrg := hfs.rng
  cases hi1 : iin x1 4 with
  | false =>
    cases hi2 : iin x2 4 with
    | false =>
      refine v_aload_n C dX11_copy_0 rfl ?_
      refine v_iload_n C dX11_copy_1 rfl ?_
      refine mc_X11_85 C dX11_copy_2 (by assumption) (c_FS_atN _ E none hi1 hfs) rfl (fun r2 G2 hp2 => ?_)
      obtain ⟨rfl, rfl⟩ := hp2
      refine v_astoreN_3 C dX11_copy_5 (by decide) (by first | rfl | assumption) ?_
      refine v_aload_n C dX11_copy_6 rfl ?_
      refine v_iload_n C dX11_copy_7 rfl ?_
      refine mc_X11_85 C dX11_copy_8 (by assumption) (c_FS_atN _ E none hi2 hfs) rfl (fun r8 G8 hp8 => ?_)
      obtain ⟨rfl, rfl⟩ := hp8
      refine v_astoreN_4 C dX11_copy_11 (by decide) (by first | rfl | assumption) ?_
      refine v_aload_nN C dX11_copy_13 rfl ?_
      refine v_ifnullN C 22 dX11_copy_14 (by decide) ?_
      refine v_iconst (v := bI false) C dX11_copy_22 (by decide) ?_
      refine v_zret C dX11_copy_23 ?_
      refine ⟨?_, ?_, fun _ _ => rfl⟩
      · unfold oCopy; rw [if_neg (by rw [hi1]; decide)]
      · unfold oCopy; rw [if_neg (by rw [hi1]; decide)]; exact hfs
    | true =>
      obtain ⟨k2, hk2, rfl⟩ := iin_of hi2 (by decide)
      have hstk2 := hfst k2 hk2
      have hkx2 : ix (nI k2) = k2 := ix_nI (by omega)
      refine v_aload_n C dX11_copy_0 rfl ?_
      refine v_iload_n C dX11_copy_1 rfl ?_
      refine mc_X11_85 C dX11_copy_2 (by assumption) (c_FS_atN _ E none hi1 hfs) rfl (fun r2 G2 hp2 => ?_)
      obtain ⟨rfl, rfl⟩ := hp2
      refine v_astoreN_3 C dX11_copy_5 (by decide) (by first | rfl | assumption) ?_
      refine v_aload_n C dX11_copy_6 rfl ?_
      refine v_iload_n C dX11_copy_7 rfl ?_
      refine mc_X11_85 C dX11_copy_8 (by assumption) (c_FS_at _ E none hk2 hfs) rfl (fun r8 G8 hp8 => ?_)
      obtain ⟨rfl, rfl⟩ := hp8
      refine v_astore_4 C dX11_copy_11 (by decide) (by first | rfl | assumption) ?_
      refine v_aload_nN C dX11_copy_13 rfl ?_
      refine v_ifnullN C 22 dX11_copy_14 (by decide) ?_
      refine v_iconst (v := bI false) C dX11_copy_22 (by decide) ?_
      refine v_zret C dX11_copy_23 ?_
      refine ⟨?_, ?_, fun _ _ => rfl⟩
      · unfold oCopy; rw [if_neg (by rw [hi1]; decide)]
      · unfold oCopy; rw [if_neg (by rw [hi1]; decide)]; exact hfs
  | true =>
    obtain ⟨k, hk, rfl⟩ := iin_of hi1 (by decide)
    have hstk := hfst k hk
    have hkx : ix (nI k) = k := ix_nI (by omega)
    obtain ⟨hs0, hg1, hg2, hms, hsv, hct, hs22, hs23⟩ := id hstk
    cases hi2 : iin x2 4 with
    | false =>
      refine v_aload_n C dX11_copy_0 rfl ?_
      refine v_iload_n C dX11_copy_1 rfl ?_
      refine mc_X11_85 C dX11_copy_2 (by assumption) (c_FS_at _ E none hk hfs) rfl (fun r2 G2 hp2 => ?_)
      obtain ⟨rfl, rfl⟩ := hp2
      refine v_astore_3 C dX11_copy_5 (by decide) (by first | rfl | assumption) ?_
      refine v_aload_n C dX11_copy_6 rfl ?_
      refine v_iload_n C dX11_copy_7 rfl ?_
      refine mc_X11_85 C dX11_copy_8 (by assumption) (c_FS_atN _ E none hi2 hfs) rfl (fun r8 G8 hp8 => ?_)
      obtain ⟨rfl, rfl⟩ := hp8
      refine v_astoreN_4 C dX11_copy_11 (by decide) (by first | rfl | assumption) ?_
      refine v_aload_n C dX11_copy_13 rfl ?_
      refine v_ifnull C dX11_copy_14 ?_
      refine v_aloadN C dX11_copy_17 rfl ?_
      refine v_ifnonnullN C dX11_copy_19 ?_
      refine v_iconst (v := bI false) C dX11_copy_22 (by decide) ?_
      refine v_zret C dX11_copy_23 ?_
      refine ⟨?_, ?_, fun _ _ => rfl⟩
      · unfold oCopy; rw [if_pos hi1]; rw [if_neg (by rw [hi2]; decide)]
      · unfold oCopy; rw [if_pos hi1]; rw [if_neg (by rw [hi2]; decide)]; exact hfs
    | true =>
      obtain ⟨k2, hk2, rfl⟩ := iin_of hi2 (by decide)
      have hstk2 := hfst k2 hk2
      have hkx2 : ix (nI k2) = k2 := ix_nI (by omega)
      cases hself : decide (k2 = k) with
      | false =>
        have hne : k2 ≠ k := of_decide_eq_false hself
        refine v_aload_n C dX11_copy_0 rfl ?_
        refine v_iload_n C dX11_copy_1 rfl ?_
        refine mc_X11_85 C dX11_copy_2 (by assumption) (c_FS_at _ E none hk hfs) rfl (fun r2 G2 hp2 => ?_)
        obtain ⟨rfl, rfl⟩ := hp2
        refine v_astore_3 C dX11_copy_5 (by decide) (by first | rfl | assumption) ?_
        refine v_aload_n C dX11_copy_6 rfl ?_
        refine v_iload_n C dX11_copy_7 rfl ?_
        refine mc_X11_85 C dX11_copy_8 (by assumption) (c_FS_at _ E none hk2 hfs) rfl (fun r8 G8 hp8 => ?_)
        obtain ⟨rfl, rfl⟩ := hp8
        refine v_astore_4 C dX11_copy_11 (by decide) (by first | rfl | assumption) ?_
        refine v_aload_n C dX11_copy_13 rfl ?_
        refine v_ifnull C dX11_copy_14 ?_
        refine v_aload C dX11_copy_17 rfl ?_
        refine v_ifnonnull C 24 dX11_copy_19 (by decide) ?_
        refine v_aload_n C dX11_copy_24 rfl ?_
        refine v_aload C dX11_copy_25 rfl ?_
        refine mc_X11_104 C dX11_copy_27 (by assumption) (c_Str_become _ E (by unfold sId; omega) (by unfold sId; omega) hF hstk hstk2) rfl (fun r27 G27 hp27 => ?_)
        obtain ⟨hst27, hfr27⟩ := hp27
        refine v_iconst (v := bI true) C dX11_copy_30 (by decide) ?_
        refine v_zret C dX11_copy_31 ?_
        have e9 : oCopy Z (nI k) (nI k2) = (true, fu Z k (Z k2)) := by unfold oCopy; rw [if_pos hi1, if_pos hi2, hkx, hkx2]
        rw [e9]
        exact ⟨rfl, hfs.upd hk hst27 hfr27, fun j hj => hfr27 j (by unfold sId; omega)⟩
      | true =>
        have hee : k2 = k := of_decide_eq_true hself
        subst hee
        refine v_aload_n C dX11_copy_0 rfl ?_
        refine v_iload_n C dX11_copy_1 rfl ?_
        refine mc_X11_85 C dX11_copy_2 (by assumption) (c_FS_at _ E none hk hfs) rfl (fun r2 G2 hp2 => ?_)
        obtain ⟨rfl, rfl⟩ := hp2
        refine v_astore_3 C dX11_copy_5 (by decide) (by first | rfl | assumption) ?_
        refine v_aload_n C dX11_copy_6 rfl ?_
        refine v_iload_n C dX11_copy_7 rfl ?_
        refine mc_X11_85 C dX11_copy_8 (by assumption) (c_FS_at _ E none hk hfs) rfl (fun r8 G8 hp8 => ?_)
        obtain ⟨rfl, rfl⟩ := hp8
        refine v_astore_4 C dX11_copy_11 (by decide) (by first | rfl | assumption) ?_
        refine v_aload_n C dX11_copy_13 rfl ?_
        refine v_ifnull C dX11_copy_14 ?_
        refine v_aload C dX11_copy_17 rfl ?_
        refine v_ifnonnull C 24 dX11_copy_19 (by decide) ?_
        refine v_aload_n C dX11_copy_24 rfl ?_
        refine v_aload C dX11_copy_25 rfl ?_
        refine mc_X11_104 C dX11_copy_27 (by assumption) (c_Str_becomeSelf _ E (by unfold sId; omega) hF hstk) rfl (fun r27 G27 hp27 => ?_)
        obtain ⟨hst27, hfr27⟩ := hp27
        refine v_iconst (v := bI true) C dX11_copy_30 (by decide) ?_
        refine v_zret C dX11_copy_31 ?_
        have e9 : oCopy Z (nI k2) (nI k2) = (true, fu Z k2 (Z k2)) := by unfold oCopy; rw [if_pos hi1, if_pos hi2, hkx2]
        rw [e9]
        exact ⟨rfl, hfs.upd hk hst27 hfr27, fun j hj => hfr27 j (by unfold sId; omega)⟩

def oJoinOk (Z : Nat → Str) (x1 x2 : Int32) : Bool := iin x1 4 && iin x2 4 && decide (zN (Z (ix x1)) + zN (Z (ix x2)) ≤ N15)
set_option maxHeartbeats 4000000 in
set_option maxRecDepth 100000 in
theorem c_FS_join (l : Launch) (E : Ev) {G : Gh} {P W R lim : Nat} {A B : Nat → Nat} {Z : Nat → Str} {rk : Rnk} {x1 x2 : Int32} (hbd : ∀ k, k < 4 → bdS R W lim (Z k)) (hn15 : ∀ k, k < 4 → zN (Z k) ≤ N15) (hbj : ∀ k k2, k < 4 → k2 < 4 → zN (Z k) + zN (Z k2) ≤ N15 → (∀ c ∈ mAdd (zM (Z k)) (zM (Z k2)), c.2.1 < 2 ^ 62) ∧ ∀ c ∈ sU lim (zS (Z k)) (zS (Z k2)) (zS (Z k2)).length, c.2.1 < 2 ^ 62) (hfs : isFS E G P W R lim A B Z rk) : K_X11_join l E none G [.ref (ga E 0), .int x1, .int x2] (fun r G2 => (if oJoinOk Z x1 x2 = true then (r = lN (zN (Z (ix x1)) + zN (Z (ix x2))) ∧ ∃ sv, svSpec lim (sU lim (zS (Z (ix x1))) (zS (Z (ix x2))) (zS (Z (ix x2))).length) sv ∧ isFS E G2 P W R lim A B (fu Z (ix x1) (strPut lim (min P 300) (Z (ix x1)) (Z (ix x2)) sv)) rk) else (r = -1 ∧ isFS E G2 P W R lim A B Z rk)) ∧ ∀ j, 104 ≤ j → G2 j = G j) := by
  refine Fc.of rfl [some (.ref (ga E 0)), some (.int x1), some (.int x2), none, none] 2 rfl (Nat.le_of_ble_eq_true rfl) ?_
  intro M hM0 hini C
  subst hM0
  obtain ⟨hf0, hF, hf4, hfst, hfr0, hlim⟩ := id hfs
  have hrg := hfs.rng
  cases hi1 : iin x1 4 with
  | false =>
    cases hi2 : iin x2 4 with
    | false =>
      refine v_aload_n C dX11_join_0 rfl ?_
      refine v_iload_n C dX11_join_1 rfl ?_
      refine mc_X11_85 C dX11_join_2 (by assumption) (c_FS_atN _ E none hi1 hfs) rfl (fun r2 G2 hp2 => ?_)
      obtain ⟨rfl, rfl⟩ := hp2
      refine v_astoreN_3 C dX11_join_5 (by decide) (by first | rfl | assumption) ?_
      refine v_aload_n C dX11_join_6 rfl ?_
      refine v_iload_n C dX11_join_7 rfl ?_
      refine mc_X11_85 C dX11_join_8 (by assumption) (c_FS_atN _ E none hi2 hfs) rfl (fun r8 G8 hp8 => ?_)
      obtain ⟨rfl, rfl⟩ := hp8
      refine v_astoreN_4 C dX11_join_11 (by decide) (by first | rfl | assumption) ?_
      refine v_aload_nN C dX11_join_13 rfl ?_
      refine v_ifnullN C 39 dX11_join_14 (by decide) ?_
      refine v_ldc2 C tw809 dX11_join_39 ?_
      refine v_lret C dX11_join_42 ?_
      refine ⟨?_, fun _ _ => rfl⟩
      rw [if_neg (by unfold oJoinOk; rw [hi1]; simp)]
      exact ⟨rfl, hfs⟩
    | true =>
      obtain ⟨k2, hk2, rfl⟩ := iin_of hi2 (by decide)
      have hstk2 := hfst k2 hk2
      have hkx2 : ix (nI k2) = k2 := ix_nI (by omega)
      refine v_aload_n C dX11_join_0 rfl ?_
      refine v_iload_n C dX11_join_1 rfl ?_
      refine mc_X11_85 C dX11_join_2 (by assumption) (c_FS_atN _ E none hi1 hfs) rfl (fun r2 G2 hp2 => ?_)
      obtain ⟨rfl, rfl⟩ := hp2
      refine v_astoreN_3 C dX11_join_5 (by decide) (by first | rfl | assumption) ?_
      refine v_aload_n C dX11_join_6 rfl ?_
      refine v_iload_n C dX11_join_7 rfl ?_
      refine mc_X11_85 C dX11_join_8 (by assumption) (c_FS_at _ E none hk2 hfs) rfl (fun r8 G8 hp8 => ?_)
      obtain ⟨rfl, rfl⟩ := hp8
      refine v_astore_4 C dX11_join_11 (by decide) (by first | rfl | assumption) ?_
      refine v_aload_nN C dX11_join_13 rfl ?_
      refine v_ifnullN C 39 dX11_join_14 (by decide) ?_
      refine v_ldc2 C tw809 dX11_join_39 ?_
      refine v_lret C dX11_join_42 ?_
      refine ⟨?_, fun _ _ => rfl⟩
      rw [if_neg (by unfold oJoinOk; rw [hi1]; simp)]
      exact ⟨rfl, hfs⟩
  | true =>
    obtain ⟨k, hk, rfl⟩ := iin_of hi1 (by decide)
    have hstk := hfst k hk
    have hkx : ix (nI k) = k := ix_nI (by omega)
    obtain ⟨hs0, hg1, hg2, hms, hsv, hct, hs22, hs23⟩ := id hstk
    cases hi2 : iin x2 4 with
    | false =>
      refine v_aload_n C dX11_join_0 rfl ?_
      refine v_iload_n C dX11_join_1 rfl ?_
      refine mc_X11_85 C dX11_join_2 (by assumption) (c_FS_at _ E none hk hfs) rfl (fun r2 G2 hp2 => ?_)
      obtain ⟨rfl, rfl⟩ := hp2
      refine v_astore_3 C dX11_join_5 (by decide) (by first | rfl | assumption) ?_
      refine v_aload_n C dX11_join_6 rfl ?_
      refine v_iload_n C dX11_join_7 rfl ?_
      refine mc_X11_85 C dX11_join_8 (by assumption) (c_FS_atN _ E none hi2 hfs) rfl (fun r8 G8 hp8 => ?_)
      obtain ⟨rfl, rfl⟩ := hp8
      refine v_astoreN_4 C dX11_join_11 (by decide) (by first | rfl | assumption) ?_
      refine v_aload_n C dX11_join_13 rfl ?_
      refine v_ifnull C dX11_join_14 ?_
      refine v_aloadN C dX11_join_17 rfl ?_
      refine v_ifnullN C 39 dX11_join_19 (by decide) ?_
      refine v_ldc2 C tw809 dX11_join_39 ?_
      refine v_lret C dX11_join_42 ?_
      refine ⟨?_, fun _ _ => rfl⟩
      rw [if_neg (by unfold oJoinOk; rw [hi2]; simp)]
      exact ⟨rfl, hfs⟩
    | true =>
      obtain ⟨k2, hk2, rfl⟩ := iin_of hi2 (by decide)
      have hstk2 := hfst k2 hk2
      have hkx2 : ix (nI k2) = k2 := ix_nI (by omega)
      cases hself : decide (k2 = k) with
      | false =>
        have hne : k2 ≠ k := of_decide_eq_false hself
        refine v_aload_n C dX11_join_0 rfl ?_
        refine v_iload_n C dX11_join_1 rfl ?_
        refine mc_X11_85 C dX11_join_2 (by assumption) (c_FS_at _ E none hk hfs) rfl (fun r2 G2 hp2 => ?_)
        obtain ⟨rfl, rfl⟩ := hp2
        refine v_astore_3 C dX11_join_5 (by decide) (by first | rfl | assumption) ?_
        refine v_aload_n C dX11_join_6 rfl ?_
        refine v_iload_n C dX11_join_7 rfl ?_
        refine mc_X11_85 C dX11_join_8 (by assumption) (c_FS_at _ E none hk2 hfs) rfl (fun r8 G8 hp8 => ?_)
        obtain ⟨rfl, rfl⟩ := hp8
        refine v_astore_4 C dX11_join_11 (by decide) (by first | rfl | assumption) ?_
        refine v_aload_n C dX11_join_13 rfl ?_
        refine v_ifnull C dX11_join_14 ?_
        refine v_aload C dX11_join_17 rfl ?_
        refine v_ifnull C dX11_join_19 ?_
        have hs20 := hstk2.1
        have hn9 := hn15 k hk
        have hn8 := hn15 k2 hk2
        unfold N15 at hn9 hn8
        refine v_aload_n C dX11_join_22 rfl ?_
        refine gf_X11_91 C dX11_join_23 (by assumption) ?_
        refine v_aload C dX11_join_26 rfl ?_
        refine gf_X11_91 C dX11_join_28 (by assumption) ?_
        first | refine v_laddn C dX11_join_31 ?_ | refine v_ladd C dX11_join_31 ?_
        refine v_ldc2 C tw810 dX11_join_32 ?_
        refine v_topl (show (1000000000000000 : Int64) = lN 1000000000000000 by decide) ?_
        refine v_lcmpn_le C 43 dX11_join_35 dX11_join_36 (by decide) (by omega) (by omega) (fun h35 => ?_) (fun h35 => ?_)
        · skip
          refine v_aload_n C dX11_join_43 rfl ?_
          refine v_aload C dX11_join_44 rfl ?_
          refine mc_X11_108 C dX11_join_46 (by assumption) (c_Str_put _ E (by unfold sId; omega) (hbd k hk).2.2.2.1 (hbd k2 hk2).2.2.2.1 (hbj k k2 hk hk2 (by unfold N15; omega)).1 (hbd k hk).2.2.2.2.2 (hbd k2 hk2).2.2.2.2.2 (hbj k k2 hk hk2 (by unfold N15; omega)).2 (by unfold sId; omega) hF hstk hstk2) rfl (fun r46 G46 hp46 => ?_)
          obtain ⟨sv, hsv46, hst46, hfr46⟩ := hp46
          have hs46 := hst46.1
          refine v_aload_n C dX11_join_49 rfl ?_
          refine gf_X11_91 C dX11_join_50 (by assumption) ?_
          refine v_lret C dX11_join_53 ?_
          refine ⟨?_, fun j hj => hfr46 j (by unfold sId; omega)⟩
          have hok9 : oJoinOk Z (nI k) (nI k2) = true := by
            unfold oJoinOk; rw [hi1, hi2, hkx, hkx2]
            simp only [Bool.and_self, Bool.true_and]
            exact decide_eq_true (show _ ≤ N15 by unfold N15; omega)
          rw [if_pos hok9]
          refine ⟨by rw [hkx, hkx2]; rfl, sv, ?_, ?_⟩
          · rw [hkx, hkx2]; exact hsv46
          · rw [hkx, hkx2]; exact hfs.upd hk hst46 hfr46
        · skip
          refine v_ldc2 C tw809 dX11_join_39 ?_
          refine v_lret C dX11_join_42 ?_
          refine ⟨?_, fun _ _ => rfl⟩
          have hok9 : oJoinOk Z (nI k) (nI k2) = false := by
            unfold oJoinOk; rw [hi1, hi2, hkx, hkx2]
            simp only [Bool.and_self, Bool.true_and]
            exact decide_eq_false (show ¬ _ ≤ N15 by unfold N15; omega)
          rw [if_neg (by rw [hok9]; decide)]
          exact ⟨rfl, hfs⟩
      | true =>
        have hee : k2 = k := of_decide_eq_true hself
        subst hee
        refine v_aload_n C dX11_join_0 rfl ?_
        refine v_iload_n C dX11_join_1 rfl ?_
        refine mc_X11_85 C dX11_join_2 (by assumption) (c_FS_at _ E none hk hfs) rfl (fun r2 G2 hp2 => ?_)
        obtain ⟨rfl, rfl⟩ := hp2
        refine v_astore_3 C dX11_join_5 (by decide) (by first | rfl | assumption) ?_
        refine v_aload_n C dX11_join_6 rfl ?_
        refine v_iload_n C dX11_join_7 rfl ?_
        refine mc_X11_85 C dX11_join_8 (by assumption) (c_FS_at _ E none hk hfs) rfl (fun r8 G8 hp8 => ?_)
        obtain ⟨rfl, rfl⟩ := hp8
        refine v_astore_4 C dX11_join_11 (by decide) (by first | rfl | assumption) ?_
        refine v_aload_n C dX11_join_13 rfl ?_
        refine v_ifnull C dX11_join_14 ?_
        refine v_aload C dX11_join_17 rfl ?_
        refine v_ifnull C dX11_join_19 ?_
        have hn9 := hn15 k2 hk
        unfold N15 at hn9
        refine v_aload_n C dX11_join_22 rfl ?_
        refine gf_X11_91 C dX11_join_23 (by assumption) ?_
        refine v_aload C dX11_join_26 rfl ?_
        refine gf_X11_91 C dX11_join_28 (by assumption) ?_
        first | refine v_laddn C dX11_join_31 ?_ | refine v_ladd C dX11_join_31 ?_
        refine v_ldc2 C tw810 dX11_join_32 ?_
        refine v_topl (show (1000000000000000 : Int64) = lN 1000000000000000 by decide) ?_
        refine v_lcmpn_le C 43 dX11_join_35 dX11_join_36 (by decide) (by omega) (by omega) (fun h35 => ?_) (fun h35 => ?_)
        · skip
          refine v_aload_n C dX11_join_43 rfl ?_
          refine v_aload C dX11_join_44 rfl ?_
          refine mc_X11_108 C dX11_join_46 (by assumption) (c_Str_putSelf _ E (hbd k2 hk).2.2.2.1 (hbj k2 k2 hk hk (by unfold N15; omega)).1 (hbd k2 hk).2.2.2.2.2 (hbj k2 k2 hk hk (by unfold N15; omega)).2 (by unfold sId; omega) hF hstk) rfl (fun r46 G46 hp46 => ?_)
          obtain ⟨sv, hsv46, hst46, hfr46⟩ := hp46
          have hs46 := hst46.1
          refine v_aload_n C dX11_join_49 rfl ?_
          refine gf_X11_91 C dX11_join_50 (by assumption) ?_
          refine v_lret C dX11_join_53 ?_
          refine ⟨?_, fun j hj => hfr46 j (by unfold sId; omega)⟩
          have hok9 : oJoinOk Z (nI k2) (nI k2) = true := by
            unfold oJoinOk; rw [hi1, hkx]
            simp only [Bool.and_self, Bool.true_and]
            exact decide_eq_true (show _ ≤ N15 by unfold N15; omega)
          rw [if_pos hok9]
          refine ⟨by rw [hkx]; rfl, sv, ?_, ?_⟩
          · rw [hkx]; exact hsv46
          · rw [hkx]; exact hfs.upd hk hst46 hfr46
        · skip
          refine v_ldc2 C tw809 dX11_join_39 ?_
          refine v_lret C dX11_join_42 ?_
          refine ⟨?_, fun _ _ => rfl⟩
          have hok9 : oJoinOk Z (nI k2) (nI k2) = false := by
            unfold oJoinOk; rw [hi1, hkx]
            simp only [Bool.and_self, Bool.true_and]
            exact decide_eq_false (show ¬ _ ≤ N15 by unfold N15; omega)
          rw [if_neg (by rw [hok9]; decide)]
          exact ⟨rfl, hfs⟩

