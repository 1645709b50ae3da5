theorem isFam.rc {E : Ev} {G : Gh} {b P W R : Nat} {A B : Nat → Nat} (h : isFam E G b P W R A B) : G b = cO 3 [.int (nI P), .int (nI W), .int (nI R), .ref (ga E (b + 1)), .ref (ga E (b + 2))] := h.choose_spec.choose_spec.1
def oCount (P : Nat) (Z : Nat → Str) (x1 x2 : Int32) : Int64 := if iin x1 4 = true then (if iin x2 P = true then (if zG (Z (ix x1)) = false then lN (cNum (zK (Z (ix x1))) (ix x2)) else -1) else -1) else -1
set_option maxHeartbeats 4000000 in
set_option maxRecDepth 100000 in
theorem c_FS_count (l : Launch) (E : Ev) (z : Option Nat) {G : Gh} {P W R lim : Nat} {A B : Nat → Nat} {Z : Nat → Str} {rk : Rnk} {x1 x2 : Int32} (hfs : isFS E G P W R lim A B Z rk) : K_X11_count l E z G [.ref (ga E 0), .int x1, .int x2] (fun r G2 => r = oCount P Z x1 x2 ∧ G = G2) := by
  refine Fc.of rfl [some (.ref (ga E 0)), some (.int x1), some (.int x2), none] 1 rfl (Nat.le_of_ble_eq_true rfl) ?_
  intro M hM0 hini C
  subst hM0
  obtain ⟨hf0, hF, hf4, hfst, hfr0, hlim⟩ := id hfs
  have hrg := hfs.rng
  cases hi1 : iin x1 4 with
  | false =>
    refine v_aload_n C dX11_count_0 rfl ?_
    refine v_iload_n C dX11_count_1 rfl ?_
    refine mc_X11_85 C dX11_count_2 (by assumption) (c_FS_atN _ E z hi1 hfs) rfl (fun r2 G2 hp2 => ?_)
    obtain ⟨rfl, rfl⟩ := hp2
    refine v_astoreN_3 C dX11_count_5 (by decide) (by first | rfl | assumption) ?_
    refine v_aload_nN C dX11_count_6 rfl ?_
    refine v_ifnullN C 31 dX11_count_7 (by decide) ?_
    refine v_ldc2 C tw809 dX11_count_31 ?_
    refine v_lret C dX11_count_34 ?_
    exact ⟨by unfold oCount; rw [if_neg (by rw [hi1]; decide)], rfl⟩
  | true =>
    obtain ⟨k, hk, rfl⟩ := iin_of hi1 (by decide)
    have hstk := hfst k hk
    have hkx : ix (nI k) = k := ix_nI (by omega)
    obtain ⟨hs0, hg1, hg2, hms, hsv, hct, hs22, hs23⟩ := id hstk
    cases hi2 : iin x2 P with
    | false =>
      refine v_aload_n C dX11_count_0 rfl ?_
      refine v_iload_n C dX11_count_1 rfl ?_
      refine mc_X11_85 C dX11_count_2 (by assumption) (c_FS_at _ E z hk hfs) rfl (fun r2 G2 hp2 => ?_)
      obtain ⟨rfl, rfl⟩ := hp2
      refine v_astore_3 C dX11_count_5 (by decide) (by first | rfl | assumption) ?_
      refine v_aload_n C dX11_count_6 rfl ?_
      refine v_ifnull C dX11_count_7 ?_
      refine v_aload_n C dX11_count_10 rfl ?_
      refine gf_X11_23 C dX11_count_11 (by assumption) ?_
      refine v_iload_n C dX11_count_14 rfl ?_
      refine mc_X11_79 C dX11_count_15 (hF.choose_spec.choose_spec.1) (c_Fam_isKey2 _ E z hF) rfl (fun r15 G15 hp15 => ?_)
      obtain ⟨hr15, rfl⟩ := hp15
      rw [hi2] at hr15
      subst hr15
      first | refine v_ifb_eq C 31 dX11_count_18 (by decide) (fun h18 => ?_) (fun h18 => by exfalso; first | omega | exact absurd h18 (by decide) | (have h9 := of_decide_eq_true h18; omega) | (have h9 := of_decide_eq_false h18; omega) | contradiction | simp_all) | refine v_ifn_eq C 31 dX11_count_18 (by decide) (by omega) (fun h18 => ?_) (fun h18 => by exfalso; first | omega | exact absurd h18 (by decide) | (have h9 := of_decide_eq_true h18; omega) | (have h9 := of_decide_eq_false h18; omega) | contradiction | simp_all) | refine v_if_eq C 31 dX11_count_18 (by decide) (fun h18 => ?_) (fun h18 => by exfalso; first | omega | exact absurd h18 (by decide) | (have h9 := of_decide_eq_true h18; omega) | (have h9 := of_decide_eq_false h18; omega) | contradiction | simp_all)
      refine v_ldc2 C tw809 dX11_count_31 ?_
      refine v_lret C dX11_count_34 ?_
      exact ⟨by unfold oCount; rw [if_pos hi1]; rw [if_neg (by rw [hi2]; decide)], rfl⟩
    | true =>
      obtain ⟨x, hx, rfl⟩ := iin_of hi2 (by omega)
      have hxx : ix (nI x) = x := ix_nI (by omega)
      cases hgn : zG (Z k) with
      | false =>
        refine v_aload_n C dX11_count_0 rfl ?_
        refine v_iload_n C dX11_count_1 rfl ?_
        refine mc_X11_85 C dX11_count_2 (by assumption) (c_FS_at _ E z hk hfs) rfl (fun r2 G2 hp2 => ?_)
        obtain ⟨rfl, rfl⟩ := hp2
        refine v_astore_3 C dX11_count_5 (by decide) (by first | rfl | assumption) ?_
        refine v_aload_n C dX11_count_6 rfl ?_
        refine v_ifnull C dX11_count_7 ?_
        have hctc := hct.rc
        rw [hgn] at hctc
        refine v_aload_n C dX11_count_10 rfl ?_
        refine gf_X11_23 C dX11_count_11 (by assumption) ?_
        refine v_iload_n C dX11_count_14 rfl ?_
        refine mc_X11_79 C dX11_count_15 (hF.choose_spec.choose_spec.1) (c_Fam_isKey2 _ E z hF) rfl (fun r15 G15 hp15 => ?_)
        obtain ⟨hr15, rfl⟩ := hp15
        rw [hi2] at hr15
        subst hr15
        first | refine v_ifb_eq C 31 dX11_count_18 (by decide) (fun h18 => by exfalso; first | omega | exact absurd h18 (by decide) | (have h9 := of_decide_eq_true h18; omega) | (have h9 := of_decide_eq_false h18; omega) | contradiction | simp_all) (fun h18 => ?_) | refine v_ifn_eq C 31 dX11_count_18 (by decide) (by omega) (fun h18 => by exfalso; first | omega | exact absurd h18 (by decide) | (have h9 := of_decide_eq_true h18; omega) | (have h9 := of_decide_eq_false h18; omega) | contradiction | simp_all) (fun h18 => ?_) | refine v_if_eq C 31 dX11_count_18 (by decide) (fun h18 => by exfalso; first | omega | exact absurd h18 (by decide) | (have h9 := of_decide_eq_true h18; omega) | (have h9 := of_decide_eq_false h18; omega) | contradiction | simp_all) (fun h18 => ?_)
        refine v_aload_n C dX11_count_21 rfl ?_
        refine gf_X11_127 C dX11_count_22 (by assumption) ?_
        refine gf_X11_131 C dX11_count_25 (by assumption) ?_
        first | refine v_ifb_eq C 35 dX11_count_28 (by decide) (fun h28 => ?_) (fun h28 => by exfalso; first | omega | exact absurd h28 (by decide) | (have h9 := of_decide_eq_true h28; omega) | (have h9 := of_decide_eq_false h28; omega) | contradiction | simp_all) | refine v_ifn_eq C 35 dX11_count_28 (by decide) (by omega) (fun h28 => ?_) (fun h28 => by exfalso; first | omega | exact absurd h28 (by decide) | (have h9 := of_decide_eq_true h28; omega) | (have h9 := of_decide_eq_false h28; omega) | contradiction | simp_all) | refine v_if_eq C 35 dX11_count_28 (by decide) (fun h28 => ?_) (fun h28 => by exfalso; first | omega | exact absurd h28 (by decide) | (have h9 := of_decide_eq_true h28; omega) | (have h9 := of_decide_eq_false h28; omega) | contradiction | simp_all)
        refine v_aload_n C dX11_count_35 rfl ?_
        refine gf_X11_127 C dX11_count_36 (by assumption) ?_
        refine v_iload_n C dX11_count_39 rfl ?_
        refine mc_X11_137 C dX11_count_40 (hct.rc) (c_Cnt_numberOf _ E z (by omega) hct) rfl (fun r40 G40 hp40 => ?_)
        obtain ⟨rfl, rfl⟩ := hp40
        refine v_lret C dX11_count_43 ?_
        exact ⟨by unfold oCount; rw [if_pos hi1]; rw [if_pos hi2]; rw [hkx]; rw [if_pos hgn]; rw [hxx], rfl⟩
      | true =>
        refine v_aload_n C dX11_count_0 rfl ?_
        refine v_iload_n C dX11_count_1 rfl ?_
        refine mc_X11_85 C dX11_count_2 (by assumption) (c_FS_at _ E z hk hfs) rfl (fun r2 G2 hp2 => ?_)
        obtain ⟨rfl, rfl⟩ := hp2
        refine v_astore_3 C dX11_count_5 (by decide) (by first | rfl | assumption) ?_
        refine v_aload_n C dX11_count_6 rfl ?_
        refine v_ifnull C dX11_count_7 ?_
        have hctc := hct.rc
        rw [hgn] at hctc
        refine v_aload_n C dX11_count_10 rfl ?_
        refine gf_X11_23 C dX11_count_11 (by assumption) ?_
        refine v_iload_n C dX11_count_14 rfl ?_
        refine mc_X11_79 C dX11_count_15 (hF.choose_spec.choose_spec.1) (c_Fam_isKey2 _ E z hF) rfl (fun r15 G15 hp15 => ?_)
        obtain ⟨hr15, rfl⟩ := hp15
        rw [hi2] at hr15
        subst hr15
        first | refine v_ifb_eq C 31 dX11_count_18 (by decide) (fun h18 => by exfalso; first | omega | exact absurd h18 (by decide) | (have h9 := of_decide_eq_true h18; omega) | (have h9 := of_decide_eq_false h18; omega) | contradiction | simp_all) (fun h18 => ?_) | refine v_ifn_eq C 31 dX11_count_18 (by decide) (by omega) (fun h18 => by exfalso; first | omega | exact absurd h18 (by decide) | (have h9 := of_decide_eq_true h18; omega) | (have h9 := of_decide_eq_false h18; omega) | contradiction | simp_all) (fun h18 => ?_) | refine v_if_eq C 31 dX11_count_18 (by decide) (fun h18 => by exfalso; first | omega | exact absurd h18 (by decide) | (have h9 := of_decide_eq_true h18; omega) | (have h9 := of_decide_eq_false h18; omega) | contradiction | simp_all) (fun h18 => ?_)
        refine v_aload_n C dX11_count_21 rfl ?_
        refine gf_X11_127 C dX11_count_22 (by assumption) ?_
        refine gf_X11_131 C dX11_count_25 (by assumption) ?_
        first | refine v_ifb_eq C 35 dX11_count_28 (by decide) (fun h28 => by exfalso; first | omega | exact absurd h28 (by decide) | (have h9 := of_decide_eq_true h28; omega) | (have h9 := of_decide_eq_false h28; omega) | contradiction | simp_all) (fun h28 => ?_) | refine v_ifn_eq C 35 dX11_count_28 (by decide) (by omega) (fun h28 => by exfalso; first | omega | exact absurd h28 (by decide) | (have h9 := of_decide_eq_true h28; omega) | (have h9 := of_decide_eq_false h28; omega) | contradiction | simp_all) (fun h28 => ?_) | refine v_if_eq C 35 dX11_count_28 (by decide) (fun h28 => by exfalso; first | omega | exact absurd h28 (by decide) | (have h9 := of_decide_eq_true h28; omega) | (have h9 := of_decide_eq_false h28; omega) | contradiction | simp_all) (fun h28 => ?_)
        refine v_ldc2 C tw809 dX11_count_31 ?_
        refine v_lret C dX11_count_34 ?_
        exact ⟨by unfold oCount; rw [if_pos hi1]; rw [if_pos hi2]; rw [hkx]; rw [if_neg (by rw [hgn]; decide)], rfl⟩

def oHash (P W R : Nat) (A B : Nat → Nat) (x1 x2 : Int32) : Int32 := if iin x1 R = true then (if iin x2 P = true then nI (hsh P W (A (ix x1)) (B (ix x1)) (ix x2)) else -1) else -1
set_option maxHeartbeats 4000000 in
set_option maxRecDepth 100000 in
theorem c_FS_hash (l : Launch) (E : Ev) (z : Option Nat) {G : Gh} {P W R lim : Nat} {A B : Nat → Nat} {Z : Nat → Str} {rk : Rnk} {x1 x2 : Int32} (hfs : isFS E G P W R lim A B Z rk) : K_X11_hash l E z G [.ref (ga E 0), .int x1, .int x2] (fun r G2 => r = oHash P W R A B x1 x2 ∧ G = G2) := by
  refine Fc.of rfl [some (.ref (ga E 0)), some (.int x1), some (.int x2)] 0 rfl (Nat.le_of_ble_eq_true rfl) ?_
  intro M hM0 hini C
  subst hM0
  obtain ⟨hf0, hF, hf4, hfst, hfr0, hlim⟩ := id hfs
  have hrg := hfs.rng
  cases hi1 : iin x1 R with
  | false =>
    refine v_aload_n C dX11_hash_0 rfl ?_
    refine gf_X11_23 C dX11_hash_1 (by assumption) ?_
    refine v_iload_n C dX11_hash_4 rfl ?_
    refine mc_X11_64 C dX11_hash_5 (hF.rc) (c_Fam_isRow2 _ E z hF) rfl (fun r5 G5 hp5 => ?_)
    obtain ⟨hr5, rfl⟩ := hp5
    rw [hi1] at hr5
    subst hr5
    first | refine v_ifb_eq C 22 dX11_hash_8 (by decide) (fun h8 => ?_) (fun h8 => by exfalso; first | omega | exact absurd h8 (by decide) | (have h9 := of_decide_eq_true h8; omega) | (have h9 := of_decide_eq_false h8; omega) | contradiction | simp_all) | refine v_ifn_eq C 22 dX11_hash_8 (by decide) (by omega) (fun h8 => ?_) (fun h8 => by exfalso; first | omega | exact absurd h8 (by decide) | (have h9 := of_decide_eq_true h8; omega) | (have h9 := of_decide_eq_false h8; omega) | contradiction | simp_all) | refine v_if_eq C 22 dX11_hash_8 (by decide) (fun h8 => ?_) (fun h8 => by exfalso; first | omega | exact absurd h8 (by decide) | (have h9 := of_decide_eq_true h8; omega) | (have h9 := of_decide_eq_false h8; omega) | contradiction | simp_all)
    refine v_iconst (v := -1) C dX11_hash_22 (by decide) ?_
    refine v_iret C dX11_hash_23 ?_
    exact ⟨by unfold oHash; rw [if_neg (by rw [hi1]; decide)], rfl⟩
  | true =>
    obtain ⟨row, hrow, rfl⟩ := iin_of hi1 (by omega)
    have hrx : ix (nI row) = row := ix_nI (by omega)
    cases hi2 : iin x2 P with
    | false =>
      refine v_aload_n C dX11_hash_0 rfl ?_
      refine gf_X11_23 C dX11_hash_1 (by assumption) ?_
      refine v_iload_n C dX11_hash_4 rfl ?_
      refine mc_X11_64 C dX11_hash_5 (hF.rc) (c_Fam_isRow2 _ E z hF) rfl (fun r5 G5 hp5 => ?_)
      obtain ⟨hr5, rfl⟩ := hp5
      rw [hi1] at hr5
      subst hr5
      first | refine v_ifb_eq C 22 dX11_hash_8 (by decide) (fun h8 => by exfalso; first | omega | exact absurd h8 (by decide) | (have h9 := of_decide_eq_true h8; omega) | (have h9 := of_decide_eq_false h8; omega) | contradiction | simp_all) (fun h8 => ?_) | refine v_ifn_eq C 22 dX11_hash_8 (by decide) (by omega) (fun h8 => by exfalso; first | omega | exact absurd h8 (by decide) | (have h9 := of_decide_eq_true h8; omega) | (have h9 := of_decide_eq_false h8; omega) | contradiction | simp_all) (fun h8 => ?_) | refine v_if_eq C 22 dX11_hash_8 (by decide) (fun h8 => by exfalso; first | omega | exact absurd h8 (by decide) | (have h9 := of_decide_eq_true h8; omega) | (have h9 := of_decide_eq_false h8; omega) | contradiction | simp_all) (fun h8 => ?_)
      refine v_aload_n C dX11_hash_11 rfl ?_
      refine gf_X11_23 C dX11_hash_12 (by assumption) ?_
      refine v_iload_n C dX11_hash_15 rfl ?_
      refine mc_X11_79 C dX11_hash_16 (hF.choose_spec.choose_spec.1) (c_Fam_isKey2 _ E z hF) rfl (fun r16 G16 hp16 => ?_)
      obtain ⟨hr16, rfl⟩ := hp16
      rw [hi2] at hr16
      subst hr16
      first | refine v_ifb_ne C 24 dX11_hash_19 (by decide) (fun h19 => by exfalso; first | omega | exact absurd h19 (by decide) | (have h9 := of_decide_eq_true h19; omega) | (have h9 := of_decide_eq_false h19; omega) | contradiction | simp_all) (fun h19 => ?_) | refine v_ifn_ne C 24 dX11_hash_19 (by decide) (by omega) (fun h19 => by exfalso; first | omega | exact absurd h19 (by decide) | (have h9 := of_decide_eq_true h19; omega) | (have h9 := of_decide_eq_false h19; omega) | contradiction | simp_all) (fun h19 => ?_) | refine v_if_ne C 24 dX11_hash_19 (by decide) (fun h19 => by exfalso; first | omega | exact absurd h19 (by decide) | (have h9 := of_decide_eq_true h19; omega) | (have h9 := of_decide_eq_false h19; omega) | contradiction | simp_all) (fun h19 => ?_)
      refine v_iconst (v := -1) C dX11_hash_22 (by decide) ?_
      refine v_iret C dX11_hash_23 ?_
      exact ⟨by unfold oHash; rw [if_pos hi1]; rw [if_neg (by rw [hi2]; decide)], rfl⟩
    | true =>
      obtain ⟨x, hx, rfl⟩ := iin_of hi2 (by omega)
      have hxx : ix (nI x) = x := ix_nI (by omega)
      refine v_aload_n C dX11_hash_0 rfl ?_
      refine gf_X11_23 C dX11_hash_1 (by assumption) ?_
      refine v_iload_n C dX11_hash_4 rfl ?_
      refine mc_X11_64 C dX11_hash_5 (hF.rc) (c_Fam_isRow2 _ E z hF) rfl (fun r5 G5 hp5 => ?_)
      obtain ⟨hr5, rfl⟩ := hp5
      rw [hi1] at hr5
      subst hr5
      first | refine v_ifb_eq C 22 dX11_hash_8 (by decide) (fun h8 => by exfalso; first | omega | exact absurd h8 (by decide) | (have h9 := of_decide_eq_true h8; omega) | (have h9 := of_decide_eq_false h8; omega) | contradiction | simp_all) (fun h8 => ?_) | refine v_ifn_eq C 22 dX11_hash_8 (by decide) (by omega) (fun h8 => by exfalso; first | omega | exact absurd h8 (by decide) | (have h9 := of_decide_eq_true h8; omega) | (have h9 := of_decide_eq_false h8; omega) | contradiction | simp_all) (fun h8 => ?_) | refine v_if_eq C 22 dX11_hash_8 (by decide) (fun h8 => by exfalso; first | omega | exact absurd h8 (by decide) | (have h9 := of_decide_eq_true h8; omega) | (have h9 := of_decide_eq_false h8; omega) | contradiction | simp_all) (fun h8 => ?_)
      refine v_aload_n C dX11_hash_11 rfl ?_
      refine gf_X11_23 C dX11_hash_12 (by assumption) ?_
      refine v_iload_n C dX11_hash_15 rfl ?_
      refine mc_X11_79 C dX11_hash_16 (hF.choose_spec.choose_spec.1) (c_Fam_isKey2 _ E z hF) rfl (fun r16 G16 hp16 => ?_)
      obtain ⟨hr16, rfl⟩ := hp16
      rw [hi2] at hr16
      subst hr16
      first | refine v_ifb_ne C 24 dX11_hash_19 (by decide) (fun h19 => ?_) (fun h19 => by exfalso; first | omega | exact absurd h19 (by decide) | (have h9 := of_decide_eq_true h19; omega) | (have h9 := of_decide_eq_false h19; omega) | contradiction | simp_all) | refine v_ifn_ne C 24 dX11_hash_19 (by decide) (by omega) (fun h19 => ?_) (fun h19 => by exfalso; first | omega | exact absurd h19 (by decide) | (have h9 := of_decide_eq_true h19; omega) | (have h9 := of_decide_eq_false h19; omega) | contradiction | simp_all) | refine v_if_ne C 24 dX11_hash_19 (by decide) (fun h19 => ?_) (fun h19 => by exfalso; first | omega | exact absurd h19 (by decide) | (have h9 := of_decide_eq_true h19; omega) | (have h9 := of_decide_eq_false h19; omega) | contradiction | simp_all)
      refine v_aload_n C dX11_hash_24 rfl ?_
      refine gf_X11_23 C dX11_hash_25 (by assumption) ?_
      refine v_iload_n C dX11_hash_28 rfl ?_
      refine v_iload_n C dX11_hash_29 rfl ?_
      refine mc_X11_82 C dX11_hash_30 (hF.rc) (c_Fam_column _ E z hrow hx hF) rfl (fun r30 G30 hp30 => ?_)
      obtain ⟨rfl, rfl⟩ := hp30
      refine v_iret C dX11_hash_33 ?_
      exact ⟨by unfold oHash; rw [if_pos hi1]; rw [if_pos hi2]; rw [hrx, hxx], rfl⟩

def oCell (W R : Nat) (Z : Nat → Str) (x1 x2 x3 x4 : Int32) : Int64 := if iin x1 4 = true then (if iin x3 R = true then (if iin x4 W = true then (if x2 = nI 0 then lN (zP (Z (ix x1)) (ix x3) (ix x4)) else if x2 = nI 1 then lN (zC (Z (ix x1)) (ix x3) (ix x4)) else -1) else -1) else -1) else -1
set_option maxHeartbeats 4000000 in
set_option maxRecDepth 100000 in
theorem c_FS_cell (l : Launch) (E : Ev) (z : Option Nat) {G : Gh} {P W R lim : Nat} {A B : Nat → Nat} {Z : Nat → Str} {rk : Rnk} {x1 x2 x3 x4 : Int32} (hfs : isFS E G P W R lim A B Z rk) : K_X11_cell l E z G [.ref (ga E 0), .int x1, .int x2, .int x3, .int x4] (fun r G2 => r = oCell W R Z x1 x2 x3 x4 ∧ G = G2) := by
  refine Fc.of rfl [some (.ref (ga E 0)), some (.int x1), some (.int x2), some (.int x3), some (.int x4), none] 1 rfl (Nat.le_of_ble_eq_true rfl) ?_
  intro M hM0 hini C
  subst hM0
  obtain ⟨hf0, hF, hf4, hfst, hfr0, hlim⟩ := id hfs
  have hrg := hfs.rng
  cases hi1 : iin x1 4 with
  | false =>
    refine v_aload_n C dX11_cell_0 rfl ?_
    refine v_iload_n C dX11_cell_1 rfl ?_
    refine mc_X11_85 C dX11_cell_2 (by assumption) (c_FS_atN _ E z hi1 hfs) rfl (fun r2 G2 hp2 => ?_)
    obtain ⟨rfl, rfl⟩ := hp2
    refine v_astoreN_5 C dX11_cell_5 (by decide) (by first | rfl | assumption) ?_
    refine v_aloadN C dX11_cell_7 rfl ?_
    refine v_ifnullN C 40 dX11_cell_9 (by decide) ?_
    refine v_ldc2 C tw809 dX11_cell_40 ?_
    refine v_lret C dX11_cell_43 ?_
    exact ⟨by unfold oCell; rw [if_neg (by rw [hi1]; decide)], rfl⟩
  | true =>
    obtain ⟨k, hk, rfl⟩ := iin_of hi1 (by decide)
    have hstk := hfst k hk
    have hkx : ix (nI k) = k := ix_nI (by omega)
    obtain ⟨hs0, hg1, hg2, hms, hsv, hct, hs22, hs23⟩ := id hstk
    cases hi3 : iin x3 R with
    | false =>
      refine v_aload_n C dX11_cell_0 rfl ?_
      refine v_iload_n C dX11_cell_1 rfl ?_
      refine mc_X11_85 C dX11_cell_2 (by assumption) (c_FS_at _ E z hk hfs) rfl (fun r2 G2 hp2 => ?_)
      obtain ⟨rfl, rfl⟩ := hp2
      refine v_astore_5 C dX11_cell_5 (by decide) (by first | rfl | assumption) ?_
      refine v_aload C dX11_cell_7 rfl ?_
      refine v_ifnull C dX11_cell_9 ?_
      refine v_aload_n C dX11_cell_12 rfl ?_
      refine gf_X11_23 C dX11_cell_13 (by assumption) ?_
      refine v_iload_n C dX11_cell_16 rfl ?_
      refine mc_X11_64 C dX11_cell_17 (hF.rc) (c_Fam_isRow2 _ E z hF) rfl (fun r17 G17 hp17 => ?_)
      obtain ⟨hr17, rfl⟩ := hp17
      rw [hi3] at hr17
      subst hr17
      first | refine v_ifb_eq C 40 dX11_cell_20 (by decide) (fun h20 => ?_) (fun h20 => by exfalso; first | omega | exact absurd h20 (by decide) | (have h9 := of_decide_eq_true h20; omega) | (have h9 := of_decide_eq_false h20; omega) | contradiction | simp_all) | refine v_ifn_eq C 40 dX11_cell_20 (by decide) (by omega) (fun h20 => ?_) (fun h20 => by exfalso; first | omega | exact absurd h20 (by decide) | (have h9 := of_decide_eq_true h20; omega) | (have h9 := of_decide_eq_false h20; omega) | contradiction | simp_all) | refine v_if_eq C 40 dX11_cell_20 (by decide) (fun h20 => ?_) (fun h20 => by exfalso; first | omega | exact absurd h20 (by decide) | (have h9 := of_decide_eq_true h20; omega) | (have h9 := of_decide_eq_false h20; omega) | contradiction | simp_all)
      refine v_ldc2 C tw809 dX11_cell_40 ?_
      refine v_lret C dX11_cell_43 ?_
      exact ⟨by unfold oCell; rw [if_pos hi1]; rw [if_neg (by rw [hi3]; decide)], rfl⟩
    | true =>
      obtain ⟨row, hrow, rfl⟩ := iin_of hi3 (by omega)
      have hrx : ix (nI row) = row := ix_nI (by omega)
      cases hi4 : iin x4 W with
      | false =>
        refine v_aload_n C dX11_cell_0 rfl ?_
        refine v_iload_n C dX11_cell_1 rfl ?_
        refine mc_X11_85 C dX11_cell_2 (by assumption) (c_FS_at _ E z hk hfs) rfl (fun r2 G2 hp2 => ?_)
        obtain ⟨rfl, rfl⟩ := hp2
        refine v_astore_5 C dX11_cell_5 (by decide) (by first | rfl | assumption) ?_
        refine v_aload C dX11_cell_7 rfl ?_
        refine v_ifnull C dX11_cell_9 ?_
        refine v_aload_n C dX11_cell_12 rfl ?_
        refine gf_X11_23 C dX11_cell_13 (by assumption) ?_
        refine v_iload_n C dX11_cell_16 rfl ?_
        refine mc_X11_64 C dX11_cell_17 (hF.rc) (c_Fam_isRow2 _ E z hF) rfl (fun r17 G17 hp17 => ?_)
        obtain ⟨hr17, rfl⟩ := hp17
        rw [hi3] at hr17
        subst hr17
        first | refine v_ifb_eq C 40 dX11_cell_20 (by decide) (fun h20 => by exfalso; first | omega | exact absurd h20 (by decide) | (have h9 := of_decide_eq_true h20; omega) | (have h9 := of_decide_eq_false h20; omega) | contradiction | simp_all) (fun h20 => ?_) | refine v_ifn_eq C 40 dX11_cell_20 (by decide) (by omega) (fun h20 => by exfalso; first | omega | exact absurd h20 (by decide) | (have h9 := of_decide_eq_true h20; omega) | (have h9 := of_decide_eq_false h20; omega) | contradiction | simp_all) (fun h20 => ?_) | refine v_if_eq C 40 dX11_cell_20 (by decide) (fun h20 => by exfalso; first | omega | exact absurd h20 (by decide) | (have h9 := of_decide_eq_true h20; omega) | (have h9 := of_decide_eq_false h20; omega) | contradiction | simp_all) (fun h20 => ?_)
        have hfc := hF.rc
        refine v_iload C dX11_cell_23 rfl ?_
        refine v_if_lt C 40 dX11_cell_25 (by decide) (fun h25 => ?_) (fun h25 => ?_)
        · skip
          refine v_ldc2 C tw809 dX11_cell_40 ?_
          refine v_lret C dX11_cell_43 ?_
          exact ⟨by unfold oCell; rw [if_pos hi1]; rw [if_pos hi3]; rw [if_neg (by rw [hi4]; decide)], rfl⟩
        · skip
          refine v_iload C dX11_cell_28 rfl ?_
          refine v_aload_n C dX11_cell_30 rfl ?_
          refine gf_X11_23 C dX11_cell_31 (by assumption) ?_
          refine gf_X11_58 C dX11_cell_34 (by assumption) ?_
          refine v_icmp_lt C 44 dX11_cell_37 (by decide) (fun h37 => ?_) (fun h37 => ?_)
          · skip
            exact absurd (iin_yes2 h25 h37 (by omega)) (by rw [hi4]; decide)
          · skip
            refine v_ldc2 C tw809 dX11_cell_40 ?_
            refine v_lret C dX11_cell_43 ?_
            exact ⟨by unfold oCell; rw [if_pos hi1]; rw [if_pos hi3]; rw [if_neg (by rw [hi4]; decide)], rfl⟩
      | true =>
        obtain ⟨col, hcol, rfl⟩ := iin_of hi4 (by omega)
        have hclx : ix (nI col) = col := ix_nI (by omega)
        refine v_aload_n C dX11_cell_0 rfl ?_
        refine v_iload_n C dX11_cell_1 rfl ?_
        refine mc_X11_85 C dX11_cell_2 (by assumption) (c_FS_at _ E z hk hfs) rfl (fun r2 G2 hp2 => ?_)
        obtain ⟨rfl, rfl⟩ := hp2
        refine v_astore_5 C dX11_cell_5 (by decide) (by first | rfl | assumption) ?_
        refine v_aload C dX11_cell_7 rfl ?_
        refine v_ifnull C dX11_cell_9 ?_
        refine v_aload_n C dX11_cell_12 rfl ?_
        refine gf_X11_23 C dX11_cell_13 (by assumption) ?_
        refine v_iload_n C dX11_cell_16 rfl ?_
        refine mc_X11_64 C dX11_cell_17 (hF.rc) (c_Fam_isRow2 _ E z hF) rfl (fun r17 G17 hp17 => ?_)
        obtain ⟨hr17, rfl⟩ := hp17
        rw [hi3] at hr17
        subst hr17
        first | refine v_ifb_eq C 40 dX11_cell_20 (by decide) (fun h20 => by exfalso; first | omega | exact absurd h20 (by decide) | (have h9 := of_decide_eq_true h20; omega) | (have h9 := of_decide_eq_false h20; omega) | contradiction | simp_all) (fun h20 => ?_) | refine v_ifn_eq C 40 dX11_cell_20 (by decide) (by omega) (fun h20 => by exfalso; first | omega | exact absurd h20 (by decide) | (have h9 := of_decide_eq_true h20; omega) | (have h9 := of_decide_eq_false h20; omega) | contradiction | simp_all) (fun h20 => ?_) | refine v_if_eq C 40 dX11_cell_20 (by decide) (fun h20 => by exfalso; first | omega | exact absurd h20 (by decide) | (have h9 := of_decide_eq_true h20; omega) | (have h9 := of_decide_eq_false h20; omega) | contradiction | simp_all) (fun h20 => ?_)
        have hfc := hF.rc
        refine v_iload C dX11_cell_23 rfl ?_
        first | refine v_ifn_lt C 40 dX11_cell_25 (by decide) (by omega) (fun h25 => by exfalso; first | omega | exact absurd h25 (by decide) | (have h9 := of_decide_eq_true h25; omega) | (have h9 := of_decide_eq_false h25; omega) | contradiction | simp_all) (fun h25 => ?_) | refine v_if_lt C 40 dX11_cell_25 (by decide) (fun h25 => by exfalso; first | omega | exact absurd h25 (by decide) | (have h9 := of_decide_eq_true h25; omega) | (have h9 := of_decide_eq_false h25; omega) | contradiction | simp_all) (fun h25 => ?_)
        refine v_iload C dX11_cell_28 rfl ?_
        refine v_aload_n C dX11_cell_30 rfl ?_
        refine gf_X11_23 C dX11_cell_31 (by assumption) ?_
        refine gf_X11_58 C dX11_cell_34 (by assumption) ?_
        refine v_icmpn_lt C 44 dX11_cell_37 (by decide) (by omega) (by omega) (fun h37 => ?_) (fun h37 => by exfalso; first | omega | exact absurd h37 (by decide) | (have h9 := of_decide_eq_true h37; omega) | (have h9 := of_decide_eq_false h37; omega) | contradiction | simp_all)
        refine v_iload_n C dX11_cell_44 rfl ?_
        refine v_lsw2 C 0 1 72 84 96 dX11_cell_45 (by decide) (by decide) (by decide) (by decide) (fun h45 => ?_) (fun h45 => ?_) (fun h45 => ?_)
        · skip
          refine v_aload C dX11_cell_72 rfl ?_
          refine gf_X11_140 C dX11_cell_74 (by assumption) ?_
          refine v_iload_n C dX11_cell_77 rfl ?_
          refine v_iload C dX11_cell_78 rfl ?_
          refine mc_X11_144 C dX11_cell_80 (hg1.rc) (c_Grid_at _ E z hrow hcol hF hg1) rfl (fun r80 G80 hp80 => ?_)
          obtain ⟨rfl, rfl⟩ := hp80
          refine v_lret C dX11_cell_83 ?_
          subst h45
          exact ⟨by unfold oCell; rw [if_pos hi1]; rw [if_pos hi3]; rw [if_pos hi4]; rw [if_pos rfl]; rw [hkx, hrx, hclx], rfl⟩
        · skip
          refine v_aload C dX11_cell_84 rfl ?_
          refine gf_X11_150 C dX11_cell_86 (by assumption) ?_
          refine v_iload_n C dX11_cell_89 rfl ?_
          refine v_iload C dX11_cell_90 rfl ?_
          refine mc_X11_144 C dX11_cell_92 (hg2.rc) (c_Grid_at _ E z hrow hcol hF hg2) rfl (fun r92 G92 hp92 => ?_)
          obtain ⟨rfl, rfl⟩ := hp92
          refine v_lret C dX11_cell_95 ?_
          subst h45
          exact ⟨by unfold oCell; rw [if_pos hi1]; rw [if_pos hi3]; rw [if_pos hi4]; rw [if_neg (by decide)]; rw [if_pos rfl]; rw [hkx, hrx, hclx], rfl⟩
        · skip
          refine v_ldc2 C tw809 dX11_cell_96 ?_
          refine v_lret C dX11_cell_99 ?_
          exact ⟨by unfold oCell; rw [if_pos hi1]; rw [if_pos hi3]; rw [if_pos hi4]; rw [if_neg h45.1]; rw [if_neg h45.2], rfl⟩

def oCounter (Z : Nat → Str) (x1 x2 x3 x4 : Int32) : Int64 := if iin x1 4 = true then (if x2 = nI 2 then cTell (zM (Z (ix x1))) x3 x4 else if x2 = nI 3 then cTell (zS (Z (ix x1))) x3 x4 else -1) else -1
set_option maxHeartbeats 4000000 in
set_option maxRecDepth 100000 in
theorem c_FS_counter (l : Launch) (E : Ev) (z : Option Nat) {G : Gh} {P W R lim : Nat} {A B : Nat → Nat} {Z : Nat → Str} {rk : Rnk} {x1 x2 x3 x4 : Int32} (hfs : isFS E G P W R lim A B Z rk) : K_X11_counter l E z G [.ref (ga E 0), .int x1, .int x2, .int x3, .int x4] (fun r G2 => r = oCounter Z x1 x2 x3 x4 ∧ G = G2) := by
  refine Fc.of rfl [some (.ref (ga E 0)), some (.int x1), some (.int x2), some (.int x3), some (.int x4), none] 1 rfl (Nat.le_of_ble_eq_true rfl) ?_
  intro M hM0 hini C
  subst hM0
  obtain ⟨hf0, hF, hf4, hfst, hfr0, hlim⟩ := id hfs
  have hrg := hfs.rng
  cases hi1 : iin x1 4 with
  | false =>
    refine v_aload_n C dX11_counter_0 rfl ?_
    refine v_iload_n C dX11_counter_1 rfl ?_
    refine mc_X11_85 C dX11_counter_2 (by assumption) (c_FS_atN _ E z hi1 hfs) rfl (fun r2 G2 hp2 => ?_)
    obtain ⟨rfl, rfl⟩ := hp2
    refine v_astoreN_5 C dX11_counter_5 (by decide) (by first | rfl | assumption) ?_
    refine v_aloadN C dX11_counter_7 rfl ?_
    refine v_ifnonnullN C dX11_counter_9 ?_
    refine v_ldc2 C tw809 dX11_counter_12 ?_
    refine v_lret C dX11_counter_15 ?_
    exact ⟨by unfold oCounter; rw [if_neg (by rw [hi1]; decide)], rfl⟩
  | true =>
    obtain ⟨k, hk, rfl⟩ := iin_of hi1 (by decide)
    have hstk := hfst k hk
    have hkx : ix (nI k) = k := ix_nI (by omega)
    obtain ⟨hs0, hg1, hg2, hms, hsv, hct, hs22, hs23⟩ := id hstk
    refine v_aload_n C dX11_counter_0 rfl ?_
    refine v_iload_n C dX11_counter_1 rfl ?_
    refine mc_X11_85 C dX11_counter_2 (by assumption) (c_FS_at _ E z hk hfs) rfl (fun r2 G2 hp2 => ?_)
    obtain ⟨rfl, rfl⟩ := hp2
    refine v_astore_5 C dX11_counter_5 (by decide) (by first | rfl | assumption) ?_
    refine v_aload C dX11_counter_7 rfl ?_
    refine v_ifnonnull C 16 dX11_counter_9 (by decide) ?_
    have hm0 := hms.1
    have hv0 := hsv.1
    refine v_iload_n C dX11_counter_16 rfl ?_
    refine v_lsw2 C 2 3 44 59 74 dX11_counter_17 (by decide) (by decide) (by decide) (by decide) (fun h17 => ?_) (fun h17 => ?_) (fun h17 => ?_)
    · skip
      refine v_aload C dX11_counter_44 rfl ?_
      refine gf_X11_153 C dX11_counter_46 (by assumption) ?_
      refine gf_X11_157 C dX11_counter_49 (by assumption) ?_
      refine v_iload_n C dX11_counter_52 rfl ?_
      refine v_iload C dX11_counter_53 rfl ?_
      refine mc_X11_163 C dX11_counter_55 (hms.2.rc) (c_Ctr_tell _ E z hms.2) rfl (fun r55 G55 hp55 => ?_)
      obtain ⟨rfl, rfl⟩ := hp55
      refine v_lret C dX11_counter_58 ?_
      subst h17
      exact ⟨by unfold oCounter; rw [if_pos hi1]; rw [if_pos rfl]; rw [hkx], rfl⟩
    · skip
      refine v_aload C dX11_counter_59 rfl ?_
      refine gf_X11_168 C dX11_counter_61 (by assumption) ?_
      refine gf_X11_172 C dX11_counter_64 (by assumption) ?_
      refine v_iload_n C dX11_counter_67 rfl ?_
      refine v_iload C dX11_counter_68 rfl ?_
      refine mc_X11_163 C dX11_counter_70 (hsv.2.rc) (c_Ctr_tell _ E z hsv.2) rfl (fun r70 G70 hp70 => ?_)
      obtain ⟨rfl, rfl⟩ := hp70
      refine v_lret C dX11_counter_73 ?_
      subst h17
      exact ⟨by unfold oCounter; rw [if_pos hi1]; rw [if_neg (by decide)]; rw [if_pos rfl]; rw [hkx], rfl⟩
    · skip
      refine v_ldc2 C tw809 dX11_counter_74 ?_
      refine v_lret C dX11_counter_77 ?_
      exact ⟨by unfold oCounter; rw [if_pos hi1]; rw [if_neg h17.1]; rw [if_neg h17.2], rfl⟩

def oState (lim : Nat) (Z : Nat → Str) (x1 x2 : Int32) : Int64 := if iin x1 4 = true then (if x2 = nI 0 then lN (zM (Z (ix x1))).length else if x2 = nI 1 then lN (zT (Z (ix x1))) else if x2 = nI 2 then lN (zS (Z (ix x1))).length else if x2 = nI 3 then lN (sLeast lim (zS (Z (ix x1)))) else if x2 = nI 4 then (if zG (Z (ix x1)) = true then -1 else lN (zK (Z (ix x1))).length) else -1) else -1
set_option maxHeartbeats 4000000 in
set_option maxRecDepth 100000 in
theorem c_FS_state (l : Launch) (E : Ev) (z : Option Nat) {G : Gh} {P W R lim : Nat} {A B : Nat → Nat} {Z : Nat → Str} {rk : Rnk} {x1 x2 : Int32} (hfs : isFS E G P W R lim A B Z rk) : K_X11_state l E z G [.ref (ga E 0), .int x1, .int x2] (fun r G2 => r = oState lim Z x1 x2 ∧ G = G2) := by
  refine Fc.of rfl [some (.ref (ga E 0)), some (.int x1), some (.int x2), none] 1 rfl (Nat.le_of_ble_eq_true rfl) ?_
  intro M hM0 hini C
  subst hM0
  obtain ⟨hf0, hF, hf4, hfst, hfr0, hlim⟩ := id hfs
  have hrg := hfs.rng
  cases hi1 : iin x1 4 with
  | false =>
    refine v_aload_n C dX11_state_0 rfl ?_
    refine v_iload_n C dX11_state_1 rfl ?_
    refine mc_X11_85 C dX11_state_2 (by assumption) (c_FS_atN _ E z hi1 hfs) rfl (fun r2 G2 hp2 => ?_)
    obtain ⟨rfl, rfl⟩ := hp2
    refine v_astoreN_3 C dX11_state_5 (by decide) (by first | rfl | assumption) ?_
    refine v_aload_nN C dX11_state_6 rfl ?_
    refine v_ifnonnullN C dX11_state_7 ?_
    refine v_ldc2 C tw809 dX11_state_10 ?_
    refine v_lret C dX11_state_13 ?_
    exact ⟨by unfold oState; rw [if_neg (by rw [hi1]; decide)], rfl⟩
  | true =>
    obtain ⟨k, hk, rfl⟩ := iin_of hi1 (by decide)
    have hstk := hfst k hk
    have hkx : ix (nI k) = k := ix_nI (by omega)
    obtain ⟨hs0, hg1, hg2, hms, hsv, hct, hs22, hs23⟩ := id hstk
    refine v_aload_n C dX11_state_0 rfl ?_
    refine v_iload_n C dX11_state_1 rfl ?_
    refine mc_X11_85 C dX11_state_2 (by assumption) (c_FS_at _ E z hk hfs) rfl (fun r2 G2 hp2 => ?_)
    obtain ⟨rfl, rfl⟩ := hp2
    refine v_astore_3 C dX11_state_5 (by decide) (by first | rfl | assumption) ?_
    refine v_aload_n C dX11_state_6 rfl ?_
    refine v_ifnonnull C 14 dX11_state_7 (by decide) ?_
    have hm0 := hms.1
    have hv0 := hsv.1
    have hmc := hms.2.rc
    have hvc := hsv.2.rc
    have hkc := hct.rc
    have hmw : cwf (zM (Z k)) P lim := hms.2.choose_spec.choose_spec.choose_spec.2.2.2.2.2.2
    have hlm := hmw.1
    have hvw : cwf (zS (Z k)) P lim := hsv.2.choose_spec.choose_spec.choose_spec.2.2.2.2.2.2
    have hlv := hvw.1
    have hkw : cnwf (zK (Z k)) P (min P 300) := hct.choose_spec.choose_spec.2.2.2.2
    have hlk := hkw.1
    refine v_iload_n C dX11_state_14 rfl ?_
    refine v_tsw5 C 48 60 68 80 88 113 dX11_state_15 (by decide) (by decide) (by decide) (by decide) (by decide) (by decide) (fun h15 => ?_) (fun h15 => ?_) (fun h15 => ?_) (fun h15 => ?_) (fun h15 => ?_) (fun h15 => ?_)
    · skip
      refine v_aload_n C dX11_state_48 rfl ?_
      refine gf_X11_153 C dX11_state_49 (by assumption) ?_
      refine gf_X11_157 C dX11_state_52 (by assumption) ?_
      refine gf_X11_175 C dX11_state_55 (by assumption) ?_
      first | refine v_i2ln C dX11_state_58 (by omega) ?_ | refine v_i2l C dX11_state_58 rfl ?_
      refine v_lret C dX11_state_59 ?_
      subst h15
      exact ⟨by unfold oState; rw [if_pos hi1]; rw [if_pos rfl]; rw [hkx], rfl⟩
    · skip
      refine v_aload_n C dX11_state_60 rfl ?_
      refine gf_X11_153 C dX11_state_61 (by assumption) ?_
      refine gf_X11_178 C dX11_state_64 (by assumption) ?_
      refine v_lret C dX11_state_67 ?_
      subst h15
      exact ⟨by unfold oState; rw [if_pos hi1]; rw [if_neg (by decide)]; rw [if_pos rfl]; rw [hkx], rfl⟩
    · skip
      refine v_aload_n C dX11_state_68 rfl ?_
      refine gf_X11_168 C dX11_state_69 (by assumption) ?_
      refine gf_X11_172 C dX11_state_72 (by assumption) ?_
      refine gf_X11_175 C dX11_state_75 (by assumption) ?_
      first | refine v_i2ln C dX11_state_78 (by omega) ?_ | refine v_i2l C dX11_state_78 rfl ?_
      refine v_lret C dX11_state_79 ?_
      subst h15
      exact ⟨by unfold oState; rw [if_pos hi1]; rw [if_neg (by decide)]; rw [if_neg (by decide)]; rw [if_pos rfl]; rw [hkx], rfl⟩
    · skip
      refine v_aload_n C dX11_state_80 rfl ?_
      refine gf_X11_168 C dX11_state_81 (by assumption) ?_
      refine mc_X11_181 C dX11_state_84 (by assumption) (c_Sav_least _ E z hsv) rfl (fun r84 G84 hp84 => ?_)
      obtain ⟨rfl, rfl⟩ := hp84
      refine v_lret C dX11_state_87 ?_
      subst h15
      exact ⟨by unfold oState; rw [if_pos hi1]; rw [if_neg (by decide)]; rw [if_neg (by decide)]; rw [if_neg (by decide)]; rw [if_pos rfl]; rw [hkx], rfl⟩
    · skip
      refine v_aload_n C dX11_state_88 rfl ?_
      refine gf_X11_127 C dX11_state_89 (by assumption) ?_
      refine gf_X11_131 C dX11_state_92 (by assumption) ?_
      first | refine v_ifb_eq C 104 dX11_state_95 (by decide) (fun h95 => ?_) (fun h95 => ?_) | refine v_ifn_eq C 104 dX11_state_95 (by decide) (by omega) (fun h95 => ?_) (fun h95 => ?_) | refine v_if_eq C 104 dX11_state_95 (by decide) (fun h95 => ?_) (fun h95 => ?_)
      · skip
        refine v_aload_n C dX11_state_104 rfl ?_
        refine gf_X11_127 C dX11_state_105 (by assumption) ?_
        refine gf_X11_185 C dX11_state_108 (by assumption) ?_
        first | refine v_i2ln C dX11_state_111 (by omega) ?_ | refine v_i2l C dX11_state_111 rfl ?_
        refine v_lret C dX11_state_112 ?_
        subst h15
        first
          | exact ⟨by unfold oState; rw [if_pos hi1]; rw [if_neg (by decide)]; rw [if_neg (by decide)]; rw [if_neg (by decide)]; rw [if_neg (by decide)]; rw [if_pos rfl]; rw [hkx]; rw [if_pos h95], rfl⟩
          | exact ⟨by unfold oState; rw [if_pos hi1]; rw [if_neg (by decide)]; rw [if_neg (by decide)]; rw [if_neg (by decide)]; rw [if_neg (by decide)]; rw [if_pos rfl]; rw [hkx]; rw [if_neg (by rw [h95]; decide)], rfl⟩
      · skip
        refine v_ldc2 C tw809 dX11_state_98 ?_
        refine v_goto C 112 dX11_state_101 (by decide) ?_
        refine v_lret C dX11_state_112 ?_
        subst h15
        first
          | exact ⟨by unfold oState; rw [if_pos hi1]; rw [if_neg (by decide)]; rw [if_neg (by decide)]; rw [if_neg (by decide)]; rw [if_neg (by decide)]; rw [if_pos rfl]; rw [hkx]; rw [if_pos h95], rfl⟩
          | exact ⟨by unfold oState; rw [if_pos hi1]; rw [if_neg (by decide)]; rw [if_neg (by decide)]; rw [if_neg (by decide)]; rw [if_neg (by decide)]; rw [if_pos rfl]; rw [hkx]; rw [if_neg (by rw [h95]; decide)], rfl⟩
    · skip
      refine v_ldc2 C tw809 dX11_state_113 ?_
      refine v_lret C dX11_state_116 ?_
      exact ⟨by unfold oState; rw [if_pos hi1]; rw [if_neg (h15 0 (by decide))]; rw [if_neg (h15 1 (by decide))]; rw [if_neg (h15 2 (by decide))]; rw [if_neg (h15 3 (by decide))]; rw [if_neg (h15 4 (by decide))], rfl⟩

set_option maxHeartbeats 4000000 in
set_option maxRecDepth 100000 in
theorem c_FS_reported (l : Launch) (E : Ev) (z : Option Nat) {G : Gh} {P W R lim : Nat} {A B : Nat → Nat} {Z : Nat → Str} {rk : Rnk} {x1 x2 : Int32} (hfs : isFS E G P W R lim A B Z rk) : K_X11_reported l E z G [.ref (ga E 0), .int x1, .int x2] (fun r G2 => r = rTell rk x1 x2 ∧ G = G2) := by
  refine Fc.of rfl [some (.ref (ga E 0)), some (.int x1), some (.int x2)] 0 rfl (Nat.le_of_ble_eq_true rfl) ?_
  intro M hM0 hini C
  subst hM0
  obtain ⟨hf0, hF, hf4, hfst, hfr0, hlim⟩ := id hfs
  have hrg := hfs.rng
  refine v_aload_n C dX11_reported_0 rfl ?_
  refine gf_X11_54 C dX11_reported_1 (by assumption) ?_
  refine v_iload_n C dX11_reported_4 rfl ?_
  refine v_iload_n C dX11_reported_5 rfl ?_
  refine mc_X11_194 C dX11_reported_6 (hfr0.choose_spec.choose_spec.1) (c_Rnk_tell _ E z hfr0) rfl (fun r6 G6 hp6 => ?_)
  obtain ⟨rfl, rfl⟩ := hp6
  refine v_lret C dX11_reported_9 ?_
  exact ⟨rfl, rfl⟩

def oAudit (P W R : Nat) (A B : Nat → Nat) (lim : Nat) (Z : Nat → Str) (x1 : Int32) : Int32 := if iin x1 4 = true then (if zG (Z (ix x1)) = true then -1 else sAudit P W R A B lim (Z (ix x1))) else -1
set_option maxHeartbeats 4000000 in
set_option maxRecDepth 100000 in
theorem c_FS_audit (l : Launch) (E : Ev) (z : Option Nat) {G : Gh} {P W R lim : Nat} {A B : Nat → Nat} {Z : Nat → Str} {rk : Rnk} {x1 : Int32} (hbd : ∀ k, k < 4 → bdS R W lim (Z k)) (hfs : isFS E G P W R lim A B Z rk) : K_X11_audit l E z G [.ref (ga E 0), .int x1] (fun r G2 => r = oAudit P W R A B lim Z x1 ∧ G = G2) := by
  refine Fc.of rfl [some (.ref (ga E 0)), some (.int x1), none] 1 rfl (Nat.le_of_ble_eq_true rfl) ?_
  intro M hM0 hini C
  subst hM0
  obtain ⟨hf0, hF, hf4, hfst, hfr0, hlim⟩ := id hfs
  have hrg := hfs.rng
  cases hi1 : iin x1 4 with
  | false =>
    refine v_aload_n C dX11_audit_0 rfl ?_
    refine v_iload_n C dX11_audit_1 rfl ?_
    refine mc_X11_85 C dX11_audit_2 (by assumption) (c_FS_atN _ E z hi1 hfs) rfl (fun r2 G2 hp2 => ?_)
    obtain ⟨rfl, rfl⟩ := hp2
    refine v_astoreN_2 C dX11_audit_5 (by decide) (by first | rfl | assumption) ?_
    refine v_aload_nN C dX11_audit_6 rfl ?_
    refine v_ifnullN C 20 dX11_audit_7 (by decide) ?_
    refine v_iconst (v := -1) C dX11_audit_20 (by decide) ?_
    refine v_iret C dX11_audit_21 ?_
    exact ⟨by unfold oAudit; rw [if_neg (by rw [hi1]; decide)], rfl⟩
  | true =>
    obtain ⟨k, hk, rfl⟩ := iin_of hi1 (by decide)
    have hstk := hfst k hk
    have hkx : ix (nI k) = k := ix_nI (by omega)
    obtain ⟨hs0, hg1, hg2, hms, hsv, hct, hs22, hs23⟩ := id hstk
    refine v_aload_n C dX11_audit_0 rfl ?_
    refine v_iload_n C dX11_audit_1 rfl ?_
    refine mc_X11_85 C dX11_audit_2 (by assumption) (c_FS_at _ E z hk hfs) rfl (fun r2 G2 hp2 => ?_)
    obtain ⟨rfl, rfl⟩ := hp2
    refine v_astore_2 C dX11_audit_5 (by decide) (by first | rfl | assumption) ?_
    refine v_aload_n C dX11_audit_6 rfl ?_
    refine v_ifnull C dX11_audit_7 ?_
    have hkc := hct.rc
    refine v_aload_n C dX11_audit_10 rfl ?_
    refine gf_X11_127 C dX11_audit_11 (by assumption) ?_
    refine gf_X11_131 C dX11_audit_14 (by assumption) ?_
    first | refine v_ifb_eq C 22 dX11_audit_17 (by decide) (fun h17 => ?_) (fun h17 => ?_) | refine v_ifn_eq C 22 dX11_audit_17 (by decide) (by omega) (fun h17 => ?_) (fun h17 => ?_) | refine v_if_eq C 22 dX11_audit_17 (by decide) (fun h17 => ?_) (fun h17 => ?_)
    · skip
      refine v_aload_n C dX11_audit_22 rfl ?_
      refine mc_X11_200 C dX11_audit_23 (by assumption) (c_Str_firstBroken _ E z (hbd k hk).1 (hbd k hk).2.1 hF hstk) rfl (fun r23 G23 hp23 => ?_)
      obtain ⟨rfl, rfl⟩ := hp23
      refine v_iret C dX11_audit_26 ?_
      exact ⟨by unfold oAudit; rw [if_pos hi1]; rw [hkx]; rw [if_neg (by rw [h17]; decide)], rfl⟩
    · skip
      refine v_iconst (v := -1) C dX11_audit_20 (by decide) ?_
      refine v_iret C dX11_audit_21 ?_
      exact ⟨by unfold oAudit; rw [if_pos hi1]; rw [hkx]; rw [if_pos h17], rfl⟩

