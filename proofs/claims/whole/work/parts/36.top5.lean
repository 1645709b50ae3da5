set_option maxHeartbeats 4000000 in
set_option maxRecDepth 100000 in
theorem ase_loop {M : Mx} {E : Ev} {z : Option Nat} (C : Cx M E yX11_allStreamsEmpty.cls cX11_allStreamsEmpty 2 (some .boolean) 0 0 0 0) {post : Bool → Gh → Prop} {G : Gh} {P W R lim : Nat} {A B : Nat → Nat} {Z : Nat → Str} {rk : Rnk} (hn15 : ∀ k, k < 4 → zN (Z k) ≤ N15) (hfs : isFS E G P W R lim A B Z rk) (hend : ∀ {v : Bool}, (v = true ∧ ∀ j, j < 4 → zN (Z j) = 0) ∨ (v = false ∧ ∃ j, j < 4 ∧ 0 < zN (Z j)) → post v G) : ∀ (t i : Nat), i ≤ 4 → 4 - i < t → (∀ j, j < i → zN (Z j) = 0) → V M E 2 (QE M E (fun r : Bool => some (.int (bI r))) z 0 0 post) z 0 0 G 2 [some (.ref (ga E 0)), some (.int (nI i))] [] := by
  obtain ⟨hf0, hF, hf4, hfst, hfr0, hlim⟩ := id hfs
  intro t
  induction t with
  | zero => intro i _ h; omega
  | succ t ih =>
    intro i hi ht hz0
    refine v_iload_n C dX11_allStreamsEmpty_2 rfl ?_
    refine v_iconst (v := nI 4) C dX11_allStreamsEmpty_3 (by decide) ?_
    refine v_icmpn_ge C 29 dX11_allStreamsEmpty_4 (by decide) (by omega) (by omega) (fun h4 => ?_) (fun h4 => ?_)
    · skip
      refine v_iconst (v := bI true) C dX11_allStreamsEmpty_29 (by decide) ?_
      refine v_zret C dX11_allStreamsEmpty_30 ?_
      exact hend (Or.inl ⟨rfl, fun j hj => hz0 j (by omega)⟩)
    · skip
      have hsi := (hfst i h4).1
      have hni := hn15 i h4
      unfold N15 at hni
      refine v_aload_n C dX11_allStreamsEmpty_7 rfl ?_
      refine gf_X11_33 C dX11_allStreamsEmpty_8 (by assumption) ?_
      refine v_iload_n C dX11_allStreamsEmpty_11 rfl ?_
      refine v_aald (v := some (ga E (sId i))) C dX11_allStreamsEmpty_12 hf4 rfl (by omega) (by omega) rfl ?_
      show V _ _ _ _ _ _ _ _ _ _ (.ref (ga E (sId i)) :: _)
      refine gf_X11_91 C dX11_allStreamsEmpty_13 (by assumption) ?_
      refine v_lconst (v := lN 0) C dX11_allStreamsEmpty_16 (by decide) ?_
      refine v_lcmpn_le C 23 dX11_allStreamsEmpty_17 dX11_allStreamsEmpty_18 (by decide) (by omega) (by omega) (fun h17 => ?_) (fun h17 => ?_)
      · skip
        first | refine v_iinc_1 C dX11_allStreamsEmpty_23 (nI_1 _) (by decide) (by first | rfl | assumption) ?_ | refine v_iinc_1 C dX11_allStreamsEmpty_23 rfl (by decide) (by first | rfl | assumption) ?_
        refine v_goto C 2 dX11_allStreamsEmpty_26 (by decide) ?_
        refine ih (i + 1) (by omega) (by omega) (fun j hj => ?_)
        rcases Nat.lt_or_ge j i with q | q
        · exact hz0 j q
        · have e9 : j = i := by omega
          rw [e9]; omega
      · skip
        refine v_iconst (v := bI false) C dX11_allStreamsEmpty_21 (by decide) ?_
        refine v_zret C dX11_allStreamsEmpty_22 ?_
        exact hend (Or.inr ⟨rfl, i, h4, h17⟩)
set_option maxHeartbeats 4000000 in
set_option maxRecDepth 100000 in
theorem c_FS_empty (l : Launch) (E : Ev) (z : Option Nat) {G : Gh} {P W R lim : Nat} {A B : Nat → Nat} {Z : Nat → Str} {rk : Rnk} (hn15 : ∀ k, k < 4 → zN (Z k) ≤ N15) (hfs : isFS E G P W R lim A B Z rk) : K_X11_allStreamsEmpty l E z G [.ref (ga E 0)] (fun r G2 => ((r = true ∧ ∀ j, j < 4 → zN (Z j) = 0) ∨ (r = false ∧ ∃ j, j < 4 ∧ 0 < zN (Z j))) ∧ G = G2) := by
  refine Fc.of rfl [some (.ref (ga E 0)), none] 1 rfl (Nat.le_of_ble_eq_true rfl) ?_
  intro M hM0 hini C
  subst hM0
  obtain ⟨hf0, hF, hf4, hfst, hfr0, hlim⟩ := id hfs
  have hrg := hfs.rng
  refine v_iconst (v := nI 0) C dX11_allStreamsEmpty_0 (by decide) ?_
  refine v_istore_1 C dX11_allStreamsEmpty_1 (by decide) (by first | rfl | assumption) ?_
  exact ase_loop C hn15 hfs (fun h => ⟨h, rfl⟩) 5 0 (by omega) (by omega) (fun j h => absurd h (Nat.not_lt_zero j))

def zEmp (Z : Nat → Str) : Bool := decide (zN (Z 0) = 0 ∧ zN (Z 1) = 0 ∧ zN (Z 2) = 0 ∧ zN (Z 3) = 0)
def oPairOk (P R : Nat) (Z : Nat → Str) (x1 x2 x3 : Int32) : Bool := iin x1 R && ipr x2 x3 P && zEmp Z
def oPairA (P R : Nat) (A : Nat → Nat) (Z : Nat → Str) (x1 x2 x3 : Int32) (y : Int32) : Nat → Nat := if oPairOk P R Z x1 x2 x3 = true then fu A (ix x1) (ix y) else A
theorem ipr_of {a c : Int32} {P : Nat} (h : ipr a c P = true) (hP : P < 2 ^ 31) : ∃ i j, 1 ≤ i ∧ i < P ∧ j < P ∧ a = nI i ∧ c = nI j := by
  unfold ipr at h
  have h := of_decide_eq_true h
  refine ⟨a.toInt.toNat, c.toInt.toNat, by omega, by omega, by omega, Int32.toInt_inj.mp ?_, Int32.toInt_inj.mp ?_⟩
  · rw [nI_toInt (by omega)]; omega
  · rw [nI_toInt (by omega)]; omega
set_option maxHeartbeats 4000000 in
set_option maxRecDepth 100000 in
theorem c_FS_pair (l : Launch) (E : Ev) (z : Option Nat) {G : Gh} {P W R lim : Nat} {A B : Nat → Nat} {Z : Nat → Str} {rk : Rnk} {x1 x2 x3 : Int32} (hn15 : ∀ k, k < 4 → zN (Z k) ≤ N15) (hfs : isFS E G P W R lim A B Z rk) : K_X11_pair l E z G [.ref (ga E 0), .int x1, .int x2, .int x3] (fun r G2 => r = oPairOk P R Z x1 x2 x3 ∧ isFS E G2 P W R lim (oPairA P R A Z x1 x2 x3 x2) (oPairA P R B Z x1 x2 x3 x3) Z rk ∧ ∀ j, 104 ≤ j → G2 j = G j) := by
  refine Fc.of rfl [some (.ref (ga E 0)), some (.int x1), some (.int x2), some (.int x3)] 0 rfl (Nat.le_of_ble_eq_true rfl) ?_
  intro M hM0 hini C
  subst hM0
  obtain ⟨hf0, hF, hf4, hfst, hfr0, hlim⟩ := id hfs
  have hrg := hfs.rng
  cases hi1 : iin x1 R with
  | false =>
    refine v_aload_n C dX11_pair_0 rfl ?_
    refine gf_X11_23 C dX11_pair_1 (by assumption) ?_
    refine v_iload_n C dX11_pair_4 rfl ?_
    refine mc_X11_64 C dX11_pair_5 (hF.rc) (c_Fam_isRow2 _ E z hF) rfl (fun r5 G5 hp5 => ?_)
    obtain ⟨hr5, rfl⟩ := hp5
    rw [hi1] at hr5
    subst hr5
    first | refine v_ifb_eq C 30 dX11_pair_8 (by decide) (fun h8 => ?_) (fun h8 => by exfalso; first | omega | exact absurd h8 (by decide) | (have h9 := of_decide_eq_true h8; omega) | (have h9 := of_decide_eq_false h8; omega) | contradiction | simp_all) | refine v_ifn_eq C 30 dX11_pair_8 (by decide) (by omega) (fun h8 => ?_) (fun h8 => by exfalso; first | omega | exact absurd h8 (by decide) | (have h9 := of_decide_eq_true h8; omega) | (have h9 := of_decide_eq_false h8; omega) | contradiction | simp_all) | refine v_if_eq C 30 dX11_pair_8 (by decide) (fun h8 => ?_) (fun h8 => by exfalso; first | omega | exact absurd h8 (by decide) | (have h9 := of_decide_eq_true h8; omega) | (have h9 := of_decide_eq_false h8; omega) | contradiction | simp_all)
    refine v_iconst (v := bI false) C dX11_pair_30 (by decide) ?_
    refine v_zret C dX11_pair_31 ?_
    have hok9 : oPairOk P R Z x1 x2 x3 = false := by
      unfold oPairOk
      rw [hi1]; rfl
    unfold oPairA
    rw [hok9]
    exact ⟨rfl, hfs, fun _ _ => rfl⟩
  | true =>
    obtain ⟨row, hrow, rfl⟩ := iin_of hi1 (by omega)
    have hrx : ix (nI row) = row := ix_nI (by omega)
    cases hi2 : ipr x2 x3 P with
    | false =>
      refine v_aload_n C dX11_pair_0 rfl ?_
      refine gf_X11_23 C dX11_pair_1 (by assumption) ?_
      refine v_iload_n C dX11_pair_4 rfl ?_
      refine mc_X11_64 C dX11_pair_5 (hF.rc) (c_Fam_isRow2 _ E z hF) rfl (fun r5 G5 hp5 => ?_)
      obtain ⟨hr5, rfl⟩ := hp5
      rw [hi1] at hr5
      subst hr5
      first | refine v_ifb_eq C 30 dX11_pair_8 (by decide) (fun h8 => by exfalso; first | omega | exact absurd h8 (by decide) | (have h9 := of_decide_eq_true h8; omega) | (have h9 := of_decide_eq_false h8; omega) | contradiction | simp_all) (fun h8 => ?_) | refine v_ifn_eq C 30 dX11_pair_8 (by decide) (by omega) (fun h8 => by exfalso; first | omega | exact absurd h8 (by decide) | (have h9 := of_decide_eq_true h8; omega) | (have h9 := of_decide_eq_false h8; omega) | contradiction | simp_all) (fun h8 => ?_) | refine v_if_eq C 30 dX11_pair_8 (by decide) (fun h8 => by exfalso; first | omega | exact absurd h8 (by decide) | (have h9 := of_decide_eq_true h8; omega) | (have h9 := of_decide_eq_false h8; omega) | contradiction | simp_all) (fun h8 => ?_)
      refine v_aload_n C dX11_pair_11 rfl ?_
      refine gf_X11_23 C dX11_pair_12 (by assumption) ?_
      refine v_iload_n C dX11_pair_15 rfl ?_
      refine v_iload_n C dX11_pair_16 rfl ?_
      refine mc_X11_68 C dX11_pair_17 (hF.rc) (c_Fam_isPair2 _ E z hF) rfl (fun r17 G17 hp17 => ?_)
      obtain ⟨hr17, rfl⟩ := hp17
      rw [hi2] at hr17
      subst hr17
      first | refine v_ifb_eq C 30 dX11_pair_20 (by decide) (fun h20 => ?_) (fun h20 => by exfalso; first | omega | exact absurd h20 (by decide) | (have h9 := of_decide_eq_true h20; omega) | (have h9 := of_decide_eq_false h20; omega) | contradiction | simp_all) | refine v_ifn_eq C 30 dX11_pair_20 (by decide) (by omega) (fun h20 => ?_) (fun h20 => by exfalso; first | omega | exact absurd h20 (by decide) | (have h9 := of_decide_eq_true h20; omega) | (have h9 := of_decide_eq_false h20; omega) | contradiction | simp_all) | refine v_if_eq C 30 dX11_pair_20 (by decide) (fun h20 => ?_) (fun h20 => by exfalso; first | omega | exact absurd h20 (by decide) | (have h9 := of_decide_eq_true h20; omega) | (have h9 := of_decide_eq_false h20; omega) | contradiction | simp_all)
      refine v_iconst (v := bI false) C dX11_pair_30 (by decide) ?_
      refine v_zret C dX11_pair_31 ?_
      have hok9 : oPairOk P R Z (nI row) x2 x3 = false := by
        unfold oPairOk
        rw [hi1, hi2]; rfl
      unfold oPairA
      rw [hok9]
      exact ⟨rfl, hfs, fun _ _ => rfl⟩
    | true =>
      obtain ⟨pa, pb, hpa1, hpa, hpb, rfl, rfl⟩ := ipr_of hi2 (by omega)
      have hax : ix (nI pa) = pa := ix_nI (by omega)
      have hbx : ix (nI pb) = pb := ix_nI (by omega)
      refine v_aload_n C dX11_pair_0 rfl ?_
      refine gf_X11_23 C dX11_pair_1 (by assumption) ?_
      refine v_iload_n C dX11_pair_4 rfl ?_
      refine mc_X11_64 C dX11_pair_5 (hF.rc) (c_Fam_isRow2 _ E z hF) rfl (fun r5 G5 hp5 => ?_)
      obtain ⟨hr5, rfl⟩ := hp5
      rw [hi1] at hr5
      subst hr5
      first | refine v_ifb_eq C 30 dX11_pair_8 (by decide) (fun h8 => by exfalso; first | omega | exact absurd h8 (by decide) | (have h9 := of_decide_eq_true h8; omega) | (have h9 := of_decide_eq_false h8; omega) | contradiction | simp_all) (fun h8 => ?_) | refine v_ifn_eq C 30 dX11_pair_8 (by decide) (by omega) (fun h8 => by exfalso; first | omega | exact absurd h8 (by decide) | (have h9 := of_decide_eq_true h8; omega) | (have h9 := of_decide_eq_false h8; omega) | contradiction | simp_all) (fun h8 => ?_) | refine v_if_eq C 30 dX11_pair_8 (by decide) (fun h8 => by exfalso; first | omega | exact absurd h8 (by decide) | (have h9 := of_decide_eq_true h8; omega) | (have h9 := of_decide_eq_false h8; omega) | contradiction | simp_all) (fun h8 => ?_)
      refine v_aload_n C dX11_pair_11 rfl ?_
      refine gf_X11_23 C dX11_pair_12 (by assumption) ?_
      refine v_iload_n C dX11_pair_15 rfl ?_
      refine v_iload_n C dX11_pair_16 rfl ?_
      refine mc_X11_68 C dX11_pair_17 (hF.rc) (c_Fam_isPair2 _ E z hF) rfl (fun r17 G17 hp17 => ?_)
      obtain ⟨hr17, rfl⟩ := hp17
      rw [hi2] at hr17
      subst hr17
      first | refine v_ifb_eq C 30 dX11_pair_20 (by decide) (fun h20 => by exfalso; first | omega | exact absurd h20 (by decide) | (have h9 := of_decide_eq_true h20; omega) | (have h9 := of_decide_eq_false h20; omega) | contradiction | simp_all) (fun h20 => ?_) | refine v_ifn_eq C 30 dX11_pair_20 (by decide) (by omega) (fun h20 => by exfalso; first | omega | exact absurd h20 (by decide) | (have h9 := of_decide_eq_true h20; omega) | (have h9 := of_decide_eq_false h20; omega) | contradiction | simp_all) (fun h20 => ?_) | refine v_if_eq C 30 dX11_pair_20 (by decide) (fun h20 => by exfalso; first | omega | exact absurd h20 (by decide) | (have h9 := of_decide_eq_true h20; omega) | (have h9 := of_decide_eq_false h20; omega) | contradiction | simp_all) (fun h20 => ?_)
      refine v_aload_n C dX11_pair_23 rfl ?_
      refine mc_X11_72 C dX11_pair_24 (by assumption) (c_FS_empty _ E z hn15 hfs) rfl (fun r24 G24 hp24 => ?_)
      obtain ⟨hv24, rfl⟩ := hp24
      first | refine v_ifb_ne C 32 dX11_pair_27 (by decide) (fun h27 => ?_) (fun h27 => ?_) | refine v_ifn_ne C 32 dX11_pair_27 (by decide) (by omega) (fun h27 => ?_) (fun h27 => ?_) | refine v_if_ne C 32 dX11_pair_27 (by decide) (fun h27 => ?_) (fun h27 => ?_)
      · skip
        refine v_aload_n C dX11_pair_32 rfl ?_
        refine gf_X11_23 C dX11_pair_33 (by assumption) ?_
        refine v_iload_n C dX11_pair_36 rfl ?_
        refine v_iload_n C dX11_pair_37 rfl ?_
        refine v_iload_n C dX11_pair_38 rfl ?_
        refine mc_X11_76 C dX11_pair_39 (hF.rc) (c_Fam_setPair _ E z hrow hpa hpb hF) rfl (fun r39 G39 hp39 => ?_)
        obtain ⟨hF39, hfr39⟩ := hp39
        refine v_iconst (v := bI true) C dX11_pair_42 (by decide) ?_
        refine v_zret C dX11_pair_43 ?_
        have hz9 : zEmp Z = true := by
          rcases hv24 with ⟨q1, q2⟩ | ⟨q1, q2⟩
          · unfold zEmp
            exact decide_eq_true ⟨q2 0 (by decide), q2 1 (by decide), q2 2 (by decide), q2 3 (by decide)⟩
          · rw [q1] at h27; cases h27
        have hok9 : oPairOk P R Z (nI row) (nI pa) (nI pb) = true := by unfold oPairOk; rw [hi1, hi2, hz9]; rfl
        unfold oPairA
        rw [hok9, if_pos rfl, if_pos rfl, hrx, hax, hbx]
        refine ⟨rfl, ⟨(hfr39 _ (by omega)).trans hf0, hF39, (hfr39 _ (by omega)).trans hf4, fun q hq => (hfst q hq).keep (fun j a b => hfr39 j ?_), hfr0.keep (fun j a b => hfr39 j (by omega)), hlim⟩, fun j hj => hfr39 j (by omega)⟩
        unfold sId at a
        omega
      · skip
        refine v_iconst (v := bI false) C dX11_pair_30 (by decide) ?_
        refine v_zret C dX11_pair_31 ?_
        have hok9 : oPairOk P R Z (nI row) (nI pa) (nI pb) = false := by
          unfold oPairOk
          rw [hi1, hi2]
          rcases hv24 with ⟨q1, q2⟩ | ⟨q1, j, q2, q3⟩
          · rw [q1] at h27; cases h27
          · have hz9 : zEmp Z = false := by
              unfold zEmp
              refine decide_eq_false (fun hh => ?_)
              rcases (show j = 0 ∨ j = 1 ∨ j = 2 ∨ j = 3 by omega) with rfl | rfl | rfl | rfl <;> omega
            rw [hz9]; rfl
        unfold oPairA
        rw [hok9]
        exact ⟨rfl, hfs, fun _ _ => rfl⟩

