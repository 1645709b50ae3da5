theorem ipr_eq {a c : Int32} {P : Nat} (hP : 2 ≤ P) : ipr a c P = (itm a (P - 1) && iin c P) := by
  unfold ipr itm iin
  rw [← Bool.decide_and]
  apply decide_eq_decide.mpr
  omega
theorem zEmp_no {Y : Nat → Str} {k : Nat} (hk : k < 4) (h : zN (Y k) ≠ 0) : zEmp Y = false := by
  unfold zEmp
  apply decide_eq_false
  intro h9
  rcases (show k = 0 ∨ k = 1 ∨ k = 2 ∨ k = 3 by omega) with rfl | rfl | rfl | rfl
  · exact h h9.1
  · exact h h9.2.1
  · exact h h9.2.2.1
  · exact h h9.2.2.2

set_option maxHeartbeats 4000000 in
set_option maxRecDepth 100000 in
theorem mpair_tail {M : Mx} {E : Ev} {z : Option Nat} (C : Cx M E yX12_pair.cls cX12_pair 5 (some .boolean) 1 22 0 0) {post : Bool → Gh → Prop} {G : Gh} {P W R lim rq po : Nat} {A B : Nat → Nat} {Y : Nat → Str} {x1 x2 x3 : Int32} {em : Bool} (hem : zEmp Y = em) (hd : isMd E G P W R lim rq po A B Y) (hend : ∀ {r : Bool} {G2 : Gh}, (r = oPairOk P R Y x1 x2 x3 ∧ isMd E G2 P W R lim rq po (oPairA P R A Y x1 x2 x3 x2) (oPairA P R B Y x1 x2 x3 x3) Y ∧ ∀ j, j ≠ 105 ∧ j ≠ 106 → G2 j = G j) → post r G2) : V M E 5 (QE M E (fun r : Bool => some (.int (bI r))) z 0 0 post) z 0 0 G 51 [some (.ref (ga E 104)), some (.int x1), some (.int x2), some (.int x3), some (.int (bI em))] [] := by
  obtain ⟨hm, ⟨ft, h7, hft⟩, ⟨fp, hp, hip⟩, ⟨fq, hq, hiq⟩, hMm, hMs, hMc⟩ := id hd
  replace hft : ∀ q, q < 4 → ft q = lN (zN (Y q)) := hft
  replace hip : ∀ q r c, q < 4 → r < R → c < W → fp (2048 * q + 256 * r + c) = lN (zP (Y q) r c) := hip
  replace hiq : ∀ q r c, q < 4 → r < R → c < W → fq (2048 * q + 256 * r + c) = lN (zC (Y q) r c) := hiq
  obtain ⟨fa, fb, ho, k5, k6, hfa, hfb, hrg, hlim, hab⟩ := id hm
  cases hi1 : iin x1 R with
  | false =>
    refine v_iload_n C dX12_pair_51 rfl ?_
    refine v_iconst (v := nI 0) C dX12_pair_52 (by decide) ?_
    refine v_aload_n C dX12_pair_53 rfl ?_
    refine gf_X12_94 C dX12_pair_54 (by assumption) ?_
    refine v_iconst (v := nI 1) C dX12_pair_57 (by decide) ?_
    first | refine v_isubn C dX12_pair_58 (by omega) ?_ | refine v_isub C dX12_pair_58 ?_
    refine mc_X12_101 C dX12_pair_59 (c_Mo_in _ E z) rfl (fun r59 G59 hp59 => ?_)
    obtain ⟨hr59, rfl⟩ := hp59
    rw [inn_iin (n := R) (by omega) (by omega), hi1] at hr59
    subst hr59
    first | refine v_ifb_eq C 98 dX12_pair_62 (by decide) (fun h62 => ?_) (fun h62 => by exfalso; first | omega | exact absurd h62 (by decide) | (have h9 := of_decide_eq_true h62; omega) | (have h9 := of_decide_eq_false h62; omega) | contradiction | simp_all) | refine v_ifn_eq C 98 dX12_pair_62 (by decide) (by omega) (fun h62 => ?_) (fun h62 => by exfalso; first | omega | exact absurd h62 (by decide) | (have h9 := of_decide_eq_true h62; omega) | (have h9 := of_decide_eq_false h62; omega) | contradiction | simp_all) | refine v_if_eq C 98 dX12_pair_62 (by decide) (fun h62 => ?_) (fun h62 => by exfalso; first | omega | exact absurd h62 (by decide) | (have h9 := of_decide_eq_true h62; omega) | (have h9 := of_decide_eq_false h62; omega) | contradiction | simp_all)
    refine v_iconst (v := bI false) C dX12_pair_98 (by decide) ?_
    refine v_zret C dX12_pair_99 ?_
    have e8 : oPairOk P R Y x1 x2 x3 = false := by unfold oPairOk; rw [ipr_eq hrg.1, hi1]; simp
    refine hend ⟨e8.symm, ?_, fun _ _ => rfl⟩
    unfold oPairA
    rw [e8]
    exact hd
  | true =>
    obtain ⟨r, hr1, rfl⟩ := iin_of hi1 (by omega)
    have hrx : ix (nI r) = r := ix_nI (by omega)
    cases hi2 : itm x2 (P - 1) with
    | false =>
      refine v_iload_n C dX12_pair_51 rfl ?_
      refine v_iconst (v := nI 0) C dX12_pair_52 (by decide) ?_
      refine v_aload_n C dX12_pair_53 rfl ?_
      refine gf_X12_94 C dX12_pair_54 (by assumption) ?_
      refine v_iconst (v := nI 1) C dX12_pair_57 (by decide) ?_
      first | refine v_isubn C dX12_pair_58 (by omega) ?_ | refine v_isub C dX12_pair_58 ?_
      refine mc_X12_101 C dX12_pair_59 (c_Mo_in _ E z) rfl (fun r59 G59 hp59 => ?_)
      obtain ⟨hr59, rfl⟩ := hp59
      rw [inn_iin (n := R) (by omega) (by omega), hi1] at hr59
      subst hr59
      first | refine v_ifb_eq C 98 dX12_pair_62 (by decide) (fun h62 => by exfalso; first | omega | exact absurd h62 (by decide) | (have h9 := of_decide_eq_true h62; omega) | (have h9 := of_decide_eq_false h62; omega) | contradiction | simp_all) (fun h62 => ?_) | refine v_ifn_eq C 98 dX12_pair_62 (by decide) (by omega) (fun h62 => by exfalso; first | omega | exact absurd h62 (by decide) | (have h9 := of_decide_eq_true h62; omega) | (have h9 := of_decide_eq_false h62; omega) | contradiction | simp_all) (fun h62 => ?_) | refine v_if_eq C 98 dX12_pair_62 (by decide) (fun h62 => by exfalso; first | omega | exact absurd h62 (by decide) | (have h9 := of_decide_eq_true h62; omega) | (have h9 := of_decide_eq_false h62; omega) | contradiction | simp_all) (fun h62 => ?_)
      refine v_iload_n C dX12_pair_65 rfl ?_
      refine v_iconst (v := nI 1) C dX12_pair_66 (by decide) ?_
      refine v_aload_n C dX12_pair_67 rfl ?_
      refine gf_X12_87 C dX12_pair_68 (by assumption) ?_
      refine v_iconst (v := nI 1) C dX12_pair_71 (by decide) ?_
      first | refine v_isubn C dX12_pair_72 (by omega) ?_ | refine v_isub C dX12_pair_72 ?_
      refine mc_X12_101 C dX12_pair_73 (c_Mo_in _ E z) rfl (fun r73 G73 hp73 => ?_)
      obtain ⟨hr73, rfl⟩ := hp73
      rw [inn_itm (n := P - 1) (by omega), hi2] at hr73
      subst hr73
      first | refine v_ifb_eq C 98 dX12_pair_76 (by decide) (fun h76 => ?_) (fun h76 => by exfalso; first | omega | exact absurd h76 (by decide) | (have h9 := of_decide_eq_true h76; omega) | (have h9 := of_decide_eq_false h76; omega) | contradiction | simp_all) | refine v_ifn_eq C 98 dX12_pair_76 (by decide) (by omega) (fun h76 => ?_) (fun h76 => by exfalso; first | omega | exact absurd h76 (by decide) | (have h9 := of_decide_eq_true h76; omega) | (have h9 := of_decide_eq_false h76; omega) | contradiction | simp_all) | refine v_if_eq C 98 dX12_pair_76 (by decide) (fun h76 => ?_) (fun h76 => by exfalso; first | omega | exact absurd h76 (by decide) | (have h9 := of_decide_eq_true h76; omega) | (have h9 := of_decide_eq_false h76; omega) | contradiction | simp_all)
      refine v_iconst (v := bI false) C dX12_pair_98 (by decide) ?_
      refine v_zret C dX12_pair_99 ?_
      have e8 : oPairOk P R Y (nI r) x2 x3 = false := by unfold oPairOk; rw [ipr_eq hrg.1, hi1, hi2]; simp
      refine hend ⟨e8.symm, ?_, fun _ _ => rfl⟩
      unfold oPairA
      rw [e8]
      exact hd
    | true =>
      obtain ⟨a, ha1, ha2, rfl⟩ := itm_of hi2 (by omega)
      have hax : ix (nI a) = a := ix_nI (by omega)
      cases hi3 : iin x3 P with
      | false =>
        refine v_iload_n C dX12_pair_51 rfl ?_
        refine v_iconst (v := nI 0) C dX12_pair_52 (by decide) ?_
        refine v_aload_n C dX12_pair_53 rfl ?_
        refine gf_X12_94 C dX12_pair_54 (by assumption) ?_
        refine v_iconst (v := nI 1) C dX12_pair_57 (by decide) ?_
        first | refine v_isubn C dX12_pair_58 (by omega) ?_ | refine v_isub C dX12_pair_58 ?_
        refine mc_X12_101 C dX12_pair_59 (c_Mo_in _ E z) rfl (fun r59 G59 hp59 => ?_)
        obtain ⟨hr59, rfl⟩ := hp59
        rw [inn_iin (n := R) (by omega) (by omega), hi1] at hr59
        subst hr59
        first | refine v_ifb_eq C 98 dX12_pair_62 (by decide) (fun h62 => by exfalso; first | omega | exact absurd h62 (by decide) | (have h9 := of_decide_eq_true h62; omega) | (have h9 := of_decide_eq_false h62; omega) | contradiction | simp_all) (fun h62 => ?_) | refine v_ifn_eq C 98 dX12_pair_62 (by decide) (by omega) (fun h62 => by exfalso; first | omega | exact absurd h62 (by decide) | (have h9 := of_decide_eq_true h62; omega) | (have h9 := of_decide_eq_false h62; omega) | contradiction | simp_all) (fun h62 => ?_) | refine v_if_eq C 98 dX12_pair_62 (by decide) (fun h62 => by exfalso; first | omega | exact absurd h62 (by decide) | (have h9 := of_decide_eq_true h62; omega) | (have h9 := of_decide_eq_false h62; omega) | contradiction | simp_all) (fun h62 => ?_)
        refine v_iload_n C dX12_pair_65 rfl ?_
        refine v_iconst (v := nI 1) C dX12_pair_66 (by decide) ?_
        refine v_aload_n C dX12_pair_67 rfl ?_
        refine gf_X12_87 C dX12_pair_68 (by assumption) ?_
        refine v_iconst (v := nI 1) C dX12_pair_71 (by decide) ?_
        first | refine v_isubn C dX12_pair_72 (by omega) ?_ | refine v_isub C dX12_pair_72 ?_
        refine mc_X12_101 C dX12_pair_73 (c_Mo_in _ E z) rfl (fun r73 G73 hp73 => ?_)
        obtain ⟨hr73, rfl⟩ := hp73
        rw [inn_itm (n := P - 1) (by omega), hi2] at hr73
        subst hr73
        first | refine v_ifb_eq C 98 dX12_pair_76 (by decide) (fun h76 => by exfalso; first | omega | exact absurd h76 (by decide) | (have h9 := of_decide_eq_true h76; omega) | (have h9 := of_decide_eq_false h76; omega) | contradiction | simp_all) (fun h76 => ?_) | refine v_ifn_eq C 98 dX12_pair_76 (by decide) (by omega) (fun h76 => by exfalso; first | omega | exact absurd h76 (by decide) | (have h9 := of_decide_eq_true h76; omega) | (have h9 := of_decide_eq_false h76; omega) | contradiction | simp_all) (fun h76 => ?_) | refine v_if_eq C 98 dX12_pair_76 (by decide) (fun h76 => by exfalso; first | omega | exact absurd h76 (by decide) | (have h9 := of_decide_eq_true h76; omega) | (have h9 := of_decide_eq_false h76; omega) | contradiction | simp_all) (fun h76 => ?_)
        refine v_iload_n C dX12_pair_79 rfl ?_
        refine v_iconst (v := nI 0) C dX12_pair_80 (by decide) ?_
        refine v_aload_n C dX12_pair_81 rfl ?_
        refine gf_X12_87 C dX12_pair_82 (by assumption) ?_
        refine v_iconst (v := nI 1) C dX12_pair_85 (by decide) ?_
        first | refine v_isubn C dX12_pair_86 (by omega) ?_ | refine v_isub C dX12_pair_86 ?_
        refine mc_X12_101 C dX12_pair_87 (c_Mo_in _ E z) rfl (fun r87 G87 hp87 => ?_)
        obtain ⟨hr87, rfl⟩ := hp87
        rw [inn_iin (n := P) (by omega) (by omega), hi3] at hr87
        subst hr87
        first | refine v_ifb_eq C 98 dX12_pair_90 (by decide) (fun h90 => ?_) (fun h90 => by exfalso; first | omega | exact absurd h90 (by decide) | (have h9 := of_decide_eq_true h90; omega) | (have h9 := of_decide_eq_false h90; omega) | contradiction | simp_all) | refine v_ifn_eq C 98 dX12_pair_90 (by decide) (by omega) (fun h90 => ?_) (fun h90 => by exfalso; first | omega | exact absurd h90 (by decide) | (have h9 := of_decide_eq_true h90; omega) | (have h9 := of_decide_eq_false h90; omega) | contradiction | simp_all) | refine v_if_eq C 98 dX12_pair_90 (by decide) (fun h90 => ?_) (fun h90 => by exfalso; first | omega | exact absurd h90 (by decide) | (have h9 := of_decide_eq_true h90; omega) | (have h9 := of_decide_eq_false h90; omega) | contradiction | simp_all)
        refine v_iconst (v := bI false) C dX12_pair_98 (by decide) ?_
        refine v_zret C dX12_pair_99 ?_
        have e8 : oPairOk P R Y (nI r) (nI a) x3 = false := by unfold oPairOk; rw [ipr_eq hrg.1, hi1, hi2, hi3]; simp
        refine hend ⟨e8.symm, ?_, fun _ _ => rfl⟩
        unfold oPairA
        rw [e8]
        exact hd
      | true =>
        obtain ⟨b, hb1, rfl⟩ := iin_of hi3 (by omega)
        have hbx : ix (nI b) = b := ix_nI (by omega)
        cases hi4 : em with
        | false =>
          rw [hi4] at hem
          refine v_iload_n C dX12_pair_51 rfl ?_
          refine v_iconst (v := nI 0) C dX12_pair_52 (by decide) ?_
          refine v_aload_n C dX12_pair_53 rfl ?_
          refine gf_X12_94 C dX12_pair_54 (by assumption) ?_
          refine v_iconst (v := nI 1) C dX12_pair_57 (by decide) ?_
          first | refine v_isubn C dX12_pair_58 (by omega) ?_ | refine v_isub C dX12_pair_58 ?_
          refine mc_X12_101 C dX12_pair_59 (c_Mo_in _ E z) rfl (fun r59 G59 hp59 => ?_)
          obtain ⟨hr59, rfl⟩ := hp59
          rw [inn_iin (n := R) (by omega) (by omega), hi1] at hr59
          subst hr59
          first | refine v_ifb_eq C 98 dX12_pair_62 (by decide) (fun h62 => by exfalso; first | omega | exact absurd h62 (by decide) | (have h9 := of_decide_eq_true h62; omega) | (have h9 := of_decide_eq_false h62; omega) | contradiction | simp_all) (fun h62 => ?_) | refine v_ifn_eq C 98 dX12_pair_62 (by decide) (by omega) (fun h62 => by exfalso; first | omega | exact absurd h62 (by decide) | (have h9 := of_decide_eq_true h62; omega) | (have h9 := of_decide_eq_false h62; omega) | contradiction | simp_all) (fun h62 => ?_) | refine v_if_eq C 98 dX12_pair_62 (by decide) (fun h62 => by exfalso; first | omega | exact absurd h62 (by decide) | (have h9 := of_decide_eq_true h62; omega) | (have h9 := of_decide_eq_false h62; omega) | contradiction | simp_all) (fun h62 => ?_)
          refine v_iload_n C dX12_pair_65 rfl ?_
          refine v_iconst (v := nI 1) C dX12_pair_66 (by decide) ?_
          refine v_aload_n C dX12_pair_67 rfl ?_
          refine gf_X12_87 C dX12_pair_68 (by assumption) ?_
          refine v_iconst (v := nI 1) C dX12_pair_71 (by decide) ?_
          first | refine v_isubn C dX12_pair_72 (by omega) ?_ | refine v_isub C dX12_pair_72 ?_
          refine mc_X12_101 C dX12_pair_73 (c_Mo_in _ E z) rfl (fun r73 G73 hp73 => ?_)
          obtain ⟨hr73, rfl⟩ := hp73
          rw [inn_itm (n := P - 1) (by omega), hi2] at hr73
          subst hr73
          first | refine v_ifb_eq C 98 dX12_pair_76 (by decide) (fun h76 => by exfalso; first | omega | exact absurd h76 (by decide) | (have h9 := of_decide_eq_true h76; omega) | (have h9 := of_decide_eq_false h76; omega) | contradiction | simp_all) (fun h76 => ?_) | refine v_ifn_eq C 98 dX12_pair_76 (by decide) (by omega) (fun h76 => by exfalso; first | omega | exact absurd h76 (by decide) | (have h9 := of_decide_eq_true h76; omega) | (have h9 := of_decide_eq_false h76; omega) | contradiction | simp_all) (fun h76 => ?_) | refine v_if_eq C 98 dX12_pair_76 (by decide) (fun h76 => by exfalso; first | omega | exact absurd h76 (by decide) | (have h9 := of_decide_eq_true h76; omega) | (have h9 := of_decide_eq_false h76; omega) | contradiction | simp_all) (fun h76 => ?_)
          refine v_iload_n C dX12_pair_79 rfl ?_
          refine v_iconst (v := nI 0) C dX12_pair_80 (by decide) ?_
          refine v_aload_n C dX12_pair_81 rfl ?_
          refine gf_X12_87 C dX12_pair_82 (by assumption) ?_
          refine v_iconst (v := nI 1) C dX12_pair_85 (by decide) ?_
          first | refine v_isubn C dX12_pair_86 (by omega) ?_ | refine v_isub C dX12_pair_86 ?_
          refine mc_X12_101 C dX12_pair_87 (c_Mo_in _ E z) rfl (fun r87 G87 hp87 => ?_)
          obtain ⟨hr87, rfl⟩ := hp87
          rw [inn_iin (n := P) (by omega) (by omega), hi3] at hr87
          subst hr87
          first | refine v_ifb_eq C 98 dX12_pair_90 (by decide) (fun h90 => by exfalso; first | omega | exact absurd h90 (by decide) | (have h9 := of_decide_eq_true h90; omega) | (have h9 := of_decide_eq_false h90; omega) | contradiction | simp_all) (fun h90 => ?_) | refine v_ifn_eq C 98 dX12_pair_90 (by decide) (by omega) (fun h90 => by exfalso; first | omega | exact absurd h90 (by decide) | (have h9 := of_decide_eq_true h90; omega) | (have h9 := of_decide_eq_false h90; omega) | contradiction | simp_all) (fun h90 => ?_) | refine v_if_eq C 98 dX12_pair_90 (by decide) (fun h90 => by exfalso; first | omega | exact absurd h90 (by decide) | (have h9 := of_decide_eq_true h90; omega) | (have h9 := of_decide_eq_false h90; omega) | contradiction | simp_all) (fun h90 => ?_)
          refine v_iload C dX12_pair_93 rfl ?_
          first | refine v_ifb_ne C 100 dX12_pair_95 (by decide) (fun h95 => by exfalso; first | omega | exact absurd h95 (by decide) | (have h9 := of_decide_eq_true h95; omega) | (have h9 := of_decide_eq_false h95; omega) | contradiction | simp_all) (fun h95 => ?_) | refine v_ifn_ne C 100 dX12_pair_95 (by decide) (by omega) (fun h95 => by exfalso; first | omega | exact absurd h95 (by decide) | (have h9 := of_decide_eq_true h95; omega) | (have h9 := of_decide_eq_false h95; omega) | contradiction | simp_all) (fun h95 => ?_) | refine v_if_ne C 100 dX12_pair_95 (by decide) (fun h95 => by exfalso; first | omega | exact absurd h95 (by decide) | (have h9 := of_decide_eq_true h95; omega) | (have h9 := of_decide_eq_false h95; omega) | contradiction | simp_all) (fun h95 => ?_)
          refine v_iconst (v := bI false) C dX12_pair_98 (by decide) ?_
          refine v_zret C dX12_pair_99 ?_
          have e8 : oPairOk P R Y (nI r) (nI a) (nI b) = false := by unfold oPairOk; rw [ipr_eq hrg.1, hi1, hi2, hi3, hem]; simp
          refine hend ⟨e8.symm, ?_, fun _ _ => rfl⟩
          unfold oPairA
          rw [e8]
          exact hd
        | true =>
          rw [hi4] at hem
          refine v_iload_n C dX12_pair_51 rfl ?_
          refine v_iconst (v := nI 0) C dX12_pair_52 (by decide) ?_
          refine v_aload_n C dX12_pair_53 rfl ?_
          refine gf_X12_94 C dX12_pair_54 (by assumption) ?_
          refine v_iconst (v := nI 1) C dX12_pair_57 (by decide) ?_
          first | refine v_isubn C dX12_pair_58 (by omega) ?_ | refine v_isub C dX12_pair_58 ?_
          refine mc_X12_101 C dX12_pair_59 (c_Mo_in _ E z) rfl (fun r59 G59 hp59 => ?_)
          obtain ⟨hr59, rfl⟩ := hp59
          rw [inn_iin (n := R) (by omega) (by omega), hi1] at hr59
          subst hr59
          first | refine v_ifb_eq C 98 dX12_pair_62 (by decide) (fun h62 => by exfalso; first | omega | exact absurd h62 (by decide) | (have h9 := of_decide_eq_true h62; omega) | (have h9 := of_decide_eq_false h62; omega) | contradiction | simp_all) (fun h62 => ?_) | refine v_ifn_eq C 98 dX12_pair_62 (by decide) (by omega) (fun h62 => by exfalso; first | omega | exact absurd h62 (by decide) | (have h9 := of_decide_eq_true h62; omega) | (have h9 := of_decide_eq_false h62; omega) | contradiction | simp_all) (fun h62 => ?_) | refine v_if_eq C 98 dX12_pair_62 (by decide) (fun h62 => by exfalso; first | omega | exact absurd h62 (by decide) | (have h9 := of_decide_eq_true h62; omega) | (have h9 := of_decide_eq_false h62; omega) | contradiction | simp_all) (fun h62 => ?_)
          refine v_iload_n C dX12_pair_65 rfl ?_
          refine v_iconst (v := nI 1) C dX12_pair_66 (by decide) ?_
          refine v_aload_n C dX12_pair_67 rfl ?_
          refine gf_X12_87 C dX12_pair_68 (by assumption) ?_
          refine v_iconst (v := nI 1) C dX12_pair_71 (by decide) ?_
          first | refine v_isubn C dX12_pair_72 (by omega) ?_ | refine v_isub C dX12_pair_72 ?_
          refine mc_X12_101 C dX12_pair_73 (c_Mo_in _ E z) rfl (fun r73 G73 hp73 => ?_)
          obtain ⟨hr73, rfl⟩ := hp73
          rw [inn_itm (n := P - 1) (by omega), hi2] at hr73
          subst hr73
          first | refine v_ifb_eq C 98 dX12_pair_76 (by decide) (fun h76 => by exfalso; first | omega | exact absurd h76 (by decide) | (have h9 := of_decide_eq_true h76; omega) | (have h9 := of_decide_eq_false h76; omega) | contradiction | simp_all) (fun h76 => ?_) | refine v_ifn_eq C 98 dX12_pair_76 (by decide) (by omega) (fun h76 => by exfalso; first | omega | exact absurd h76 (by decide) | (have h9 := of_decide_eq_true h76; omega) | (have h9 := of_decide_eq_false h76; omega) | contradiction | simp_all) (fun h76 => ?_) | refine v_if_eq C 98 dX12_pair_76 (by decide) (fun h76 => by exfalso; first | omega | exact absurd h76 (by decide) | (have h9 := of_decide_eq_true h76; omega) | (have h9 := of_decide_eq_false h76; omega) | contradiction | simp_all) (fun h76 => ?_)
          refine v_iload_n C dX12_pair_79 rfl ?_
          refine v_iconst (v := nI 0) C dX12_pair_80 (by decide) ?_
          refine v_aload_n C dX12_pair_81 rfl ?_
          refine gf_X12_87 C dX12_pair_82 (by assumption) ?_
          refine v_iconst (v := nI 1) C dX12_pair_85 (by decide) ?_
          first | refine v_isubn C dX12_pair_86 (by omega) ?_ | refine v_isub C dX12_pair_86 ?_
          refine mc_X12_101 C dX12_pair_87 (c_Mo_in _ E z) rfl (fun r87 G87 hp87 => ?_)
          obtain ⟨hr87, rfl⟩ := hp87
          rw [inn_iin (n := P) (by omega) (by omega), hi3] at hr87
          subst hr87
          first | refine v_ifb_eq C 98 dX12_pair_90 (by decide) (fun h90 => by exfalso; first | omega | exact absurd h90 (by decide) | (have h9 := of_decide_eq_true h90; omega) | (have h9 := of_decide_eq_false h90; omega) | contradiction | simp_all) (fun h90 => ?_) | refine v_ifn_eq C 98 dX12_pair_90 (by decide) (by omega) (fun h90 => by exfalso; first | omega | exact absurd h90 (by decide) | (have h9 := of_decide_eq_true h90; omega) | (have h9 := of_decide_eq_false h90; omega) | contradiction | simp_all) (fun h90 => ?_) | refine v_if_eq C 98 dX12_pair_90 (by decide) (fun h90 => by exfalso; first | omega | exact absurd h90 (by decide) | (have h9 := of_decide_eq_true h90; omega) | (have h9 := of_decide_eq_false h90; omega) | contradiction | simp_all) (fun h90 => ?_)
          refine v_iload C dX12_pair_93 rfl ?_
          first | refine v_ifb_ne C 100 dX12_pair_95 (by decide) (fun h95 => ?_) (fun h95 => by exfalso; first | omega | exact absurd h95 (by decide) | (have h9 := of_decide_eq_true h95; omega) | (have h9 := of_decide_eq_false h95; omega) | contradiction | simp_all) | refine v_ifn_ne C 100 dX12_pair_95 (by decide) (by omega) (fun h95 => ?_) (fun h95 => by exfalso; first | omega | exact absurd h95 (by decide) | (have h9 := of_decide_eq_true h95; omega) | (have h9 := of_decide_eq_false h95; omega) | contradiction | simp_all) | refine v_if_ne C 100 dX12_pair_95 (by decide) (fun h95 => ?_) (fun h95 => by exfalso; first | omega | exact absurd h95 (by decide) | (have h9 := of_decide_eq_true h95; omega) | (have h9 := of_decide_eq_false h95; omega) | contradiction | simp_all)
          refine v_aload_n C dX12_pair_100 rfl ?_
          refine gf_X12_7 C dX12_pair_101 (by assumption) ?_
          refine v_iload_n C dX12_pair_104 rfl ?_
          refine v_iload_n C dX12_pair_105 rfl ?_
          refine v_iast C dX12_pair_106 (by assumption) (by omega) (by omega) (fun G hG106 hF106 => ?_)
          first | replace ho := (hF106 _ (by omega)).trans ho | replace ho := hG106 | skip
          first | replace k5 := (hF106 _ (by omega)).trans k5 | replace k5 := hG106 | skip
          first | replace k6 := (hF106 _ (by omega)).trans k6 | replace k6 := hG106 | skip
          first | replace h7 := (hF106 _ (by omega)).trans h7 | replace h7 := hG106 | skip
          first | replace hp := (hF106 _ (by omega)).trans hp | replace hp := hG106 | skip
          first | replace hq := (hF106 _ (by omega)).trans hq | replace hq := hG106 | skip
          refine v_aload_n C dX12_pair_107 rfl ?_
          refine gf_X12_13 C dX12_pair_108 (by assumption) ?_
          refine v_iload_n C dX12_pair_111 rfl ?_
          refine v_iload_n C dX12_pair_112 rfl ?_
          refine v_iast C dX12_pair_113 (by assumption) (by omega) (by omega) (fun G hG113 hF113 => ?_)
          first | replace ho := (hF113 _ (by omega)).trans ho | replace ho := hG113 | skip
          first | replace k5 := (hF113 _ (by omega)).trans k5 | replace k5 := hG113 | skip
          first | replace k6 := (hF113 _ (by omega)).trans k6 | replace k6 := hG113 | skip
          first | replace h7 := (hF113 _ (by omega)).trans h7 | replace h7 := hG113 | skip
          first | replace hp := (hF113 _ (by omega)).trans hp | replace hp := hG113 | skip
          first | replace hq := (hF113 _ (by omega)).trans hq | replace hq := hG113 | skip
          refine v_iconst (v := bI true) C dX12_pair_114 (by decide) ?_
          refine v_zret C dX12_pair_115 ?_
          have e8 : oPairOk P R Y (nI r) (nI a) (nI b) = true := by unfold oPairOk; rw [ipr_eq hrg.1, hi1, hi2, hi3, hem]; rfl
          refine hend ⟨e8.symm, ?_, fun j hj => by rw [hF113 j (by omega), hF106 j (by omega)]⟩
          unfold oPairA
          rw [if_pos e8, if_pos e8, hrx, hax, hbx]
          refine hd.um ⟨_, _, ho, k5, k6, fun i hi => ?_, fun i hi => ?_, hrg, hlim, fun i hi => ?_⟩ (fun j h1 h2 => by rw [hF113 j (by omega), hF106 j (by omega)])
          · by_cases q9 : i = r
            · subst q9; rw [fu_self, fu_self]
            · rw [fu_ne _ _ q9, fu_ne _ _ q9]; exact hfa i hi
          · by_cases q9 : i = r
            · subst q9; rw [fu_self, fu_self]
            · rw [fu_ne _ _ q9, fu_ne _ _ q9]; exact hfb i hi
          · by_cases q9 : i = r
            · subst q9; rw [fu_self, fu_self]; omega
            · rw [fu_ne _ _ q9, fu_ne _ _ q9]; exact hab i hi
set_option maxHeartbeats 4000000 in
set_option maxRecDepth 100000 in
theorem c_Mo_pair (l : Launch) (E : Ev) (z : Option Nat) {G : Gh} {P W R lim rq po : Nat} {A B : Nat → Nat} {Y : Nat → Str} {x1 x2 x3 : Int32} (hok : ∀ k, k < 4 → okS W R (Y k)) (hd : isMd E G P W R lim rq po A B Y) : K_X12_pair l E z G [.ref (ga E 104), .int x1, .int x2, .int x3] (fun r G2 => r = oPairOk P R Y x1 x2 x3 ∧ isMd E G2 P W R lim rq po (oPairA P R A Y x1 x2 x3 x2) (oPairA P R B Y x1 x2 x3 x3) Y ∧ ∀ j, j ≠ 105 ∧ j ≠ 106 → G2 j = G j) := by
  refine Fc.of rfl [some (.ref (ga E 104)), some (.int x1), some (.int x2), some (.int x3), none] 1 rfl (Nat.le_of_ble_eq_true rfl) ?_
  intro M hM0 hini C
  subst hM0
  obtain ⟨hm, ⟨ft, h7, hft⟩, ⟨fp, hp, hip⟩, ⟨fq, hq, hiq⟩, hMm, hMs, hMc⟩ := id hd
  replace hft : ∀ q, q < 4 → ft q = lN (zN (Y q)) := hft
  replace hip : ∀ q r c, q < 4 → r < R → c < W → fp (2048 * q + 256 * r + c) = lN (zP (Y q) r c) := hip
  replace hiq : ∀ q r c, q < 4 → r < R → c < W → fq (2048 * q + 256 * r + c) = lN (zC (Y q) r c) := hiq
  obtain ⟨fa, fb, ho, k5, k6, hfa, hfb, hrg, hlim, hab⟩ := id hm
  have n0 := (hok 0 (by decide)).1
  have n1 := (hok 1 (by decide)).1
  have n2 := (hok 2 (by decide)).1
  have n3 := (hok 3 (by decide)).1
  unfold N15 at n0 n1 n2 n3
  refine v_aload_n C dX12_pair_0 rfl ?_
  refine gf_X12_16 C dX12_pair_1 (by assumption) ?_
  refine v_iconst (v := nI 0) C dX12_pair_4 (by decide) ?_
  refine v_lald C dX12_pair_5 (by assumption) (by omega) (by omega) (hft 0 (by decide)) ?_
  refine v_lconst (v := lN 0) C dX12_pair_6 (by decide) ?_
  refine v_lcmpn_ne C 48 dX12_pair_7 dX12_pair_8 (by decide) (by omega) (by omega) (fun h7 => ?_) (fun h7 => ?_)
  · skip
    refine v_iconst (v := nI 0) C dX12_pair_48 (by decide) ?_
    refine v_istore_4 C dX12_pair_49 (by decide) (by first | rfl | assumption) ?_
    first
      | (have e9 : zEmp Y = true := by unfold zEmp; exact decide_eq_true ⟨by omega, by omega, by omega, by omega⟩
         rw [show nI 1 = bI true by decide]
         exact mpair_tail C e9 hd (fun h => h))
      | (have e9 : zEmp Y = false := by first | exact zEmp_no (k := 0) (by decide) (by omega) | exact zEmp_no (k := 1) (by decide) (by omega) | exact zEmp_no (k := 2) (by decide) (by omega) | exact zEmp_no (k := 3) (by decide) (by omega)
         rw [show nI 0 = bI false by decide]
         exact mpair_tail C e9 hd (fun h => h))
  · skip
    refine v_aload_n C dX12_pair_11 rfl ?_
    refine gf_X12_16 C dX12_pair_12 (by assumption) ?_
    refine v_iconst (v := nI 1) C dX12_pair_15 (by decide) ?_
    refine v_lald C dX12_pair_16 (by assumption) (by omega) (by omega) (hft 1 (by decide)) ?_
    refine v_lconst (v := lN 0) C dX12_pair_17 (by decide) ?_
    refine v_lcmpn_ne C 48 dX12_pair_18 dX12_pair_19 (by decide) (by omega) (by omega) (fun h18 => ?_) (fun h18 => ?_)
    · skip
      refine v_iconst (v := nI 0) C dX12_pair_48 (by decide) ?_
      refine v_istore_4 C dX12_pair_49 (by decide) (by first | rfl | assumption) ?_
      first
        | (have e9 : zEmp Y = true := by unfold zEmp; exact decide_eq_true ⟨by omega, by omega, by omega, by omega⟩
           rw [show nI 1 = bI true by decide]
           exact mpair_tail C e9 hd (fun h => h))
        | (have e9 : zEmp Y = false := by first | exact zEmp_no (k := 0) (by decide) (by omega) | exact zEmp_no (k := 1) (by decide) (by omega) | exact zEmp_no (k := 2) (by decide) (by omega) | exact zEmp_no (k := 3) (by decide) (by omega)
           rw [show nI 0 = bI false by decide]
           exact mpair_tail C e9 hd (fun h => h))
    · skip
      refine v_aload_n C dX12_pair_22 rfl ?_
      refine gf_X12_16 C dX12_pair_23 (by assumption) ?_
      refine v_iconst (v := nI 2) C dX12_pair_26 (by decide) ?_
      refine v_lald C dX12_pair_27 (by assumption) (by omega) (by omega) (hft 2 (by decide)) ?_
      refine v_lconst (v := lN 0) C dX12_pair_28 (by decide) ?_
      refine v_lcmpn_ne C 48 dX12_pair_29 dX12_pair_30 (by decide) (by omega) (by omega) (fun h29 => ?_) (fun h29 => ?_)
      · skip
        refine v_iconst (v := nI 0) C dX12_pair_48 (by decide) ?_
        refine v_istore_4 C dX12_pair_49 (by decide) (by first | rfl | assumption) ?_
        first
          | (have e9 : zEmp Y = true := by unfold zEmp; exact decide_eq_true ⟨by omega, by omega, by omega, by omega⟩
             rw [show nI 1 = bI true by decide]
             exact mpair_tail C e9 hd (fun h => h))
          | (have e9 : zEmp Y = false := by first | exact zEmp_no (k := 0) (by decide) (by omega) | exact zEmp_no (k := 1) (by decide) (by omega) | exact zEmp_no (k := 2) (by decide) (by omega) | exact zEmp_no (k := 3) (by decide) (by omega)
             rw [show nI 0 = bI false by decide]
             exact mpair_tail C e9 hd (fun h => h))
      · skip
        refine v_aload_n C dX12_pair_33 rfl ?_
        refine gf_X12_16 C dX12_pair_34 (by assumption) ?_
        refine v_iconst (v := nI 3) C dX12_pair_37 (by decide) ?_
        refine v_lald C dX12_pair_38 (by assumption) (by omega) (by omega) (hft 3 (by decide)) ?_
        refine v_lconst (v := lN 0) C dX12_pair_39 (by decide) ?_
        refine v_lcmpn_ne C 48 dX12_pair_40 dX12_pair_41 (by decide) (by omega) (by omega) (fun h40 => ?_) (fun h40 => ?_)
        · skip
          refine v_iconst (v := nI 0) C dX12_pair_48 (by decide) ?_
          refine v_istore_4 C dX12_pair_49 (by decide) (by first | rfl | assumption) ?_
          first
            | (have e9 : zEmp Y = true := by unfold zEmp; exact decide_eq_true ⟨by omega, by omega, by omega, by omega⟩
               rw [show nI 1 = bI true by decide]
               exact mpair_tail C e9 hd (fun h => h))
            | (have e9 : zEmp Y = false := by first | exact zEmp_no (k := 0) (by decide) (by omega) | exact zEmp_no (k := 1) (by decide) (by omega) | exact zEmp_no (k := 2) (by decide) (by omega) | exact zEmp_no (k := 3) (by decide) (by omega)
               rw [show nI 0 = bI false by decide]
               exact mpair_tail C e9 hd (fun h => h))
        · skip
          refine v_iconst (v := nI 1) C dX12_pair_44 (by decide) ?_
          refine v_goto C 49 dX12_pair_45 (by decide) ?_
          refine v_istore_4 C dX12_pair_49 (by decide) (by first | rfl | assumption) ?_
          first
            | (have e9 : zEmp Y = true := by unfold zEmp; exact decide_eq_true ⟨by omega, by omega, by omega, by omega⟩
               rw [show nI 1 = bI true by decide]
               exact mpair_tail C e9 hd (fun h => h))
            | (have e9 : zEmp Y = false := by first | exact zEmp_no (k := 0) (by decide) (by omega) | exact zEmp_no (k := 1) (by decide) (by omega) | exact zEmp_no (k := 2) (by decide) (by omega) | exact zEmp_no (k := 3) (by decide) (by omega)
               rw [show nI 0 = bI false by decide]
               exact mpair_tail C e9 hd (fun h => h))

theorem hs_t {t a b : Int64} (h1 : ¬ t < a) (h2 : ¬ b < t) : (true && (!(decide (t < a)) && !(decide (b < t)))) = true := by simp [h1, h2]
theorem hs_f1 {t a b : Int64} (h1 : t < a) : (true && (!(decide (t < a)) && !(decide (b < t)))) = false := by simp [h1]
theorem hs_f2 {t a b : Int64} (h2 : b < t) : (true && (!(decide (t < a)) && !(decide (b < t)))) = false := by simp [h2]
theorem holdsC_take {lo hi : Nat → Int64} {l : Cnt} {k : Nat} {c : Nat × Nat} (h : l[k]? = some c) : holdsC lo hi (l.take (k + 1)) = (holdsC lo hi (l.take k) && (!(decide (lN c.2 < lo c.1)) && !(decide (hi c.1 < lN c.2)))) := by
  unfold holdsC
  rw [List.take_add_one, h, List.all_append]
  simp
theorem carC_take {f g : Nat → Nat} {l : Cnt} {k : Nat} {c : Nat × Nat} (h : l[k]? = some c) : carC f g (l.take (k + 1)) = (carC f g (l.take k) && decide (lN (f c.1) ≤ lN (g c.1))) := by
  unfold carC
  rw [List.take_add_one, h, List.all_append]
  simp
theorem cSum_take {l : Cnt} {k : Nat} {c : Nat × Nat} (h : l[k]? = some c) : cSum (l.take (k + 1)) = cSum (l.take k) + c.2 := by
  rw [List.take_add_one, h, cSum_app]
  rfl

set_option maxHeartbeats 4000000 in
set_option maxRecDepth 100000 in
theorem isw_loop {M : Mx} {E : Ev} {z : Option Nat} (C : Cx M E yX12_isWithin.cls cX12_isWithin 5 (some .boolean) 4 100 0 0) {post : Bool → Gh → Prop} {G : Gh} {P W R lim rq po : Nat} {A B : Nat → Nat} {Y : Nat → Str} {s q : Nat} (hs : s < 4) (hq4 : q < 4) (hok : ∀ k, k < 4 → okS W R (Y k)) (hd : isMd E G P W R lim rq po A B Y) (kend : V M E 5 (QE M E (fun r : Bool => some (.int (bI r))) z 0 0 post) z 0 0 G 92 [some (.ref (ga E 104)), some (.int (nI s)), some (.int (nI q)), some (.int (bI (holdsC (fun x => kLow P W R A B lim (Y s) q x) (fun x => kHigh P W R A B lim (Y s) q x) (zK (Y s))))), some (.int (nI (300 * s + (zK (Y s)).length)))] []) : ∀ (t k : Nat), k ≤ (zK (Y s)).length → (zK (Y s)).length - k < t → V M E 5 (QE M E (fun r : Bool => some (.int (bI r))) z 0 0 post) z 0 0 G 9 [some (.ref (ga E 104)), some (.int (nI s)), some (.int (nI q)), some (.int (bI (holdsC (fun x => kLow P W R A B lim (Y s) q x) (fun x => kHigh P W R A B lim (Y s) q x) ((zK (Y s)).take k)))), some (.int (nI (300 * s + k)))] [] := by
  obtain ⟨fcn, fcz, fck, fct, ca, cb, cc, cd, hallC⟩ := id hd.2.2.2.2.2.2
  replace hallC : ∀ q, q < 4 → moC1 fcn fcz fck fct P q (zK (Y q)) (zG (Y q)) := hallC
  have hm := hd.1
  have ho := hm.rc
  have hrg := hm.hl.1
  obtain ⟨a1, a2, a3, a4, a5, a6⟩ := hallC s hs
  intro t
  induction t with
  | zero => intro k _ h; omega
  | succ t ih =>
    intro k hk ht
    cases hb : (holdsC (fun x => kLow P W R A B lim (Y s) q x) (fun x => kHigh P W R A B lim (Y s) q x) ((zK (Y s)).take k)) with
    | false =>
      refine v_iload C dX12_isWithin_9 rfl ?_
      refine v_sipush (v := nI 300) C dX12_isWithin_11 (by decide) ?_
      refine v_iload_n C dX12_isWithin_14 rfl ?_
      first | refine v_imuln C dX12_isWithin_15 ?_ | refine v_imul C dX12_isWithin_15 ?_
      refine v_aload_n C dX12_isWithin_16 rfl ?_
      refine gf_X12_50 C dX12_isWithin_17 (by assumption) ?_
      refine v_iload_n C dX12_isWithin_20 rfl ?_
      refine v_iald C dX12_isWithin_21 (by assumption) (by omega) (by omega) a1 ?_
      first | refine v_iaddn C dX12_isWithin_22 ?_ | refine v_iadd C dX12_isWithin_22 ?_
      refine v_icmpn_ge C 92 dX12_isWithin_23 (by decide) (by omega) (by omega) (fun h23 => ?_) (fun h23 => ?_)
      · skip
        have e9 : k = (zK (Y s)).length := by omega
        subst e9
        rw [List.take_length] at hb
        rw [hb] at kend
        exact kend
      · skip
        have hci : (zK (Y s))[k]? = some (zK (Y s))[k] := List.getElem?_eq_getElem (by omega)
        have hkb := a5 _ (List.mem_of_getElem? hci)
        have hst := holdsC_take (lo := fun x => kLow P W R A B lim (Y s) q x) (hi := fun x => kHigh P W R A B lim (Y s) q x) hci
        rw [hb] at hst
        refine v_iload_n C dX12_isWithin_26 rfl ?_
        first | refine v_ifb_eq C 84 dX12_isWithin_27 (by decide) (fun h27 => ?_) (fun h27 => by exfalso; first | omega | exact absurd h27 (by decide) | (have h9 := of_decide_eq_true h27; omega) | (have h9 := of_decide_eq_false h27; omega) | contradiction | simp_all) | refine v_ifn_eq C 84 dX12_isWithin_27 (by decide) (by omega) (fun h27 => ?_) (fun h27 => by exfalso; first | omega | exact absurd h27 (by decide) | (have h9 := of_decide_eq_true h27; omega) | (have h9 := of_decide_eq_false h27; omega) | contradiction | simp_all) | refine v_if_eq C 84 dX12_isWithin_27 (by decide) (fun h27 => ?_) (fun h27 => by exfalso; first | omega | exact absurd h27 (by decide) | (have h9 := of_decide_eq_true h27; omega) | (have h9 := of_decide_eq_false h27; omega) | contradiction | simp_all)
        refine v_iconst (v := nI 0) C dX12_isWithin_84 (by decide) ?_
        refine v_istore_3 C dX12_isWithin_85 (by decide) (by first | rfl | assumption) ?_
        first | refine v_iinc_4 C dX12_isWithin_86 (nI_1 _) (by decide) (by first | rfl | assumption) ?_ | refine v_iinc_4 C dX12_isWithin_86 rfl (by decide) (by first | rfl | assumption) ?_
        refine v_goto C 9 dX12_isWithin_89 (by decide) ?_
        have key := ih (k + 1) (by omega) (by omega)
        rw [hst] at key
        exact key
    | true =>
      refine v_iload C dX12_isWithin_9 rfl ?_
      refine v_sipush (v := nI 300) C dX12_isWithin_11 (by decide) ?_
      refine v_iload_n C dX12_isWithin_14 rfl ?_
      first | refine v_imuln C dX12_isWithin_15 ?_ | refine v_imul C dX12_isWithin_15 ?_
      refine v_aload_n C dX12_isWithin_16 rfl ?_
      refine gf_X12_50 C dX12_isWithin_17 (by assumption) ?_
      refine v_iload_n C dX12_isWithin_20 rfl ?_
      refine v_iald C dX12_isWithin_21 (by assumption) (by omega) (by omega) a1 ?_
      first | refine v_iaddn C dX12_isWithin_22 ?_ | refine v_iadd C dX12_isWithin_22 ?_
      refine v_icmpn_ge C 92 dX12_isWithin_23 (by decide) (by omega) (by omega) (fun h23 => ?_) (fun h23 => ?_)
      · skip
        have e9 : k = (zK (Y s)).length := by omega
        subst e9
        rw [List.take_length] at hb
        rw [hb] at kend
        exact kend
      · skip
        have hci : (zK (Y s))[k]? = some (zK (Y s))[k] := List.getElem?_eq_getElem (by omega)
        have hkb := a5 _ (List.mem_of_getElem? hci)
        have hst := holdsC_take (lo := fun x => kLow P W R A B lim (Y s) q x) (hi := fun x => kHigh P W R A B lim (Y s) q x) hci
        rw [hb] at hst
        refine v_iload_n C dX12_isWithin_26 rfl ?_
        first | refine v_ifb_eq C 84 dX12_isWithin_27 (by decide) (fun h27 => by exfalso; first | omega | exact absurd h27 (by decide) | (have h9 := of_decide_eq_true h27; omega) | (have h9 := of_decide_eq_false h27; omega) | contradiction | simp_all) (fun h27 => ?_) | refine v_ifn_eq C 84 dX12_isWithin_27 (by decide) (by omega) (fun h27 => by exfalso; first | omega | exact absurd h27 (by decide) | (have h9 := of_decide_eq_true h27; omega) | (have h9 := of_decide_eq_false h27; omega) | contradiction | simp_all) (fun h27 => ?_) | refine v_if_eq C 84 dX12_isWithin_27 (by decide) (fun h27 => by exfalso; first | omega | exact absurd h27 (by decide) | (have h9 := of_decide_eq_true h27; omega) | (have h9 := of_decide_eq_false h27; omega) | contradiction | simp_all) (fun h27 => ?_)
        refine v_aload_n C dX12_isWithin_30 rfl ?_
        refine v_iload_n C dX12_isWithin_31 rfl ?_
        refine v_iload_n C dX12_isWithin_32 rfl ?_
        refine v_aload_n C dX12_isWithin_33 rfl ?_
        refine gf_X12_57 C dX12_isWithin_34 (by assumption) ?_
        refine v_iload C dX12_isWithin_37 rfl ?_
        refine v_iald C dX12_isWithin_39 (by assumption) (by omega) (by omega) (a3 k _ hci).1 ?_
        refine v_iconst (v := nI 1) C dX12_isWithin_40 (by decide) ?_
        refine mc_X12_190 C dX12_isWithin_41 (hd.1.rc) (c_Mo_one _ E z (q := q) (d := 1) hs hq4 hkb (by omega) hok hd) rfl (fun r41 G41 hp41 => ?_)
        obtain ⟨hr41, rfl⟩ := hp41
        subst hr41
        refine v_aload_n C dX12_isWithin_44 rfl ?_
        refine gf_X12_60 C dX12_isWithin_45 (by assumption) ?_
        refine v_iload C dX12_isWithin_48 rfl ?_
        refine v_lald C dX12_isWithin_50 (by assumption) (by omega) (by omega) (a3 k _ hci).2 ?_
        refine v_lcmp_gt C 84 dX12_isWithin_51 dX12_isWithin_52 (by decide) (fun h51 => ?_) (fun h51 => ?_)
        · skip
          refine v_iconst (v := nI 0) C dX12_isWithin_84 (by decide) ?_
          refine v_istore_3 C dX12_isWithin_85 (by decide) (by first | rfl | assumption) ?_
          first | refine v_iinc_4 C dX12_isWithin_86 (nI_1 _) (by decide) (by first | rfl | assumption) ?_ | refine v_iinc_4 C dX12_isWithin_86 rfl (by decide) (by first | rfl | assumption) ?_
          refine v_goto C 9 dX12_isWithin_89 (by decide) ?_
          first
            | (have key := ih (k + 1) (by omega) (by omega)
               rw [hst.trans (hs_t h51 h76)] at key
               rw [show nI 1 = bI true by decide]
               exact key)
            | (have key := ih (k + 1) (by omega) (by omega)
               rw [hst.trans (hs_f2 h76)] at key
               rw [show nI 0 = bI false by decide]
               exact key)
            | (have key := ih (k + 1) (by omega) (by omega)
               rw [hst.trans (hs_f1 h51)] at key
               rw [show nI 0 = bI false by decide]
               exact key)
        · skip
          refine v_aload_n C dX12_isWithin_55 rfl ?_
          refine v_iload_n C dX12_isWithin_56 rfl ?_
          refine v_iload_n C dX12_isWithin_57 rfl ?_
          refine v_aload_n C dX12_isWithin_58 rfl ?_
          refine gf_X12_57 C dX12_isWithin_59 (by assumption) ?_
          refine v_iload C dX12_isWithin_62 rfl ?_
          refine v_iald C dX12_isWithin_64 (by assumption) (by omega) (by omega) (a3 k _ hci).1 ?_
          refine v_iconst (v := nI 2) C dX12_isWithin_65 (by decide) ?_
          refine mc_X12_190 C dX12_isWithin_66 (hd.1.rc) (c_Mo_one _ E z (q := q) (d := 2) hs hq4 hkb (by omega) hok hd) rfl (fun r66 G66 hp66 => ?_)
          obtain ⟨hr66, rfl⟩ := hp66
          subst hr66
          refine v_aload_n C dX12_isWithin_69 rfl ?_
          refine gf_X12_60 C dX12_isWithin_70 (by assumption) ?_
          refine v_iload C dX12_isWithin_73 rfl ?_
          refine v_lald C dX12_isWithin_75 (by assumption) (by omega) (by omega) (a3 k _ hci).2 ?_
          refine v_lcmp_lt C 84 dX12_isWithin_76 dX12_isWithin_77 (by decide) (fun h76 => ?_) (fun h76 => ?_)
          · skip
            refine v_iconst (v := nI 0) C dX12_isWithin_84 (by decide) ?_
            refine v_istore_3 C dX12_isWithin_85 (by decide) (by first | rfl | assumption) ?_
            first | refine v_iinc_4 C dX12_isWithin_86 (nI_1 _) (by decide) (by first | rfl | assumption) ?_ | refine v_iinc_4 C dX12_isWithin_86 rfl (by decide) (by first | rfl | assumption) ?_
            refine v_goto C 9 dX12_isWithin_89 (by decide) ?_
            first
              | (have key := ih (k + 1) (by omega) (by omega)
                 rw [hst.trans (hs_t h51 h76)] at key
                 rw [show nI 1 = bI true by decide]
                 exact key)
              | (have key := ih (k + 1) (by omega) (by omega)
                 rw [hst.trans (hs_f2 h76)] at key
                 rw [show nI 0 = bI false by decide]
                 exact key)
              | (have key := ih (k + 1) (by omega) (by omega)
                 rw [hst.trans (hs_f1 h51)] at key
                 rw [show nI 0 = bI false by decide]
                 exact key)
          · skip
            refine v_iconst (v := nI 1) C dX12_isWithin_80 (by decide) ?_
            refine v_goto C 85 dX12_isWithin_81 (by decide) ?_
            refine v_istore_3 C dX12_isWithin_85 (by decide) (by first | rfl | assumption) ?_
            first | refine v_iinc_4 C dX12_isWithin_86 (nI_1 _) (by decide) (by first | rfl | assumption) ?_ | refine v_iinc_4 C dX12_isWithin_86 rfl (by decide) (by first | rfl | assumption) ?_
            refine v_goto C 9 dX12_isWithin_89 (by decide) ?_
            first
              | (have key := ih (k + 1) (by omega) (by omega)
                 rw [hst.trans (hs_t h51 h76)] at key
                 rw [show nI 1 = bI true by decide]
                 exact key)
              | (have key := ih (k + 1) (by omega) (by omega)
                 rw [hst.trans (hs_f2 h76)] at key
                 rw [show nI 0 = bI false by decide]
                 exact key)
              | (have key := ih (k + 1) (by omega) (by omega)
                 rw [hst.trans (hs_f1 h51)] at key
                 rw [show nI 0 = bI false by decide]
                 exact key)
set_option maxHeartbeats 4000000 in
set_option maxRecDepth 100000 in
theorem c_Mo_isWithin (l : Launch) (E : Ev) (z : Option Nat) {G : Gh} {P W R lim rq po : Nat} {A B : Nat → Nat} {Y : Nat → Str} {s q : Nat} (hs : s < 4) (hq4 : q < 4) (hok : ∀ k, k < 4 → okS W R (Y k)) (hd : isMd E G P W R lim rq po A B Y) : K_X12_isWithin l E z G [.ref (ga E 104), .int (nI s), .int (nI q)] (fun r G2 => r = (holdsC (fun x => kLow P W R A B lim (Y s) q x) (fun x => kHigh P W R A B lim (Y s) q x) (zK (Y s))) ∧ G = G2) := by
  refine Fc.of rfl [some (.ref (ga E 104)), some (.int (nI s)), some (.int (nI q)), none, none] 2 rfl (Nat.le_of_ble_eq_true rfl) ?_
  intro M hM0 hini C
  subst hM0
  have ho := hd.1.rc
  refine v_iconst (v := nI 1) C dX12_isWithin_0 (by decide) ?_
  refine v_istore_3 C dX12_isWithin_1 (by decide) (by first | rfl | assumption) ?_
  refine v_sipush (v := nI 300) C dX12_isWithin_2 (by decide) ?_
  refine v_iload_n C dX12_isWithin_5 rfl ?_
  first | refine v_imuln C dX12_isWithin_6 ?_ | refine v_imul C dX12_isWithin_6 ?_
  refine v_istore_4 C dX12_isWithin_7 (by decide) (by first | rfl | assumption) ?_
  rw [show nI 1 = bI (holdsC (fun x => kLow P W R A B lim (Y s) q x) (fun x => kHigh P W R A B lim (Y s) q x) ((zK (Y s)).take 0)) from rfl]
  refine isw_loop C hs hq4 hok hd ?_ ((zK (Y s)).length + 1) 0 (by omega) (by omega)
  refine v_iload_n C dX12_isWithin_92 rfl ?_
  refine v_zret C dX12_isWithin_93 ?_
  exact ⟨rfl, rfl⟩

