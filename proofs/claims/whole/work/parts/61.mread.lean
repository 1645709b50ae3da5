def nNum (l : Cnt) (x : Nat) : Nat := match lix (nkeys l) x with
  | none => 0
  | some i => (match l[i]? with
    | none => 0
    | some c => c.2)
def yCount (P : Nat) (Y : Nat → Str) (x1 x2 : Int32) : Int64 := if iin x1 4 = true then (if iin x2 P = true then (if zG (Y (ix x1)) = false then lN (nNum (zK (Y (ix x1))) (ix x2)) else -1) else -1) else -1
theorem inn_len {v : Int32} {n : Nat} (hn : n < 2 ^ 31) : inn v (nI 0) (nI n - nI 1) = iin v n := by
  rcases Nat.eq_zero_or_pos n with rfl | h
  · have e1 : iin v 0 = false := by unfold iin; apply decide_eq_false; omega
    rw [e1]
    unfold inn
    have e2 : nI 0 - nI 1 = -1 := by decide
    rw [e2]
    cases h1 : decide (nI 0 ≤ v) with
    | false => rfl
    | true =>
      rw [Bool.true_and]
      apply decide_eq_false
      have h2 := of_decide_eq_true h1
      rw [Int32.le_iff_toInt_le] at h2 ⊢
      rw [nI_toInt (by decide)] at h2
      have e3 : (-1 : Int32).toInt = -1 := by decide
      rw [e3]
      omega
  · rw [nI_sub h, inn_iin h hn]
theorem inn_23 {v : Int32} (h2 : ¬ v = nI 2) (h3 : ¬ v = nI 3) : inn v (nI 2) (nI 3) = false := by
  unfold inn
  cases h1 : decide (nI 2 ≤ v) with
  | false => rfl
  | true =>
    rw [Bool.true_and]
    apply decide_eq_false
    have h9 := of_decide_eq_true h1
    intro h8
    rw [Int32.le_iff_toInt_le, nI_toInt (by decide)] at h9
    rw [Int32.le_iff_toInt_le, nI_toInt (by decide)] at h8
    rcases (show v.toInt = 2 ∨ v.toInt = 3 by omega) with q | q
    · exact h2 (Int32.toInt_inj.mp (by rw [q, nI_toInt (by decide)]; rfl))
    · exact h3 (Int32.toInt_inj.mp (by rw [q, nI_toInt (by decide)]; rfl))

set_option maxHeartbeats 4000000 in
set_option maxRecDepth 100000 in
theorem c_Mo_count (l : Launch) (E : Ev) (z : Option Nat) {G : Gh} {P W R lim rq po : Nat} {A B : Nat → Nat} {Y : Nat → Str} {x1 x2 : Int32} (hd : isMd E G P W R lim rq po A B Y) : K_X12_count l E z G [.ref (ga E 104), .int x1, .int x2] (fun r G2 => r = yCount P Y x1 x2 ∧ G = G2) := by
  refine Fc.of rfl [some (.ref (ga E 104)), some (.int x1), some (.int x2), none] 1 rfl (Nat.le_of_ble_eq_true rfl) ?_
  intro M hM0 hini C
  subst hM0
  obtain ⟨hm, ⟨ft, h7, hft⟩, ⟨fp, hp, hip⟩, ⟨fq, hq, hiq⟩, hMm, hMs, hMc⟩ := id hd
  replace hft : ∀ q, q < 4 → ft q = lN (zN (Y q)) := hft
  replace hip : ∀ q r c, q < 4 → r < R → c < W → fp (2048 * q + 256 * r + c) = lN (zP (Y q) r c) := hip
  replace hiq : ∀ q r c, q < 4 → r < R → c < W → fq (2048 * q + 256 * r + c) = lN (zC (Y q) r c) := hiq
  obtain ⟨fa, fb, ho, k5, k6, hfa, hfb, hrg, hlim, hab⟩ := id hm
  obtain ⟨fms, fmk, ftk, fmn, ma, mb, mc, md, hallM⟩ := id hMm
  obtain ⟨fss, fsk, fsn, fse, sa, sb, sc, sd, hallS⟩ := id hMs
  obtain ⟨fcn, fcz, fck, fct, ca, cb, cc, cd, hallC⟩ := id hMc
  replace hallM : ∀ q, q < 4 → moM1 fms fmk ftk fmn lim P q (zM (Y q)) (zT (Y q)) := hallM
  replace hallS : ∀ q, q < 4 → moS1 fss fsk fsn fse lim P q (zS (Y q)) := hallS
  replace hallC : ∀ q, q < 4 → moC1 fcn fcz fck fct P q (zK (Y q)) (zG (Y q)) := hallC
  cases hi1 : iin x1 4 with
  | false =>
    refine v_iload_n C dX12_count_0 rfl ?_
    refine mc_X12_146 C dX12_count_1 (c_Mo_isStream _ E z) rfl (fun r1 G1 hp1 => ?_)
    obtain ⟨hr1, rfl⟩ := hp1
    rw [hi1] at hr1
    subst hr1
    first | refine v_ifb_eq C 24 dX12_count_4 (by decide) (fun h4 => ?_) (fun h4 => by exfalso; first | omega | exact absurd h4 (by decide) | (have h9 := of_decide_eq_true h4; omega) | (have h9 := of_decide_eq_false h4; omega) | contradiction | simp_all) | refine v_ifn_eq C 24 dX12_count_4 (by decide) (by omega) (fun h4 => ?_) (fun h4 => by exfalso; first | omega | exact absurd h4 (by decide) | (have h9 := of_decide_eq_true h4; omega) | (have h9 := of_decide_eq_false h4; omega) | contradiction | simp_all) | refine v_if_eq C 24 dX12_count_4 (by decide) (fun h4 => ?_) (fun h4 => by exfalso; first | omega | exact absurd h4 (by decide) | (have h9 := of_decide_eq_true h4; omega) | (have h9 := of_decide_eq_false h4; omega) | contradiction | simp_all)
    refine v_ldc2 C tw824 dX12_count_24 ?_
    refine v_lret C dX12_count_27 ?_
    exact ⟨by unfold yCount; rw [if_neg (by rw [hi1]; decide)], rfl⟩
  | true =>
    obtain ⟨s, hs, rfl⟩ := iin_of hi1 (by decide)
    have hsx : ix (nI s) = s := ix_nI (by omega)
    cases hi2 : iin x2 P with
    | false =>
      refine v_iload_n C dX12_count_0 rfl ?_
      refine mc_X12_146 C dX12_count_1 (c_Mo_isStream _ E z) rfl (fun r1 G1 hp1 => ?_)
      obtain ⟨hr1, rfl⟩ := hp1
      rw [hi1] at hr1
      subst hr1
      first | refine v_ifb_eq C 24 dX12_count_4 (by decide) (fun h4 => by exfalso; first | omega | exact absurd h4 (by decide) | (have h9 := of_decide_eq_true h4; omega) | (have h9 := of_decide_eq_false h4; omega) | contradiction | simp_all) (fun h4 => ?_) | refine v_ifn_eq C 24 dX12_count_4 (by decide) (by omega) (fun h4 => by exfalso; first | omega | exact absurd h4 (by decide) | (have h9 := of_decide_eq_true h4; omega) | (have h9 := of_decide_eq_false h4; omega) | contradiction | simp_all) (fun h4 => ?_) | refine v_if_eq C 24 dX12_count_4 (by decide) (fun h4 => by exfalso; first | omega | exact absurd h4 (by decide) | (have h9 := of_decide_eq_true h4; omega) | (have h9 := of_decide_eq_false h4; omega) | contradiction | simp_all) (fun h4 => ?_)
      refine v_aload_n C dX12_count_7 rfl ?_
      refine v_iload_n C dX12_count_8 rfl ?_
      refine mc_X12_105 C dX12_count_9 (by assumption) (c_Mo_isKey _ E z hm) rfl (fun r9 G9 hp9 => ?_)
      obtain ⟨hr9, rfl⟩ := hp9
      rw [hi2] at hr9
      subst hr9
      first | refine v_ifb_eq C 24 dX12_count_12 (by decide) (fun h12 => ?_) (fun h12 => by exfalso; first | omega | exact absurd h12 (by decide) | (have h9 := of_decide_eq_true h12; omega) | (have h9 := of_decide_eq_false h12; omega) | contradiction | simp_all) | refine v_ifn_eq C 24 dX12_count_12 (by decide) (by omega) (fun h12 => ?_) (fun h12 => by exfalso; first | omega | exact absurd h12 (by decide) | (have h9 := of_decide_eq_true h12; omega) | (have h9 := of_decide_eq_false h12; omega) | contradiction | simp_all) | refine v_if_eq C 24 dX12_count_12 (by decide) (fun h12 => ?_) (fun h12 => by exfalso; first | omega | exact absurd h12 (by decide) | (have h9 := of_decide_eq_true h12; omega) | (have h9 := of_decide_eq_false h12; omega) | contradiction | simp_all)
      refine v_ldc2 C tw824 dX12_count_24 ?_
      refine v_lret C dX12_count_27 ?_
      exact ⟨by unfold yCount; rw [if_pos hi1]; rw [if_neg (by rw [hi2]; decide)], rfl⟩
    | true =>
      obtain ⟨x, hx, rfl⟩ := iin_of hi2 (by omega)
      have hxx : ix (nI x) = x := ix_nI (by omega)
      cases hg : zG (Y s) with
      | false =>
        refine v_iload_n C dX12_count_0 rfl ?_
        refine mc_X12_146 C dX12_count_1 (c_Mo_isStream _ E z) rfl (fun r1 G1 hp1 => ?_)
        obtain ⟨hr1, rfl⟩ := hp1
        rw [hi1] at hr1
        subst hr1
        first | refine v_ifb_eq C 24 dX12_count_4 (by decide) (fun h4 => by exfalso; first | omega | exact absurd h4 (by decide) | (have h9 := of_decide_eq_true h4; omega) | (have h9 := of_decide_eq_false h4; omega) | contradiction | simp_all) (fun h4 => ?_) | refine v_ifn_eq C 24 dX12_count_4 (by decide) (by omega) (fun h4 => by exfalso; first | omega | exact absurd h4 (by decide) | (have h9 := of_decide_eq_true h4; omega) | (have h9 := of_decide_eq_false h4; omega) | contradiction | simp_all) (fun h4 => ?_) | refine v_if_eq C 24 dX12_count_4 (by decide) (fun h4 => by exfalso; first | omega | exact absurd h4 (by decide) | (have h9 := of_decide_eq_true h4; omega) | (have h9 := of_decide_eq_false h4; omega) | contradiction | simp_all) (fun h4 => ?_)
        refine v_aload_n C dX12_count_7 rfl ?_
        refine v_iload_n C dX12_count_8 rfl ?_
        refine mc_X12_105 C dX12_count_9 (by assumption) (c_Mo_isKey _ E z hm) rfl (fun r9 G9 hp9 => ?_)
        obtain ⟨hr9, rfl⟩ := hp9
        rw [hi2] at hr9
        subst hr9
        first | refine v_ifb_eq C 24 dX12_count_12 (by decide) (fun h12 => by exfalso; first | omega | exact absurd h12 (by decide) | (have h9 := of_decide_eq_true h12; omega) | (have h9 := of_decide_eq_false h12; omega) | contradiction | simp_all) (fun h12 => ?_) | refine v_ifn_eq C 24 dX12_count_12 (by decide) (by omega) (fun h12 => by exfalso; first | omega | exact absurd h12 (by decide) | (have h9 := of_decide_eq_true h12; omega) | (have h9 := of_decide_eq_false h12; omega) | contradiction | simp_all) (fun h12 => ?_) | refine v_if_eq C 24 dX12_count_12 (by decide) (fun h12 => by exfalso; first | omega | exact absurd h12 (by decide) | (have h9 := of_decide_eq_true h12; omega) | (have h9 := of_decide_eq_false h12; omega) | contradiction | simp_all) (fun h12 => ?_)
        refine v_aload_n C dX12_count_15 rfl ?_
        refine gf_X12_53 C dX12_count_16 (by assumption) ?_
        refine v_iload_n C dX12_count_19 rfl ?_
        refine v_zald C dX12_count_20 (by assumption) (by omega) (by omega) ((hallC s hs).2.1.trans (congrArg bI hg)) ?_
        first | refine v_ifb_eq C 28 dX12_count_21 (by decide) (fun h21 => ?_) (fun h21 => by exfalso; first | omega | exact absurd h21 (by decide) | (have h9 := of_decide_eq_true h21; omega) | (have h9 := of_decide_eq_false h21; omega) | contradiction | simp_all) | refine v_ifn_eq C 28 dX12_count_21 (by decide) (by omega) (fun h21 => ?_) (fun h21 => by exfalso; first | omega | exact absurd h21 (by decide) | (have h9 := of_decide_eq_true h21; omega) | (have h9 := of_decide_eq_false h21; omega) | contradiction | simp_all) | refine v_if_eq C 28 dX12_count_21 (by decide) (fun h21 => ?_) (fun h21 => by exfalso; first | omega | exact absurd h21 (by decide) | (have h9 := of_decide_eq_true h21; omega) | (have h9 := of_decide_eq_false h21; omega) | contradiction | simp_all)
        refine v_aload_n C dX12_count_28 rfl ?_
        refine v_iload_n C dX12_count_29 rfl ?_
        refine v_iload_n C dX12_count_30 rfl ?_
        refine mc_X12_143 C dX12_count_31 (by assumption) (c_Md_keyAt _ E z hs (by omega) hd) rfl (fun r31 G31 hp31 => ?_)
        obtain ⟨hr31, rfl⟩ := hp31
        rcases nJ_cases hr31 with ⟨hk, rfl⟩ | ⟨i, c, hk, rfl, hc9, hcx, hil⟩
        · skip
          refine v_istore_3 C dX12_count_34 (by decide) (by first | rfl | assumption) ?_
          refine v_iload_n C dX12_count_35 rfl ?_
          refine v_if_ge C 43 dX12_count_36 (by decide) (fun h36 => by exfalso; first | omega | exact absurd h36 (by decide) | (have h9 := of_decide_eq_true h36; omega) | (have h9 := of_decide_eq_false h36; omega) | contradiction | simp_all) (fun h36 => ?_)
          refine v_lconst (v := lN 0) C dX12_count_39 (by decide) ?_
          refine v_goto C 49 dX12_count_40 (by decide) ?_
          refine v_lret C dX12_count_49 ?_
          refine ⟨?_, rfl⟩
          unfold yCount nNum
          rw [if_pos hi1, if_pos hi2, hsx, if_pos hg, hxx, hk]
        · skip
          have hll := (hallC s hs).2.2.2.1
          refine v_istore_3 C dX12_count_34 (by decide) (by first | rfl | assumption) ?_
          refine v_iload_n C dX12_count_35 rfl ?_
          first | refine v_ifn_ge C 43 dX12_count_36 (by decide) (by omega) (fun h36 => ?_) (fun h36 => by exfalso; first | omega | exact absurd h36 (by decide) | (have h9 := of_decide_eq_true h36; omega) | (have h9 := of_decide_eq_false h36; omega) | contradiction | simp_all) | refine v_if_ge C 43 dX12_count_36 (by decide) (fun h36 => ?_) (fun h36 => by exfalso; first | omega | exact absurd h36 (by decide) | (have h9 := of_decide_eq_true h36; omega) | (have h9 := of_decide_eq_false h36; omega) | contradiction | simp_all)
          refine v_aload_n C dX12_count_43 rfl ?_
          refine gf_X12_60 C dX12_count_44 (by assumption) ?_
          refine v_iload_n C dX12_count_47 rfl ?_
          refine v_lald C dX12_count_48 (by assumption) (by omega) (by omega) ((hallC s hs).2.2.1 i c hc9).2 ?_
          refine v_lret C dX12_count_49 ?_
          refine ⟨?_, rfl⟩
          unfold yCount nNum
          rw [if_pos hi1, if_pos hi2, hsx, if_pos hg, hxx, hk]
          simp only []
          rw [hc9]
      | true =>
        refine v_iload_n C dX12_count_0 rfl ?_
        refine mc_X12_146 C dX12_count_1 (c_Mo_isStream _ E z) rfl (fun r1 G1 hp1 => ?_)
        obtain ⟨hr1, rfl⟩ := hp1
        rw [hi1] at hr1
        subst hr1
        first | refine v_ifb_eq C 24 dX12_count_4 (by decide) (fun h4 => by exfalso; first | omega | exact absurd h4 (by decide) | (have h9 := of_decide_eq_true h4; omega) | (have h9 := of_decide_eq_false h4; omega) | contradiction | simp_all) (fun h4 => ?_) | refine v_ifn_eq C 24 dX12_count_4 (by decide) (by omega) (fun h4 => by exfalso; first | omega | exact absurd h4 (by decide) | (have h9 := of_decide_eq_true h4; omega) | (have h9 := of_decide_eq_false h4; omega) | contradiction | simp_all) (fun h4 => ?_) | refine v_if_eq C 24 dX12_count_4 (by decide) (fun h4 => by exfalso; first | omega | exact absurd h4 (by decide) | (have h9 := of_decide_eq_true h4; omega) | (have h9 := of_decide_eq_false h4; omega) | contradiction | simp_all) (fun h4 => ?_)
        refine v_aload_n C dX12_count_7 rfl ?_
        refine v_iload_n C dX12_count_8 rfl ?_
        refine mc_X12_105 C dX12_count_9 (by assumption) (c_Mo_isKey _ E z hm) rfl (fun r9 G9 hp9 => ?_)
        obtain ⟨hr9, rfl⟩ := hp9
        rw [hi2] at hr9
        subst hr9
        first | refine v_ifb_eq C 24 dX12_count_12 (by decide) (fun h12 => by exfalso; first | omega | exact absurd h12 (by decide) | (have h9 := of_decide_eq_true h12; omega) | (have h9 := of_decide_eq_false h12; omega) | contradiction | simp_all) (fun h12 => ?_) | refine v_ifn_eq C 24 dX12_count_12 (by decide) (by omega) (fun h12 => by exfalso; first | omega | exact absurd h12 (by decide) | (have h9 := of_decide_eq_true h12; omega) | (have h9 := of_decide_eq_false h12; omega) | contradiction | simp_all) (fun h12 => ?_) | refine v_if_eq C 24 dX12_count_12 (by decide) (fun h12 => by exfalso; first | omega | exact absurd h12 (by decide) | (have h9 := of_decide_eq_true h12; omega) | (have h9 := of_decide_eq_false h12; omega) | contradiction | simp_all) (fun h12 => ?_)
        refine v_aload_n C dX12_count_15 rfl ?_
        refine gf_X12_53 C dX12_count_16 (by assumption) ?_
        refine v_iload_n C dX12_count_19 rfl ?_
        refine v_zald C dX12_count_20 (by assumption) (by omega) (by omega) ((hallC s hs).2.1.trans (congrArg bI hg)) ?_
        first | refine v_ifb_eq C 28 dX12_count_21 (by decide) (fun h21 => by exfalso; first | omega | exact absurd h21 (by decide) | (have h9 := of_decide_eq_true h21; omega) | (have h9 := of_decide_eq_false h21; omega) | contradiction | simp_all) (fun h21 => ?_) | refine v_ifn_eq C 28 dX12_count_21 (by decide) (by omega) (fun h21 => by exfalso; first | omega | exact absurd h21 (by decide) | (have h9 := of_decide_eq_true h21; omega) | (have h9 := of_decide_eq_false h21; omega) | contradiction | simp_all) (fun h21 => ?_) | refine v_if_eq C 28 dX12_count_21 (by decide) (fun h21 => by exfalso; first | omega | exact absurd h21 (by decide) | (have h9 := of_decide_eq_true h21; omega) | (have h9 := of_decide_eq_false h21; omega) | contradiction | simp_all) (fun h21 => ?_)
        refine v_ldc2 C tw824 dX12_count_24 ?_
        refine v_lret C dX12_count_27 ?_
        exact ⟨by unfold yCount; rw [if_pos hi1]; rw [if_pos hi2]; rw [hsx]; rw [if_neg (by rw [hg]; decide)], rfl⟩

set_option maxHeartbeats 4000000 in
set_option maxRecDepth 100000 in
theorem c_Mo_cell (l : Launch) (E : Ev) (z : Option Nat) {G : Gh} {P W R lim rq po : Nat} {A B : Nat → Nat} {Y : Nat → Str} {x1 x2 x3 x4 : Int32} (hd : isMd E G P W R lim rq po A B Y) : K_X12_cell l E z G [.ref (ga E 104), .int x1, .int x2, .int x3, .int x4] (fun r G2 => r = oCell W R Y x1 x2 x3 x4 ∧ G = G2) := by
  refine Fc.of rfl [some (.ref (ga E 104)), some (.int x1), some (.int x2), some (.int x3), some (.int x4), none] 1 rfl (Nat.le_of_ble_eq_true rfl) ?_
  intro M hM0 hini C
  subst hM0
  obtain ⟨hm, ⟨ft, h7, hft⟩, ⟨fp, hp, hip⟩, ⟨fq, hq, hiq⟩, hMm, hMs, hMc⟩ := id hd
  replace hft : ∀ q, q < 4 → ft q = lN (zN (Y q)) := hft
  replace hip : ∀ q r c, q < 4 → r < R → c < W → fp (2048 * q + 256 * r + c) = lN (zP (Y q) r c) := hip
  replace hiq : ∀ q r c, q < 4 → r < R → c < W → fq (2048 * q + 256 * r + c) = lN (zC (Y q) r c) := hiq
  obtain ⟨fa, fb, ho, k5, k6, hfa, hfb, hrg, hlim, hab⟩ := id hm
  cases hi1 : iin x1 4 with
  | false =>
    refine v_iload_n C dX12_cell_0 rfl ?_
    refine mc_X12_146 C dX12_cell_1 (c_Mo_isStream _ E z) rfl (fun r1 G1 hp1 => ?_)
    obtain ⟨hr1, rfl⟩ := hp1
    rw [hi1] at hr1
    subst hr1
    first | refine v_ifb_eq C 45 dX12_cell_4 (by decide) (fun h4 => ?_) (fun h4 => by exfalso; first | omega | exact absurd h4 (by decide) | (have h9 := of_decide_eq_true h4; omega) | (have h9 := of_decide_eq_false h4; omega) | contradiction | simp_all) | refine v_ifn_eq C 45 dX12_cell_4 (by decide) (by omega) (fun h4 => ?_) (fun h4 => by exfalso; first | omega | exact absurd h4 (by decide) | (have h9 := of_decide_eq_true h4; omega) | (have h9 := of_decide_eq_false h4; omega) | contradiction | simp_all) | refine v_if_eq C 45 dX12_cell_4 (by decide) (fun h4 => ?_) (fun h4 => by exfalso; first | omega | exact absurd h4 (by decide) | (have h9 := of_decide_eq_true h4; omega) | (have h9 := of_decide_eq_false h4; omega) | contradiction | simp_all)
    refine v_ldc2 C tw824 dX12_cell_45 ?_
    refine v_lret C dX12_cell_48 ?_
    exact ⟨by unfold oCell; rw [if_neg (by rw [hi1]; decide)], rfl⟩
  | true =>
    obtain ⟨s, hs, rfl⟩ := iin_of hi1 (by decide)
    have hsx : ix (nI s) = s := ix_nI (by omega)
    cases hi5 : iin x2 2 with
    | false =>
      refine v_iload_n C dX12_cell_0 rfl ?_
      refine mc_X12_146 C dX12_cell_1 (c_Mo_isStream _ E z) rfl (fun r1 G1 hp1 => ?_)
      obtain ⟨hr1, rfl⟩ := hp1
      rw [hi1] at hr1
      subst hr1
      first | refine v_ifb_eq C 45 dX12_cell_4 (by decide) (fun h4 => by exfalso; first | omega | exact absurd h4 (by decide) | (have h9 := of_decide_eq_true h4; omega) | (have h9 := of_decide_eq_false h4; omega) | contradiction | simp_all) (fun h4 => ?_) | refine v_ifn_eq C 45 dX12_cell_4 (by decide) (by omega) (fun h4 => by exfalso; first | omega | exact absurd h4 (by decide) | (have h9 := of_decide_eq_true h4; omega) | (have h9 := of_decide_eq_false h4; omega) | contradiction | simp_all) (fun h4 => ?_) | refine v_if_eq C 45 dX12_cell_4 (by decide) (fun h4 => by exfalso; first | omega | exact absurd h4 (by decide) | (have h9 := of_decide_eq_true h4; omega) | (have h9 := of_decide_eq_false h4; omega) | contradiction | simp_all) (fun h4 => ?_)
      refine v_iload_n C dX12_cell_7 rfl ?_
      refine v_iconst (v := nI 0) C dX12_cell_8 (by decide) ?_
      refine v_iconst (v := nI 1) C dX12_cell_9 (by decide) ?_
      refine mc_X12_101 C dX12_cell_10 (c_Mo_in _ E z) rfl (fun r10 G10 hp10 => ?_)
      obtain ⟨hr10, rfl⟩ := hp10
      rw [inn_iin (n := 2) (by omega) (by omega), hi5] at hr10
      subst hr10
      first | refine v_ifb_eq C 45 dX12_cell_13 (by decide) (fun h13 => ?_) (fun h13 => by exfalso; first | omega | exact absurd h13 (by decide) | (have h9 := of_decide_eq_true h13; omega) | (have h9 := of_decide_eq_false h13; omega) | contradiction | simp_all) | refine v_ifn_eq C 45 dX12_cell_13 (by decide) (by omega) (fun h13 => ?_) (fun h13 => by exfalso; first | omega | exact absurd h13 (by decide) | (have h9 := of_decide_eq_true h13; omega) | (have h9 := of_decide_eq_false h13; omega) | contradiction | simp_all) | refine v_if_eq C 45 dX12_cell_13 (by decide) (fun h13 => ?_) (fun h13 => by exfalso; first | omega | exact absurd h13 (by decide) | (have h9 := of_decide_eq_true h13; omega) | (have h9 := of_decide_eq_false h13; omega) | contradiction | simp_all)
      refine v_ldc2 C tw824 dX12_cell_45 ?_
      refine v_lret C dX12_cell_48 ?_
      refine ⟨?_, rfl⟩
      unfold oCell
      rw [if_pos hi1, if_neg (iin_no hi5 (by decide) (by decide)), if_neg (iin_no hi5 (by decide) (by decide))]
      split
      · split <;> rfl
      · rfl
    | true =>
      obtain ⟨q, hq5, rfl⟩ := iin_of hi5 (by decide)
      cases hi6 : iin x3 R with
      | false =>
        refine v_iload_n C dX12_cell_0 rfl ?_
        refine mc_X12_146 C dX12_cell_1 (c_Mo_isStream _ E z) rfl (fun r1 G1 hp1 => ?_)
        obtain ⟨hr1, rfl⟩ := hp1
        rw [hi1] at hr1
        subst hr1
        first | refine v_ifb_eq C 45 dX12_cell_4 (by decide) (fun h4 => by exfalso; first | omega | exact absurd h4 (by decide) | (have h9 := of_decide_eq_true h4; omega) | (have h9 := of_decide_eq_false h4; omega) | contradiction | simp_all) (fun h4 => ?_) | refine v_ifn_eq C 45 dX12_cell_4 (by decide) (by omega) (fun h4 => by exfalso; first | omega | exact absurd h4 (by decide) | (have h9 := of_decide_eq_true h4; omega) | (have h9 := of_decide_eq_false h4; omega) | contradiction | simp_all) (fun h4 => ?_) | refine v_if_eq C 45 dX12_cell_4 (by decide) (fun h4 => by exfalso; first | omega | exact absurd h4 (by decide) | (have h9 := of_decide_eq_true h4; omega) | (have h9 := of_decide_eq_false h4; omega) | contradiction | simp_all) (fun h4 => ?_)
        refine v_iload_n C dX12_cell_7 rfl ?_
        refine v_iconst (v := nI 0) C dX12_cell_8 (by decide) ?_
        refine v_iconst (v := nI 1) C dX12_cell_9 (by decide) ?_
        refine mc_X12_101 C dX12_cell_10 (c_Mo_in _ E z) rfl (fun r10 G10 hp10 => ?_)
        obtain ⟨hr10, rfl⟩ := hp10
        rw [inn_iin (n := 2) (by omega) (by omega), hi5] at hr10
        subst hr10
        first | refine v_ifb_eq C 45 dX12_cell_13 (by decide) (fun h13 => by exfalso; first | omega | exact absurd h13 (by decide) | (have h9 := of_decide_eq_true h13; omega) | (have h9 := of_decide_eq_false h13; omega) | contradiction | simp_all) (fun h13 => ?_) | refine v_ifn_eq C 45 dX12_cell_13 (by decide) (by omega) (fun h13 => by exfalso; first | omega | exact absurd h13 (by decide) | (have h9 := of_decide_eq_true h13; omega) | (have h9 := of_decide_eq_false h13; omega) | contradiction | simp_all) (fun h13 => ?_) | refine v_if_eq C 45 dX12_cell_13 (by decide) (fun h13 => by exfalso; first | omega | exact absurd h13 (by decide) | (have h9 := of_decide_eq_true h13; omega) | (have h9 := of_decide_eq_false h13; omega) | contradiction | simp_all) (fun h13 => ?_)
        refine v_iload_n C dX12_cell_16 rfl ?_
        refine v_iconst (v := nI 0) C dX12_cell_17 (by decide) ?_
        refine v_aload_n C dX12_cell_18 rfl ?_
        refine gf_X12_94 C dX12_cell_19 (by assumption) ?_
        refine v_iconst (v := nI 1) C dX12_cell_22 (by decide) ?_
        first | refine v_isubn C dX12_cell_23 (by omega) ?_ | refine v_isub C dX12_cell_23 ?_
        refine mc_X12_101 C dX12_cell_24 (c_Mo_in _ E z) rfl (fun r24 G24 hp24 => ?_)
        obtain ⟨hr24, rfl⟩ := hp24
        rw [inn_iin (n := R) (by omega) (by omega), hi6] at hr24
        subst hr24
        first | refine v_ifb_eq C 45 dX12_cell_27 (by decide) (fun h27 => ?_) (fun h27 => by exfalso; first | omega | exact absurd h27 (by decide) | (have h9 := of_decide_eq_true h27; omega) | (have h9 := of_decide_eq_false h27; omega) | contradiction | simp_all) | refine v_ifn_eq C 45 dX12_cell_27 (by decide) (by omega) (fun h27 => ?_) (fun h27 => by exfalso; first | omega | exact absurd h27 (by decide) | (have h9 := of_decide_eq_true h27; omega) | (have h9 := of_decide_eq_false h27; omega) | contradiction | simp_all) | refine v_if_eq C 45 dX12_cell_27 (by decide) (fun h27 => ?_) (fun h27 => by exfalso; first | omega | exact absurd h27 (by decide) | (have h9 := of_decide_eq_true h27; omega) | (have h9 := of_decide_eq_false h27; omega) | contradiction | simp_all)
        refine v_ldc2 C tw824 dX12_cell_45 ?_
        refine v_lret C dX12_cell_48 ?_
        exact ⟨by unfold oCell; rw [if_pos hi1]; rw [if_neg (by rw [hi6]; decide)], rfl⟩
      | true =>
        obtain ⟨r, hr6, rfl⟩ := iin_of hi6 (by omega)
        have hrx : ix (nI r) = r := ix_nI (by omega)
        cases hi7 : iin x4 W with
        | false =>
          refine v_iload_n C dX12_cell_0 rfl ?_
          refine mc_X12_146 C dX12_cell_1 (c_Mo_isStream _ E z) rfl (fun r1 G1 hp1 => ?_)
          obtain ⟨hr1, rfl⟩ := hp1
          rw [hi1] at hr1
          subst hr1
          first | refine v_ifb_eq C 45 dX12_cell_4 (by decide) (fun h4 => by exfalso; first | omega | exact absurd h4 (by decide) | (have h9 := of_decide_eq_true h4; omega) | (have h9 := of_decide_eq_false h4; omega) | contradiction | simp_all) (fun h4 => ?_) | refine v_ifn_eq C 45 dX12_cell_4 (by decide) (by omega) (fun h4 => by exfalso; first | omega | exact absurd h4 (by decide) | (have h9 := of_decide_eq_true h4; omega) | (have h9 := of_decide_eq_false h4; omega) | contradiction | simp_all) (fun h4 => ?_) | refine v_if_eq C 45 dX12_cell_4 (by decide) (fun h4 => by exfalso; first | omega | exact absurd h4 (by decide) | (have h9 := of_decide_eq_true h4; omega) | (have h9 := of_decide_eq_false h4; omega) | contradiction | simp_all) (fun h4 => ?_)
          refine v_iload_n C dX12_cell_7 rfl ?_
          refine v_iconst (v := nI 0) C dX12_cell_8 (by decide) ?_
          refine v_iconst (v := nI 1) C dX12_cell_9 (by decide) ?_
          refine mc_X12_101 C dX12_cell_10 (c_Mo_in _ E z) rfl (fun r10 G10 hp10 => ?_)
          obtain ⟨hr10, rfl⟩ := hp10
          rw [inn_iin (n := 2) (by omega) (by omega), hi5] at hr10
          subst hr10
          first | refine v_ifb_eq C 45 dX12_cell_13 (by decide) (fun h13 => by exfalso; first | omega | exact absurd h13 (by decide) | (have h9 := of_decide_eq_true h13; omega) | (have h9 := of_decide_eq_false h13; omega) | contradiction | simp_all) (fun h13 => ?_) | refine v_ifn_eq C 45 dX12_cell_13 (by decide) (by omega) (fun h13 => by exfalso; first | omega | exact absurd h13 (by decide) | (have h9 := of_decide_eq_true h13; omega) | (have h9 := of_decide_eq_false h13; omega) | contradiction | simp_all) (fun h13 => ?_) | refine v_if_eq C 45 dX12_cell_13 (by decide) (fun h13 => by exfalso; first | omega | exact absurd h13 (by decide) | (have h9 := of_decide_eq_true h13; omega) | (have h9 := of_decide_eq_false h13; omega) | contradiction | simp_all) (fun h13 => ?_)
          refine v_iload_n C dX12_cell_16 rfl ?_
          refine v_iconst (v := nI 0) C dX12_cell_17 (by decide) ?_
          refine v_aload_n C dX12_cell_18 rfl ?_
          refine gf_X12_94 C dX12_cell_19 (by assumption) ?_
          refine v_iconst (v := nI 1) C dX12_cell_22 (by decide) ?_
          first | refine v_isubn C dX12_cell_23 (by omega) ?_ | refine v_isub C dX12_cell_23 ?_
          refine mc_X12_101 C dX12_cell_24 (c_Mo_in _ E z) rfl (fun r24 G24 hp24 => ?_)
          obtain ⟨hr24, rfl⟩ := hp24
          rw [inn_iin (n := R) (by omega) (by omega), hi6] at hr24
          subst hr24
          first | refine v_ifb_eq C 45 dX12_cell_27 (by decide) (fun h27 => by exfalso; first | omega | exact absurd h27 (by decide) | (have h9 := of_decide_eq_true h27; omega) | (have h9 := of_decide_eq_false h27; omega) | contradiction | simp_all) (fun h27 => ?_) | refine v_ifn_eq C 45 dX12_cell_27 (by decide) (by omega) (fun h27 => by exfalso; first | omega | exact absurd h27 (by decide) | (have h9 := of_decide_eq_true h27; omega) | (have h9 := of_decide_eq_false h27; omega) | contradiction | simp_all) (fun h27 => ?_) | refine v_if_eq C 45 dX12_cell_27 (by decide) (fun h27 => by exfalso; first | omega | exact absurd h27 (by decide) | (have h9 := of_decide_eq_true h27; omega) | (have h9 := of_decide_eq_false h27; omega) | contradiction | simp_all) (fun h27 => ?_)
          refine v_iload C dX12_cell_30 rfl ?_
          refine v_iconst (v := nI 0) C dX12_cell_32 (by decide) ?_
          refine v_aload_n C dX12_cell_33 rfl ?_
          refine gf_X12_91 C dX12_cell_34 (by assumption) ?_
          refine v_iconst (v := nI 1) C dX12_cell_37 (by decide) ?_
          first | refine v_isubn C dX12_cell_38 (by omega) ?_ | refine v_isub C dX12_cell_38 ?_
          refine mc_X12_101 C dX12_cell_39 (c_Mo_in _ E z) rfl (fun r39 G39 hp39 => ?_)
          obtain ⟨hr39, rfl⟩ := hp39
          rw [inn_iin (n := W) (by omega) (by omega), hi7] at hr39
          subst hr39
          first | refine v_ifb_ne C 49 dX12_cell_42 (by decide) (fun h42 => by exfalso; first | omega | exact absurd h42 (by decide) | (have h9 := of_decide_eq_true h42; omega) | (have h9 := of_decide_eq_false h42; omega) | contradiction | simp_all) (fun h42 => ?_) | refine v_ifn_ne C 49 dX12_cell_42 (by decide) (by omega) (fun h42 => by exfalso; first | omega | exact absurd h42 (by decide) | (have h9 := of_decide_eq_true h42; omega) | (have h9 := of_decide_eq_false h42; omega) | contradiction | simp_all) (fun h42 => ?_) | refine v_if_ne C 49 dX12_cell_42 (by decide) (fun h42 => by exfalso; first | omega | exact absurd h42 (by decide) | (have h9 := of_decide_eq_true h42; omega) | (have h9 := of_decide_eq_false h42; omega) | contradiction | simp_all) (fun h42 => ?_)
          refine v_ldc2 C tw824 dX12_cell_45 ?_
          refine v_lret C dX12_cell_48 ?_
          exact ⟨by unfold oCell; rw [if_pos hi1]; rw [if_pos hi6]; rw [if_neg (by rw [hi7]; decide)], rfl⟩
        | true =>
          obtain ⟨c, hc7, rfl⟩ := iin_of hi7 (by omega)
          have hcx : ix (nI c) = c := ix_nI (by omega)
          rcases (show q = 0 ∨ q = 1 by omega) with rfl | rfl
          · skip
            refine v_iload_n C dX12_cell_0 rfl ?_
            refine mc_X12_146 C dX12_cell_1 (c_Mo_isStream _ E z) rfl (fun r1 G1 hp1 => ?_)
            obtain ⟨hr1, rfl⟩ := hp1
            rw [hi1] at hr1
            subst hr1
            first | refine v_ifb_eq C 45 dX12_cell_4 (by decide) (fun h4 => by exfalso; first | omega | exact absurd h4 (by decide) | (have h9 := of_decide_eq_true h4; omega) | (have h9 := of_decide_eq_false h4; omega) | contradiction | simp_all) (fun h4 => ?_) | refine v_ifn_eq C 45 dX12_cell_4 (by decide) (by omega) (fun h4 => by exfalso; first | omega | exact absurd h4 (by decide) | (have h9 := of_decide_eq_true h4; omega) | (have h9 := of_decide_eq_false h4; omega) | contradiction | simp_all) (fun h4 => ?_) | refine v_if_eq C 45 dX12_cell_4 (by decide) (fun h4 => by exfalso; first | omega | exact absurd h4 (by decide) | (have h9 := of_decide_eq_true h4; omega) | (have h9 := of_decide_eq_false h4; omega) | contradiction | simp_all) (fun h4 => ?_)
            refine v_iload_n C dX12_cell_7 rfl ?_
            refine v_iconst (v := nI 0) C dX12_cell_8 (by decide) ?_
            refine v_iconst (v := nI 1) C dX12_cell_9 (by decide) ?_
            refine mc_X12_101 C dX12_cell_10 (c_Mo_in _ E z) rfl (fun r10 G10 hp10 => ?_)
            obtain ⟨hr10, rfl⟩ := hp10
            rw [inn_iin (n := 2) (by omega) (by omega), hi5] at hr10
            subst hr10
            first | refine v_ifb_eq C 45 dX12_cell_13 (by decide) (fun h13 => by exfalso; first | omega | exact absurd h13 (by decide) | (have h9 := of_decide_eq_true h13; omega) | (have h9 := of_decide_eq_false h13; omega) | contradiction | simp_all) (fun h13 => ?_) | refine v_ifn_eq C 45 dX12_cell_13 (by decide) (by omega) (fun h13 => by exfalso; first | omega | exact absurd h13 (by decide) | (have h9 := of_decide_eq_true h13; omega) | (have h9 := of_decide_eq_false h13; omega) | contradiction | simp_all) (fun h13 => ?_) | refine v_if_eq C 45 dX12_cell_13 (by decide) (fun h13 => by exfalso; first | omega | exact absurd h13 (by decide) | (have h9 := of_decide_eq_true h13; omega) | (have h9 := of_decide_eq_false h13; omega) | contradiction | simp_all) (fun h13 => ?_)
            refine v_iload_n C dX12_cell_16 rfl ?_
            refine v_iconst (v := nI 0) C dX12_cell_17 (by decide) ?_
            refine v_aload_n C dX12_cell_18 rfl ?_
            refine gf_X12_94 C dX12_cell_19 (by assumption) ?_
            refine v_iconst (v := nI 1) C dX12_cell_22 (by decide) ?_
            first | refine v_isubn C dX12_cell_23 (by omega) ?_ | refine v_isub C dX12_cell_23 ?_
            refine mc_X12_101 C dX12_cell_24 (c_Mo_in _ E z) rfl (fun r24 G24 hp24 => ?_)
            obtain ⟨hr24, rfl⟩ := hp24
            rw [inn_iin (n := R) (by omega) (by omega), hi6] at hr24
            subst hr24
            first | refine v_ifb_eq C 45 dX12_cell_27 (by decide) (fun h27 => by exfalso; first | omega | exact absurd h27 (by decide) | (have h9 := of_decide_eq_true h27; omega) | (have h9 := of_decide_eq_false h27; omega) | contradiction | simp_all) (fun h27 => ?_) | refine v_ifn_eq C 45 dX12_cell_27 (by decide) (by omega) (fun h27 => by exfalso; first | omega | exact absurd h27 (by decide) | (have h9 := of_decide_eq_true h27; omega) | (have h9 := of_decide_eq_false h27; omega) | contradiction | simp_all) (fun h27 => ?_) | refine v_if_eq C 45 dX12_cell_27 (by decide) (fun h27 => by exfalso; first | omega | exact absurd h27 (by decide) | (have h9 := of_decide_eq_true h27; omega) | (have h9 := of_decide_eq_false h27; omega) | contradiction | simp_all) (fun h27 => ?_)
            refine v_iload C dX12_cell_30 rfl ?_
            refine v_iconst (v := nI 0) C dX12_cell_32 (by decide) ?_
            refine v_aload_n C dX12_cell_33 rfl ?_
            refine gf_X12_91 C dX12_cell_34 (by assumption) ?_
            refine v_iconst (v := nI 1) C dX12_cell_37 (by decide) ?_
            first | refine v_isubn C dX12_cell_38 (by omega) ?_ | refine v_isub C dX12_cell_38 ?_
            refine mc_X12_101 C dX12_cell_39 (c_Mo_in _ E z) rfl (fun r39 G39 hp39 => ?_)
            obtain ⟨hr39, rfl⟩ := hp39
            rw [inn_iin (n := W) (by omega) (by omega), hi7] at hr39
            subst hr39
            first | refine v_ifb_ne C 49 dX12_cell_42 (by decide) (fun h42 => ?_) (fun h42 => by exfalso; first | omega | exact absurd h42 (by decide) | (have h9 := of_decide_eq_true h42; omega) | (have h9 := of_decide_eq_false h42; omega) | contradiction | simp_all) | refine v_ifn_ne C 49 dX12_cell_42 (by decide) (by omega) (fun h42 => ?_) (fun h42 => by exfalso; first | omega | exact absurd h42 (by decide) | (have h9 := of_decide_eq_true h42; omega) | (have h9 := of_decide_eq_false h42; omega) | contradiction | simp_all) | refine v_if_ne C 49 dX12_cell_42 (by decide) (fun h42 => ?_) (fun h42 => by exfalso; first | omega | exact absurd h42 (by decide) | (have h9 := of_decide_eq_true h42; omega) | (have h9 := of_decide_eq_false h42; omega) | contradiction | simp_all)
            refine v_sipush (v := nI 2048) C dX12_cell_49 (by decide) ?_
            refine v_iload_n C dX12_cell_52 rfl ?_
            first | refine v_imuln C dX12_cell_53 ?_ | refine v_imul C dX12_cell_53 ?_
            refine v_sipush (v := nI 256) C dX12_cell_54 (by decide) ?_
            refine v_iload_n C dX12_cell_57 rfl ?_
            first | refine v_imuln C dX12_cell_58 ?_ | refine v_imul C dX12_cell_58 ?_
            first | refine v_iaddn C dX12_cell_59 ?_ | refine v_iadd C dX12_cell_59 ?_
            refine v_iload C dX12_cell_60 rfl ?_
            first | refine v_iaddn C dX12_cell_62 ?_ | refine v_iadd C dX12_cell_62 ?_
            refine v_istore_5 C dX12_cell_63 (by decide) (by first | rfl | assumption) ?_
            refine v_iload_n C dX12_cell_65 rfl ?_
            first | refine v_ifb_ne C 79 dX12_cell_66 (by decide) (fun h66 => by exfalso; first | omega | exact absurd h66 (by decide) | (have h9 := of_decide_eq_true h66; omega) | (have h9 := of_decide_eq_false h66; omega) | contradiction | simp_all) (fun h66 => ?_) | refine v_ifn_ne C 79 dX12_cell_66 (by decide) (by omega) (fun h66 => by exfalso; first | omega | exact absurd h66 (by decide) | (have h9 := of_decide_eq_true h66; omega) | (have h9 := of_decide_eq_false h66; omega) | contradiction | simp_all) (fun h66 => ?_) | refine v_if_ne C 79 dX12_cell_66 (by decide) (fun h66 => by exfalso; first | omega | exact absurd h66 (by decide) | (have h9 := of_decide_eq_true h66; omega) | (have h9 := of_decide_eq_false h66; omega) | contradiction | simp_all) (fun h66 => ?_)
            refine v_aload_n C dX12_cell_69 rfl ?_
            refine gf_X12_20 C dX12_cell_70 (by assumption) ?_
            refine v_iload C dX12_cell_73 rfl ?_
            refine v_lald C dX12_cell_75 (by assumption) (by omega) (by omega) (hip s r c hs hr6 hc7) ?_
            refine v_goto C 86 dX12_cell_76 (by decide) ?_
            refine v_lret C dX12_cell_86 ?_
            refine ⟨?_, rfl⟩
            unfold oCell
            rw [if_pos hi1, if_pos hi6, if_pos hi7, hsx, hrx, hcx, if_pos rfl]
          · skip
            refine v_iload_n C dX12_cell_0 rfl ?_
            refine mc_X12_146 C dX12_cell_1 (c_Mo_isStream _ E z) rfl (fun r1 G1 hp1 => ?_)
            obtain ⟨hr1, rfl⟩ := hp1
            rw [hi1] at hr1
            subst hr1
            first | refine v_ifb_eq C 45 dX12_cell_4 (by decide) (fun h4 => by exfalso; first | omega | exact absurd h4 (by decide) | (have h9 := of_decide_eq_true h4; omega) | (have h9 := of_decide_eq_false h4; omega) | contradiction | simp_all) (fun h4 => ?_) | refine v_ifn_eq C 45 dX12_cell_4 (by decide) (by omega) (fun h4 => by exfalso; first | omega | exact absurd h4 (by decide) | (have h9 := of_decide_eq_true h4; omega) | (have h9 := of_decide_eq_false h4; omega) | contradiction | simp_all) (fun h4 => ?_) | refine v_if_eq C 45 dX12_cell_4 (by decide) (fun h4 => by exfalso; first | omega | exact absurd h4 (by decide) | (have h9 := of_decide_eq_true h4; omega) | (have h9 := of_decide_eq_false h4; omega) | contradiction | simp_all) (fun h4 => ?_)
            refine v_iload_n C dX12_cell_7 rfl ?_
            refine v_iconst (v := nI 0) C dX12_cell_8 (by decide) ?_
            refine v_iconst (v := nI 1) C dX12_cell_9 (by decide) ?_
            refine mc_X12_101 C dX12_cell_10 (c_Mo_in _ E z) rfl (fun r10 G10 hp10 => ?_)
            obtain ⟨hr10, rfl⟩ := hp10
            rw [inn_iin (n := 2) (by omega) (by omega), hi5] at hr10
            subst hr10
            first | refine v_ifb_eq C 45 dX12_cell_13 (by decide) (fun h13 => by exfalso; first | omega | exact absurd h13 (by decide) | (have h9 := of_decide_eq_true h13; omega) | (have h9 := of_decide_eq_false h13; omega) | contradiction | simp_all) (fun h13 => ?_) | refine v_ifn_eq C 45 dX12_cell_13 (by decide) (by omega) (fun h13 => by exfalso; first | omega | exact absurd h13 (by decide) | (have h9 := of_decide_eq_true h13; omega) | (have h9 := of_decide_eq_false h13; omega) | contradiction | simp_all) (fun h13 => ?_) | refine v_if_eq C 45 dX12_cell_13 (by decide) (fun h13 => by exfalso; first | omega | exact absurd h13 (by decide) | (have h9 := of_decide_eq_true h13; omega) | (have h9 := of_decide_eq_false h13; omega) | contradiction | simp_all) (fun h13 => ?_)
            refine v_iload_n C dX12_cell_16 rfl ?_
            refine v_iconst (v := nI 0) C dX12_cell_17 (by decide) ?_
            refine v_aload_n C dX12_cell_18 rfl ?_
            refine gf_X12_94 C dX12_cell_19 (by assumption) ?_
            refine v_iconst (v := nI 1) C dX12_cell_22 (by decide) ?_
            first | refine v_isubn C dX12_cell_23 (by omega) ?_ | refine v_isub C dX12_cell_23 ?_
            refine mc_X12_101 C dX12_cell_24 (c_Mo_in _ E z) rfl (fun r24 G24 hp24 => ?_)
            obtain ⟨hr24, rfl⟩ := hp24
            rw [inn_iin (n := R) (by omega) (by omega), hi6] at hr24
            subst hr24
            first | refine v_ifb_eq C 45 dX12_cell_27 (by decide) (fun h27 => by exfalso; first | omega | exact absurd h27 (by decide) | (have h9 := of_decide_eq_true h27; omega) | (have h9 := of_decide_eq_false h27; omega) | contradiction | simp_all) (fun h27 => ?_) | refine v_ifn_eq C 45 dX12_cell_27 (by decide) (by omega) (fun h27 => by exfalso; first | omega | exact absurd h27 (by decide) | (have h9 := of_decide_eq_true h27; omega) | (have h9 := of_decide_eq_false h27; omega) | contradiction | simp_all) (fun h27 => ?_) | refine v_if_eq C 45 dX12_cell_27 (by decide) (fun h27 => by exfalso; first | omega | exact absurd h27 (by decide) | (have h9 := of_decide_eq_true h27; omega) | (have h9 := of_decide_eq_false h27; omega) | contradiction | simp_all) (fun h27 => ?_)
            refine v_iload C dX12_cell_30 rfl ?_
            refine v_iconst (v := nI 0) C dX12_cell_32 (by decide) ?_
            refine v_aload_n C dX12_cell_33 rfl ?_
            refine gf_X12_91 C dX12_cell_34 (by assumption) ?_
            refine v_iconst (v := nI 1) C dX12_cell_37 (by decide) ?_
            first | refine v_isubn C dX12_cell_38 (by omega) ?_ | refine v_isub C dX12_cell_38 ?_
            refine mc_X12_101 C dX12_cell_39 (c_Mo_in _ E z) rfl (fun r39 G39 hp39 => ?_)
            obtain ⟨hr39, rfl⟩ := hp39
            rw [inn_iin (n := W) (by omega) (by omega), hi7] at hr39
            subst hr39
            first | refine v_ifb_ne C 49 dX12_cell_42 (by decide) (fun h42 => ?_) (fun h42 => by exfalso; first | omega | exact absurd h42 (by decide) | (have h9 := of_decide_eq_true h42; omega) | (have h9 := of_decide_eq_false h42; omega) | contradiction | simp_all) | refine v_ifn_ne C 49 dX12_cell_42 (by decide) (by omega) (fun h42 => ?_) (fun h42 => by exfalso; first | omega | exact absurd h42 (by decide) | (have h9 := of_decide_eq_true h42; omega) | (have h9 := of_decide_eq_false h42; omega) | contradiction | simp_all) | refine v_if_ne C 49 dX12_cell_42 (by decide) (fun h42 => ?_) (fun h42 => by exfalso; first | omega | exact absurd h42 (by decide) | (have h9 := of_decide_eq_true h42; omega) | (have h9 := of_decide_eq_false h42; omega) | contradiction | simp_all)
            refine v_sipush (v := nI 2048) C dX12_cell_49 (by decide) ?_
            refine v_iload_n C dX12_cell_52 rfl ?_
            first | refine v_imuln C dX12_cell_53 ?_ | refine v_imul C dX12_cell_53 ?_
            refine v_sipush (v := nI 256) C dX12_cell_54 (by decide) ?_
            refine v_iload_n C dX12_cell_57 rfl ?_
            first | refine v_imuln C dX12_cell_58 ?_ | refine v_imul C dX12_cell_58 ?_
            first | refine v_iaddn C dX12_cell_59 ?_ | refine v_iadd C dX12_cell_59 ?_
            refine v_iload C dX12_cell_60 rfl ?_
            first | refine v_iaddn C dX12_cell_62 ?_ | refine v_iadd C dX12_cell_62 ?_
            refine v_istore_5 C dX12_cell_63 (by decide) (by first | rfl | assumption) ?_
            refine v_iload_n C dX12_cell_65 rfl ?_
            first | refine v_ifb_ne C 79 dX12_cell_66 (by decide) (fun h66 => ?_) (fun h66 => by exfalso; first | omega | exact absurd h66 (by decide) | (have h9 := of_decide_eq_true h66; omega) | (have h9 := of_decide_eq_false h66; omega) | contradiction | simp_all) | refine v_ifn_ne C 79 dX12_cell_66 (by decide) (by omega) (fun h66 => ?_) (fun h66 => by exfalso; first | omega | exact absurd h66 (by decide) | (have h9 := of_decide_eq_true h66; omega) | (have h9 := of_decide_eq_false h66; omega) | contradiction | simp_all) | refine v_if_ne C 79 dX12_cell_66 (by decide) (fun h66 => ?_) (fun h66 => by exfalso; first | omega | exact absurd h66 (by decide) | (have h9 := of_decide_eq_true h66; omega) | (have h9 := of_decide_eq_false h66; omega) | contradiction | simp_all)
            refine v_aload_n C dX12_cell_79 rfl ?_
            refine gf_X12_23 C dX12_cell_80 (by assumption) ?_
            refine v_iload C dX12_cell_83 rfl ?_
            refine v_lald C dX12_cell_85 (by assumption) (by omega) (by omega) (hiq s r c hs hr6 hc7) ?_
            refine v_lret C dX12_cell_86 ?_
            refine ⟨?_, rfl⟩
            unfold oCell
            rw [if_pos hi1, if_pos hi6, if_pos hi7, hsx, hrx, hcx, if_neg (nI_ne (by decide) (by decide) (by decide)), if_pos rfl]

set_option maxHeartbeats 4000000 in
set_option maxRecDepth 100000 in
theorem c_Mo_counter (l : Launch) (E : Ev) (z : Option Nat) {G : Gh} {P W R lim rq po : Nat} {A B : Nat → Nat} {Y : Nat → Str} {x1 x2 x3 x4 : Int32} (hok : ∀ k, k < 4 → okS W R (Y k)) (hd : isMd E G P W R lim rq po A B Y) : K_X12_counter l E z G [.ref (ga E 104), .int x1, .int x2, .int x3, .int x4] (fun r G2 => r = oCounter Y x1 x2 x3 x4 ∧ G = G2) := by
  refine Fc.of rfl [some (.ref (ga E 104)), some (.int x1), some (.int x2), some (.int x3), some (.int x4), none] 1 rfl (Nat.le_of_ble_eq_true rfl) ?_
  intro M hM0 hini C
  subst hM0
  obtain ⟨hm, ⟨ft, h7, hft⟩, ⟨fp, hp, hip⟩, ⟨fq, hq, hiq⟩, hMm, hMs, hMc⟩ := id hd
  replace hft : ∀ q, q < 4 → ft q = lN (zN (Y q)) := hft
  replace hip : ∀ q r c, q < 4 → r < R → c < W → fp (2048 * q + 256 * r + c) = lN (zP (Y q) r c) := hip
  replace hiq : ∀ q r c, q < 4 → r < R → c < W → fq (2048 * q + 256 * r + c) = lN (zC (Y q) r c) := hiq
  obtain ⟨fa, fb, ho, k5, k6, hfa, hfb, hrg, hlim, hab⟩ := id hm
  obtain ⟨fms, fmk, ftk, fmn, ma, mb, mc, md, hallM⟩ := id hMm
  obtain ⟨fss, fsk, fsn, fse, sa, sb, sc, sd, hallS⟩ := id hMs
  obtain ⟨fcn, fcz, fck, fct, ca, cb, cc, cd, hallC⟩ := id hMc
  replace hallM : ∀ q, q < 4 → moM1 fms fmk ftk fmn lim P q (zM (Y q)) (zT (Y q)) := hallM
  replace hallS : ∀ q, q < 4 → moS1 fss fsk fsn fse lim P q (zS (Y q)) := hallS
  replace hallC : ∀ q, q < 4 → moC1 fcn fcz fck fct P q (zK (Y q)) (zG (Y q)) := hallC
  cases hi1 : iin x1 4 with
  | false =>
    refine v_iload_n C dX12_counter_0 rfl ?_
    refine mc_X12_146 C dX12_counter_1 (c_Mo_isStream _ E z) rfl (fun r1 G1 hp1 => ?_)
    obtain ⟨hr1, rfl⟩ := hp1
    rw [hi1] at hr1
    subst hr1
    first | refine v_ifb_eq C 56 dX12_counter_4 (by decide) (fun h4 => ?_) (fun h4 => by exfalso; first | omega | exact absurd h4 (by decide) | (have h9 := of_decide_eq_true h4; omega) | (have h9 := of_decide_eq_false h4; omega) | contradiction | simp_all) | refine v_ifn_eq C 56 dX12_counter_4 (by decide) (by omega) (fun h4 => ?_) (fun h4 => by exfalso; first | omega | exact absurd h4 (by decide) | (have h9 := of_decide_eq_true h4; omega) | (have h9 := of_decide_eq_false h4; omega) | contradiction | simp_all) | refine v_if_eq C 56 dX12_counter_4 (by decide) (fun h4 => ?_) (fun h4 => by exfalso; first | omega | exact absurd h4 (by decide) | (have h9 := of_decide_eq_true h4; omega) | (have h9 := of_decide_eq_false h4; omega) | contradiction | simp_all)
    refine v_ldc2 C tw824 dX12_counter_56 ?_
    refine v_lret C dX12_counter_59 ?_
    exact ⟨by unfold oCounter; rw [if_neg (by rw [hi1]; decide)], rfl⟩
  | true =>
    obtain ⟨s, hs, rfl⟩ := iin_of hi1 (by decide)
    have hsx : ix (nI s) = s := ix_nI (by omega)
    have hlM := (hallM s hs).2.2.2.1
    have hlS := (hallS s hs).2.2.1
    cases hi5 : decide (x2 = nI 2) with
    | false =>
      have q2 := of_decide_eq_false hi5
      cases hi6 : decide (x2 = nI 3) with
      | false =>
        have q3 := of_decide_eq_false hi6
        refine v_iload_n C dX12_counter_0 rfl ?_
        refine mc_X12_146 C dX12_counter_1 (c_Mo_isStream _ E z) rfl (fun r1 G1 hp1 => ?_)
        obtain ⟨hr1, rfl⟩ := hp1
        rw [hi1] at hr1
        subst hr1
        first | refine v_ifb_eq C 56 dX12_counter_4 (by decide) (fun h4 => by exfalso; first | omega | exact absurd h4 (by decide) | (have h9 := of_decide_eq_true h4; omega) | (have h9 := of_decide_eq_false h4; omega) | contradiction | simp_all) (fun h4 => ?_) | refine v_ifn_eq C 56 dX12_counter_4 (by decide) (by omega) (fun h4 => by exfalso; first | omega | exact absurd h4 (by decide) | (have h9 := of_decide_eq_true h4; omega) | (have h9 := of_decide_eq_false h4; omega) | contradiction | simp_all) (fun h4 => ?_) | refine v_if_eq C 56 dX12_counter_4 (by decide) (fun h4 => by exfalso; first | omega | exact absurd h4 (by decide) | (have h9 := of_decide_eq_true h4; omega) | (have h9 := of_decide_eq_false h4; omega) | contradiction | simp_all) (fun h4 => ?_)
        refine v_iload_n C dX12_counter_7 rfl ?_
        refine v_iconst (v := nI 2) C dX12_counter_8 (by decide) ?_
        refine v_iconst (v := nI 3) C dX12_counter_9 (by decide) ?_
        refine mc_X12_101 C dX12_counter_10 (c_Mo_in _ E z) rfl (fun r10 G10 hp10 => ?_)
        obtain ⟨hr10, rfl⟩ := hp10
        rw [inn_23 q2 q3] at hr10
        subst hr10
        first | refine v_ifb_eq C 56 dX12_counter_13 (by decide) (fun h13 => ?_) (fun h13 => by exfalso; first | omega | exact absurd h13 (by decide) | (have h9 := of_decide_eq_true h13; omega) | (have h9 := of_decide_eq_false h13; omega) | contradiction | simp_all) | refine v_ifn_eq C 56 dX12_counter_13 (by decide) (by omega) (fun h13 => ?_) (fun h13 => by exfalso; first | omega | exact absurd h13 (by decide) | (have h9 := of_decide_eq_true h13; omega) | (have h9 := of_decide_eq_false h13; omega) | contradiction | simp_all) | refine v_if_eq C 56 dX12_counter_13 (by decide) (fun h13 => ?_) (fun h13 => by exfalso; first | omega | exact absurd h13 (by decide) | (have h9 := of_decide_eq_true h13; omega) | (have h9 := of_decide_eq_false h13; omega) | contradiction | simp_all)
        refine v_ldc2 C tw824 dX12_counter_56 ?_
        refine v_lret C dX12_counter_59 ?_
        exact ⟨by unfold oCounter; rw [if_pos hi1]; rw [if_neg q2]; rw [if_neg q3], rfl⟩
      | true =>
        have q3 := of_decide_eq_true hi6
        subst q3
        cases hi7 : iin x4 3 with
        | false =>
          refine v_iload_n C dX12_counter_0 rfl ?_
          refine mc_X12_146 C dX12_counter_1 (c_Mo_isStream _ E z) rfl (fun r1 G1 hp1 => ?_)
          obtain ⟨hr1, rfl⟩ := hp1
          rw [hi1] at hr1
          subst hr1
          first | refine v_ifb_eq C 56 dX12_counter_4 (by decide) (fun h4 => by exfalso; first | omega | exact absurd h4 (by decide) | (have h9 := of_decide_eq_true h4; omega) | (have h9 := of_decide_eq_false h4; omega) | contradiction | simp_all) (fun h4 => ?_) | refine v_ifn_eq C 56 dX12_counter_4 (by decide) (by omega) (fun h4 => by exfalso; first | omega | exact absurd h4 (by decide) | (have h9 := of_decide_eq_true h4; omega) | (have h9 := of_decide_eq_false h4; omega) | contradiction | simp_all) (fun h4 => ?_) | refine v_if_eq C 56 dX12_counter_4 (by decide) (fun h4 => by exfalso; first | omega | exact absurd h4 (by decide) | (have h9 := of_decide_eq_true h4; omega) | (have h9 := of_decide_eq_false h4; omega) | contradiction | simp_all) (fun h4 => ?_)
          refine v_iload_n C dX12_counter_7 rfl ?_
          refine v_iconst (v := nI 2) C dX12_counter_8 (by decide) ?_
          refine v_iconst (v := nI 3) C dX12_counter_9 (by decide) ?_
          refine mc_X12_101 C dX12_counter_10 (c_Mo_in _ E z) rfl (fun r10 G10 hp10 => ?_)
          obtain ⟨hr10, rfl⟩ := hp10
          rw [show inn (nI 3) (nI 2) (nI 3) = true by decide] at hr10
          subst hr10
          first | refine v_ifb_eq C 56 dX12_counter_13 (by decide) (fun h13 => by exfalso; first | omega | exact absurd h13 (by decide) | (have h9 := of_decide_eq_true h13; omega) | (have h9 := of_decide_eq_false h13; omega) | contradiction | simp_all) (fun h13 => ?_) | refine v_ifn_eq C 56 dX12_counter_13 (by decide) (by omega) (fun h13 => by exfalso; first | omega | exact absurd h13 (by decide) | (have h9 := of_decide_eq_true h13; omega) | (have h9 := of_decide_eq_false h13; omega) | contradiction | simp_all) (fun h13 => ?_) | refine v_if_eq C 56 dX12_counter_13 (by decide) (fun h13 => by exfalso; first | omega | exact absurd h13 (by decide) | (have h9 := of_decide_eq_true h13; omega) | (have h9 := of_decide_eq_false h13; omega) | contradiction | simp_all) (fun h13 => ?_)
          refine v_iload C dX12_counter_16 rfl ?_
          refine v_iconst (v := nI 0) C dX12_counter_18 (by decide) ?_
          refine v_iconst (v := nI 2) C dX12_counter_19 (by decide) ?_
          refine mc_X12_101 C dX12_counter_20 (c_Mo_in _ E z) rfl (fun r20 G20 hp20 => ?_)
          obtain ⟨hr20, rfl⟩ := hp20
          rw [inn_iin (n := 3) (by omega) (by omega), hi7] at hr20
          subst hr20
          first | refine v_ifb_eq C 56 dX12_counter_23 (by decide) (fun h23 => ?_) (fun h23 => by exfalso; first | omega | exact absurd h23 (by decide) | (have h9 := of_decide_eq_true h23; omega) | (have h9 := of_decide_eq_false h23; omega) | contradiction | simp_all) | refine v_ifn_eq C 56 dX12_counter_23 (by decide) (by omega) (fun h23 => ?_) (fun h23 => by exfalso; first | omega | exact absurd h23 (by decide) | (have h9 := of_decide_eq_true h23; omega) | (have h9 := of_decide_eq_false h23; omega) | contradiction | simp_all) | refine v_if_eq C 56 dX12_counter_23 (by decide) (fun h23 => ?_) (fun h23 => by exfalso; first | omega | exact absurd h23 (by decide) | (have h9 := of_decide_eq_true h23; omega) | (have h9 := of_decide_eq_false h23; omega) | contradiction | simp_all)
          refine v_ldc2 C tw824 dX12_counter_56 ?_
          refine v_lret C dX12_counter_59 ?_
          refine ⟨?_, rfl⟩
          unfold oCounter
          rw [if_pos hi1, hsx, if_neg (nI_ne (by decide) (by decide) (by decide)), if_pos rfl, cTell_what (fun k hk => iin_no hi7 hk (by decide))]
        | true =>
          obtain ⟨d, hd7, rfl⟩ := iin_of hi7 (by decide)
          cases hi8 : iin x3 (zS (Y s)).length with
          | false =>
            refine v_iload_n C dX12_counter_0 rfl ?_
            refine mc_X12_146 C dX12_counter_1 (c_Mo_isStream _ E z) rfl (fun r1 G1 hp1 => ?_)
            obtain ⟨hr1, rfl⟩ := hp1
            rw [hi1] at hr1
            subst hr1
            first | refine v_ifb_eq C 56 dX12_counter_4 (by decide) (fun h4 => by exfalso; first | omega | exact absurd h4 (by decide) | (have h9 := of_decide_eq_true h4; omega) | (have h9 := of_decide_eq_false h4; omega) | contradiction | simp_all) (fun h4 => ?_) | refine v_ifn_eq C 56 dX12_counter_4 (by decide) (by omega) (fun h4 => by exfalso; first | omega | exact absurd h4 (by decide) | (have h9 := of_decide_eq_true h4; omega) | (have h9 := of_decide_eq_false h4; omega) | contradiction | simp_all) (fun h4 => ?_) | refine v_if_eq C 56 dX12_counter_4 (by decide) (fun h4 => by exfalso; first | omega | exact absurd h4 (by decide) | (have h9 := of_decide_eq_true h4; omega) | (have h9 := of_decide_eq_false h4; omega) | contradiction | simp_all) (fun h4 => ?_)
            refine v_iload_n C dX12_counter_7 rfl ?_
            refine v_iconst (v := nI 2) C dX12_counter_8 (by decide) ?_
            refine v_iconst (v := nI 3) C dX12_counter_9 (by decide) ?_
            refine mc_X12_101 C dX12_counter_10 (c_Mo_in _ E z) rfl (fun r10 G10 hp10 => ?_)
            obtain ⟨hr10, rfl⟩ := hp10
            rw [show inn (nI 3) (nI 2) (nI 3) = true by decide] at hr10
            subst hr10
            first | refine v_ifb_eq C 56 dX12_counter_13 (by decide) (fun h13 => by exfalso; first | omega | exact absurd h13 (by decide) | (have h9 := of_decide_eq_true h13; omega) | (have h9 := of_decide_eq_false h13; omega) | contradiction | simp_all) (fun h13 => ?_) | refine v_ifn_eq C 56 dX12_counter_13 (by decide) (by omega) (fun h13 => by exfalso; first | omega | exact absurd h13 (by decide) | (have h9 := of_decide_eq_true h13; omega) | (have h9 := of_decide_eq_false h13; omega) | contradiction | simp_all) (fun h13 => ?_) | refine v_if_eq C 56 dX12_counter_13 (by decide) (fun h13 => by exfalso; first | omega | exact absurd h13 (by decide) | (have h9 := of_decide_eq_true h13; omega) | (have h9 := of_decide_eq_false h13; omega) | contradiction | simp_all) (fun h13 => ?_)
            refine v_iload C dX12_counter_16 rfl ?_
            refine v_iconst (v := nI 0) C dX12_counter_18 (by decide) ?_
            refine v_iconst (v := nI 2) C dX12_counter_19 (by decide) ?_
            refine mc_X12_101 C dX12_counter_20 (c_Mo_in _ E z) rfl (fun r20 G20 hp20 => ?_)
            obtain ⟨hr20, rfl⟩ := hp20
            rw [inn_iin (n := 3) (by omega) (by omega), hi7] at hr20
            subst hr20
            first | refine v_ifb_eq C 56 dX12_counter_23 (by decide) (fun h23 => by exfalso; first | omega | exact absurd h23 (by decide) | (have h9 := of_decide_eq_true h23; omega) | (have h9 := of_decide_eq_false h23; omega) | contradiction | simp_all) (fun h23 => ?_) | refine v_ifn_eq C 56 dX12_counter_23 (by decide) (by omega) (fun h23 => by exfalso; first | omega | exact absurd h23 (by decide) | (have h9 := of_decide_eq_true h23; omega) | (have h9 := of_decide_eq_false h23; omega) | contradiction | simp_all) (fun h23 => ?_) | refine v_if_eq C 56 dX12_counter_23 (by decide) (fun h23 => by exfalso; first | omega | exact absurd h23 (by decide) | (have h9 := of_decide_eq_true h23; omega) | (have h9 := of_decide_eq_false h23; omega) | contradiction | simp_all) (fun h23 => ?_)
            refine v_iload_n C dX12_counter_26 rfl ?_
            refine v_iconst (v := nI 0) C dX12_counter_27 (by decide) ?_
            refine v_iload_n C dX12_counter_28 rfl ?_
            refine v_iconst (v := nI 2) C dX12_counter_29 (by decide) ?_
            refine v_icmpn_ne C 42 dX12_counter_30 (by decide) (by omega) (by omega) (fun h30 => ?_) (fun h30 => by exfalso; first | omega | exact absurd h30 (by decide) | (have h9 := of_decide_eq_true h30; omega) | (have h9 := of_decide_eq_false h30; omega) | contradiction | simp_all)
            refine v_aload_n C dX12_counter_42 rfl ?_
            refine gf_X12_38 C dX12_counter_43 (by assumption) ?_
            refine v_iload_n C dX12_counter_46 rfl ?_
            refine v_iald C dX12_counter_47 (by assumption) (by omega) (by omega) (hallS s hs).1 ?_
            refine v_iconst (v := nI 1) C dX12_counter_48 (by decide) ?_
            refine v_isub C dX12_counter_49 ?_
            refine mc_X12_101 C dX12_counter_50 (c_Mo_in _ E z) rfl (fun r50 G50 hp50 => ?_)
            obtain ⟨hr50, rfl⟩ := hp50
            rw [inn_len (n := (zS (Y s)).length) (by omega), hi8] at hr50
            subst hr50
            first | refine v_ifb_ne C 60 dX12_counter_53 (by decide) (fun h53 => by exfalso; first | omega | exact absurd h53 (by decide) | (have h9 := of_decide_eq_true h53; omega) | (have h9 := of_decide_eq_false h53; omega) | contradiction | simp_all) (fun h53 => ?_) | refine v_ifn_ne C 60 dX12_counter_53 (by decide) (by omega) (fun h53 => by exfalso; first | omega | exact absurd h53 (by decide) | (have h9 := of_decide_eq_true h53; omega) | (have h9 := of_decide_eq_false h53; omega) | contradiction | simp_all) (fun h53 => ?_) | refine v_if_ne C 60 dX12_counter_53 (by decide) (fun h53 => by exfalso; first | omega | exact absurd h53 (by decide) | (have h9 := of_decide_eq_true h53; omega) | (have h9 := of_decide_eq_false h53; omega) | contradiction | simp_all) (fun h53 => ?_)
            refine v_ldc2 C tw824 dX12_counter_56 ?_
            refine v_lret C dX12_counter_59 ?_
            refine ⟨?_, rfl⟩
            unfold oCounter
            rw [if_pos hi1, hsx, if_neg (nI_ne (by decide) (by decide) (by decide)), if_pos rfl, cTell_out hi8]
          | true =>
            obtain ⟨i, hi9, rfl⟩ := iin_of hi8 (by omega)
            have hci : (zS (Y s))[i]? = some (zS (Y s))[i] := List.getElem?_eq_getElem hi9
            rcases (show d = 0 ∨ d = 1 ∨ d = 2 by omega) with rfl | rfl | rfl
            · skip
              obtain ⟨a1, a3, a4, a5, a6⟩ := hallS s hs
              have hkb := a5 _ (List.mem_of_getElem? hci)
              refine v_iload_n C dX12_counter_0 rfl ?_
              refine mc_X12_146 C dX12_counter_1 (c_Mo_isStream _ E z) rfl (fun r1 G1 hp1 => ?_)
              obtain ⟨hr1, rfl⟩ := hp1
              rw [hi1] at hr1
              subst hr1
              first | refine v_ifb_eq C 56 dX12_counter_4 (by decide) (fun h4 => by exfalso; first | omega | exact absurd h4 (by decide) | (have h9 := of_decide_eq_true h4; omega) | (have h9 := of_decide_eq_false h4; omega) | contradiction | simp_all) (fun h4 => ?_) | refine v_ifn_eq C 56 dX12_counter_4 (by decide) (by omega) (fun h4 => by exfalso; first | omega | exact absurd h4 (by decide) | (have h9 := of_decide_eq_true h4; omega) | (have h9 := of_decide_eq_false h4; omega) | contradiction | simp_all) (fun h4 => ?_) | refine v_if_eq C 56 dX12_counter_4 (by decide) (fun h4 => by exfalso; first | omega | exact absurd h4 (by decide) | (have h9 := of_decide_eq_true h4; omega) | (have h9 := of_decide_eq_false h4; omega) | contradiction | simp_all) (fun h4 => ?_)
              refine v_iload_n C dX12_counter_7 rfl ?_
              refine v_iconst (v := nI 2) C dX12_counter_8 (by decide) ?_
              refine v_iconst (v := nI 3) C dX12_counter_9 (by decide) ?_
              refine mc_X12_101 C dX12_counter_10 (c_Mo_in _ E z) rfl (fun r10 G10 hp10 => ?_)
              obtain ⟨hr10, rfl⟩ := hp10
              rw [show inn (nI 3) (nI 2) (nI 3) = true by decide] at hr10
              subst hr10
              first | refine v_ifb_eq C 56 dX12_counter_13 (by decide) (fun h13 => by exfalso; first | omega | exact absurd h13 (by decide) | (have h9 := of_decide_eq_true h13; omega) | (have h9 := of_decide_eq_false h13; omega) | contradiction | simp_all) (fun h13 => ?_) | refine v_ifn_eq C 56 dX12_counter_13 (by decide) (by omega) (fun h13 => by exfalso; first | omega | exact absurd h13 (by decide) | (have h9 := of_decide_eq_true h13; omega) | (have h9 := of_decide_eq_false h13; omega) | contradiction | simp_all) (fun h13 => ?_) | refine v_if_eq C 56 dX12_counter_13 (by decide) (fun h13 => by exfalso; first | omega | exact absurd h13 (by decide) | (have h9 := of_decide_eq_true h13; omega) | (have h9 := of_decide_eq_false h13; omega) | contradiction | simp_all) (fun h13 => ?_)
              refine v_iload C dX12_counter_16 rfl ?_
              refine v_iconst (v := nI 0) C dX12_counter_18 (by decide) ?_
              refine v_iconst (v := nI 2) C dX12_counter_19 (by decide) ?_
              refine mc_X12_101 C dX12_counter_20 (c_Mo_in _ E z) rfl (fun r20 G20 hp20 => ?_)
              obtain ⟨hr20, rfl⟩ := hp20
              rw [inn_iin (n := 3) (by omega) (by omega), hi7] at hr20
              subst hr20
              first | refine v_ifb_eq C 56 dX12_counter_23 (by decide) (fun h23 => by exfalso; first | omega | exact absurd h23 (by decide) | (have h9 := of_decide_eq_true h23; omega) | (have h9 := of_decide_eq_false h23; omega) | contradiction | simp_all) (fun h23 => ?_) | refine v_ifn_eq C 56 dX12_counter_23 (by decide) (by omega) (fun h23 => by exfalso; first | omega | exact absurd h23 (by decide) | (have h9 := of_decide_eq_true h23; omega) | (have h9 := of_decide_eq_false h23; omega) | contradiction | simp_all) (fun h23 => ?_) | refine v_if_eq C 56 dX12_counter_23 (by decide) (fun h23 => by exfalso; first | omega | exact absurd h23 (by decide) | (have h9 := of_decide_eq_true h23; omega) | (have h9 := of_decide_eq_false h23; omega) | contradiction | simp_all) (fun h23 => ?_)
              refine v_iload_n C dX12_counter_26 rfl ?_
              refine v_iconst (v := nI 0) C dX12_counter_27 (by decide) ?_
              refine v_iload_n C dX12_counter_28 rfl ?_
              refine v_iconst (v := nI 2) C dX12_counter_29 (by decide) ?_
              refine v_icmpn_ne C 42 dX12_counter_30 (by decide) (by omega) (by omega) (fun h30 => ?_) (fun h30 => by exfalso; first | omega | exact absurd h30 (by decide) | (have h9 := of_decide_eq_true h30; omega) | (have h9 := of_decide_eq_false h30; omega) | contradiction | simp_all)
              refine v_aload_n C dX12_counter_42 rfl ?_
              refine gf_X12_38 C dX12_counter_43 (by assumption) ?_
              refine v_iload_n C dX12_counter_46 rfl ?_
              refine v_iald C dX12_counter_47 (by assumption) (by omega) (by omega) (hallS s hs).1 ?_
              refine v_iconst (v := nI 1) C dX12_counter_48 (by decide) ?_
              refine v_isub C dX12_counter_49 ?_
              refine mc_X12_101 C dX12_counter_50 (c_Mo_in _ E z) rfl (fun r50 G50 hp50 => ?_)
              obtain ⟨hr50, rfl⟩ := hp50
              rw [inn_len (n := (zS (Y s)).length) (by omega), hi8] at hr50
              subst hr50
              first | refine v_ifb_ne C 60 dX12_counter_53 (by decide) (fun h53 => ?_) (fun h53 => by exfalso; first | omega | exact absurd h53 (by decide) | (have h9 := of_decide_eq_true h53; omega) | (have h9 := of_decide_eq_false h53; omega) | contradiction | simp_all) | refine v_ifn_ne C 60 dX12_counter_53 (by decide) (by omega) (fun h53 => ?_) (fun h53 => by exfalso; first | omega | exact absurd h53 (by decide) | (have h9 := of_decide_eq_true h53; omega) | (have h9 := of_decide_eq_false h53; omega) | contradiction | simp_all) | refine v_if_ne C 60 dX12_counter_53 (by decide) (fun h53 => ?_) (fun h53 => by exfalso; first | omega | exact absurd h53 (by decide) | (have h9 := of_decide_eq_true h53; omega) | (have h9 := of_decide_eq_false h53; omega) | contradiction | simp_all)
              refine v_bipush (v := nI 64) C dX12_counter_60 (by decide) ?_
              refine v_iload_n C dX12_counter_62 rfl ?_
              first | refine v_imuln C dX12_counter_63 ?_ | refine v_imul C dX12_counter_63 ?_
              refine v_iload_n C dX12_counter_64 rfl ?_
              first | refine v_iaddn C dX12_counter_65 ?_ | refine v_iadd C dX12_counter_65 ?_
              refine v_istore_5 C dX12_counter_66 (by decide) (by first | rfl | assumption) ?_
              refine v_iload_n C dX12_counter_68 rfl ?_
              refine v_iconst (v := nI 2) C dX12_counter_69 (by decide) ?_
              refine v_icmpn_ne C 107 dX12_counter_70 (by decide) (by omega) (by omega) (fun h70 => ?_) (fun h70 => by exfalso; first | omega | exact absurd h70 (by decide) | (have h9 := of_decide_eq_true h70; omega) | (have h9 := of_decide_eq_false h70; omega) | contradiction | simp_all)
              refine v_iload C dX12_counter_107 rfl ?_
              first | refine v_ifb_ne C 123 dX12_counter_109 (by decide) (fun h109 => by exfalso; first | omega | exact absurd h109 (by decide) | (have h9 := of_decide_eq_true h109; omega) | (have h9 := of_decide_eq_false h109; omega) | contradiction | simp_all) (fun h109 => ?_) | refine v_ifn_ne C 123 dX12_counter_109 (by decide) (by omega) (fun h109 => by exfalso; first | omega | exact absurd h109 (by decide) | (have h9 := of_decide_eq_true h109; omega) | (have h9 := of_decide_eq_false h109; omega) | contradiction | simp_all) (fun h109 => ?_) | refine v_if_ne C 123 dX12_counter_109 (by decide) (fun h109 => by exfalso; first | omega | exact absurd h109 (by decide) | (have h9 := of_decide_eq_true h109; omega) | (have h9 := of_decide_eq_false h109; omega) | contradiction | simp_all) (fun h109 => ?_)
              refine v_aload_n C dX12_counter_112 rfl ?_
              refine gf_X12_41 C dX12_counter_113 (by assumption) ?_
              refine v_iload C dX12_counter_116 rfl ?_
              refine v_iald C dX12_counter_118 (by assumption) (by omega) (by omega) (a3 i _ hci).1 ?_
              first | refine v_i2ln C dX12_counter_119 (by omega) ?_ | refine v_i2l C dX12_counter_119 rfl ?_
              refine v_goto C 146 dX12_counter_120 (by decide) ?_
              refine v_lret C dX12_counter_146 ?_
              refine ⟨?_, rfl⟩
              unfold oCounter
              rw [if_pos hi1, hsx, if_neg (nI_ne (by decide) (by decide) (by decide)), if_pos rfl, cTell_in hci (by omega) (by decide), if_pos rfl]
            · skip
              obtain ⟨a1, a3, a4, a5, a6⟩ := hallS s hs
              have hkb := a5 _ (List.mem_of_getElem? hci)
              refine v_iload_n C dX12_counter_0 rfl ?_
              refine mc_X12_146 C dX12_counter_1 (c_Mo_isStream _ E z) rfl (fun r1 G1 hp1 => ?_)
              obtain ⟨hr1, rfl⟩ := hp1
              rw [hi1] at hr1
              subst hr1
              first | refine v_ifb_eq C 56 dX12_counter_4 (by decide) (fun h4 => by exfalso; first | omega | exact absurd h4 (by decide) | (have h9 := of_decide_eq_true h4; omega) | (have h9 := of_decide_eq_false h4; omega) | contradiction | simp_all) (fun h4 => ?_) | refine v_ifn_eq C 56 dX12_counter_4 (by decide) (by omega) (fun h4 => by exfalso; first | omega | exact absurd h4 (by decide) | (have h9 := of_decide_eq_true h4; omega) | (have h9 := of_decide_eq_false h4; omega) | contradiction | simp_all) (fun h4 => ?_) | refine v_if_eq C 56 dX12_counter_4 (by decide) (fun h4 => by exfalso; first | omega | exact absurd h4 (by decide) | (have h9 := of_decide_eq_true h4; omega) | (have h9 := of_decide_eq_false h4; omega) | contradiction | simp_all) (fun h4 => ?_)
              refine v_iload_n C dX12_counter_7 rfl ?_
              refine v_iconst (v := nI 2) C dX12_counter_8 (by decide) ?_
              refine v_iconst (v := nI 3) C dX12_counter_9 (by decide) ?_
              refine mc_X12_101 C dX12_counter_10 (c_Mo_in _ E z) rfl (fun r10 G10 hp10 => ?_)
              obtain ⟨hr10, rfl⟩ := hp10
              rw [show inn (nI 3) (nI 2) (nI 3) = true by decide] at hr10
              subst hr10
              first | refine v_ifb_eq C 56 dX12_counter_13 (by decide) (fun h13 => by exfalso; first | omega | exact absurd h13 (by decide) | (have h9 := of_decide_eq_true h13; omega) | (have h9 := of_decide_eq_false h13; omega) | contradiction | simp_all) (fun h13 => ?_) | refine v_ifn_eq C 56 dX12_counter_13 (by decide) (by omega) (fun h13 => by exfalso; first | omega | exact absurd h13 (by decide) | (have h9 := of_decide_eq_true h13; omega) | (have h9 := of_decide_eq_false h13; omega) | contradiction | simp_all) (fun h13 => ?_) | refine v_if_eq C 56 dX12_counter_13 (by decide) (fun h13 => by exfalso; first | omega | exact absurd h13 (by decide) | (have h9 := of_decide_eq_true h13; omega) | (have h9 := of_decide_eq_false h13; omega) | contradiction | simp_all) (fun h13 => ?_)
              refine v_iload C dX12_counter_16 rfl ?_
              refine v_iconst (v := nI 0) C dX12_counter_18 (by decide) ?_
              refine v_iconst (v := nI 2) C dX12_counter_19 (by decide) ?_
              refine mc_X12_101 C dX12_counter_20 (c_Mo_in _ E z) rfl (fun r20 G20 hp20 => ?_)
              obtain ⟨hr20, rfl⟩ := hp20
              rw [inn_iin (n := 3) (by omega) (by omega), hi7] at hr20
              subst hr20
              first | refine v_ifb_eq C 56 dX12_counter_23 (by decide) (fun h23 => by exfalso; first | omega | exact absurd h23 (by decide) | (have h9 := of_decide_eq_true h23; omega) | (have h9 := of_decide_eq_false h23; omega) | contradiction | simp_all) (fun h23 => ?_) | refine v_ifn_eq C 56 dX12_counter_23 (by decide) (by omega) (fun h23 => by exfalso; first | omega | exact absurd h23 (by decide) | (have h9 := of_decide_eq_true h23; omega) | (have h9 := of_decide_eq_false h23; omega) | contradiction | simp_all) (fun h23 => ?_) | refine v_if_eq C 56 dX12_counter_23 (by decide) (fun h23 => by exfalso; first | omega | exact absurd h23 (by decide) | (have h9 := of_decide_eq_true h23; omega) | (have h9 := of_decide_eq_false h23; omega) | contradiction | simp_all) (fun h23 => ?_)
              refine v_iload_n C dX12_counter_26 rfl ?_
              refine v_iconst (v := nI 0) C dX12_counter_27 (by decide) ?_
              refine v_iload_n C dX12_counter_28 rfl ?_
              refine v_iconst (v := nI 2) C dX12_counter_29 (by decide) ?_
              refine v_icmpn_ne C 42 dX12_counter_30 (by decide) (by omega) (by omega) (fun h30 => ?_) (fun h30 => by exfalso; first | omega | exact absurd h30 (by decide) | (have h9 := of_decide_eq_true h30; omega) | (have h9 := of_decide_eq_false h30; omega) | contradiction | simp_all)
              refine v_aload_n C dX12_counter_42 rfl ?_
              refine gf_X12_38 C dX12_counter_43 (by assumption) ?_
              refine v_iload_n C dX12_counter_46 rfl ?_
              refine v_iald C dX12_counter_47 (by assumption) (by omega) (by omega) (hallS s hs).1 ?_
              refine v_iconst (v := nI 1) C dX12_counter_48 (by decide) ?_
              refine v_isub C dX12_counter_49 ?_
              refine mc_X12_101 C dX12_counter_50 (c_Mo_in _ E z) rfl (fun r50 G50 hp50 => ?_)
              obtain ⟨hr50, rfl⟩ := hp50
              rw [inn_len (n := (zS (Y s)).length) (by omega), hi8] at hr50
              subst hr50
              first | refine v_ifb_ne C 60 dX12_counter_53 (by decide) (fun h53 => ?_) (fun h53 => by exfalso; first | omega | exact absurd h53 (by decide) | (have h9 := of_decide_eq_true h53; omega) | (have h9 := of_decide_eq_false h53; omega) | contradiction | simp_all) | refine v_ifn_ne C 60 dX12_counter_53 (by decide) (by omega) (fun h53 => ?_) (fun h53 => by exfalso; first | omega | exact absurd h53 (by decide) | (have h9 := of_decide_eq_true h53; omega) | (have h9 := of_decide_eq_false h53; omega) | contradiction | simp_all) | refine v_if_ne C 60 dX12_counter_53 (by decide) (fun h53 => ?_) (fun h53 => by exfalso; first | omega | exact absurd h53 (by decide) | (have h9 := of_decide_eq_true h53; omega) | (have h9 := of_decide_eq_false h53; omega) | contradiction | simp_all)
              refine v_bipush (v := nI 64) C dX12_counter_60 (by decide) ?_
              refine v_iload_n C dX12_counter_62 rfl ?_
              first | refine v_imuln C dX12_counter_63 ?_ | refine v_imul C dX12_counter_63 ?_
              refine v_iload_n C dX12_counter_64 rfl ?_
              first | refine v_iaddn C dX12_counter_65 ?_ | refine v_iadd C dX12_counter_65 ?_
              refine v_istore_5 C dX12_counter_66 (by decide) (by first | rfl | assumption) ?_
              refine v_iload_n C dX12_counter_68 rfl ?_
              refine v_iconst (v := nI 2) C dX12_counter_69 (by decide) ?_
              refine v_icmpn_ne C 107 dX12_counter_70 (by decide) (by omega) (by omega) (fun h70 => ?_) (fun h70 => by exfalso; first | omega | exact absurd h70 (by decide) | (have h9 := of_decide_eq_true h70; omega) | (have h9 := of_decide_eq_false h70; omega) | contradiction | simp_all)
              refine v_iload C dX12_counter_107 rfl ?_
              first | refine v_ifb_ne C 123 dX12_counter_109 (by decide) (fun h109 => ?_) (fun h109 => by exfalso; first | omega | exact absurd h109 (by decide) | (have h9 := of_decide_eq_true h109; omega) | (have h9 := of_decide_eq_false h109; omega) | contradiction | simp_all) | refine v_ifn_ne C 123 dX12_counter_109 (by decide) (by omega) (fun h109 => ?_) (fun h109 => by exfalso; first | omega | exact absurd h109 (by decide) | (have h9 := of_decide_eq_true h109; omega) | (have h9 := of_decide_eq_false h109; omega) | contradiction | simp_all) | refine v_if_ne C 123 dX12_counter_109 (by decide) (fun h109 => ?_) (fun h109 => by exfalso; first | omega | exact absurd h109 (by decide) | (have h9 := of_decide_eq_true h109; omega) | (have h9 := of_decide_eq_false h109; omega) | contradiction | simp_all)
              refine v_iload C dX12_counter_123 rfl ?_
              refine v_iconst (v := nI 1) C dX12_counter_125 (by decide) ?_
              refine v_icmpn_ne C 139 dX12_counter_126 (by decide) (by omega) (by omega) (fun h126 => by exfalso; first | omega | exact absurd h126 (by decide) | (have h9 := of_decide_eq_true h126; omega) | (have h9 := of_decide_eq_false h126; omega) | contradiction | simp_all) (fun h126 => ?_)
              refine v_aload_n C dX12_counter_129 rfl ?_
              refine gf_X12_44 C dX12_counter_130 (by assumption) ?_
              refine v_iload C dX12_counter_133 rfl ?_
              refine v_lald C dX12_counter_135 (by assumption) (by omega) (by omega) (a3 i _ hci).2.1 ?_
              refine v_goto C 146 dX12_counter_136 (by decide) ?_
              refine v_lret C dX12_counter_146 ?_
              refine ⟨?_, rfl⟩
              unfold oCounter
              rw [if_pos hi1, hsx, if_neg (nI_ne (by decide) (by decide) (by decide)), if_pos rfl, cTell_in hci (by omega) (by decide), if_neg (nI_ne (by decide) (by decide) (by decide)), if_pos rfl]
            · skip
              obtain ⟨a1, a3, a4, a5, a6⟩ := hallS s hs
              have hkb := a5 _ (List.mem_of_getElem? hci)
              refine v_iload_n C dX12_counter_0 rfl ?_
              refine mc_X12_146 C dX12_counter_1 (c_Mo_isStream _ E z) rfl (fun r1 G1 hp1 => ?_)
              obtain ⟨hr1, rfl⟩ := hp1
              rw [hi1] at hr1
              subst hr1
              first | refine v_ifb_eq C 56 dX12_counter_4 (by decide) (fun h4 => by exfalso; first | omega | exact absurd h4 (by decide) | (have h9 := of_decide_eq_true h4; omega) | (have h9 := of_decide_eq_false h4; omega) | contradiction | simp_all) (fun h4 => ?_) | refine v_ifn_eq C 56 dX12_counter_4 (by decide) (by omega) (fun h4 => by exfalso; first | omega | exact absurd h4 (by decide) | (have h9 := of_decide_eq_true h4; omega) | (have h9 := of_decide_eq_false h4; omega) | contradiction | simp_all) (fun h4 => ?_) | refine v_if_eq C 56 dX12_counter_4 (by decide) (fun h4 => by exfalso; first | omega | exact absurd h4 (by decide) | (have h9 := of_decide_eq_true h4; omega) | (have h9 := of_decide_eq_false h4; omega) | contradiction | simp_all) (fun h4 => ?_)
              refine v_iload_n C dX12_counter_7 rfl ?_
              refine v_iconst (v := nI 2) C dX12_counter_8 (by decide) ?_
              refine v_iconst (v := nI 3) C dX12_counter_9 (by decide) ?_
              refine mc_X12_101 C dX12_counter_10 (c_Mo_in _ E z) rfl (fun r10 G10 hp10 => ?_)
              obtain ⟨hr10, rfl⟩ := hp10
              rw [show inn (nI 3) (nI 2) (nI 3) = true by decide] at hr10
              subst hr10
              first | refine v_ifb_eq C 56 dX12_counter_13 (by decide) (fun h13 => by exfalso; first | omega | exact absurd h13 (by decide) | (have h9 := of_decide_eq_true h13; omega) | (have h9 := of_decide_eq_false h13; omega) | contradiction | simp_all) (fun h13 => ?_) | refine v_ifn_eq C 56 dX12_counter_13 (by decide) (by omega) (fun h13 => by exfalso; first | omega | exact absurd h13 (by decide) | (have h9 := of_decide_eq_true h13; omega) | (have h9 := of_decide_eq_false h13; omega) | contradiction | simp_all) (fun h13 => ?_) | refine v_if_eq C 56 dX12_counter_13 (by decide) (fun h13 => by exfalso; first | omega | exact absurd h13 (by decide) | (have h9 := of_decide_eq_true h13; omega) | (have h9 := of_decide_eq_false h13; omega) | contradiction | simp_all) (fun h13 => ?_)
              refine v_iload C dX12_counter_16 rfl ?_
              refine v_iconst (v := nI 0) C dX12_counter_18 (by decide) ?_
              refine v_iconst (v := nI 2) C dX12_counter_19 (by decide) ?_
              refine mc_X12_101 C dX12_counter_20 (c_Mo_in _ E z) rfl (fun r20 G20 hp20 => ?_)
              obtain ⟨hr20, rfl⟩ := hp20
              rw [inn_iin (n := 3) (by omega) (by omega), hi7] at hr20
              subst hr20
              first | refine v_ifb_eq C 56 dX12_counter_23 (by decide) (fun h23 => by exfalso; first | omega | exact absurd h23 (by decide) | (have h9 := of_decide_eq_true h23; omega) | (have h9 := of_decide_eq_false h23; omega) | contradiction | simp_all) (fun h23 => ?_) | refine v_ifn_eq C 56 dX12_counter_23 (by decide) (by omega) (fun h23 => by exfalso; first | omega | exact absurd h23 (by decide) | (have h9 := of_decide_eq_true h23; omega) | (have h9 := of_decide_eq_false h23; omega) | contradiction | simp_all) (fun h23 => ?_) | refine v_if_eq C 56 dX12_counter_23 (by decide) (fun h23 => by exfalso; first | omega | exact absurd h23 (by decide) | (have h9 := of_decide_eq_true h23; omega) | (have h9 := of_decide_eq_false h23; omega) | contradiction | simp_all) (fun h23 => ?_)
              refine v_iload_n C dX12_counter_26 rfl ?_
              refine v_iconst (v := nI 0) C dX12_counter_27 (by decide) ?_
              refine v_iload_n C dX12_counter_28 rfl ?_
              refine v_iconst (v := nI 2) C dX12_counter_29 (by decide) ?_
              refine v_icmpn_ne C 42 dX12_counter_30 (by decide) (by omega) (by omega) (fun h30 => ?_) (fun h30 => by exfalso; first | omega | exact absurd h30 (by decide) | (have h9 := of_decide_eq_true h30; omega) | (have h9 := of_decide_eq_false h30; omega) | contradiction | simp_all)
              refine v_aload_n C dX12_counter_42 rfl ?_
              refine gf_X12_38 C dX12_counter_43 (by assumption) ?_
              refine v_iload_n C dX12_counter_46 rfl ?_
              refine v_iald C dX12_counter_47 (by assumption) (by omega) (by omega) (hallS s hs).1 ?_
              refine v_iconst (v := nI 1) C dX12_counter_48 (by decide) ?_
              refine v_isub C dX12_counter_49 ?_
              refine mc_X12_101 C dX12_counter_50 (c_Mo_in _ E z) rfl (fun r50 G50 hp50 => ?_)
              obtain ⟨hr50, rfl⟩ := hp50
              rw [inn_len (n := (zS (Y s)).length) (by omega), hi8] at hr50
              subst hr50
              first | refine v_ifb_ne C 60 dX12_counter_53 (by decide) (fun h53 => ?_) (fun h53 => by exfalso; first | omega | exact absurd h53 (by decide) | (have h9 := of_decide_eq_true h53; omega) | (have h9 := of_decide_eq_false h53; omega) | contradiction | simp_all) | refine v_ifn_ne C 60 dX12_counter_53 (by decide) (by omega) (fun h53 => ?_) (fun h53 => by exfalso; first | omega | exact absurd h53 (by decide) | (have h9 := of_decide_eq_true h53; omega) | (have h9 := of_decide_eq_false h53; omega) | contradiction | simp_all) | refine v_if_ne C 60 dX12_counter_53 (by decide) (fun h53 => ?_) (fun h53 => by exfalso; first | omega | exact absurd h53 (by decide) | (have h9 := of_decide_eq_true h53; omega) | (have h9 := of_decide_eq_false h53; omega) | contradiction | simp_all)
              refine v_bipush (v := nI 64) C dX12_counter_60 (by decide) ?_
              refine v_iload_n C dX12_counter_62 rfl ?_
              first | refine v_imuln C dX12_counter_63 ?_ | refine v_imul C dX12_counter_63 ?_
              refine v_iload_n C dX12_counter_64 rfl ?_
              first | refine v_iaddn C dX12_counter_65 ?_ | refine v_iadd C dX12_counter_65 ?_
              refine v_istore_5 C dX12_counter_66 (by decide) (by first | rfl | assumption) ?_
              refine v_iload_n C dX12_counter_68 rfl ?_
              refine v_iconst (v := nI 2) C dX12_counter_69 (by decide) ?_
              refine v_icmpn_ne C 107 dX12_counter_70 (by decide) (by omega) (by omega) (fun h70 => ?_) (fun h70 => by exfalso; first | omega | exact absurd h70 (by decide) | (have h9 := of_decide_eq_true h70; omega) | (have h9 := of_decide_eq_false h70; omega) | contradiction | simp_all)
              refine v_iload C dX12_counter_107 rfl ?_
              first | refine v_ifb_ne C 123 dX12_counter_109 (by decide) (fun h109 => ?_) (fun h109 => by exfalso; first | omega | exact absurd h109 (by decide) | (have h9 := of_decide_eq_true h109; omega) | (have h9 := of_decide_eq_false h109; omega) | contradiction | simp_all) | refine v_ifn_ne C 123 dX12_counter_109 (by decide) (by omega) (fun h109 => ?_) (fun h109 => by exfalso; first | omega | exact absurd h109 (by decide) | (have h9 := of_decide_eq_true h109; omega) | (have h9 := of_decide_eq_false h109; omega) | contradiction | simp_all) | refine v_if_ne C 123 dX12_counter_109 (by decide) (fun h109 => ?_) (fun h109 => by exfalso; first | omega | exact absurd h109 (by decide) | (have h9 := of_decide_eq_true h109; omega) | (have h9 := of_decide_eq_false h109; omega) | contradiction | simp_all)
              refine v_iload C dX12_counter_123 rfl ?_
              refine v_iconst (v := nI 1) C dX12_counter_125 (by decide) ?_
              refine v_icmpn_ne C 139 dX12_counter_126 (by decide) (by omega) (by omega) (fun h126 => ?_) (fun h126 => by exfalso; first | omega | exact absurd h126 (by decide) | (have h9 := of_decide_eq_true h126; omega) | (have h9 := of_decide_eq_false h126; omega) | contradiction | simp_all)
              refine v_aload_n C dX12_counter_139 rfl ?_
              refine gf_X12_47 C dX12_counter_140 (by assumption) ?_
              refine v_iload C dX12_counter_143 rfl ?_
              refine v_lald C dX12_counter_145 (by assumption) (by omega) (by omega) (a3 i _ hci).2.2 ?_
              refine v_lret C dX12_counter_146 ?_
              refine ⟨?_, rfl⟩
              unfold oCounter
              rw [if_pos hi1, hsx, if_neg (nI_ne (by decide) (by decide) (by decide)), if_pos rfl, cTell_in hci (by omega) (by decide), if_neg (nI_ne (by decide) (by decide) (by decide)), if_neg (nI_ne (by decide) (by decide) (by decide))]
    | true =>
      have q2 := of_decide_eq_true hi5
      subst q2
      cases hi7 : iin x4 3 with
      | false =>
        refine v_iload_n C dX12_counter_0 rfl ?_
        refine mc_X12_146 C dX12_counter_1 (c_Mo_isStream _ E z) rfl (fun r1 G1 hp1 => ?_)
        obtain ⟨hr1, rfl⟩ := hp1
        rw [hi1] at hr1
        subst hr1
        first | refine v_ifb_eq C 56 dX12_counter_4 (by decide) (fun h4 => by exfalso; first | omega | exact absurd h4 (by decide) | (have h9 := of_decide_eq_true h4; omega) | (have h9 := of_decide_eq_false h4; omega) | contradiction | simp_all) (fun h4 => ?_) | refine v_ifn_eq C 56 dX12_counter_4 (by decide) (by omega) (fun h4 => by exfalso; first | omega | exact absurd h4 (by decide) | (have h9 := of_decide_eq_true h4; omega) | (have h9 := of_decide_eq_false h4; omega) | contradiction | simp_all) (fun h4 => ?_) | refine v_if_eq C 56 dX12_counter_4 (by decide) (fun h4 => by exfalso; first | omega | exact absurd h4 (by decide) | (have h9 := of_decide_eq_true h4; omega) | (have h9 := of_decide_eq_false h4; omega) | contradiction | simp_all) (fun h4 => ?_)
        refine v_iload_n C dX12_counter_7 rfl ?_
        refine v_iconst (v := nI 2) C dX12_counter_8 (by decide) ?_
        refine v_iconst (v := nI 3) C dX12_counter_9 (by decide) ?_
        refine mc_X12_101 C dX12_counter_10 (c_Mo_in _ E z) rfl (fun r10 G10 hp10 => ?_)
        obtain ⟨hr10, rfl⟩ := hp10
        rw [show inn (nI 2) (nI 2) (nI 3) = true by decide] at hr10
        subst hr10
        first | refine v_ifb_eq C 56 dX12_counter_13 (by decide) (fun h13 => by exfalso; first | omega | exact absurd h13 (by decide) | (have h9 := of_decide_eq_true h13; omega) | (have h9 := of_decide_eq_false h13; omega) | contradiction | simp_all) (fun h13 => ?_) | refine v_ifn_eq C 56 dX12_counter_13 (by decide) (by omega) (fun h13 => by exfalso; first | omega | exact absurd h13 (by decide) | (have h9 := of_decide_eq_true h13; omega) | (have h9 := of_decide_eq_false h13; omega) | contradiction | simp_all) (fun h13 => ?_) | refine v_if_eq C 56 dX12_counter_13 (by decide) (fun h13 => by exfalso; first | omega | exact absurd h13 (by decide) | (have h9 := of_decide_eq_true h13; omega) | (have h9 := of_decide_eq_false h13; omega) | contradiction | simp_all) (fun h13 => ?_)
        refine v_iload C dX12_counter_16 rfl ?_
        refine v_iconst (v := nI 0) C dX12_counter_18 (by decide) ?_
        refine v_iconst (v := nI 2) C dX12_counter_19 (by decide) ?_
        refine mc_X12_101 C dX12_counter_20 (c_Mo_in _ E z) rfl (fun r20 G20 hp20 => ?_)
        obtain ⟨hr20, rfl⟩ := hp20
        rw [inn_iin (n := 3) (by omega) (by omega), hi7] at hr20
        subst hr20
        first | refine v_ifb_eq C 56 dX12_counter_23 (by decide) (fun h23 => ?_) (fun h23 => by exfalso; first | omega | exact absurd h23 (by decide) | (have h9 := of_decide_eq_true h23; omega) | (have h9 := of_decide_eq_false h23; omega) | contradiction | simp_all) | refine v_ifn_eq C 56 dX12_counter_23 (by decide) (by omega) (fun h23 => ?_) (fun h23 => by exfalso; first | omega | exact absurd h23 (by decide) | (have h9 := of_decide_eq_true h23; omega) | (have h9 := of_decide_eq_false h23; omega) | contradiction | simp_all) | refine v_if_eq C 56 dX12_counter_23 (by decide) (fun h23 => ?_) (fun h23 => by exfalso; first | omega | exact absurd h23 (by decide) | (have h9 := of_decide_eq_true h23; omega) | (have h9 := of_decide_eq_false h23; omega) | contradiction | simp_all)
        refine v_ldc2 C tw824 dX12_counter_56 ?_
        refine v_lret C dX12_counter_59 ?_
        refine ⟨?_, rfl⟩
        unfold oCounter
        rw [if_pos hi1, hsx, if_pos rfl, cTell_what (fun k hk => iin_no hi7 hk (by decide))]
      | true =>
        obtain ⟨d, hd7, rfl⟩ := iin_of hi7 (by decide)
        cases hi8 : iin x3 (zM (Y s)).length with
        | false =>
          refine v_iload_n C dX12_counter_0 rfl ?_
          refine mc_X12_146 C dX12_counter_1 (c_Mo_isStream _ E z) rfl (fun r1 G1 hp1 => ?_)
          obtain ⟨hr1, rfl⟩ := hp1
          rw [hi1] at hr1
          subst hr1
          first | refine v_ifb_eq C 56 dX12_counter_4 (by decide) (fun h4 => by exfalso; first | omega | exact absurd h4 (by decide) | (have h9 := of_decide_eq_true h4; omega) | (have h9 := of_decide_eq_false h4; omega) | contradiction | simp_all) (fun h4 => ?_) | refine v_ifn_eq C 56 dX12_counter_4 (by decide) (by omega) (fun h4 => by exfalso; first | omega | exact absurd h4 (by decide) | (have h9 := of_decide_eq_true h4; omega) | (have h9 := of_decide_eq_false h4; omega) | contradiction | simp_all) (fun h4 => ?_) | refine v_if_eq C 56 dX12_counter_4 (by decide) (fun h4 => by exfalso; first | omega | exact absurd h4 (by decide) | (have h9 := of_decide_eq_true h4; omega) | (have h9 := of_decide_eq_false h4; omega) | contradiction | simp_all) (fun h4 => ?_)
          refine v_iload_n C dX12_counter_7 rfl ?_
          refine v_iconst (v := nI 2) C dX12_counter_8 (by decide) ?_
          refine v_iconst (v := nI 3) C dX12_counter_9 (by decide) ?_
          refine mc_X12_101 C dX12_counter_10 (c_Mo_in _ E z) rfl (fun r10 G10 hp10 => ?_)
          obtain ⟨hr10, rfl⟩ := hp10
          rw [show inn (nI 2) (nI 2) (nI 3) = true by decide] at hr10
          subst hr10
          first | refine v_ifb_eq C 56 dX12_counter_13 (by decide) (fun h13 => by exfalso; first | omega | exact absurd h13 (by decide) | (have h9 := of_decide_eq_true h13; omega) | (have h9 := of_decide_eq_false h13; omega) | contradiction | simp_all) (fun h13 => ?_) | refine v_ifn_eq C 56 dX12_counter_13 (by decide) (by omega) (fun h13 => by exfalso; first | omega | exact absurd h13 (by decide) | (have h9 := of_decide_eq_true h13; omega) | (have h9 := of_decide_eq_false h13; omega) | contradiction | simp_all) (fun h13 => ?_) | refine v_if_eq C 56 dX12_counter_13 (by decide) (fun h13 => by exfalso; first | omega | exact absurd h13 (by decide) | (have h9 := of_decide_eq_true h13; omega) | (have h9 := of_decide_eq_false h13; omega) | contradiction | simp_all) (fun h13 => ?_)
          refine v_iload C dX12_counter_16 rfl ?_
          refine v_iconst (v := nI 0) C dX12_counter_18 (by decide) ?_
          refine v_iconst (v := nI 2) C dX12_counter_19 (by decide) ?_
          refine mc_X12_101 C dX12_counter_20 (c_Mo_in _ E z) rfl (fun r20 G20 hp20 => ?_)
          obtain ⟨hr20, rfl⟩ := hp20
          rw [inn_iin (n := 3) (by omega) (by omega), hi7] at hr20
          subst hr20
          first | refine v_ifb_eq C 56 dX12_counter_23 (by decide) (fun h23 => by exfalso; first | omega | exact absurd h23 (by decide) | (have h9 := of_decide_eq_true h23; omega) | (have h9 := of_decide_eq_false h23; omega) | contradiction | simp_all) (fun h23 => ?_) | refine v_ifn_eq C 56 dX12_counter_23 (by decide) (by omega) (fun h23 => by exfalso; first | omega | exact absurd h23 (by decide) | (have h9 := of_decide_eq_true h23; omega) | (have h9 := of_decide_eq_false h23; omega) | contradiction | simp_all) (fun h23 => ?_) | refine v_if_eq C 56 dX12_counter_23 (by decide) (fun h23 => by exfalso; first | omega | exact absurd h23 (by decide) | (have h9 := of_decide_eq_true h23; omega) | (have h9 := of_decide_eq_false h23; omega) | contradiction | simp_all) (fun h23 => ?_)
          refine v_iload_n C dX12_counter_26 rfl ?_
          refine v_iconst (v := nI 0) C dX12_counter_27 (by decide) ?_
          refine v_iload_n C dX12_counter_28 rfl ?_
          refine v_iconst (v := nI 2) C dX12_counter_29 (by decide) ?_
          refine v_icmpn_ne C 42 dX12_counter_30 (by decide) (by omega) (by omega) (fun h30 => by exfalso; first | omega | exact absurd h30 (by decide) | (have h9 := of_decide_eq_true h30; omega) | (have h9 := of_decide_eq_false h30; omega) | contradiction | simp_all) (fun h30 => ?_)
          refine v_aload_n C dX12_counter_33 rfl ?_
          refine gf_X12_26 C dX12_counter_34 (by assumption) ?_
          refine v_iload_n C dX12_counter_37 rfl ?_
          refine v_iald C dX12_counter_38 (by assumption) (by omega) (by omega) (hallM s hs).1 ?_
          refine v_goto C 48 dX12_counter_39 (by decide) ?_
          refine v_iconst (v := nI 1) C dX12_counter_48 (by decide) ?_
          refine v_isub C dX12_counter_49 ?_
          refine mc_X12_101 C dX12_counter_50 (c_Mo_in _ E z) rfl (fun r50 G50 hp50 => ?_)
          obtain ⟨hr50, rfl⟩ := hp50
          rw [inn_len (n := (zM (Y s)).length) (by omega), hi8] at hr50
          subst hr50
          first | refine v_ifb_ne C 60 dX12_counter_53 (by decide) (fun h53 => by exfalso; first | omega | exact absurd h53 (by decide) | (have h9 := of_decide_eq_true h53; omega) | (have h9 := of_decide_eq_false h53; omega) | contradiction | simp_all) (fun h53 => ?_) | refine v_ifn_ne C 60 dX12_counter_53 (by decide) (by omega) (fun h53 => by exfalso; first | omega | exact absurd h53 (by decide) | (have h9 := of_decide_eq_true h53; omega) | (have h9 := of_decide_eq_false h53; omega) | contradiction | simp_all) (fun h53 => ?_) | refine v_if_ne C 60 dX12_counter_53 (by decide) (fun h53 => by exfalso; first | omega | exact absurd h53 (by decide) | (have h9 := of_decide_eq_true h53; omega) | (have h9 := of_decide_eq_false h53; omega) | contradiction | simp_all) (fun h53 => ?_)
          refine v_ldc2 C tw824 dX12_counter_56 ?_
          refine v_lret C dX12_counter_59 ?_
          refine ⟨?_, rfl⟩
          unfold oCounter
          rw [if_pos hi1, hsx, if_pos rfl, cTell_out hi8]
        | true =>
          obtain ⟨i, hi9, rfl⟩ := iin_of hi8 (by omega)
          have hci : (zM (Y s))[i]? = some (zM (Y s))[i] := List.getElem?_eq_getElem hi9
          rcases (show d = 0 ∨ d = 1 ∨ d = 2 by omega) with rfl | rfl | rfl
          · skip
            obtain ⟨a1, a2, a3, a4, a5, a6⟩ := hallM s hs
            have hkb := a5 _ (List.mem_of_getElem? hci)
            refine v_iload_n C dX12_counter_0 rfl ?_
            refine mc_X12_146 C dX12_counter_1 (c_Mo_isStream _ E z) rfl (fun r1 G1 hp1 => ?_)
            obtain ⟨hr1, rfl⟩ := hp1
            rw [hi1] at hr1
            subst hr1
            first | refine v_ifb_eq C 56 dX12_counter_4 (by decide) (fun h4 => by exfalso; first | omega | exact absurd h4 (by decide) | (have h9 := of_decide_eq_true h4; omega) | (have h9 := of_decide_eq_false h4; omega) | contradiction | simp_all) (fun h4 => ?_) | refine v_ifn_eq C 56 dX12_counter_4 (by decide) (by omega) (fun h4 => by exfalso; first | omega | exact absurd h4 (by decide) | (have h9 := of_decide_eq_true h4; omega) | (have h9 := of_decide_eq_false h4; omega) | contradiction | simp_all) (fun h4 => ?_) | refine v_if_eq C 56 dX12_counter_4 (by decide) (fun h4 => by exfalso; first | omega | exact absurd h4 (by decide) | (have h9 := of_decide_eq_true h4; omega) | (have h9 := of_decide_eq_false h4; omega) | contradiction | simp_all) (fun h4 => ?_)
            refine v_iload_n C dX12_counter_7 rfl ?_
            refine v_iconst (v := nI 2) C dX12_counter_8 (by decide) ?_
            refine v_iconst (v := nI 3) C dX12_counter_9 (by decide) ?_
            refine mc_X12_101 C dX12_counter_10 (c_Mo_in _ E z) rfl (fun r10 G10 hp10 => ?_)
            obtain ⟨hr10, rfl⟩ := hp10
            rw [show inn (nI 2) (nI 2) (nI 3) = true by decide] at hr10
            subst hr10
            first | refine v_ifb_eq C 56 dX12_counter_13 (by decide) (fun h13 => by exfalso; first | omega | exact absurd h13 (by decide) | (have h9 := of_decide_eq_true h13; omega) | (have h9 := of_decide_eq_false h13; omega) | contradiction | simp_all) (fun h13 => ?_) | refine v_ifn_eq C 56 dX12_counter_13 (by decide) (by omega) (fun h13 => by exfalso; first | omega | exact absurd h13 (by decide) | (have h9 := of_decide_eq_true h13; omega) | (have h9 := of_decide_eq_false h13; omega) | contradiction | simp_all) (fun h13 => ?_) | refine v_if_eq C 56 dX12_counter_13 (by decide) (fun h13 => by exfalso; first | omega | exact absurd h13 (by decide) | (have h9 := of_decide_eq_true h13; omega) | (have h9 := of_decide_eq_false h13; omega) | contradiction | simp_all) (fun h13 => ?_)
            refine v_iload C dX12_counter_16 rfl ?_
            refine v_iconst (v := nI 0) C dX12_counter_18 (by decide) ?_
            refine v_iconst (v := nI 2) C dX12_counter_19 (by decide) ?_
            refine mc_X12_101 C dX12_counter_20 (c_Mo_in _ E z) rfl (fun r20 G20 hp20 => ?_)
            obtain ⟨hr20, rfl⟩ := hp20
            rw [inn_iin (n := 3) (by omega) (by omega), hi7] at hr20
            subst hr20
            first | refine v_ifb_eq C 56 dX12_counter_23 (by decide) (fun h23 => by exfalso; first | omega | exact absurd h23 (by decide) | (have h9 := of_decide_eq_true h23; omega) | (have h9 := of_decide_eq_false h23; omega) | contradiction | simp_all) (fun h23 => ?_) | refine v_ifn_eq C 56 dX12_counter_23 (by decide) (by omega) (fun h23 => by exfalso; first | omega | exact absurd h23 (by decide) | (have h9 := of_decide_eq_true h23; omega) | (have h9 := of_decide_eq_false h23; omega) | contradiction | simp_all) (fun h23 => ?_) | refine v_if_eq C 56 dX12_counter_23 (by decide) (fun h23 => by exfalso; first | omega | exact absurd h23 (by decide) | (have h9 := of_decide_eq_true h23; omega) | (have h9 := of_decide_eq_false h23; omega) | contradiction | simp_all) (fun h23 => ?_)
            refine v_iload_n C dX12_counter_26 rfl ?_
            refine v_iconst (v := nI 0) C dX12_counter_27 (by decide) ?_
            refine v_iload_n C dX12_counter_28 rfl ?_
            refine v_iconst (v := nI 2) C dX12_counter_29 (by decide) ?_
            refine v_icmpn_ne C 42 dX12_counter_30 (by decide) (by omega) (by omega) (fun h30 => by exfalso; first | omega | exact absurd h30 (by decide) | (have h9 := of_decide_eq_true h30; omega) | (have h9 := of_decide_eq_false h30; omega) | contradiction | simp_all) (fun h30 => ?_)
            refine v_aload_n C dX12_counter_33 rfl ?_
            refine gf_X12_26 C dX12_counter_34 (by assumption) ?_
            refine v_iload_n C dX12_counter_37 rfl ?_
            refine v_iald C dX12_counter_38 (by assumption) (by omega) (by omega) (hallM s hs).1 ?_
            refine v_goto C 48 dX12_counter_39 (by decide) ?_
            refine v_iconst (v := nI 1) C dX12_counter_48 (by decide) ?_
            refine v_isub C dX12_counter_49 ?_
            refine mc_X12_101 C dX12_counter_50 (c_Mo_in _ E z) rfl (fun r50 G50 hp50 => ?_)
            obtain ⟨hr50, rfl⟩ := hp50
            rw [inn_len (n := (zM (Y s)).length) (by omega), hi8] at hr50
            subst hr50
            first | refine v_ifb_ne C 60 dX12_counter_53 (by decide) (fun h53 => ?_) (fun h53 => by exfalso; first | omega | exact absurd h53 (by decide) | (have h9 := of_decide_eq_true h53; omega) | (have h9 := of_decide_eq_false h53; omega) | contradiction | simp_all) | refine v_ifn_ne C 60 dX12_counter_53 (by decide) (by omega) (fun h53 => ?_) (fun h53 => by exfalso; first | omega | exact absurd h53 (by decide) | (have h9 := of_decide_eq_true h53; omega) | (have h9 := of_decide_eq_false h53; omega) | contradiction | simp_all) | refine v_if_ne C 60 dX12_counter_53 (by decide) (fun h53 => ?_) (fun h53 => by exfalso; first | omega | exact absurd h53 (by decide) | (have h9 := of_decide_eq_true h53; omega) | (have h9 := of_decide_eq_false h53; omega) | contradiction | simp_all)
            refine v_bipush (v := nI 64) C dX12_counter_60 (by decide) ?_
            refine v_iload_n C dX12_counter_62 rfl ?_
            first | refine v_imuln C dX12_counter_63 ?_ | refine v_imul C dX12_counter_63 ?_
            refine v_iload_n C dX12_counter_64 rfl ?_
            first | refine v_iaddn C dX12_counter_65 ?_ | refine v_iadd C dX12_counter_65 ?_
            refine v_istore_5 C dX12_counter_66 (by decide) (by first | rfl | assumption) ?_
            refine v_iload_n C dX12_counter_68 rfl ?_
            refine v_iconst (v := nI 2) C dX12_counter_69 (by decide) ?_
            refine v_icmpn_ne C 107 dX12_counter_70 (by decide) (by omega) (by omega) (fun h70 => by exfalso; first | omega | exact absurd h70 (by decide) | (have h9 := of_decide_eq_true h70; omega) | (have h9 := of_decide_eq_false h70; omega) | contradiction | simp_all) (fun h70 => ?_)
            refine v_iload C dX12_counter_73 rfl ?_
            first | refine v_ifb_ne C 89 dX12_counter_75 (by decide) (fun h75 => by exfalso; first | omega | exact absurd h75 (by decide) | (have h9 := of_decide_eq_true h75; omega) | (have h9 := of_decide_eq_false h75; omega) | contradiction | simp_all) (fun h75 => ?_) | refine v_ifn_ne C 89 dX12_counter_75 (by decide) (by omega) (fun h75 => by exfalso; first | omega | exact absurd h75 (by decide) | (have h9 := of_decide_eq_true h75; omega) | (have h9 := of_decide_eq_false h75; omega) | contradiction | simp_all) (fun h75 => ?_) | refine v_if_ne C 89 dX12_counter_75 (by decide) (fun h75 => by exfalso; first | omega | exact absurd h75 (by decide) | (have h9 := of_decide_eq_true h75; omega) | (have h9 := of_decide_eq_false h75; omega) | contradiction | simp_all) (fun h75 => ?_)
            refine v_aload_n C dX12_counter_78 rfl ?_
            refine gf_X12_32 C dX12_counter_79 (by assumption) ?_
            refine v_iload C dX12_counter_82 rfl ?_
            refine v_iald C dX12_counter_84 (by assumption) (by omega) (by omega) (a3 i _ hci).1 ?_
            first | refine v_i2ln C dX12_counter_85 (by omega) ?_ | refine v_i2l C dX12_counter_85 rfl ?_
            refine v_goto C 106 dX12_counter_86 (by decide) ?_
            refine v_lret C dX12_counter_106 ?_
            refine ⟨?_, rfl⟩
            unfold oCounter
            rw [if_pos hi1, hsx, if_pos rfl, cTell_in hci (by omega) (by decide), if_pos rfl]
          · skip
            obtain ⟨a1, a2, a3, a4, a5, a6⟩ := hallM s hs
            have hkb := a5 _ (List.mem_of_getElem? hci)
            refine v_iload_n C dX12_counter_0 rfl ?_
            refine mc_X12_146 C dX12_counter_1 (c_Mo_isStream _ E z) rfl (fun r1 G1 hp1 => ?_)
            obtain ⟨hr1, rfl⟩ := hp1
            rw [hi1] at hr1
            subst hr1
            first | refine v_ifb_eq C 56 dX12_counter_4 (by decide) (fun h4 => by exfalso; first | omega | exact absurd h4 (by decide) | (have h9 := of_decide_eq_true h4; omega) | (have h9 := of_decide_eq_false h4; omega) | contradiction | simp_all) (fun h4 => ?_) | refine v_ifn_eq C 56 dX12_counter_4 (by decide) (by omega) (fun h4 => by exfalso; first | omega | exact absurd h4 (by decide) | (have h9 := of_decide_eq_true h4; omega) | (have h9 := of_decide_eq_false h4; omega) | contradiction | simp_all) (fun h4 => ?_) | refine v_if_eq C 56 dX12_counter_4 (by decide) (fun h4 => by exfalso; first | omega | exact absurd h4 (by decide) | (have h9 := of_decide_eq_true h4; omega) | (have h9 := of_decide_eq_false h4; omega) | contradiction | simp_all) (fun h4 => ?_)
            refine v_iload_n C dX12_counter_7 rfl ?_
            refine v_iconst (v := nI 2) C dX12_counter_8 (by decide) ?_
            refine v_iconst (v := nI 3) C dX12_counter_9 (by decide) ?_
            refine mc_X12_101 C dX12_counter_10 (c_Mo_in _ E z) rfl (fun r10 G10 hp10 => ?_)
            obtain ⟨hr10, rfl⟩ := hp10
            rw [show inn (nI 2) (nI 2) (nI 3) = true by decide] at hr10
            subst hr10
            first | refine v_ifb_eq C 56 dX12_counter_13 (by decide) (fun h13 => by exfalso; first | omega | exact absurd h13 (by decide) | (have h9 := of_decide_eq_true h13; omega) | (have h9 := of_decide_eq_false h13; omega) | contradiction | simp_all) (fun h13 => ?_) | refine v_ifn_eq C 56 dX12_counter_13 (by decide) (by omega) (fun h13 => by exfalso; first | omega | exact absurd h13 (by decide) | (have h9 := of_decide_eq_true h13; omega) | (have h9 := of_decide_eq_false h13; omega) | contradiction | simp_all) (fun h13 => ?_) | refine v_if_eq C 56 dX12_counter_13 (by decide) (fun h13 => by exfalso; first | omega | exact absurd h13 (by decide) | (have h9 := of_decide_eq_true h13; omega) | (have h9 := of_decide_eq_false h13; omega) | contradiction | simp_all) (fun h13 => ?_)
            refine v_iload C dX12_counter_16 rfl ?_
            refine v_iconst (v := nI 0) C dX12_counter_18 (by decide) ?_
            refine v_iconst (v := nI 2) C dX12_counter_19 (by decide) ?_
            refine mc_X12_101 C dX12_counter_20 (c_Mo_in _ E z) rfl (fun r20 G20 hp20 => ?_)
            obtain ⟨hr20, rfl⟩ := hp20
            rw [inn_iin (n := 3) (by omega) (by omega), hi7] at hr20
            subst hr20
            first | refine v_ifb_eq C 56 dX12_counter_23 (by decide) (fun h23 => by exfalso; first | omega | exact absurd h23 (by decide) | (have h9 := of_decide_eq_true h23; omega) | (have h9 := of_decide_eq_false h23; omega) | contradiction | simp_all) (fun h23 => ?_) | refine v_ifn_eq C 56 dX12_counter_23 (by decide) (by omega) (fun h23 => by exfalso; first | omega | exact absurd h23 (by decide) | (have h9 := of_decide_eq_true h23; omega) | (have h9 := of_decide_eq_false h23; omega) | contradiction | simp_all) (fun h23 => ?_) | refine v_if_eq C 56 dX12_counter_23 (by decide) (fun h23 => by exfalso; first | omega | exact absurd h23 (by decide) | (have h9 := of_decide_eq_true h23; omega) | (have h9 := of_decide_eq_false h23; omega) | contradiction | simp_all) (fun h23 => ?_)
            refine v_iload_n C dX12_counter_26 rfl ?_
            refine v_iconst (v := nI 0) C dX12_counter_27 (by decide) ?_
            refine v_iload_n C dX12_counter_28 rfl ?_
            refine v_iconst (v := nI 2) C dX12_counter_29 (by decide) ?_
            refine v_icmpn_ne C 42 dX12_counter_30 (by decide) (by omega) (by omega) (fun h30 => by exfalso; first | omega | exact absurd h30 (by decide) | (have h9 := of_decide_eq_true h30; omega) | (have h9 := of_decide_eq_false h30; omega) | contradiction | simp_all) (fun h30 => ?_)
            refine v_aload_n C dX12_counter_33 rfl ?_
            refine gf_X12_26 C dX12_counter_34 (by assumption) ?_
            refine v_iload_n C dX12_counter_37 rfl ?_
            refine v_iald C dX12_counter_38 (by assumption) (by omega) (by omega) (hallM s hs).1 ?_
            refine v_goto C 48 dX12_counter_39 (by decide) ?_
            refine v_iconst (v := nI 1) C dX12_counter_48 (by decide) ?_
            refine v_isub C dX12_counter_49 ?_
            refine mc_X12_101 C dX12_counter_50 (c_Mo_in _ E z) rfl (fun r50 G50 hp50 => ?_)
            obtain ⟨hr50, rfl⟩ := hp50
            rw [inn_len (n := (zM (Y s)).length) (by omega), hi8] at hr50
            subst hr50
            first | refine v_ifb_ne C 60 dX12_counter_53 (by decide) (fun h53 => ?_) (fun h53 => by exfalso; first | omega | exact absurd h53 (by decide) | (have h9 := of_decide_eq_true h53; omega) | (have h9 := of_decide_eq_false h53; omega) | contradiction | simp_all) | refine v_ifn_ne C 60 dX12_counter_53 (by decide) (by omega) (fun h53 => ?_) (fun h53 => by exfalso; first | omega | exact absurd h53 (by decide) | (have h9 := of_decide_eq_true h53; omega) | (have h9 := of_decide_eq_false h53; omega) | contradiction | simp_all) | refine v_if_ne C 60 dX12_counter_53 (by decide) (fun h53 => ?_) (fun h53 => by exfalso; first | omega | exact absurd h53 (by decide) | (have h9 := of_decide_eq_true h53; omega) | (have h9 := of_decide_eq_false h53; omega) | contradiction | simp_all)
            refine v_bipush (v := nI 64) C dX12_counter_60 (by decide) ?_
            refine v_iload_n C dX12_counter_62 rfl ?_
            first | refine v_imuln C dX12_counter_63 ?_ | refine v_imul C dX12_counter_63 ?_
            refine v_iload_n C dX12_counter_64 rfl ?_
            first | refine v_iaddn C dX12_counter_65 ?_ | refine v_iadd C dX12_counter_65 ?_
            refine v_istore_5 C dX12_counter_66 (by decide) (by first | rfl | assumption) ?_
            refine v_iload_n C dX12_counter_68 rfl ?_
            refine v_iconst (v := nI 2) C dX12_counter_69 (by decide) ?_
            refine v_icmpn_ne C 107 dX12_counter_70 (by decide) (by omega) (by omega) (fun h70 => by exfalso; first | omega | exact absurd h70 (by decide) | (have h9 := of_decide_eq_true h70; omega) | (have h9 := of_decide_eq_false h70; omega) | contradiction | simp_all) (fun h70 => ?_)
            refine v_iload C dX12_counter_73 rfl ?_
            first | refine v_ifb_ne C 89 dX12_counter_75 (by decide) (fun h75 => ?_) (fun h75 => by exfalso; first | omega | exact absurd h75 (by decide) | (have h9 := of_decide_eq_true h75; omega) | (have h9 := of_decide_eq_false h75; omega) | contradiction | simp_all) | refine v_ifn_ne C 89 dX12_counter_75 (by decide) (by omega) (fun h75 => ?_) (fun h75 => by exfalso; first | omega | exact absurd h75 (by decide) | (have h9 := of_decide_eq_true h75; omega) | (have h9 := of_decide_eq_false h75; omega) | contradiction | simp_all) | refine v_if_ne C 89 dX12_counter_75 (by decide) (fun h75 => ?_) (fun h75 => by exfalso; first | omega | exact absurd h75 (by decide) | (have h9 := of_decide_eq_true h75; omega) | (have h9 := of_decide_eq_false h75; omega) | contradiction | simp_all)
            refine v_iload C dX12_counter_89 rfl ?_
            refine v_iconst (v := nI 1) C dX12_counter_91 (by decide) ?_
            refine v_icmpn_ne C 105 dX12_counter_92 (by decide) (by omega) (by omega) (fun h92 => by exfalso; first | omega | exact absurd h92 (by decide) | (have h9 := of_decide_eq_true h92; omega) | (have h9 := of_decide_eq_false h92; omega) | contradiction | simp_all) (fun h92 => ?_)
            refine v_aload_n C dX12_counter_95 rfl ?_
            refine gf_X12_35 C dX12_counter_96 (by assumption) ?_
            refine v_iload C dX12_counter_99 rfl ?_
            refine v_lald C dX12_counter_101 (by assumption) (by omega) (by omega) (a3 i _ hci).2 ?_
            refine v_goto C 106 dX12_counter_102 (by decide) ?_
            refine v_lret C dX12_counter_106 ?_
            refine ⟨?_, rfl⟩
            unfold oCounter
            rw [if_pos hi1, hsx, if_pos rfl, cTell_in hci (by omega) (by decide), if_neg (nI_ne (by decide) (by decide) (by decide)), if_pos rfl]
          · skip
            obtain ⟨a1, a2, a3, a4, a5, a6⟩ := hallM s hs
            have hkb := a5 _ (List.mem_of_getElem? hci)
            refine v_iload_n C dX12_counter_0 rfl ?_
            refine mc_X12_146 C dX12_counter_1 (c_Mo_isStream _ E z) rfl (fun r1 G1 hp1 => ?_)
            obtain ⟨hr1, rfl⟩ := hp1
            rw [hi1] at hr1
            subst hr1
            first | refine v_ifb_eq C 56 dX12_counter_4 (by decide) (fun h4 => by exfalso; first | omega | exact absurd h4 (by decide) | (have h9 := of_decide_eq_true h4; omega) | (have h9 := of_decide_eq_false h4; omega) | contradiction | simp_all) (fun h4 => ?_) | refine v_ifn_eq C 56 dX12_counter_4 (by decide) (by omega) (fun h4 => by exfalso; first | omega | exact absurd h4 (by decide) | (have h9 := of_decide_eq_true h4; omega) | (have h9 := of_decide_eq_false h4; omega) | contradiction | simp_all) (fun h4 => ?_) | refine v_if_eq C 56 dX12_counter_4 (by decide) (fun h4 => by exfalso; first | omega | exact absurd h4 (by decide) | (have h9 := of_decide_eq_true h4; omega) | (have h9 := of_decide_eq_false h4; omega) | contradiction | simp_all) (fun h4 => ?_)
            refine v_iload_n C dX12_counter_7 rfl ?_
            refine v_iconst (v := nI 2) C dX12_counter_8 (by decide) ?_
            refine v_iconst (v := nI 3) C dX12_counter_9 (by decide) ?_
            refine mc_X12_101 C dX12_counter_10 (c_Mo_in _ E z) rfl (fun r10 G10 hp10 => ?_)
            obtain ⟨hr10, rfl⟩ := hp10
            rw [show inn (nI 2) (nI 2) (nI 3) = true by decide] at hr10
            subst hr10
            first | refine v_ifb_eq C 56 dX12_counter_13 (by decide) (fun h13 => by exfalso; first | omega | exact absurd h13 (by decide) | (have h9 := of_decide_eq_true h13; omega) | (have h9 := of_decide_eq_false h13; omega) | contradiction | simp_all) (fun h13 => ?_) | refine v_ifn_eq C 56 dX12_counter_13 (by decide) (by omega) (fun h13 => by exfalso; first | omega | exact absurd h13 (by decide) | (have h9 := of_decide_eq_true h13; omega) | (have h9 := of_decide_eq_false h13; omega) | contradiction | simp_all) (fun h13 => ?_) | refine v_if_eq C 56 dX12_counter_13 (by decide) (fun h13 => by exfalso; first | omega | exact absurd h13 (by decide) | (have h9 := of_decide_eq_true h13; omega) | (have h9 := of_decide_eq_false h13; omega) | contradiction | simp_all) (fun h13 => ?_)
            refine v_iload C dX12_counter_16 rfl ?_
            refine v_iconst (v := nI 0) C dX12_counter_18 (by decide) ?_
            refine v_iconst (v := nI 2) C dX12_counter_19 (by decide) ?_
            refine mc_X12_101 C dX12_counter_20 (c_Mo_in _ E z) rfl (fun r20 G20 hp20 => ?_)
            obtain ⟨hr20, rfl⟩ := hp20
            rw [inn_iin (n := 3) (by omega) (by omega), hi7] at hr20
            subst hr20
            first | refine v_ifb_eq C 56 dX12_counter_23 (by decide) (fun h23 => by exfalso; first | omega | exact absurd h23 (by decide) | (have h9 := of_decide_eq_true h23; omega) | (have h9 := of_decide_eq_false h23; omega) | contradiction | simp_all) (fun h23 => ?_) | refine v_ifn_eq C 56 dX12_counter_23 (by decide) (by omega) (fun h23 => by exfalso; first | omega | exact absurd h23 (by decide) | (have h9 := of_decide_eq_true h23; omega) | (have h9 := of_decide_eq_false h23; omega) | contradiction | simp_all) (fun h23 => ?_) | refine v_if_eq C 56 dX12_counter_23 (by decide) (fun h23 => by exfalso; first | omega | exact absurd h23 (by decide) | (have h9 := of_decide_eq_true h23; omega) | (have h9 := of_decide_eq_false h23; omega) | contradiction | simp_all) (fun h23 => ?_)
            refine v_iload_n C dX12_counter_26 rfl ?_
            refine v_iconst (v := nI 0) C dX12_counter_27 (by decide) ?_
            refine v_iload_n C dX12_counter_28 rfl ?_
            refine v_iconst (v := nI 2) C dX12_counter_29 (by decide) ?_
            refine v_icmpn_ne C 42 dX12_counter_30 (by decide) (by omega) (by omega) (fun h30 => by exfalso; first | omega | exact absurd h30 (by decide) | (have h9 := of_decide_eq_true h30; omega) | (have h9 := of_decide_eq_false h30; omega) | contradiction | simp_all) (fun h30 => ?_)
            refine v_aload_n C dX12_counter_33 rfl ?_
            refine gf_X12_26 C dX12_counter_34 (by assumption) ?_
            refine v_iload_n C dX12_counter_37 rfl ?_
            refine v_iald C dX12_counter_38 (by assumption) (by omega) (by omega) (hallM s hs).1 ?_
            refine v_goto C 48 dX12_counter_39 (by decide) ?_
            refine v_iconst (v := nI 1) C dX12_counter_48 (by decide) ?_
            refine v_isub C dX12_counter_49 ?_
            refine mc_X12_101 C dX12_counter_50 (c_Mo_in _ E z) rfl (fun r50 G50 hp50 => ?_)
            obtain ⟨hr50, rfl⟩ := hp50
            rw [inn_len (n := (zM (Y s)).length) (by omega), hi8] at hr50
            subst hr50
            first | refine v_ifb_ne C 60 dX12_counter_53 (by decide) (fun h53 => ?_) (fun h53 => by exfalso; first | omega | exact absurd h53 (by decide) | (have h9 := of_decide_eq_true h53; omega) | (have h9 := of_decide_eq_false h53; omega) | contradiction | simp_all) | refine v_ifn_ne C 60 dX12_counter_53 (by decide) (by omega) (fun h53 => ?_) (fun h53 => by exfalso; first | omega | exact absurd h53 (by decide) | (have h9 := of_decide_eq_true h53; omega) | (have h9 := of_decide_eq_false h53; omega) | contradiction | simp_all) | refine v_if_ne C 60 dX12_counter_53 (by decide) (fun h53 => ?_) (fun h53 => by exfalso; first | omega | exact absurd h53 (by decide) | (have h9 := of_decide_eq_true h53; omega) | (have h9 := of_decide_eq_false h53; omega) | contradiction | simp_all)
            refine v_bipush (v := nI 64) C dX12_counter_60 (by decide) ?_
            refine v_iload_n C dX12_counter_62 rfl ?_
            first | refine v_imuln C dX12_counter_63 ?_ | refine v_imul C dX12_counter_63 ?_
            refine v_iload_n C dX12_counter_64 rfl ?_
            first | refine v_iaddn C dX12_counter_65 ?_ | refine v_iadd C dX12_counter_65 ?_
            refine v_istore_5 C dX12_counter_66 (by decide) (by first | rfl | assumption) ?_
            refine v_iload_n C dX12_counter_68 rfl ?_
            refine v_iconst (v := nI 2) C dX12_counter_69 (by decide) ?_
            refine v_icmpn_ne C 107 dX12_counter_70 (by decide) (by omega) (by omega) (fun h70 => by exfalso; first | omega | exact absurd h70 (by decide) | (have h9 := of_decide_eq_true h70; omega) | (have h9 := of_decide_eq_false h70; omega) | contradiction | simp_all) (fun h70 => ?_)
            refine v_iload C dX12_counter_73 rfl ?_
            first | refine v_ifb_ne C 89 dX12_counter_75 (by decide) (fun h75 => ?_) (fun h75 => by exfalso; first | omega | exact absurd h75 (by decide) | (have h9 := of_decide_eq_true h75; omega) | (have h9 := of_decide_eq_false h75; omega) | contradiction | simp_all) | refine v_ifn_ne C 89 dX12_counter_75 (by decide) (by omega) (fun h75 => ?_) (fun h75 => by exfalso; first | omega | exact absurd h75 (by decide) | (have h9 := of_decide_eq_true h75; omega) | (have h9 := of_decide_eq_false h75; omega) | contradiction | simp_all) | refine v_if_ne C 89 dX12_counter_75 (by decide) (fun h75 => ?_) (fun h75 => by exfalso; first | omega | exact absurd h75 (by decide) | (have h9 := of_decide_eq_true h75; omega) | (have h9 := of_decide_eq_false h75; omega) | contradiction | simp_all)
            refine v_iload C dX12_counter_89 rfl ?_
            refine v_iconst (v := nI 1) C dX12_counter_91 (by decide) ?_
            refine v_icmpn_ne C 105 dX12_counter_92 (by decide) (by omega) (by omega) (fun h92 => ?_) (fun h92 => by exfalso; first | omega | exact absurd h92 (by decide) | (have h9 := of_decide_eq_true h92; omega) | (have h9 := of_decide_eq_false h92; omega) | contradiction | simp_all)
            refine v_lconst (v := lN 0) C dX12_counter_105 (by decide) ?_
            refine v_lret C dX12_counter_106 ?_
            refine ⟨?_, rfl⟩
            unfold oCounter
            rw [if_pos hi1, hsx, if_pos rfl, cTell_in hci (by omega) (by decide), if_neg (nI_ne (by decide) (by decide) (by decide)), if_neg (nI_ne (by decide) (by decide) (by decide))]
            rw [((hok s hs).2.2.2.1.2 _ (List.mem_of_getElem? hci)).2.2]

set_option maxHeartbeats 4000000 in
set_option maxRecDepth 100000 in
theorem c_Mo_state (l : Launch) (E : Ev) (z : Option Nat) {G : Gh} {P W R lim rq po : Nat} {A B : Nat → Nat} {Y : Nat → Str} {x1 x2 : Int32} (hd : isMd E G P W R lim rq po A B Y) : K_X12_state l E z G [.ref (ga E 104), .int x1, .int x2] (fun r G2 => r = oState lim Y x1 x2 ∧ G = G2) := by
  refine Fc.of rfl [some (.ref (ga E 104)), some (.int x1), some (.int x2)] 0 rfl (Nat.le_of_ble_eq_true rfl) ?_
  intro M hM0 hini C
  subst hM0
  obtain ⟨hm, ⟨ft, h7, hft⟩, ⟨fp, hp, hip⟩, ⟨fq, hq, hiq⟩, hMm, hMs, hMc⟩ := id hd
  replace hft : ∀ q, q < 4 → ft q = lN (zN (Y q)) := hft
  replace hip : ∀ q r c, q < 4 → r < R → c < W → fp (2048 * q + 256 * r + c) = lN (zP (Y q) r c) := hip
  replace hiq : ∀ q r c, q < 4 → r < R → c < W → fq (2048 * q + 256 * r + c) = lN (zC (Y q) r c) := hiq
  obtain ⟨fa, fb, ho, k5, k6, hfa, hfb, hrg, hlim, hab⟩ := id hm
  obtain ⟨fms, fmk, ftk, fmn, ma, mb, mc, md, hallM⟩ := id hMm
  obtain ⟨fss, fsk, fsn, fse, sa, sb, sc, sd, hallS⟩ := id hMs
  obtain ⟨fcn, fcz, fck, fct, ca, cb, cc, cd, hallC⟩ := id hMc
  replace hallM : ∀ q, q < 4 → moM1 fms fmk ftk fmn lim P q (zM (Y q)) (zT (Y q)) := hallM
  replace hallS : ∀ q, q < 4 → moS1 fss fsk fsn fse lim P q (zS (Y q)) := hallS
  replace hallC : ∀ q, q < 4 → moC1 fcn fcz fck fct P q (zK (Y q)) (zG (Y q)) := hallC
  cases hi1 : iin x1 4 with
  | false =>
    refine v_iload_n C dX12_state_0 rfl ?_
    refine mc_X12_146 C dX12_state_1 (c_Mo_isStream _ E z) rfl (fun r1 G1 hp1 => ?_)
    obtain ⟨hr1, rfl⟩ := hp1
    rw [hi1] at hr1
    subst hr1
    first | refine v_ifb_ne C 11 dX12_state_4 (by decide) (fun h4 => by exfalso; first | omega | exact absurd h4 (by decide) | (have h9 := of_decide_eq_true h4; omega) | (have h9 := of_decide_eq_false h4; omega) | contradiction | simp_all) (fun h4 => ?_) | refine v_ifn_ne C 11 dX12_state_4 (by decide) (by omega) (fun h4 => by exfalso; first | omega | exact absurd h4 (by decide) | (have h9 := of_decide_eq_true h4; omega) | (have h9 := of_decide_eq_false h4; omega) | contradiction | simp_all) (fun h4 => ?_) | refine v_if_ne C 11 dX12_state_4 (by decide) (fun h4 => by exfalso; first | omega | exact absurd h4 (by decide) | (have h9 := of_decide_eq_true h4; omega) | (have h9 := of_decide_eq_false h4; omega) | contradiction | simp_all) (fun h4 => ?_)
    refine v_ldc2 C tw824 dX12_state_7 ?_
    refine v_lret C dX12_state_10 ?_
    exact ⟨by unfold oState; rw [if_neg (by rw [hi1]; decide)], rfl⟩
  | true =>
    obtain ⟨s, hs, rfl⟩ := iin_of hi1 (by decide)
    have hsx : ix (nI s) = s := ix_nI (by omega)
    cases hg : zG (Y s) with
    | false =>
      refine v_iload_n C dX12_state_0 rfl ?_
      refine mc_X12_146 C dX12_state_1 (c_Mo_isStream _ E z) rfl (fun r1 G1 hp1 => ?_)
      obtain ⟨hr1, rfl⟩ := hp1
      rw [hi1] at hr1
      subst hr1
      first | refine v_ifb_ne C 11 dX12_state_4 (by decide) (fun h4 => ?_) (fun h4 => by exfalso; first | omega | exact absurd h4 (by decide) | (have h9 := of_decide_eq_true h4; omega) | (have h9 := of_decide_eq_false h4; omega) | contradiction | simp_all) | refine v_ifn_ne C 11 dX12_state_4 (by decide) (by omega) (fun h4 => ?_) (fun h4 => by exfalso; first | omega | exact absurd h4 (by decide) | (have h9 := of_decide_eq_true h4; omega) | (have h9 := of_decide_eq_false h4; omega) | contradiction | simp_all) | refine v_if_ne C 11 dX12_state_4 (by decide) (fun h4 => ?_) (fun h4 => by exfalso; first | omega | exact absurd h4 (by decide) | (have h9 := of_decide_eq_true h4; omega) | (have h9 := of_decide_eq_false h4; omega) | contradiction | simp_all)
      have hlM := (hallM s hs).2.2.2.1
      have hlS := (hallS s hs).2.2.1
      have hlC := (hallC s hs).2.2.2.1
      refine v_iload_n C dX12_state_11 rfl ?_
      refine v_tsw5 C 48 56 63 71 77 100 dX12_state_12 (by decide) (by decide) (by decide) (by decide) (by decide) (by decide) (fun h12 => ?_) (fun h12 => ?_) (fun h12 => ?_) (fun h12 => ?_) (fun h12 => ?_) (fun h12 => ?_)
      · skip
        refine v_aload_n C dX12_state_48 rfl ?_
        refine gf_X12_26 C dX12_state_49 (by assumption) ?_
        refine v_iload_n C dX12_state_52 rfl ?_
        refine v_iald C dX12_state_53 (by assumption) (by omega) (by omega) (hallM s hs).1 ?_
        first | refine v_i2ln C dX12_state_54 (by omega) ?_ | refine v_i2l C dX12_state_54 rfl ?_
        refine v_lret C dX12_state_55 ?_
        refine ⟨?_, rfl⟩
        subst h12
        unfold oState
        rw [if_pos hi1, hsx, if_pos rfl]
      · skip
        refine v_aload_n C dX12_state_56 rfl ?_
        refine gf_X12_29 C dX12_state_57 (by assumption) ?_
        refine v_iload_n C dX12_state_60 rfl ?_
        refine v_lald C dX12_state_61 (by assumption) (by omega) (by omega) (hallM s hs).2.1 ?_
        refine v_lret C dX12_state_62 ?_
        refine ⟨?_, rfl⟩
        subst h12
        unfold oState
        rw [if_pos hi1, hsx, if_neg (nI_ne (by decide) (by decide) (by decide)), if_pos rfl]
      · skip
        refine v_aload_n C dX12_state_63 rfl ?_
        refine gf_X12_38 C dX12_state_64 (by assumption) ?_
        refine v_iload_n C dX12_state_67 rfl ?_
        refine v_iald C dX12_state_68 (by assumption) (by omega) (by omega) (hallS s hs).1 ?_
        first | refine v_i2ln C dX12_state_69 (by omega) ?_ | refine v_i2l C dX12_state_69 rfl ?_
        refine v_lret C dX12_state_70 ?_
        refine ⟨?_, rfl⟩
        subst h12
        unfold oState
        rw [if_pos hi1, hsx, if_neg (nI_ne (by decide) (by decide) (by decide)), if_neg (nI_ne (by decide) (by decide) (by decide)), if_pos rfl]
      · skip
        refine v_aload_n C dX12_state_71 rfl ?_
        refine v_iload_n C dX12_state_72 rfl ?_
        refine mc_X12_180 C dX12_state_73 (by assumption) (c_Mo_least _ E z hs hd) rfl (fun r73 G73 hp73 => ?_)
        obtain ⟨hr73, rfl⟩ := hp73
        subst hr73
        refine v_lret C dX12_state_76 ?_
        refine ⟨?_, rfl⟩
        subst h12
        unfold oState
        rw [if_pos hi1, hsx, if_neg (nI_ne (by decide) (by decide) (by decide)), if_neg (nI_ne (by decide) (by decide) (by decide)), if_neg (nI_ne (by decide) (by decide) (by decide)), if_pos rfl]
      · skip
        refine v_aload_n C dX12_state_77 rfl ?_
        refine gf_X12_53 C dX12_state_78 (by assumption) ?_
        refine v_iload_n C dX12_state_81 rfl ?_
        refine v_zald C dX12_state_82 (by assumption) (by omega) (by omega) ((hallC s hs).2.1.trans (congrArg bI hg)) ?_
        first | refine v_ifb_eq C 92 dX12_state_83 (by decide) (fun h83 => ?_) (fun h83 => by exfalso; first | omega | exact absurd h83 (by decide) | (have h9 := of_decide_eq_true h83; omega) | (have h9 := of_decide_eq_false h83; omega) | contradiction | simp_all) | refine v_ifn_eq C 92 dX12_state_83 (by decide) (by omega) (fun h83 => ?_) (fun h83 => by exfalso; first | omega | exact absurd h83 (by decide) | (have h9 := of_decide_eq_true h83; omega) | (have h9 := of_decide_eq_false h83; omega) | contradiction | simp_all) | refine v_if_eq C 92 dX12_state_83 (by decide) (fun h83 => ?_) (fun h83 => by exfalso; first | omega | exact absurd h83 (by decide) | (have h9 := of_decide_eq_true h83; omega) | (have h9 := of_decide_eq_false h83; omega) | contradiction | simp_all)
        refine v_aload_n C dX12_state_92 rfl ?_
        refine gf_X12_50 C dX12_state_93 (by assumption) ?_
        refine v_iload_n C dX12_state_96 rfl ?_
        refine v_iald C dX12_state_97 (by assumption) (by omega) (by omega) (hallC s hs).1 ?_
        first | refine v_i2ln C dX12_state_98 (by omega) ?_ | refine v_i2l C dX12_state_98 rfl ?_
        refine v_lret C dX12_state_99 ?_
        refine ⟨?_, rfl⟩
        subst h12
        unfold oState
        rw [if_pos hi1, hsx, if_neg (nI_ne (by decide) (by decide) (by decide)), if_neg (nI_ne (by decide) (by decide) (by decide)), if_neg (nI_ne (by decide) (by decide) (by decide)), if_neg (nI_ne (by decide) (by decide) (by decide)), if_pos rfl, if_neg (by rw [hg]; decide)]
      · skip
        refine v_ldc2 C tw824 dX12_state_100 ?_
        refine v_lret C dX12_state_103 ?_
        refine ⟨?_, rfl⟩
        unfold oState
        rw [if_pos hi1, if_neg (h12 0 (by decide)), if_neg (h12 1 (by decide)), if_neg (h12 2 (by decide)), if_neg (h12 3 (by decide)), if_neg (h12 4 (by decide))]
    | true =>
      refine v_iload_n C dX12_state_0 rfl ?_
      refine mc_X12_146 C dX12_state_1 (c_Mo_isStream _ E z) rfl (fun r1 G1 hp1 => ?_)
      obtain ⟨hr1, rfl⟩ := hp1
      rw [hi1] at hr1
      subst hr1
      first | refine v_ifb_ne C 11 dX12_state_4 (by decide) (fun h4 => ?_) (fun h4 => by exfalso; first | omega | exact absurd h4 (by decide) | (have h9 := of_decide_eq_true h4; omega) | (have h9 := of_decide_eq_false h4; omega) | contradiction | simp_all) | refine v_ifn_ne C 11 dX12_state_4 (by decide) (by omega) (fun h4 => ?_) (fun h4 => by exfalso; first | omega | exact absurd h4 (by decide) | (have h9 := of_decide_eq_true h4; omega) | (have h9 := of_decide_eq_false h4; omega) | contradiction | simp_all) | refine v_if_ne C 11 dX12_state_4 (by decide) (fun h4 => ?_) (fun h4 => by exfalso; first | omega | exact absurd h4 (by decide) | (have h9 := of_decide_eq_true h4; omega) | (have h9 := of_decide_eq_false h4; omega) | contradiction | simp_all)
      have hlM := (hallM s hs).2.2.2.1
      have hlS := (hallS s hs).2.2.1
      have hlC := (hallC s hs).2.2.2.1
      refine v_iload_n C dX12_state_11 rfl ?_
      refine v_tsw5 C 48 56 63 71 77 100 dX12_state_12 (by decide) (by decide) (by decide) (by decide) (by decide) (by decide) (fun h12 => ?_) (fun h12 => ?_) (fun h12 => ?_) (fun h12 => ?_) (fun h12 => ?_) (fun h12 => ?_)
      · skip
        refine v_aload_n C dX12_state_48 rfl ?_
        refine gf_X12_26 C dX12_state_49 (by assumption) ?_
        refine v_iload_n C dX12_state_52 rfl ?_
        refine v_iald C dX12_state_53 (by assumption) (by omega) (by omega) (hallM s hs).1 ?_
        first | refine v_i2ln C dX12_state_54 (by omega) ?_ | refine v_i2l C dX12_state_54 rfl ?_
        refine v_lret C dX12_state_55 ?_
        refine ⟨?_, rfl⟩
        subst h12
        unfold oState
        rw [if_pos hi1, hsx, if_pos rfl]
      · skip
        refine v_aload_n C dX12_state_56 rfl ?_
        refine gf_X12_29 C dX12_state_57 (by assumption) ?_
        refine v_iload_n C dX12_state_60 rfl ?_
        refine v_lald C dX12_state_61 (by assumption) (by omega) (by omega) (hallM s hs).2.1 ?_
        refine v_lret C dX12_state_62 ?_
        refine ⟨?_, rfl⟩
        subst h12
        unfold oState
        rw [if_pos hi1, hsx, if_neg (nI_ne (by decide) (by decide) (by decide)), if_pos rfl]
      · skip
        refine v_aload_n C dX12_state_63 rfl ?_
        refine gf_X12_38 C dX12_state_64 (by assumption) ?_
        refine v_iload_n C dX12_state_67 rfl ?_
        refine v_iald C dX12_state_68 (by assumption) (by omega) (by omega) (hallS s hs).1 ?_
        first | refine v_i2ln C dX12_state_69 (by omega) ?_ | refine v_i2l C dX12_state_69 rfl ?_
        refine v_lret C dX12_state_70 ?_
        refine ⟨?_, rfl⟩
        subst h12
        unfold oState
        rw [if_pos hi1, hsx, if_neg (nI_ne (by decide) (by decide) (by decide)), if_neg (nI_ne (by decide) (by decide) (by decide)), if_pos rfl]
      · skip
        refine v_aload_n C dX12_state_71 rfl ?_
        refine v_iload_n C dX12_state_72 rfl ?_
        refine mc_X12_180 C dX12_state_73 (by assumption) (c_Mo_least _ E z hs hd) rfl (fun r73 G73 hp73 => ?_)
        obtain ⟨hr73, rfl⟩ := hp73
        subst hr73
        refine v_lret C dX12_state_76 ?_
        refine ⟨?_, rfl⟩
        subst h12
        unfold oState
        rw [if_pos hi1, hsx, if_neg (nI_ne (by decide) (by decide) (by decide)), if_neg (nI_ne (by decide) (by decide) (by decide)), if_neg (nI_ne (by decide) (by decide) (by decide)), if_pos rfl]
      · skip
        refine v_aload_n C dX12_state_77 rfl ?_
        refine gf_X12_53 C dX12_state_78 (by assumption) ?_
        refine v_iload_n C dX12_state_81 rfl ?_
        refine v_zald C dX12_state_82 (by assumption) (by omega) (by omega) ((hallC s hs).2.1.trans (congrArg bI hg)) ?_
        first | refine v_ifb_eq C 92 dX12_state_83 (by decide) (fun h83 => by exfalso; first | omega | exact absurd h83 (by decide) | (have h9 := of_decide_eq_true h83; omega) | (have h9 := of_decide_eq_false h83; omega) | contradiction | simp_all) (fun h83 => ?_) | refine v_ifn_eq C 92 dX12_state_83 (by decide) (by omega) (fun h83 => by exfalso; first | omega | exact absurd h83 (by decide) | (have h9 := of_decide_eq_true h83; omega) | (have h9 := of_decide_eq_false h83; omega) | contradiction | simp_all) (fun h83 => ?_) | refine v_if_eq C 92 dX12_state_83 (by decide) (fun h83 => by exfalso; first | omega | exact absurd h83 (by decide) | (have h9 := of_decide_eq_true h83; omega) | (have h9 := of_decide_eq_false h83; omega) | contradiction | simp_all) (fun h83 => ?_)
        refine v_ldc2 C tw824 dX12_state_86 ?_
        refine v_goto C 99 dX12_state_89 (by decide) ?_
        refine v_lret C dX12_state_99 ?_
        refine ⟨?_, rfl⟩
        subst h12
        unfold oState
        rw [if_pos hi1, hsx, if_neg (nI_ne (by decide) (by decide) (by decide)), if_neg (nI_ne (by decide) (by decide) (by decide)), if_neg (nI_ne (by decide) (by decide) (by decide)), if_neg (nI_ne (by decide) (by decide) (by decide)), if_pos rfl, if_pos hg]
      · skip
        refine v_ldc2 C tw824 dX12_state_100 ?_
        refine v_lret C dX12_state_103 ?_
        refine ⟨?_, rfl⟩
        unfold oState
        rw [if_pos hi1, if_neg (h12 0 (by decide)), if_neg (h12 1 (by decide)), if_neg (h12 2 (by decide)), if_neg (h12 3 (by decide)), if_neg (h12 4 (by decide))]

