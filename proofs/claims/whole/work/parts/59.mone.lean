set_option maxHeartbeats 4000000 in
set_option maxRecDepth 100000 in
theorem c_Mo_total (l : Launch) (E : Ev) (z : Option Nat) {G : Gh} {P W R lim rq po : Nat} {A B : Nat → Nat} {Y : Nat → Str} {x1 : Int32} (hd : isMd E G P W R lim rq po A B Y) : K_X12_total l E z G [.ref (ga E 104), .int x1] (fun r G2 => r = oTotal Y x1 ∧ G = G2) := by
  refine Fc.of rfl [some (.ref (ga E 104)), some (.int x1)] 0 rfl (Nat.le_of_ble_eq_true rfl) ?_
  intro M hM0 hini C
  subst hM0
  obtain ⟨hm, ⟨ft, h7, hft⟩, ⟨fp, hp, hip⟩, ⟨fq, hq, hiq⟩, hMm, hMs, hMc⟩ := id hd
  replace hft : ∀ q, q < 4 → ft q = lN (zN (Y q)) := hft
  replace hip : ∀ q r c, q < 4 → r < R → c < W → fp (2048 * q + 256 * r + c) = lN (zP (Y q) r c) := hip
  replace hiq : ∀ q r c, q < 4 → r < R → c < W → fq (2048 * q + 256 * r + c) = lN (zC (Y q) r c) := hiq
  obtain ⟨fa, fb, ho, k5, k6, hfa, hfb, hrg, hlim, hab⟩ := id hm
  cases hi1 : iin x1 4 with
  | false =>
    refine v_iload_n C dX12_total_0 rfl ?_
    refine mc_X12_146 C dX12_total_1 (c_Mo_isStream _ E z) rfl (fun r1 G1 hp1 => ?_)
    obtain ⟨hr1, rfl⟩ := hp1
    rw [hi1] at hr1
    subst hr1
    first | refine v_ifb_eq C 16 dX12_total_4 (by decide) (fun h4 => ?_) (fun h4 => by exfalso; first | omega | exact absurd h4 (by decide) | (have h9 := of_decide_eq_true h4; omega) | (have h9 := of_decide_eq_false h4; omega) | contradiction | simp_all) | refine v_ifn_eq C 16 dX12_total_4 (by decide) (by omega) (fun h4 => ?_) (fun h4 => by exfalso; first | omega | exact absurd h4 (by decide) | (have h9 := of_decide_eq_true h4; omega) | (have h9 := of_decide_eq_false h4; omega) | contradiction | simp_all) | refine v_if_eq C 16 dX12_total_4 (by decide) (fun h4 => ?_) (fun h4 => by exfalso; first | omega | exact absurd h4 (by decide) | (have h9 := of_decide_eq_true h4; omega) | (have h9 := of_decide_eq_false h4; omega) | contradiction | simp_all)
    refine v_ldc2 C tw824 dX12_total_16 ?_
    refine v_lret C dX12_total_19 ?_
    exact ⟨by unfold oTotal; rw [if_neg (by rw [hi1]; decide)], rfl⟩
  | true =>
    obtain ⟨s, hs, rfl⟩ := iin_of hi1 (by decide)
    have hsx : ix (nI s) = s := ix_nI (by omega)
    refine v_iload_n C dX12_total_0 rfl ?_
    refine mc_X12_146 C dX12_total_1 (c_Mo_isStream _ E z) rfl (fun r1 G1 hp1 => ?_)
    obtain ⟨hr1, rfl⟩ := hp1
    rw [hi1] at hr1
    subst hr1
    first | refine v_ifb_eq C 16 dX12_total_4 (by decide) (fun h4 => by exfalso; first | omega | exact absurd h4 (by decide) | (have h9 := of_decide_eq_true h4; omega) | (have h9 := of_decide_eq_false h4; omega) | contradiction | simp_all) (fun h4 => ?_) | refine v_ifn_eq C 16 dX12_total_4 (by decide) (by omega) (fun h4 => by exfalso; first | omega | exact absurd h4 (by decide) | (have h9 := of_decide_eq_true h4; omega) | (have h9 := of_decide_eq_false h4; omega) | contradiction | simp_all) (fun h4 => ?_) | refine v_if_eq C 16 dX12_total_4 (by decide) (fun h4 => by exfalso; first | omega | exact absurd h4 (by decide) | (have h9 := of_decide_eq_true h4; omega) | (have h9 := of_decide_eq_false h4; omega) | contradiction | simp_all) (fun h4 => ?_)
    refine v_aload_n C dX12_total_7 rfl ?_
    refine gf_X12_16 C dX12_total_8 (by assumption) ?_
    refine v_iload_n C dX12_total_11 rfl ?_
    refine v_lald C dX12_total_12 (by assumption) (by omega) (by omega) (hft s hs) ?_
    refine v_goto C 19 dX12_total_13 (by decide) ?_
    refine v_lret C dX12_total_19 ?_
    exact ⟨by unfold oTotal; rw [if_pos hi1]; rw [hsx], rfl⟩

def kOne (P W R : Nat) (A B : Nat → Nat) (lim : Nat) (S : Str) (q x d : Nat) : Int64 := match d with
  | 0 => kGuess P W R A B lim S q x
  | 1 => kLow P W R A B lim S q x
  | _ => kHigh P W R A B lim S q x

set_option maxHeartbeats 4000000 in
set_option maxRecDepth 100000 in
theorem c_Mo_one (l : Launch) (E : Ev) (z : Option Nat) {G : Gh} {P W R lim rq po : Nat} {A B : Nat → Nat} {Y : Nat → Str} {s q x d : Nat} (hs : s < 4) (hq4 : q < 4) (hx : x < P) (hd3 : d < 3) (hok : ∀ k, k < 4 → okS W R (Y k)) (hd : isMd E G P W R lim rq po A B Y) : K_X12_one l E z G [.ref (ga E 104), .int (nI s), .int (nI q), .int (nI x), .int (nI d)] (fun r G2 => r = kOne P W R A B lim (Y s) q x d ∧ G = G2) := by
  refine Fc.of rfl [some (.ref (ga E 104)), some (.int (nI s)), some (.int (nI q)), some (.int (nI x)), some (.int (nI d)), none, none, none] 3 rfl (Nat.le_of_ble_eq_true rfl) ?_
  intro M hM0 hini C
  subst hM0
  obtain ⟨hm, ⟨ft, h7, hft⟩, ⟨fp, hp, hip⟩, ⟨fq, hq, hiq⟩, hMm, hMs, hMc⟩ := id hd
  replace hft : ∀ q, q < 4 → ft q = lN (zN (Y q)) := hft
  replace hip : ∀ q r c, q < 4 → r < R → c < W → fp (2048 * q + 256 * r + c) = lN (zP (Y q) r c) := hip
  replace hiq : ∀ q r c, q < 4 → r < R → c < W → fq (2048 * q + 256 * r + c) = lN (zC (Y q) r c) := hiq
  obtain ⟨fa, fb, ho, k5, k6, hfa, hfb, hrg, hlim, hab⟩ := id hm
  obtain ⟨fms, fmk, ftk, fmn, ma, mb, mc, md, hallM⟩ := id hMm
  obtain ⟨fss, fsk, fsn, fse, sa, sb, sc, sd, hallS⟩ := id hMs
  obtain ⟨fcn, fcz, fck, fct, ca, cb, cc, cd, hallC⟩ := id hMc
  replace hallM : ∀ q, q < 4 → moM1 fms fmk ftk fmn lim P q (zM (Y q)) (zT (Y q)) := hallM
  replace hallS : ∀ q, q < 4 → moS1 fss fsk fsn fse lim P q (zS (Y q)) := hallS
  replace hallC : ∀ q, q < 4 → moC1 fcn fcz fck fct P q (zK (Y q)) (zG (Y q)) := hallC
  rcases (show q = 0 ∨ q = 1 ∨ q = 2 ∨ q = 3 by omega) with rfl | rfl | rfl | rfl
  · rcases (show d = 0 ∨ d = 1 ∨ d = 2 by omega) with rfl | rfl | rfl
    · skip
      refine v_iload_n C dX12_one_0 rfl ?_
      refine v_iconst (v := nI 2) C dX12_one_1 (by decide) ?_
      refine v_icmpn_ge C 35 dX12_one_2 (by decide) (by omega) (by omega) (fun h2 => by exfalso; first | omega | exact absurd h2 (by decide) | (have h9 := of_decide_eq_true h2; omega) | (have h9 := of_decide_eq_false h2; omega) | contradiction | simp_all) (fun h2 => ?_)
      refine v_iload C dX12_one_5 rfl ?_
      refine v_iconst (v := nI 1) C dX12_one_7 (by decide) ?_
      refine v_icmpn_ne C 15 dX12_one_8 (by decide) (by omega) (by omega) (fun h8 => ?_) (fun h8 => by exfalso; first | omega | exact absurd h8 (by decide) | (have h9 := of_decide_eq_true h8; omega) | (have h9 := of_decide_eq_false h8; omega) | contradiction | simp_all)
      refine v_iload_n C dX12_one_15 rfl ?_
      first | refine v_ifb_ne C 28 dX12_one_16 (by decide) (fun h16 => by exfalso; first | omega | exact absurd h16 (by decide) | (have h9 := of_decide_eq_true h16; omega) | (have h9 := of_decide_eq_false h16; omega) | contradiction | simp_all) (fun h16 => ?_) | refine v_ifn_ne C 28 dX12_one_16 (by decide) (by omega) (fun h16 => by exfalso; first | omega | exact absurd h16 (by decide) | (have h9 := of_decide_eq_true h16; omega) | (have h9 := of_decide_eq_false h16; omega) | contradiction | simp_all) (fun h16 => ?_) | refine v_if_ne C 28 dX12_one_16 (by decide) (fun h16 => by exfalso; first | omega | exact absurd h16 (by decide) | (have h9 := of_decide_eq_true h16; omega) | (have h9 := of_decide_eq_false h16; omega) | contradiction | simp_all) (fun h16 => ?_)
      refine v_aload_n C dX12_one_19 rfl ?_
      refine v_iload_n C dX12_one_20 rfl ?_
      refine v_iload_n C dX12_one_21 rfl ?_
      refine mc_X12_187 C dX12_one_22 (by assumption) (c_Mo_leastPlain _ E z hs hx (hok s hs).hP hm hd.2.2.1) rfl (fun r22 G22 hp22 => ?_)
      obtain ⟨hr22, rfl⟩ := hp22
      subst hr22
      refine v_goto C 34 dX12_one_25 (by decide) ?_
      refine v_lret C dX12_one_34 ?_
      exact ⟨rfl, rfl⟩
    · skip
      refine v_iload_n C dX12_one_0 rfl ?_
      refine v_iconst (v := nI 2) C dX12_one_1 (by decide) ?_
      refine v_icmpn_ge C 35 dX12_one_2 (by decide) (by omega) (by omega) (fun h2 => by exfalso; first | omega | exact absurd h2 (by decide) | (have h9 := of_decide_eq_true h2; omega) | (have h9 := of_decide_eq_false h2; omega) | contradiction | simp_all) (fun h2 => ?_)
      refine v_iload C dX12_one_5 rfl ?_
      refine v_iconst (v := nI 1) C dX12_one_7 (by decide) ?_
      refine v_icmpn_ne C 15 dX12_one_8 (by decide) (by omega) (by omega) (fun h8 => by exfalso; first | omega | exact absurd h8 (by decide) | (have h9 := of_decide_eq_true h8; omega) | (have h9 := of_decide_eq_false h8; omega) | contradiction | simp_all) (fun h8 => ?_)
      refine v_lconst (v := lN 0) C dX12_one_11 (by decide) ?_
      refine v_goto C 34 dX12_one_12 (by decide) ?_
      refine v_lret C dX12_one_34 ?_
      exact ⟨rfl, rfl⟩
    · skip
      refine v_iload_n C dX12_one_0 rfl ?_
      refine v_iconst (v := nI 2) C dX12_one_1 (by decide) ?_
      refine v_icmpn_ge C 35 dX12_one_2 (by decide) (by omega) (by omega) (fun h2 => by exfalso; first | omega | exact absurd h2 (by decide) | (have h9 := of_decide_eq_true h2; omega) | (have h9 := of_decide_eq_false h2; omega) | contradiction | simp_all) (fun h2 => ?_)
      refine v_iload C dX12_one_5 rfl ?_
      refine v_iconst (v := nI 1) C dX12_one_7 (by decide) ?_
      refine v_icmpn_ne C 15 dX12_one_8 (by decide) (by omega) (by omega) (fun h8 => ?_) (fun h8 => by exfalso; first | omega | exact absurd h8 (by decide) | (have h9 := of_decide_eq_true h8; omega) | (have h9 := of_decide_eq_false h8; omega) | contradiction | simp_all)
      refine v_iload_n C dX12_one_15 rfl ?_
      first | refine v_ifb_ne C 28 dX12_one_16 (by decide) (fun h16 => by exfalso; first | omega | exact absurd h16 (by decide) | (have h9 := of_decide_eq_true h16; omega) | (have h9 := of_decide_eq_false h16; omega) | contradiction | simp_all) (fun h16 => ?_) | refine v_ifn_ne C 28 dX12_one_16 (by decide) (by omega) (fun h16 => by exfalso; first | omega | exact absurd h16 (by decide) | (have h9 := of_decide_eq_true h16; omega) | (have h9 := of_decide_eq_false h16; omega) | contradiction | simp_all) (fun h16 => ?_) | refine v_if_ne C 28 dX12_one_16 (by decide) (fun h16 => by exfalso; first | omega | exact absurd h16 (by decide) | (have h9 := of_decide_eq_true h16; omega) | (have h9 := of_decide_eq_false h16; omega) | contradiction | simp_all) (fun h16 => ?_)
      refine v_aload_n C dX12_one_19 rfl ?_
      refine v_iload_n C dX12_one_20 rfl ?_
      refine v_iload_n C dX12_one_21 rfl ?_
      refine mc_X12_187 C dX12_one_22 (by assumption) (c_Mo_leastPlain _ E z hs hx (hok s hs).hP hm hd.2.2.1) rfl (fun r22 G22 hp22 => ?_)
      obtain ⟨hr22, rfl⟩ := hp22
      subst hr22
      refine v_goto C 34 dX12_one_25 (by decide) ?_
      refine v_lret C dX12_one_34 ?_
      exact ⟨rfl, rfl⟩
  · rcases (show d = 0 ∨ d = 1 ∨ d = 2 by omega) with rfl | rfl | rfl
    · skip
      refine v_iload_n C dX12_one_0 rfl ?_
      refine v_iconst (v := nI 2) C dX12_one_1 (by decide) ?_
      refine v_icmpn_ge C 35 dX12_one_2 (by decide) (by omega) (by omega) (fun h2 => by exfalso; first | omega | exact absurd h2 (by decide) | (have h9 := of_decide_eq_true h2; omega) | (have h9 := of_decide_eq_false h2; omega) | contradiction | simp_all) (fun h2 => ?_)
      refine v_iload C dX12_one_5 rfl ?_
      refine v_iconst (v := nI 1) C dX12_one_7 (by decide) ?_
      refine v_icmpn_ne C 15 dX12_one_8 (by decide) (by omega) (by omega) (fun h8 => ?_) (fun h8 => by exfalso; first | omega | exact absurd h8 (by decide) | (have h9 := of_decide_eq_true h8; omega) | (have h9 := of_decide_eq_false h8; omega) | contradiction | simp_all)
      refine v_iload_n C dX12_one_15 rfl ?_
      first | refine v_ifb_ne C 28 dX12_one_16 (by decide) (fun h16 => ?_) (fun h16 => by exfalso; first | omega | exact absurd h16 (by decide) | (have h9 := of_decide_eq_true h16; omega) | (have h9 := of_decide_eq_false h16; omega) | contradiction | simp_all) | refine v_ifn_ne C 28 dX12_one_16 (by decide) (by omega) (fun h16 => ?_) (fun h16 => by exfalso; first | omega | exact absurd h16 (by decide) | (have h9 := of_decide_eq_true h16; omega) | (have h9 := of_decide_eq_false h16; omega) | contradiction | simp_all) | refine v_if_ne C 28 dX12_one_16 (by decide) (fun h16 => ?_) (fun h16 => by exfalso; first | omega | exact absurd h16 (by decide) | (have h9 := of_decide_eq_true h16; omega) | (have h9 := of_decide_eq_false h16; omega) | contradiction | simp_all)
      refine v_aload_n C dX12_one_28 rfl ?_
      refine v_iload_n C dX12_one_29 rfl ?_
      refine v_iload_n C dX12_one_30 rfl ?_
      refine mc_X12_114 C dX12_one_31 (by assumption) (c_Mo_leastCareful _ E z hs hx (hok s hs).hB hm hd.2.2.2.1) rfl (fun r31 G31 hp31 => ?_)
      obtain ⟨hr31, rfl⟩ := hp31
      subst hr31
      refine v_lret C dX12_one_34 ?_
      exact ⟨rfl, rfl⟩
    · skip
      refine v_iload_n C dX12_one_0 rfl ?_
      refine v_iconst (v := nI 2) C dX12_one_1 (by decide) ?_
      refine v_icmpn_ge C 35 dX12_one_2 (by decide) (by omega) (by omega) (fun h2 => by exfalso; first | omega | exact absurd h2 (by decide) | (have h9 := of_decide_eq_true h2; omega) | (have h9 := of_decide_eq_false h2; omega) | contradiction | simp_all) (fun h2 => ?_)
      refine v_iload C dX12_one_5 rfl ?_
      refine v_iconst (v := nI 1) C dX12_one_7 (by decide) ?_
      refine v_icmpn_ne C 15 dX12_one_8 (by decide) (by omega) (by omega) (fun h8 => by exfalso; first | omega | exact absurd h8 (by decide) | (have h9 := of_decide_eq_true h8; omega) | (have h9 := of_decide_eq_false h8; omega) | contradiction | simp_all) (fun h8 => ?_)
      refine v_lconst (v := lN 0) C dX12_one_11 (by decide) ?_
      refine v_goto C 34 dX12_one_12 (by decide) ?_
      refine v_lret C dX12_one_34 ?_
      exact ⟨rfl, rfl⟩
    · skip
      refine v_iload_n C dX12_one_0 rfl ?_
      refine v_iconst (v := nI 2) C dX12_one_1 (by decide) ?_
      refine v_icmpn_ge C 35 dX12_one_2 (by decide) (by omega) (by omega) (fun h2 => by exfalso; first | omega | exact absurd h2 (by decide) | (have h9 := of_decide_eq_true h2; omega) | (have h9 := of_decide_eq_false h2; omega) | contradiction | simp_all) (fun h2 => ?_)
      refine v_iload C dX12_one_5 rfl ?_
      refine v_iconst (v := nI 1) C dX12_one_7 (by decide) ?_
      refine v_icmpn_ne C 15 dX12_one_8 (by decide) (by omega) (by omega) (fun h8 => ?_) (fun h8 => by exfalso; first | omega | exact absurd h8 (by decide) | (have h9 := of_decide_eq_true h8; omega) | (have h9 := of_decide_eq_false h8; omega) | contradiction | simp_all)
      refine v_iload_n C dX12_one_15 rfl ?_
      first | refine v_ifb_ne C 28 dX12_one_16 (by decide) (fun h16 => ?_) (fun h16 => by exfalso; first | omega | exact absurd h16 (by decide) | (have h9 := of_decide_eq_true h16; omega) | (have h9 := of_decide_eq_false h16; omega) | contradiction | simp_all) | refine v_ifn_ne C 28 dX12_one_16 (by decide) (by omega) (fun h16 => ?_) (fun h16 => by exfalso; first | omega | exact absurd h16 (by decide) | (have h9 := of_decide_eq_true h16; omega) | (have h9 := of_decide_eq_false h16; omega) | contradiction | simp_all) | refine v_if_ne C 28 dX12_one_16 (by decide) (fun h16 => ?_) (fun h16 => by exfalso; first | omega | exact absurd h16 (by decide) | (have h9 := of_decide_eq_true h16; omega) | (have h9 := of_decide_eq_false h16; omega) | contradiction | simp_all)
      refine v_aload_n C dX12_one_28 rfl ?_
      refine v_iload_n C dX12_one_29 rfl ?_
      refine v_iload_n C dX12_one_30 rfl ?_
      refine mc_X12_114 C dX12_one_31 (by assumption) (c_Mo_leastCareful _ E z hs hx (hok s hs).hB hm hd.2.2.2.1) rfl (fun r31 G31 hp31 => ?_)
      obtain ⟨hr31, rfl⟩ := hp31
      subst hr31
      refine v_lret C dX12_one_34 ?_
      exact ⟨rfl, rfl⟩
  · rcases (show d = 0 ∨ d = 1 ∨ d = 2 by omega) with rfl | rfl | rfl
    · skip
      refine v_iload_n C dX12_one_0 rfl ?_
      refine v_iconst (v := nI 2) C dX12_one_1 (by decide) ?_
      refine v_icmpn_ge C 35 dX12_one_2 (by decide) (by omega) (by omega) (fun h2 => ?_) (fun h2 => by exfalso; first | omega | exact absurd h2 (by decide) | (have h9 := of_decide_eq_true h2; omega) | (have h9 := of_decide_eq_false h2; omega) | contradiction | simp_all)
      refine v_iload_n C dX12_one_35 rfl ?_
      refine v_iconst (v := nI 2) C dX12_one_36 (by decide) ?_
      refine v_icmpn_ne C 87 dX12_one_37 (by decide) (by omega) (by omega) (fun h37 => by exfalso; first | omega | exact absurd h37 (by decide) | (have h9 := of_decide_eq_true h37; omega) | (have h9 := of_decide_eq_false h37; omega) | contradiction | simp_all) (fun h37 => ?_)
      refine v_aload_n C dX12_one_40 rfl ?_
      refine v_iload_n C dX12_one_41 rfl ?_
      refine v_iload_n C dX12_one_42 rfl ?_
      refine mc_X12_129 C dX12_one_43 (by assumption) (c_Md_misraAt _ E z hs (by omega) hd) rfl (fun r43 G43 hp43 => ?_)
      obtain ⟨hr43, rfl⟩ := hp43
      rcases kJ_cases hr43 with ⟨hk, rfl⟩ | ⟨i, c, hk, rfl, hc9, hcx, hil⟩
      · skip
        refine v_istore_5 C dX12_one_46 (by decide) (by first | rfl | assumption) ?_
        refine v_iload C dX12_one_48 rfl ?_
        refine v_if_ge C 57 dX12_one_50 (by decide) (fun h50 => by exfalso; first | omega | exact absurd h50 (by decide) | (have h9 := of_decide_eq_true h50; omega) | (have h9 := of_decide_eq_false h50; omega) | contradiction | simp_all) (fun h50 => ?_)
        refine v_lconst (v := lN 0) C dX12_one_53 (by decide) ?_
        refine v_goto C 64 dX12_one_54 (by decide) ?_
        refine v_lstore_6 C dX12_one_64 (by decide) (by first | rfl | assumption) ?_
        refine v_iload C dX12_one_66 rfl ?_
        refine v_iconst (v := nI 2) C dX12_one_68 (by decide) ?_
        refine v_icmpn_ne C 84 dX12_one_69 (by decide) (by omega) (by omega) (fun h69 => ?_) (fun h69 => by exfalso; first | omega | exact absurd h69 (by decide) | (have h9 := of_decide_eq_true h69; omega) | (have h9 := of_decide_eq_false h69; omega) | contradiction | simp_all)
        refine v_lload C dX12_one_84 rfl ?_
        refine v_lret C dX12_one_86 ?_
        refine ⟨?_, rfl⟩
        unfold kOne kGuess kLow kHigh
        simp only []
        rw [numOf_none hk]
      · skip
        have hll := (hallM s hs).2.2.2.1
        refine v_istore_5 C dX12_one_46 (by decide) (by first | rfl | assumption) ?_
        refine v_iload C dX12_one_48 rfl ?_
        first | refine v_ifn_ge C 57 dX12_one_50 (by decide) (by omega) (fun h50 => ?_) (fun h50 => by exfalso; first | omega | exact absurd h50 (by decide) | (have h9 := of_decide_eq_true h50; omega) | (have h9 := of_decide_eq_false h50; omega) | contradiction | simp_all) | refine v_if_ge C 57 dX12_one_50 (by decide) (fun h50 => ?_) (fun h50 => by exfalso; first | omega | exact absurd h50 (by decide) | (have h9 := of_decide_eq_true h50; omega) | (have h9 := of_decide_eq_false h50; omega) | contradiction | simp_all)
        refine v_aload_n C dX12_one_57 rfl ?_
        refine gf_X12_35 C dX12_one_58 (by assumption) ?_
        refine v_iload C dX12_one_61 rfl ?_
        refine v_lald C dX12_one_63 (by assumption) (by omega) (by omega) ((hallM s hs).2.2.1 i c hc9).2 ?_
        refine v_lstore_6 C dX12_one_64 (by decide) (by first | rfl | assumption) ?_
        refine v_iload C dX12_one_66 rfl ?_
        refine v_iconst (v := nI 2) C dX12_one_68 (by decide) ?_
        refine v_icmpn_ne C 84 dX12_one_69 (by decide) (by omega) (by omega) (fun h69 => ?_) (fun h69 => by exfalso; first | omega | exact absurd h69 (by decide) | (have h9 := of_decide_eq_true h69; omega) | (have h9 := of_decide_eq_false h69; omega) | contradiction | simp_all)
        refine v_lload C dX12_one_84 rfl ?_
        refine v_lret C dX12_one_86 ?_
        refine ⟨?_, rfl⟩
        unfold kOne kGuess kLow kHigh
        simp only []
        rw [numOf_some hk hc9]
    · skip
      refine v_iload_n C dX12_one_0 rfl ?_
      refine v_iconst (v := nI 2) C dX12_one_1 (by decide) ?_
      refine v_icmpn_ge C 35 dX12_one_2 (by decide) (by omega) (by omega) (fun h2 => ?_) (fun h2 => by exfalso; first | omega | exact absurd h2 (by decide) | (have h9 := of_decide_eq_true h2; omega) | (have h9 := of_decide_eq_false h2; omega) | contradiction | simp_all)
      refine v_iload_n C dX12_one_35 rfl ?_
      refine v_iconst (v := nI 2) C dX12_one_36 (by decide) ?_
      refine v_icmpn_ne C 87 dX12_one_37 (by decide) (by omega) (by omega) (fun h37 => by exfalso; first | omega | exact absurd h37 (by decide) | (have h9 := of_decide_eq_true h37; omega) | (have h9 := of_decide_eq_false h37; omega) | contradiction | simp_all) (fun h37 => ?_)
      refine v_aload_n C dX12_one_40 rfl ?_
      refine v_iload_n C dX12_one_41 rfl ?_
      refine v_iload_n C dX12_one_42 rfl ?_
      refine mc_X12_129 C dX12_one_43 (by assumption) (c_Md_misraAt _ E z hs (by omega) hd) rfl (fun r43 G43 hp43 => ?_)
      obtain ⟨hr43, rfl⟩ := hp43
      rcases kJ_cases hr43 with ⟨hk, rfl⟩ | ⟨i, c, hk, rfl, hc9, hcx, hil⟩
      · skip
        refine v_istore_5 C dX12_one_46 (by decide) (by first | rfl | assumption) ?_
        refine v_iload C dX12_one_48 rfl ?_
        refine v_if_ge C 57 dX12_one_50 (by decide) (fun h50 => by exfalso; first | omega | exact absurd h50 (by decide) | (have h9 := of_decide_eq_true h50; omega) | (have h9 := of_decide_eq_false h50; omega) | contradiction | simp_all) (fun h50 => ?_)
        refine v_lconst (v := lN 0) C dX12_one_53 (by decide) ?_
        refine v_goto C 64 dX12_one_54 (by decide) ?_
        refine v_lstore_6 C dX12_one_64 (by decide) (by first | rfl | assumption) ?_
        refine v_iload C dX12_one_66 rfl ?_
        refine v_iconst (v := nI 2) C dX12_one_68 (by decide) ?_
        refine v_icmpn_ne C 84 dX12_one_69 (by decide) (by omega) (by omega) (fun h69 => ?_) (fun h69 => by exfalso; first | omega | exact absurd h69 (by decide) | (have h9 := of_decide_eq_true h69; omega) | (have h9 := of_decide_eq_false h69; omega) | contradiction | simp_all)
        refine v_lload C dX12_one_84 rfl ?_
        refine v_lret C dX12_one_86 ?_
        refine ⟨?_, rfl⟩
        unfold kOne kGuess kLow kHigh
        simp only []
        rw [numOf_none hk]
      · skip
        have hll := (hallM s hs).2.2.2.1
        refine v_istore_5 C dX12_one_46 (by decide) (by first | rfl | assumption) ?_
        refine v_iload C dX12_one_48 rfl ?_
        first | refine v_ifn_ge C 57 dX12_one_50 (by decide) (by omega) (fun h50 => ?_) (fun h50 => by exfalso; first | omega | exact absurd h50 (by decide) | (have h9 := of_decide_eq_true h50; omega) | (have h9 := of_decide_eq_false h50; omega) | contradiction | simp_all) | refine v_if_ge C 57 dX12_one_50 (by decide) (fun h50 => ?_) (fun h50 => by exfalso; first | omega | exact absurd h50 (by decide) | (have h9 := of_decide_eq_true h50; omega) | (have h9 := of_decide_eq_false h50; omega) | contradiction | simp_all)
        refine v_aload_n C dX12_one_57 rfl ?_
        refine gf_X12_35 C dX12_one_58 (by assumption) ?_
        refine v_iload C dX12_one_61 rfl ?_
        refine v_lald C dX12_one_63 (by assumption) (by omega) (by omega) ((hallM s hs).2.2.1 i c hc9).2 ?_
        refine v_lstore_6 C dX12_one_64 (by decide) (by first | rfl | assumption) ?_
        refine v_iload C dX12_one_66 rfl ?_
        refine v_iconst (v := nI 2) C dX12_one_68 (by decide) ?_
        refine v_icmpn_ne C 84 dX12_one_69 (by decide) (by omega) (by omega) (fun h69 => ?_) (fun h69 => by exfalso; first | omega | exact absurd h69 (by decide) | (have h9 := of_decide_eq_true h69; omega) | (have h9 := of_decide_eq_false h69; omega) | contradiction | simp_all)
        refine v_lload C dX12_one_84 rfl ?_
        refine v_lret C dX12_one_86 ?_
        refine ⟨?_, rfl⟩
        unfold kOne kGuess kLow kHigh
        simp only []
        rw [numOf_some hk hc9]
    · skip
      refine v_iload_n C dX12_one_0 rfl ?_
      refine v_iconst (v := nI 2) C dX12_one_1 (by decide) ?_
      refine v_icmpn_ge C 35 dX12_one_2 (by decide) (by omega) (by omega) (fun h2 => ?_) (fun h2 => by exfalso; first | omega | exact absurd h2 (by decide) | (have h9 := of_decide_eq_true h2; omega) | (have h9 := of_decide_eq_false h2; omega) | contradiction | simp_all)
      refine v_iload_n C dX12_one_35 rfl ?_
      refine v_iconst (v := nI 2) C dX12_one_36 (by decide) ?_
      refine v_icmpn_ne C 87 dX12_one_37 (by decide) (by omega) (by omega) (fun h37 => by exfalso; first | omega | exact absurd h37 (by decide) | (have h9 := of_decide_eq_true h37; omega) | (have h9 := of_decide_eq_false h37; omega) | contradiction | simp_all) (fun h37 => ?_)
      refine v_aload_n C dX12_one_40 rfl ?_
      refine v_iload_n C dX12_one_41 rfl ?_
      refine v_iload_n C dX12_one_42 rfl ?_
      refine mc_X12_129 C dX12_one_43 (by assumption) (c_Md_misraAt _ E z hs (by omega) hd) rfl (fun r43 G43 hp43 => ?_)
      obtain ⟨hr43, rfl⟩ := hp43
      rcases kJ_cases hr43 with ⟨hk, rfl⟩ | ⟨i, c, hk, rfl, hc9, hcx, hil⟩
      · skip
        refine v_istore_5 C dX12_one_46 (by decide) (by first | rfl | assumption) ?_
        refine v_iload C dX12_one_48 rfl ?_
        refine v_if_ge C 57 dX12_one_50 (by decide) (fun h50 => by exfalso; first | omega | exact absurd h50 (by decide) | (have h9 := of_decide_eq_true h50; omega) | (have h9 := of_decide_eq_false h50; omega) | contradiction | simp_all) (fun h50 => ?_)
        refine v_lconst (v := lN 0) C dX12_one_53 (by decide) ?_
        refine v_goto C 64 dX12_one_54 (by decide) ?_
        refine v_lstore_6 C dX12_one_64 (by decide) (by first | rfl | assumption) ?_
        refine v_iload C dX12_one_66 rfl ?_
        refine v_iconst (v := nI 2) C dX12_one_68 (by decide) ?_
        refine v_icmpn_ne C 84 dX12_one_69 (by decide) (by omega) (by omega) (fun h69 => by exfalso; first | omega | exact absurd h69 (by decide) | (have h9 := of_decide_eq_true h69; omega) | (have h9 := of_decide_eq_false h69; omega) | contradiction | simp_all) (fun h69 => ?_)
        refine v_lload C dX12_one_72 rfl ?_
        refine v_aload_n C dX12_one_74 rfl ?_
        refine gf_X12_29 C dX12_one_75 (by assumption) ?_
        refine v_iload_n C dX12_one_78 rfl ?_
        refine v_lald C dX12_one_79 (by assumption) (by omega) (by omega) (hallM s hs).2.1 ?_
        first | refine v_laddn C dX12_one_80 ?_ | refine v_ladd C dX12_one_80 ?_
        refine v_goto C 86 dX12_one_81 (by decide) ?_
        refine v_lret C dX12_one_86 ?_
        refine ⟨?_, rfl⟩
        unfold kOne kGuess kLow kHigh
        simp only []
        rw [numOf_none hk]
      · skip
        have hll := (hallM s hs).2.2.2.1
        refine v_istore_5 C dX12_one_46 (by decide) (by first | rfl | assumption) ?_
        refine v_iload C dX12_one_48 rfl ?_
        first | refine v_ifn_ge C 57 dX12_one_50 (by decide) (by omega) (fun h50 => ?_) (fun h50 => by exfalso; first | omega | exact absurd h50 (by decide) | (have h9 := of_decide_eq_true h50; omega) | (have h9 := of_decide_eq_false h50; omega) | contradiction | simp_all) | refine v_if_ge C 57 dX12_one_50 (by decide) (fun h50 => ?_) (fun h50 => by exfalso; first | omega | exact absurd h50 (by decide) | (have h9 := of_decide_eq_true h50; omega) | (have h9 := of_decide_eq_false h50; omega) | contradiction | simp_all)
        refine v_aload_n C dX12_one_57 rfl ?_
        refine gf_X12_35 C dX12_one_58 (by assumption) ?_
        refine v_iload C dX12_one_61 rfl ?_
        refine v_lald C dX12_one_63 (by assumption) (by omega) (by omega) ((hallM s hs).2.2.1 i c hc9).2 ?_
        refine v_lstore_6 C dX12_one_64 (by decide) (by first | rfl | assumption) ?_
        refine v_iload C dX12_one_66 rfl ?_
        refine v_iconst (v := nI 2) C dX12_one_68 (by decide) ?_
        refine v_icmpn_ne C 84 dX12_one_69 (by decide) (by omega) (by omega) (fun h69 => by exfalso; first | omega | exact absurd h69 (by decide) | (have h9 := of_decide_eq_true h69; omega) | (have h9 := of_decide_eq_false h69; omega) | contradiction | simp_all) (fun h69 => ?_)
        refine v_lload C dX12_one_72 rfl ?_
        refine v_aload_n C dX12_one_74 rfl ?_
        refine gf_X12_29 C dX12_one_75 (by assumption) ?_
        refine v_iload_n C dX12_one_78 rfl ?_
        refine v_lald C dX12_one_79 (by assumption) (by omega) (by omega) (hallM s hs).2.1 ?_
        first | refine v_laddn C dX12_one_80 ?_ | refine v_ladd C dX12_one_80 ?_
        refine v_goto C 86 dX12_one_81 (by decide) ?_
        refine v_lret C dX12_one_86 ?_
        refine ⟨?_, rfl⟩
        unfold kOne kGuess kLow kHigh
        simp only []
        rw [numOf_some hk hc9]
  · rcases (show d = 0 ∨ d = 1 ∨ d = 2 by omega) with rfl | rfl | rfl
    · skip
      refine v_iload_n C dX12_one_0 rfl ?_
      refine v_iconst (v := nI 2) C dX12_one_1 (by decide) ?_
      refine v_icmpn_ge C 35 dX12_one_2 (by decide) (by omega) (by omega) (fun h2 => ?_) (fun h2 => by exfalso; first | omega | exact absurd h2 (by decide) | (have h9 := of_decide_eq_true h2; omega) | (have h9 := of_decide_eq_false h2; omega) | contradiction | simp_all)
      refine v_iload_n C dX12_one_35 rfl ?_
      refine v_iconst (v := nI 2) C dX12_one_36 (by decide) ?_
      refine v_icmpn_ne C 87 dX12_one_37 (by decide) (by omega) (by omega) (fun h37 => ?_) (fun h37 => by exfalso; first | omega | exact absurd h37 (by decide) | (have h9 := of_decide_eq_true h37; omega) | (have h9 := of_decide_eq_false h37; omega) | contradiction | simp_all)
      refine v_aload_n C dX12_one_87 rfl ?_
      refine v_iload_n C dX12_one_88 rfl ?_
      refine v_iload_n C dX12_one_89 rfl ?_
      refine mc_X12_137 C dX12_one_90 (by assumption) (c_Md_savingAt _ E z hs (by omega) hd) rfl (fun r90 G90 hp90 => ?_)
      obtain ⟨hr90, rfl⟩ := hp90
      rcases kJ_cases hr90 with ⟨hk, rfl⟩ | ⟨i, c, hk, rfl, hc9, hcx, hil⟩
      · skip
        refine v_istore_5 C dX12_one_93 (by decide) (by first | rfl | assumption) ?_
        refine v_iload C dX12_one_95 rfl ?_
        refine v_iconst (v := nI 1) C dX12_one_97 (by decide) ?_
        refine v_icmpn_ne C 126 dX12_one_98 (by decide) (by omega) (by omega) (fun h98 => ?_) (fun h98 => by exfalso; first | omega | exact absurd h98 (by decide) | (have h9 := of_decide_eq_true h98; omega) | (have h9 := of_decide_eq_false h98; omega) | contradiction | simp_all)
        refine v_iload C dX12_one_126 rfl ?_
        refine v_if_ge C 139 dX12_one_128 (by decide) (fun h128 => by exfalso; first | omega | exact absurd h128 (by decide) | (have h9 := of_decide_eq_true h128; omega) | (have h9 := of_decide_eq_false h128; omega) | contradiction | simp_all) (fun h128 => ?_)
        refine v_aload_n C dX12_one_131 rfl ?_
        refine v_iload_n C dX12_one_132 rfl ?_
        refine mc_X12_180 C dX12_one_133 (by assumption) (c_Mo_least _ E z hs hd) rfl (fun r133 G133 hp133 => ?_)
        obtain ⟨hr133, rfl⟩ := hp133
        subst hr133
        refine v_goto C 146 dX12_one_136 (by decide) ?_
        refine v_lret C dX12_one_146 ?_
        refine ⟨?_, rfl⟩
        unfold kOne kGuess kLow kHigh
        simp only []
        rw [sEst_none hk]
      · skip
        have hll := (hallS s hs).2.2.1
        refine v_istore_5 C dX12_one_93 (by decide) (by first | rfl | assumption) ?_
        refine v_iload C dX12_one_95 rfl ?_
        refine v_iconst (v := nI 1) C dX12_one_97 (by decide) ?_
        refine v_icmpn_ne C 126 dX12_one_98 (by decide) (by omega) (by omega) (fun h98 => ?_) (fun h98 => by exfalso; first | omega | exact absurd h98 (by decide) | (have h9 := of_decide_eq_true h98; omega) | (have h9 := of_decide_eq_false h98; omega) | contradiction | simp_all)
        refine v_iload C dX12_one_126 rfl ?_
        first | refine v_ifn_ge C 139 dX12_one_128 (by decide) (by omega) (fun h128 => ?_) (fun h128 => by exfalso; first | omega | exact absurd h128 (by decide) | (have h9 := of_decide_eq_true h128; omega) | (have h9 := of_decide_eq_false h128; omega) | contradiction | simp_all) | refine v_if_ge C 139 dX12_one_128 (by decide) (fun h128 => ?_) (fun h128 => by exfalso; first | omega | exact absurd h128 (by decide) | (have h9 := of_decide_eq_true h128; omega) | (have h9 := of_decide_eq_false h128; omega) | contradiction | simp_all)
        refine v_aload_n C dX12_one_139 rfl ?_
        refine gf_X12_44 C dX12_one_140 (by assumption) ?_
        refine v_iload C dX12_one_143 rfl ?_
        refine v_lald C dX12_one_145 (by assumption) (by omega) (by omega) ((hallS s hs).2.1 i c hc9).2.1 ?_
        refine v_lret C dX12_one_146 ?_
        refine ⟨?_, rfl⟩
        unfold kOne kGuess kLow kHigh
        simp only []
        rw [sEst_some hk hc9]
    · skip
      refine v_iload_n C dX12_one_0 rfl ?_
      refine v_iconst (v := nI 2) C dX12_one_1 (by decide) ?_
      refine v_icmpn_ge C 35 dX12_one_2 (by decide) (by omega) (by omega) (fun h2 => ?_) (fun h2 => by exfalso; first | omega | exact absurd h2 (by decide) | (have h9 := of_decide_eq_true h2; omega) | (have h9 := of_decide_eq_false h2; omega) | contradiction | simp_all)
      refine v_iload_n C dX12_one_35 rfl ?_
      refine v_iconst (v := nI 2) C dX12_one_36 (by decide) ?_
      refine v_icmpn_ne C 87 dX12_one_37 (by decide) (by omega) (by omega) (fun h37 => ?_) (fun h37 => by exfalso; first | omega | exact absurd h37 (by decide) | (have h9 := of_decide_eq_true h37; omega) | (have h9 := of_decide_eq_false h37; omega) | contradiction | simp_all)
      refine v_aload_n C dX12_one_87 rfl ?_
      refine v_iload_n C dX12_one_88 rfl ?_
      refine v_iload_n C dX12_one_89 rfl ?_
      refine mc_X12_137 C dX12_one_90 (by assumption) (c_Md_savingAt _ E z hs (by omega) hd) rfl (fun r90 G90 hp90 => ?_)
      obtain ⟨hr90, rfl⟩ := hp90
      rcases kJ_cases hr90 with ⟨hk, rfl⟩ | ⟨i, c, hk, rfl, hc9, hcx, hil⟩
      · skip
        refine v_istore_5 C dX12_one_93 (by decide) (by first | rfl | assumption) ?_
        refine v_iload C dX12_one_95 rfl ?_
        refine v_iconst (v := nI 1) C dX12_one_97 (by decide) ?_
        refine v_icmpn_ne C 126 dX12_one_98 (by decide) (by omega) (by omega) (fun h98 => by exfalso; first | omega | exact absurd h98 (by decide) | (have h9 := of_decide_eq_true h98; omega) | (have h9 := of_decide_eq_false h98; omega) | contradiction | simp_all) (fun h98 => ?_)
        refine v_iload C dX12_one_101 rfl ?_
        refine v_if_ge C 110 dX12_one_103 (by decide) (fun h103 => by exfalso; first | omega | exact absurd h103 (by decide) | (have h9 := of_decide_eq_true h103; omega) | (have h9 := of_decide_eq_false h103; omega) | contradiction | simp_all) (fun h103 => ?_)
        refine v_lconst (v := lN 0) C dX12_one_106 (by decide) ?_
        refine v_goto C 125 dX12_one_107 (by decide) ?_
        refine v_lret C dX12_one_125 ?_
        refine ⟨?_, rfl⟩
        unfold kOne kGuess kLow kHigh
        simp only []
        rw [sLow_none hk]
      · skip
        have hll := (hallS s hs).2.2.1
        refine v_istore_5 C dX12_one_93 (by decide) (by first | rfl | assumption) ?_
        refine v_iload C dX12_one_95 rfl ?_
        refine v_iconst (v := nI 1) C dX12_one_97 (by decide) ?_
        refine v_icmpn_ne C 126 dX12_one_98 (by decide) (by omega) (by omega) (fun h98 => by exfalso; first | omega | exact absurd h98 (by decide) | (have h9 := of_decide_eq_true h98; omega) | (have h9 := of_decide_eq_false h98; omega) | contradiction | simp_all) (fun h98 => ?_)
        refine v_iload C dX12_one_101 rfl ?_
        first | refine v_ifn_ge C 110 dX12_one_103 (by decide) (by omega) (fun h103 => ?_) (fun h103 => by exfalso; first | omega | exact absurd h103 (by decide) | (have h9 := of_decide_eq_true h103; omega) | (have h9 := of_decide_eq_false h103; omega) | contradiction | simp_all) | refine v_if_ge C 110 dX12_one_103 (by decide) (fun h103 => ?_) (fun h103 => by exfalso; first | omega | exact absurd h103 (by decide) | (have h9 := of_decide_eq_true h103; omega) | (have h9 := of_decide_eq_false h103; omega) | contradiction | simp_all)
        refine v_aload_n C dX12_one_110 rfl ?_
        refine gf_X12_44 C dX12_one_111 (by assumption) ?_
        refine v_iload C dX12_one_114 rfl ?_
        refine v_lald C dX12_one_116 (by assumption) (by omega) (by omega) ((hallS s hs).2.1 i c hc9).2.1 ?_
        refine v_aload_n C dX12_one_117 rfl ?_
        refine gf_X12_47 C dX12_one_118 (by assumption) ?_
        refine v_iload C dX12_one_121 rfl ?_
        refine v_lald C dX12_one_123 (by assumption) (by omega) (by omega) ((hallS s hs).2.1 i c hc9).2.2 ?_
        refine v_lsub C dX12_one_124 ?_
        refine v_lret C dX12_one_125 ?_
        refine ⟨?_, rfl⟩
        unfold kOne kGuess kLow kHigh
        simp only []
        rw [sLow_some hk hc9]
    · skip
      refine v_iload_n C dX12_one_0 rfl ?_
      refine v_iconst (v := nI 2) C dX12_one_1 (by decide) ?_
      refine v_icmpn_ge C 35 dX12_one_2 (by decide) (by omega) (by omega) (fun h2 => ?_) (fun h2 => by exfalso; first | omega | exact absurd h2 (by decide) | (have h9 := of_decide_eq_true h2; omega) | (have h9 := of_decide_eq_false h2; omega) | contradiction | simp_all)
      refine v_iload_n C dX12_one_35 rfl ?_
      refine v_iconst (v := nI 2) C dX12_one_36 (by decide) ?_
      refine v_icmpn_ne C 87 dX12_one_37 (by decide) (by omega) (by omega) (fun h37 => ?_) (fun h37 => by exfalso; first | omega | exact absurd h37 (by decide) | (have h9 := of_decide_eq_true h37; omega) | (have h9 := of_decide_eq_false h37; omega) | contradiction | simp_all)
      refine v_aload_n C dX12_one_87 rfl ?_
      refine v_iload_n C dX12_one_88 rfl ?_
      refine v_iload_n C dX12_one_89 rfl ?_
      refine mc_X12_137 C dX12_one_90 (by assumption) (c_Md_savingAt _ E z hs (by omega) hd) rfl (fun r90 G90 hp90 => ?_)
      obtain ⟨hr90, rfl⟩ := hp90
      rcases kJ_cases hr90 with ⟨hk, rfl⟩ | ⟨i, c, hk, rfl, hc9, hcx, hil⟩
      · skip
        refine v_istore_5 C dX12_one_93 (by decide) (by first | rfl | assumption) ?_
        refine v_iload C dX12_one_95 rfl ?_
        refine v_iconst (v := nI 1) C dX12_one_97 (by decide) ?_
        refine v_icmpn_ne C 126 dX12_one_98 (by decide) (by omega) (by omega) (fun h98 => ?_) (fun h98 => by exfalso; first | omega | exact absurd h98 (by decide) | (have h9 := of_decide_eq_true h98; omega) | (have h9 := of_decide_eq_false h98; omega) | contradiction | simp_all)
        refine v_iload C dX12_one_126 rfl ?_
        refine v_if_ge C 139 dX12_one_128 (by decide) (fun h128 => by exfalso; first | omega | exact absurd h128 (by decide) | (have h9 := of_decide_eq_true h128; omega) | (have h9 := of_decide_eq_false h128; omega) | contradiction | simp_all) (fun h128 => ?_)
        refine v_aload_n C dX12_one_131 rfl ?_
        refine v_iload_n C dX12_one_132 rfl ?_
        refine mc_X12_180 C dX12_one_133 (by assumption) (c_Mo_least _ E z hs hd) rfl (fun r133 G133 hp133 => ?_)
        obtain ⟨hr133, rfl⟩ := hp133
        subst hr133
        refine v_goto C 146 dX12_one_136 (by decide) ?_
        refine v_lret C dX12_one_146 ?_
        refine ⟨?_, rfl⟩
        unfold kOne kGuess kLow kHigh
        simp only []
        rw [sEst_none hk]
      · skip
        have hll := (hallS s hs).2.2.1
        refine v_istore_5 C dX12_one_93 (by decide) (by first | rfl | assumption) ?_
        refine v_iload C dX12_one_95 rfl ?_
        refine v_iconst (v := nI 1) C dX12_one_97 (by decide) ?_
        refine v_icmpn_ne C 126 dX12_one_98 (by decide) (by omega) (by omega) (fun h98 => ?_) (fun h98 => by exfalso; first | omega | exact absurd h98 (by decide) | (have h9 := of_decide_eq_true h98; omega) | (have h9 := of_decide_eq_false h98; omega) | contradiction | simp_all)
        refine v_iload C dX12_one_126 rfl ?_
        first | refine v_ifn_ge C 139 dX12_one_128 (by decide) (by omega) (fun h128 => ?_) (fun h128 => by exfalso; first | omega | exact absurd h128 (by decide) | (have h9 := of_decide_eq_true h128; omega) | (have h9 := of_decide_eq_false h128; omega) | contradiction | simp_all) | refine v_if_ge C 139 dX12_one_128 (by decide) (fun h128 => ?_) (fun h128 => by exfalso; first | omega | exact absurd h128 (by decide) | (have h9 := of_decide_eq_true h128; omega) | (have h9 := of_decide_eq_false h128; omega) | contradiction | simp_all)
        refine v_aload_n C dX12_one_139 rfl ?_
        refine gf_X12_44 C dX12_one_140 (by assumption) ?_
        refine v_iload C dX12_one_143 rfl ?_
        refine v_lald C dX12_one_145 (by assumption) (by omega) (by omega) ((hallS s hs).2.1 i c hc9).2.1 ?_
        refine v_lret C dX12_one_146 ?_
        refine ⟨?_, rfl⟩
        unfold kOne kGuess kLow kHigh
        simp only []
        rw [sEst_some hk hc9]

