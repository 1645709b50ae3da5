theorem st_wk {p : Program} {l : Launch} {e : Env} {R : Room} {s : State} {m : MethodId} {args : Array Value} {below : List Frame} {meth : Method} {c : Code} {T : State} {locs : List Loc} {cells slots c2 n2 : Nat} (X : Stand p l e R s m args below meth c T locs cells slots) (h1 : cells ≤ c2) (h2 : slots ≤ n2) : Stand p l e R s m args below meth c T locs c2 n2 :=
  { X with same := ⟨X.same.1, X.same.2.1, Nat.le_trans X.same.2.2.1 (Nat.add_le_add_left h1 _), X.same.2.2.2.1, Nat.le_trans X.same.2.2.2.2.1 h2, X.same.2.2.2.2.2⟩ }
theorem v_wk {M : Mx} {E : Ev} {nL : Nat} {Q : State → Prop} {z : Option Nat} {cells cells2 slots slots2 : Nat} {G : Gh} {pc : Nat} {lo : List (Option Value)} {st : List Value} (e1 : cells ≤ cells2) (e2 : slots ≤ slots2) (h : V M E nL Q z cells2 slots2 G pc lo st) : V M E nL Q z cells slots G pc lo st := fun H locs ls a b c d T hT X => h H locs ls a b c d T hT (st_wk X e1 e2)

set_option maxHeartbeats 4000000 in
set_option maxRecDepth 100000 in
theorem i_Str (l : Launch) (E : Ev) {G : Gh} {s fam P W R lim : Nat} {A B : Nat → Nat} (hfs : fam + 3 ≤ s) (hlim : 1 ≤ lim ∧ lim ≤ 64) (hF : isFam E G fam P W R A B) (h0 : G s = cO 9 [.null, .null, .null, .null, .null, .null, .long (lN 0)]) : K_X10_init l E (23) (7548) (some (ga E (s + 1))) (some (ga E (s + 24))) G [.ref (ga E s), .ref (ga E fam), .int (nI lim)] (fun _ G2 => isStr E G2 s fam P W R lim (min P 300) strEmpty ∧ ∀ j, (j < s ∨ s + 24 ≤ j) → G2 j = G j) := by
  refine Fc.of rfl [some (.ref (ga E s)), some (.ref (ga E fam)), some (.int (nI lim))] 0 rfl (Nat.le_of_ble_eq_true rfl) ?_
  intro M hM0 hini C
  subst hM0
  replace hini := hini rfl
  obtain ⟨fa, fb, hb0, -, -, -, -, hr, -⟩ := id hF
  have hRW := RW_le hr.2.2.2.2.2 hr.2.2.2.1
  refine v_aload_n C dX10_init_0 rfl ?_
  refine mc_X10_3 C dX10_init_1 (Nat.le_of_ble_eq_true rfl) (Nat.le_of_ble_eq_true rfl) ?_
  refine v_aload_n C dX10_init_4 rfl ?_
  refine nn_X10_9 (i := s + 1) C dX10_init_5 ⟨by omega, by omega⟩ (fun G hG5 hF5 => ?_)
  first | replace h0 := (hF5 _ (by omega)).trans h0 | replace h0 := hG5 | skip
  first | replace hb0 := (hF5 _ (by omega)).trans hb0 | replace hb0 := hG5 | skip
  have h1 := hG5
  refine v_dup C dX10_init_8 rfl ?_
  refine v_aload_n C dX10_init_9 rfl ?_
  refine v_iconst (v := bI false) C dX10_init_10 (by decide) ?_
  refine mc_X10_11 C dX10_init_11 (i_Grid _ E (b := s + 1) (cf := false) (by omega) (hF.keep (fun j a b => by rw [hF5 j (by omega)])) h1) rfl ⟨by omega, by omega⟩ (fun r11 G11 hp11 => ?_)
  obtain ⟨hg1, hfr11⟩ := hp11
  obtain ⟨fc1, o1, -⟩ := id hg1
  replace h0 := (hfr11 _ (by omega)).trans h0
  replace hb0 := (hfr11 _ (by omega)).trans hb0
  clear h1
  refine pf_X10_14 C dX10_init_14 hini (by assumption) (fun G hG14 hF14 => ?_)
  first | replace h0 := (hF14 _ (by omega)).trans h0 | replace h0 := hG14 | skip
  first | replace hb0 := (hF14 _ (by omega)).trans hb0 | replace hb0 := hG14 | skip
  first | replace h1 := (hF14 _ (by omega)).trans h1 | replace h1 := hG14 | skip
  first | replace o1 := (hF14 _ (by omega)).trans o1 | replace o1 := hG14 | skip
  refine v_aload_n C dX10_init_17 rfl ?_
  refine nn_X10_9 (i := s + 3) C dX10_init_18 ⟨by omega, by omega⟩ (fun G hG18 hF18 => ?_)
  first | replace h0 := (hF18 _ (by omega)).trans h0 | replace h0 := hG18 | skip
  first | replace hb0 := (hF18 _ (by omega)).trans hb0 | replace hb0 := hG18 | skip
  first | replace h1 := (hF18 _ (by omega)).trans h1 | replace h1 := hG18 | skip
  first | replace o1 := (hF18 _ (by omega)).trans o1 | replace o1 := hG18 | skip
  have h3 := hG18
  refine v_dup C dX10_init_21 rfl ?_
  refine v_aload_n C dX10_init_22 rfl ?_
  refine v_iconst (v := bI true) C dX10_init_23 (by decide) ?_
  refine mc_X10_11 C dX10_init_24 (i_Grid _ E (b := s + 3) (cf := true) (by omega) (hF.keep (fun j a b => by rw [hF18 j (by omega), hF14 j (by omega), hfr11 j (by omega), hF5 j (by omega)])) h3) rfl ⟨by omega, by omega⟩ (fun r24 G24 hp24 => ?_)
  obtain ⟨hg2, hfr24⟩ := hp24
  obtain ⟨fc2, o2, -⟩ := id hg2
  replace h0 := (hfr24 _ (by omega)).trans h0
  replace hb0 := (hfr24 _ (by omega)).trans hb0
  replace o1 := (hfr24 _ (by omega)).trans o1
  clear h3
  refine pf_X10_20 C dX10_init_27 hini (by assumption) (fun G hG27 hF27 => ?_)
  first | replace h0 := (hF27 _ (by omega)).trans h0 | replace h0 := hG27 | skip
  first | replace hb0 := (hF27 _ (by omega)).trans hb0 | replace hb0 := hG27 | skip
  first | replace h1 := (hF27 _ (by omega)).trans h1 | replace h1 := hG27 | skip
  first | replace o1 := (hF27 _ (by omega)).trans o1 | replace o1 := hG27 | skip
  first | replace h3 := (hF27 _ (by omega)).trans h3 | replace h3 := hG27 | skip
  first | replace o2 := (hF27 _ (by omega)).trans o2 | replace o2 := hG27 | skip
  refine v_aload_n C dX10_init_30 rfl ?_
  refine nn_X10_23 (i := s + 5) C dX10_init_31 ⟨by omega, by omega⟩ (fun G hG31 hF31 => ?_)
  first | replace h0 := (hF31 _ (by omega)).trans h0 | replace h0 := hG31 | skip
  first | replace hb0 := (hF31 _ (by omega)).trans hb0 | replace hb0 := hG31 | skip
  first | replace h1 := (hF31 _ (by omega)).trans h1 | replace h1 := hG31 | skip
  first | replace o1 := (hF31 _ (by omega)).trans o1 | replace o1 := hG31 | skip
  first | replace h3 := (hF31 _ (by omega)).trans h3 | replace h3 := hG31 | skip
  first | replace o2 := (hF31 _ (by omega)).trans o2 | replace o2 := hG31 | skip
  have h5 := hG31
  refine v_dup C dX10_init_34 rfl ?_
  refine v_aload_n C dX10_init_35 rfl ?_
  refine gf_X10_25 C dX10_init_36 (by assumption) ?_
  refine v_iload_n C dX10_init_39 rfl ?_
  refine mc_X10_31 C dX10_init_40 (i_Mis _ E (b := s + 5) hr.2.1 hlim h5) rfl ⟨by omega, by omega⟩ (fun r40 G40 hp40 => ?_)
  obtain ⟨hms, hfr40⟩ := hp40
  obtain ⟨o3, -⟩ := id hms
  replace h0 := (hfr40 _ (by omega)).trans h0
  replace hb0 := (hfr40 _ (by omega)).trans hb0
  replace o1 := (hfr40 _ (by omega)).trans o1
  replace o2 := (hfr40 _ (by omega)).trans o2
  clear h5
  refine pf_X10_34 C dX10_init_43 hini (by assumption) (fun G hG43 hF43 => ?_)
  first | replace h0 := (hF43 _ (by omega)).trans h0 | replace h0 := hG43 | skip
  first | replace hb0 := (hF43 _ (by omega)).trans hb0 | replace hb0 := hG43 | skip
  first | replace h1 := (hF43 _ (by omega)).trans h1 | replace h1 := hG43 | skip
  first | replace o1 := (hF43 _ (by omega)).trans o1 | replace o1 := hG43 | skip
  first | replace h3 := (hF43 _ (by omega)).trans h3 | replace h3 := hG43 | skip
  first | replace o2 := (hF43 _ (by omega)).trans o2 | replace o2 := hG43 | skip
  first | replace h5 := (hF43 _ (by omega)).trans h5 | replace h5 := hG43 | skip
  first | replace o3 := (hF43 _ (by omega)).trans o3 | replace o3 := hG43 | skip
  refine v_aload_n C dX10_init_46 rfl ?_
  refine nn_X10_38 (i := s + 12) C dX10_init_47 ⟨by omega, by omega⟩ (fun G hG47 hF47 => ?_)
  first | replace h0 := (hF47 _ (by omega)).trans h0 | replace h0 := hG47 | skip
  first | replace hb0 := (hF47 _ (by omega)).trans hb0 | replace hb0 := hG47 | skip
  first | replace h1 := (hF47 _ (by omega)).trans h1 | replace h1 := hG47 | skip
  first | replace o1 := (hF47 _ (by omega)).trans o1 | replace o1 := hG47 | skip
  first | replace h3 := (hF47 _ (by omega)).trans h3 | replace h3 := hG47 | skip
  first | replace o2 := (hF47 _ (by omega)).trans o2 | replace o2 := hG47 | skip
  first | replace h5 := (hF47 _ (by omega)).trans h5 | replace h5 := hG47 | skip
  first | replace o3 := (hF47 _ (by omega)).trans o3 | replace o3 := hG47 | skip
  have h12 := hG47
  refine v_dup C dX10_init_50 rfl ?_
  refine v_aload_n C dX10_init_51 rfl ?_
  refine gf_X10_25 C dX10_init_52 (by assumption) ?_
  refine v_iload_n C dX10_init_55 rfl ?_
  refine mc_X10_40 C dX10_init_56 (i_Sav _ E (b := s + 12) hr.2.1 hlim h12) rfl ⟨by omega, by omega⟩ (fun r56 G56 hp56 => ?_)
  obtain ⟨hsv, hfr56⟩ := hp56
  obtain ⟨o4, -⟩ := id hsv
  replace h0 := (hfr56 _ (by omega)).trans h0
  replace hb0 := (hfr56 _ (by omega)).trans hb0
  replace o1 := (hfr56 _ (by omega)).trans o1
  replace o2 := (hfr56 _ (by omega)).trans o2
  replace o3 := (hfr56 _ (by omega)).trans o3
  clear h12
  refine pf_X10_41 C dX10_init_59 hini (by assumption) (fun G hG59 hF59 => ?_)
  first | replace h0 := (hF59 _ (by omega)).trans h0 | replace h0 := hG59 | skip
  first | replace hb0 := (hF59 _ (by omega)).trans hb0 | replace hb0 := hG59 | skip
  first | replace h1 := (hF59 _ (by omega)).trans h1 | replace h1 := hG59 | skip
  first | replace o1 := (hF59 _ (by omega)).trans o1 | replace o1 := hG59 | skip
  first | replace h3 := (hF59 _ (by omega)).trans h3 | replace h3 := hG59 | skip
  first | replace o2 := (hF59 _ (by omega)).trans o2 | replace o2 := hG59 | skip
  first | replace h5 := (hF59 _ (by omega)).trans h5 | replace h5 := hG59 | skip
  first | replace o3 := (hF59 _ (by omega)).trans o3 | replace o3 := hG59 | skip
  first | replace h12 := (hF59 _ (by omega)).trans h12 | replace h12 := hG59 | skip
  first | replace o4 := (hF59 _ (by omega)).trans o4 | replace o4 := hG59 | skip
  refine v_aload_n C dX10_init_62 rfl ?_
  refine nn_X10_45 (i := s + 19) C dX10_init_63 ⟨by omega, by omega⟩ (fun G hG63 hF63 => ?_)
  first | replace h0 := (hF63 _ (by omega)).trans h0 | replace h0 := hG63 | skip
  first | replace hb0 := (hF63 _ (by omega)).trans hb0 | replace hb0 := hG63 | skip
  first | replace h1 := (hF63 _ (by omega)).trans h1 | replace h1 := hG63 | skip
  first | replace o1 := (hF63 _ (by omega)).trans o1 | replace o1 := hG63 | skip
  first | replace h3 := (hF63 _ (by omega)).trans h3 | replace h3 := hG63 | skip
  first | replace o2 := (hF63 _ (by omega)).trans o2 | replace o2 := hG63 | skip
  first | replace h5 := (hF63 _ (by omega)).trans h5 | replace h5 := hG63 | skip
  first | replace o3 := (hF63 _ (by omega)).trans o3 | replace o3 := hG63 | skip
  first | replace h12 := (hF63 _ (by omega)).trans h12 | replace h12 := hG63 | skip
  first | replace o4 := (hF63 _ (by omega)).trans o4 | replace o4 := hG63 | skip
  have h19 := hG63
  refine v_dup C dX10_init_66 rfl ?_
  refine v_aload_n C dX10_init_67 rfl ?_
  refine gf_X10_25 C dX10_init_68 (by assumption) ?_
  refine mc_X10_47 C dX10_init_71 (i_Cnt _ E (b := s + 19) ⟨hr.1, hr.2.1⟩ h19) rfl ⟨by omega, by omega⟩ (fun r71 G71 hp71 => ?_)
  obtain ⟨hct, hfr71⟩ := hp71
  replace h0 := (hfr71 _ (by omega)).trans h0
  replace hb0 := (hfr71 _ (by omega)).trans hb0
  replace o1 := (hfr71 _ (by omega)).trans o1
  replace o2 := (hfr71 _ (by omega)).trans o2
  replace o3 := (hfr71 _ (by omega)).trans o3
  replace o4 := (hfr71 _ (by omega)).trans o4
  clear h19
  refine pf_X10_50 C dX10_init_74 hini (by assumption) (fun G hG74 hF74 => ?_)
  first | replace h0 := (hF74 _ (by omega)).trans h0 | replace h0 := hG74 | skip
  first | replace hb0 := (hF74 _ (by omega)).trans hb0 | replace hb0 := hG74 | skip
  first | replace h1 := (hF74 _ (by omega)).trans h1 | replace h1 := hG74 | skip
  first | replace o1 := (hF74 _ (by omega)).trans o1 | replace o1 := hG74 | skip
  first | replace h3 := (hF74 _ (by omega)).trans h3 | replace h3 := hG74 | skip
  first | replace o2 := (hF74 _ (by omega)).trans o2 | replace o2 := hG74 | skip
  first | replace h5 := (hF74 _ (by omega)).trans h5 | replace h5 := hG74 | skip
  first | replace o3 := (hF74 _ (by omega)).trans o3 | replace o3 := hG74 | skip
  first | replace h12 := (hF74 _ (by omega)).trans h12 | replace h12 := hG74 | skip
  first | replace o4 := (hF74 _ (by omega)).trans o4 | replace o4 := hG74 | skip
  first | replace h19 := (hF74 _ (by omega)).trans h19 | replace h19 := hG74 | skip
  refine v_aload_n C dX10_init_77 rfl ?_
  refine v_iconst (v := nI 5) C dX10_init_78 (by decide) ?_
  refine v_anew (i := s + 22) C (t0 := 4) tcl_X10_54 tao_Sk rfl dX10_init_79 (by omega) ⟨by omega, by omega⟩ (fun G hG79 hF79 => ?_)
  replace h0 := (hF79 _ (by omega)).trans h0
  replace hb0 := (hF79 _ (by omega)).trans hb0
  replace o1 := (hF79 _ (by omega)).trans o1
  replace o2 := (hF79 _ (by omega)).trans o2
  replace o3 := (hF79 _ (by omega)).trans o3
  replace o4 := (hF79 _ (by omega)).trans o4
  have hsk := hG79
  refine pf_X10_56 C dX10_init_82 hini (by assumption) (fun G hG82 hF82 => ?_)
  first | replace h0 := (hF82 _ (by omega)).trans h0 | replace h0 := hG82 | skip
  first | replace hb0 := (hF82 _ (by omega)).trans hb0 | replace hb0 := hG82 | skip
  first | replace h1 := (hF82 _ (by omega)).trans h1 | replace h1 := hG82 | skip
  first | replace o1 := (hF82 _ (by omega)).trans o1 | replace o1 := hG82 | skip
  first | replace h3 := (hF82 _ (by omega)).trans h3 | replace h3 := hG82 | skip
  first | replace o2 := (hF82 _ (by omega)).trans o2 | replace o2 := hG82 | skip
  first | replace h5 := (hF82 _ (by omega)).trans h5 | replace h5 := hG82 | skip
  first | replace o3 := (hF82 _ (by omega)).trans o3 | replace o3 := hG82 | skip
  first | replace h12 := (hF82 _ (by omega)).trans h12 | replace h12 := hG82 | skip
  first | replace o4 := (hF82 _ (by omega)).trans o4 | replace o4 := hG82 | skip
  first | replace h19 := (hF82 _ (by omega)).trans h19 | replace h19 := hG82 | skip
  first | replace hsk := (hF82 _ (by omega)).trans hsk | replace hsk := hG82 | skip
  refine v_aload_n C dX10_init_85 rfl ?_
  refine gf_X10_56 C dX10_init_86 (by assumption) ?_
  refine v_iconst (v := nI 0) C dX10_init_89 (by decide) ?_
  refine v_aload_n C dX10_init_90 rfl ?_
  refine gf_X10_14 C dX10_init_91 (by assumption) ?_
  refine v_aast C (q := (RX4, TX4, 3)) (ci := 4) (t0 := 4) (CN := "FrequencySketches$Sketch") rfl (Or.inr tca_X4) rfl dX10_init_94 hsk o1 (by omega) (by omega) (by omega) (fun G hG94 hF94 => ?_)
  replace h0 := (hF94 _ (by omega)).trans h0
  replace hb0 := (hF94 _ (by omega)).trans hb0
  replace o1 := (hF94 _ (by omega)).trans o1
  replace o2 := (hF94 _ (by omega)).trans o2
  replace o3 := (hF94 _ (by omega)).trans o3
  replace o4 := (hF94 _ (by omega)).trans o4
  replace hsk := hG94
  refine v_aload_n C dX10_init_95 rfl ?_
  refine gf_X10_56 C dX10_init_96 (by assumption) ?_
  refine v_iconst (v := nI 1) C dX10_init_99 (by decide) ?_
  refine v_aload_n C dX10_init_100 rfl ?_
  refine gf_X10_20 C dX10_init_101 (by assumption) ?_
  refine v_aast C (q := (RX4, TX4, 3)) (ci := 4) (t0 := 4) (CN := "FrequencySketches$Sketch") rfl (Or.inr tca_X4) rfl dX10_init_104 hsk o2 (by omega) (by omega) (by omega) (fun G hG104 hF104 => ?_)
  replace h0 := (hF104 _ (by omega)).trans h0
  replace hb0 := (hF104 _ (by omega)).trans hb0
  replace o1 := (hF104 _ (by omega)).trans o1
  replace o2 := (hF104 _ (by omega)).trans o2
  replace o3 := (hF104 _ (by omega)).trans o3
  replace o4 := (hF104 _ (by omega)).trans o4
  replace hsk := hG104
  refine v_aload_n C dX10_init_105 rfl ?_
  refine gf_X10_56 C dX10_init_106 (by assumption) ?_
  refine v_iconst (v := nI 2) C dX10_init_109 (by decide) ?_
  refine v_aload_n C dX10_init_110 rfl ?_
  refine gf_X10_34 C dX10_init_111 (by assumption) ?_
  refine v_aast C (q := (RX6, TX6, 2)) (ci := 6) (t0 := 4) (CN := "FrequencySketches$Sketch") rfl (Or.inr tca_X6) rfl dX10_init_114 hsk o3 (by omega) (by omega) (by omega) (fun G hG114 hF114 => ?_)
  replace h0 := (hF114 _ (by omega)).trans h0
  replace hb0 := (hF114 _ (by omega)).trans hb0
  replace o1 := (hF114 _ (by omega)).trans o1
  replace o2 := (hF114 _ (by omega)).trans o2
  replace o3 := (hF114 _ (by omega)).trans o3
  replace o4 := (hF114 _ (by omega)).trans o4
  replace hsk := hG114
  refine v_aload_n C dX10_init_115 rfl ?_
  refine gf_X10_56 C dX10_init_116 (by assumption) ?_
  refine v_iconst (v := nI 3) C dX10_init_119 (by decide) ?_
  refine v_aload_n C dX10_init_120 rfl ?_
  refine gf_X10_41 C dX10_init_121 (by assumption) ?_
  refine v_aast C (q := (RX8, TX8, 1)) (ci := 8) (t0 := 4) (CN := "FrequencySketches$Sketch") rfl (Or.inr tca_X8) rfl dX10_init_124 hsk o4 (by omega) (by omega) (by omega) (fun G hG124 hF124 => ?_)
  replace h0 := (hF124 _ (by omega)).trans h0
  replace hb0 := (hF124 _ (by omega)).trans hb0
  replace o1 := (hF124 _ (by omega)).trans o1
  replace o2 := (hF124 _ (by omega)).trans o2
  replace o3 := (hF124 _ (by omega)).trans o3
  replace o4 := (hF124 _ (by omega)).trans o4
  replace hsk := hG124
  refine v_aload_n C dX10_init_125 rfl ?_
  refine gf_X10_56 C dX10_init_126 (by assumption) ?_
  refine v_iconst (v := nI 4) C dX10_init_129 (by decide) ?_
  refine nn_X10_60 (i := s + 23) C dX10_init_130 ⟨by omega, by omega⟩ (fun G hG130 hF130 => ?_)
  first | replace h0 := (hF130 _ (by omega)).trans h0 | replace h0 := hG130 | skip
  first | replace hb0 := (hF130 _ (by omega)).trans hb0 | replace hb0 := hG130 | skip
  first | replace h1 := (hF130 _ (by omega)).trans h1 | replace h1 := hG130 | skip
  first | replace o1 := (hF130 _ (by omega)).trans o1 | replace o1 := hG130 | skip
  first | replace h3 := (hF130 _ (by omega)).trans h3 | replace h3 := hG130 | skip
  first | replace o2 := (hF130 _ (by omega)).trans o2 | replace o2 := hG130 | skip
  first | replace h5 := (hF130 _ (by omega)).trans h5 | replace h5 := hG130 | skip
  first | replace o3 := (hF130 _ (by omega)).trans o3 | replace o3 := hG130 | skip
  first | replace h12 := (hF130 _ (by omega)).trans h12 | replace h12 := hG130 | skip
  first | replace o4 := (hF130 _ (by omega)).trans o4 | replace o4 := hG130 | skip
  first | replace h19 := (hF130 _ (by omega)).trans h19 | replace h19 := hG130 | skip
  first | replace hsk := (hF130 _ (by omega)).trans hsk | replace hsk := hG130 | skip
  have h23 := hG130
  refine v_dup C dX10_init_133 rfl ?_
  refine v_aload_n C dX10_init_134 rfl ?_
  refine gf_X10_14 C dX10_init_135 (by assumption) ?_
  refine v_aload_n C dX10_init_138 rfl ?_
  refine gf_X10_20 C dX10_init_139 (by assumption) ?_
  refine v_aload_n C dX10_init_142 rfl ?_
  refine gf_X10_34 C dX10_init_143 (by assumption) ?_
  refine v_aload_n C dX10_init_146 rfl ?_
  refine gf_X10_41 C dX10_init_147 (by assumption) ?_
  refine mc_X10_62 C dX10_init_150 (i_Best _ E (b := s + 23) (p1 := s + 1) (p2 := s + 3) (p3 := s + 5) (p4 := s + 12) h23) rfl ⟨by omega, by omega⟩ (fun r150 G150 hp150 => ?_)
  obtain ⟨o5, hfr150⟩ := hp150
  replace h0 := (hfr150 _ (by omega)).trans h0
  replace hb0 := (hfr150 _ (by omega)).trans hb0
  replace o1 := (hfr150 _ (by omega)).trans o1
  replace o2 := (hfr150 _ (by omega)).trans o2
  replace o3 := (hfr150 _ (by omega)).trans o3
  replace o4 := (hfr150 _ (by omega)).trans o4
  replace hsk := (hfr150 _ (by omega)).trans hsk
  clear h23
  refine v_aast C (q := (RX0, TX0, 4)) (ci := 0) (t0 := 4) (CN := "FrequencySketches$Sketch") rfl (Or.inr tca_X0) rfl dX10_init_153 hsk o5 (by omega) (by omega) (by omega) (fun G hG153 hF153 => ?_)
  replace h0 := (hF153 _ (by omega)).trans h0
  replace hb0 := (hF153 _ (by omega)).trans hb0
  replace o1 := (hF153 _ (by omega)).trans o1
  replace o2 := (hF153 _ (by omega)).trans o2
  replace o3 := (hF153 _ (by omega)).trans o3
  replace o4 := (hF153 _ (by omega)).trans o4
  replace o5 := (hF153 _ (by omega)).trans o5
  replace hsk := hG153
  obtain ⟨G9, hG9, hF9, hcv⟩ : ∃ G9 : Gh, G9 (s + 22) = cR E 4 5 (skf E s) ∧ (∀ j, j ≠ s + 22 → G9 j = G j) ∧ ∀ H, gS E G H → gS E G9 H := ⟨gup G (s + 22) (cR E 4 5 (skf E s)), gup_self _ _ _, fun j hj => gup_ne _ _ hj, fun H h => h.cR hsk (fun j hj => by
    rcases (show j = 0 ∨ j = 1 ∨ j = 2 ∨ j = 3 ∨ j = 4 by omega) with rfl | rfl | rfl | rfl | rfl <;> rfl)⟩
  refine v_cv hcv ?_
  refine v_wk (cells2 := 23) (slots2 := 7548) (by omega) (by omega) ?_
  refine v_vret C dX10_init_154 ?_
  exact ⟨⟨(hF9 _ (by omega)).trans h0, hg1.keep (fun j a b => by rw [hF9 j (by omega), hF153 j (by omega), hfr150 j (by omega), hF130 j (by omega), hF124 j (by omega), hF114 j (by omega), hF104 j (by omega), hF94 j (by omega), hF82 j (by omega), hF79 j (by omega), hF74 j (by omega), hfr71 j (by omega), hF63 j (by omega), hF59 j (by omega), hfr56 j (by omega), hF47 j (by omega), hF43 j (by omega), hfr40 j (by omega), hF31 j (by omega), hF27 j (by omega), hfr24 j (by omega), hF18 j (by omega), hF14 j (by omega)]), hg2.keep (fun j a b => by rw [hF9 j (by omega), hF153 j (by omega), hfr150 j (by omega), hF130 j (by omega), hF124 j (by omega), hF114 j (by omega), hF104 j (by omega), hF94 j (by omega), hF82 j (by omega), hF79 j (by omega), hF74 j (by omega), hfr71 j (by omega), hF63 j (by omega), hF59 j (by omega), hfr56 j (by omega), hF47 j (by omega), hF43 j (by omega), hfr40 j (by omega), hF31 j (by omega), hF27 j (by omega)]), hms.keep (fun j a b => by rw [hF9 j (by omega), hF153 j (by omega), hfr150 j (by omega), hF130 j (by omega), hF124 j (by omega), hF114 j (by omega), hF104 j (by omega), hF94 j (by omega), hF82 j (by omega), hF79 j (by omega), hF74 j (by omega), hfr71 j (by omega), hF63 j (by omega), hF59 j (by omega), hfr56 j (by omega), hF47 j (by omega), hF43 j (by omega)]), hsv.keep (fun j a b => by rw [hF9 j (by omega), hF153 j (by omega), hfr150 j (by omega), hF130 j (by omega), hF124 j (by omega), hF114 j (by omega), hF104 j (by omega), hF94 j (by omega), hF82 j (by omega), hF79 j (by omega), hF74 j (by omega), hfr71 j (by omega), hF63 j (by omega), hF59 j (by omega)]), hct.keep (fun j a b => by rw [hF9 j (by omega), hF153 j (by omega), hfr150 j (by omega), hF130 j (by omega), hF124 j (by omega), hF114 j (by omega), hF104 j (by omega), hF94 j (by omega), hF82 j (by omega), hF79 j (by omega), hF74 j (by omega)]), hG9, (hF9 _ (by omega)).trans o5⟩, fun j hj => by rw [hF9 j (by omega), hF153 j (by omega), hfr150 j (by omega), hF130 j (by omega), hF124 j (by omega), hF114 j (by omega), hF104 j (by omega), hF94 j (by omega), hF82 j (by omega), hF79 j (by omega), hF74 j (by omega), hfr71 j (by omega), hF63 j (by omega), hF59 j (by omega), hfr56 j (by omega), hF47 j (by omega), hF43 j (by omega), hfr40 j (by omega), hF31 j (by omega), hF27 j (by omega), hfr24 j (by omega), hF18 j (by omega), hF14 j (by omega), hfr11 j (by omega), hF5 j (by omega)]⟩

