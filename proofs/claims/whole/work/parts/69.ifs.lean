set_option maxHeartbeats 4000000 in
set_option maxRecDepth 100000 in
theorem fsi_loop {M : Mx} {E : Ev} (C : Cx M E yX11_init.cls cX11_init 6 none 5 111 103 30848) {post : Unit → Gh → Prop} {G0 : Gh} {x1 x2 x3 x4 : Int32} {P W R lim : Nat} {A B : Nat → Nat} (hlim : 1 ≤ lim ∧ lim ≤ 64)
    (kend : ∀ (G : Gh) (f : Nat → Option Nat), G 0 = cO 10 [.ref (ga E 1), .int (nI lim), .ref (ga E 4), .null] → isFam E G 1 P W R A B → G 4 = cR E 3 4 f → (∀ j, j < 4 → f j = some (ga E (sId j))) → (∀ j, j < 4 → isStr E G (sId j) 1 P W R lim (min P 300) strEmpty) → (∀ j, 104 ≤ j → G j = G0 j) → V M E 6 (QE M E (fun _ : Unit => none) (some (ga E 104)) 103 30848 post) (some (ga E (5 + 24 * 4))) (4 + 24 * 4) (25 + 7555 * 4) G 97 [some (.ref (ga E 0)), some (.int x1), some (.int x2), some (.int x3), some (.int x4), some (.int (nI 4))] []) :
    ∀ (t k : Nat), k ≤ 4 → 4 - k < t → ∀ (G : Gh) (f : Nat → Option Nat), G 0 = cO 10 [.ref (ga E 1), .int (nI lim), .ref (ga E 4), .null] → isFam E G 1 P W R A B → G 4 = cR E 3 4 f → (∀ j, j < k → f j = some (ga E (sId j))) → (∀ j, j < k → isStr E G (sId j) 1 P W R lim (min P 300) strEmpty) → (∀ j, 104 ≤ j → G j = G0 j) → V M E 6 (QE M E (fun _ : Unit => none) (some (ga E 104)) 103 30848 post) (some (ga E (5 + 24 * k))) (4 + 24 * k) (25 + 7555 * k) G 63 [some (.ref (ga E 0)), some (.int x1), some (.int x2), some (.int x3), some (.int x4), some (.int (nI k))] [] := by
  intro t
  induction t with
  | zero => intro k _ h; omega
  | succ t ih =>
    intro k hk ht G f h0 hF h4 hfj hsj hfr
    have hr := hF.choose_spec.choose_spec.2.2.2.2.2.1
    refine v_iload C dX11_init_63 rfl ?_
    refine v_iconst (v := nI 4) C dX11_init_65 (by decide) ?_
    refine v_icmpn_ge C 97 dX11_init_66 (by decide) (by omega) (by omega) (fun h66 => ?_) (fun h66 => ?_)
    · skip
      have e9 : k = 4 := by omega
      subst e9
      exact kend G f h0 hF h4 hfj hsj hfr
    · skip
      refine v_aload_n C dX11_init_69 rfl ?_
      refine gf_X11_33 C dX11_init_70 (by assumption) ?_
      refine v_iload C dX11_init_73 rfl ?_
      refine nn_X11_31 (i := 5 + 24 * k) C dX11_init_75 ⟨by omega, by omega⟩ (fun G hG75 hF75 => ?_)
      first | replace h0 := (hF75 _ (by omega)).trans h0 | replace h0 := hG75 | skip
      first | replace h4 := (hF75 _ (by omega)).trans h4 | replace h4 := hG75 | skip
      have hs0 := hG75
      refine v_dup C dX11_init_78 rfl ?_
      refine v_aload_n C dX11_init_79 rfl ?_
      refine gf_X11_23 C dX11_init_80 (by assumption) ?_
      refine v_aload_n C dX11_init_83 rfl ?_
      refine gf_X11_27 C dX11_init_84 (by assumption) ?_
      refine mc_X11_37 C dX11_init_87 (i_Str _ E (s := 5 + 24 * k) (by omega) hlim (hF.keep (fun j a b => by rw [hF75 j (by omega)])) hs0) rfl ⟨by omega, by omega⟩ (fun r87 G87 hp87 => ?_)
      obtain ⟨hst9, hfr87⟩ := hp87
      clear hs0
      replace h0 := (hfr87 _ (by omega)).trans h0
      replace h4 := (hfr87 _ (by omega)).trans h4
      have hso := hst9.1
      refine v_aast C (q := (RX10, TX10, 7)) (ci := 9) (t0 := 3) (CN := "FrequencySketches$Stream") rfl (Or.inl rfl) rfl dX11_init_90 h4 hso (by omega) (by omega) (by omega) (fun G hG90 hF90 => ?_)
      replace h0 := (hF90 _ (by omega)).trans h0
      replace h4 := hG90
      first | refine v_iinc_5 C dX11_init_91 (nI_1 _) (by decide) (by first | rfl | assumption) ?_ | refine v_iinc_5 C dX11_init_91 rfl (by decide) (by first | rfl | assumption) ?_
      refine v_goto C 63 dX11_init_94 (by decide) ?_
      refine v_sl (cells2 := 4 + 24 * (k + 1)) (slots2 := 25 + 7555 * (k + 1)) (by omega) (by omega) ?_
      refine ih (k + 1) (by omega) (by omega) G _ h0 (hF.keep (fun j a b => by rw [hF90 j (by omega), hfr87 j (by omega), hF75 j (by omega)])) h4 (fun j hj => ?_) (fun j hj => ?_) (fun j hj => by rw [hF90 j (by omega), hfr87 j (by omega), hF75 j (by omega)]; exact hfr j hj)
      · by_cases q9 : j = k
        · subst q9; exact fu_self _ _ _
        · rw [fu_ne _ _ q9]; exact hfj j (by omega)
      · by_cases q9 : j = k
        · subst q9
          refine isStr.keep (s := 5 + 24 * j) hst9 (fun i a b => hF90 i (by omega))
        · refine (hsj j (by omega)).keep (fun i a b => ?_)
          unfold sId at a b
          rw [hF90 i (by omega), hfr87 i (by omega), hF75 i (by omega)]
set_option maxHeartbeats 4000000 in
set_option maxRecDepth 100000 in
theorem fsi_tail {M : Mx} {E : Ev} (C : Cx M E yX11_init.cls cX11_init 6 none 5 111 103 30848) (hini : M.2.2.2.2.2.2.2.2.1.name = "<init>") {post : Unit → Gh → Prop} {G0 G : Gh} {f : Nat → Option Nat} {x1 x2 x3 x4 : Int32} {P W R lim : Nat} {A B : Nat → Nat} (hlim : 1 ≤ lim ∧ lim ≤ 64) (h0 : G 0 = cO 10 [.ref (ga E 1), .int (nI lim), .ref (ga E 4), .null]) (hF : isFam E G 1 P W R A B) (h4 : G 4 = cR E 3 4 f) (hfj : ∀ j, j < 4 → f j = some (ga E (sId j))) (hsj : ∀ j, j < 4 → isStr E G (sId j) 1 P W R lim (min P 300) strEmpty) (hfr : (∀ j, 104 ≤ j → G j = G0 j)) (hend : ∀ G2 : Gh, isFS E G2 P W R lim A B (fun _ => strEmpty) [] → (∀ j, 104 ≤ j → G2 j = G0 j) → post () G2) : V M E 6 (QE M E (fun _ : Unit => none) (some (ga E 104)) 103 30848 post) (some (ga E (5 + 24 * 4))) (4 + 24 * 4) (25 + 7555 * 4) G 97 [some (.ref (ga E 0)), some (.int x1), some (.int x2), some (.int x3), some (.int x4), some (.int (nI 4))] [] := by
  obtain ⟨fa, fb, hb0, -, -, -, -, hr, -⟩ := id hF
  refine v_aload_n C dX11_init_97 rfl ?_
  refine nn_X11_40 (i := 101) C dX11_init_98 ⟨by omega, by omega⟩ (fun G hG98 hF98 => ?_)
  first | replace h0 := (hF98 _ (by omega)).trans h0 | replace h0 := hG98 | skip
  first | replace hb0 := (hF98 _ (by omega)).trans hb0 | replace hb0 := hG98 | skip
  first | replace h4 := (hF98 _ (by omega)).trans h4 | replace h4 := hG98 | skip
  have hr0 := hG98
  refine v_dup C dX11_init_101 rfl ?_
  refine v_aload_n C dX11_init_102 rfl ?_
  refine gf_X11_23 C dX11_init_103 (by assumption) ?_
  refine gf_X11_42 C dX11_init_106 (by assumption) ?_
  refine v_sipush (v := nI 300) C dX11_init_109 (by decide) ?_
  refine mc_X11_45 C dX11_init_112 (okr_s rfl (by omega) (by omega)) ?_
  refine v_topi (show (if nI 300 < nI P then nI 300 else nI P) = nI (min P 300) by split <;> rename_i h9 <;> rw [Int32.lt_iff_toInt_lt, nI_toInt (by omega), nI_toInt (by omega)] at h9 <;> congr 1 <;> omega) ?_
  refine mc_X11_51 C dX11_init_115 (i_Rnk _ E (b := 101) (room := min P 300) ⟨by omega, by omega⟩ hr0) rfl ⟨by omega, by omega⟩ (fun r115 G115 hp115 => ?_)
  obtain ⟨hrk, hfr115⟩ := hp115
  clear hr0
  replace h0 := (hfr115 _ (by omega)).trans h0
  replace hb0 := (hfr115 _ (by omega)).trans hb0
  replace h4 := (hfr115 _ (by omega)).trans h4
  refine pf_X11_54 C dX11_init_118 hini (by assumption) (fun G hG118 hF118 => ?_)
  first | replace h0 := (hF118 _ (by omega)).trans h0 | replace h0 := hG118 | skip
  first | replace hb0 := (hF118 _ (by omega)).trans hb0 | replace hb0 := hG118 | skip
  first | replace h4 := (hF118 _ (by omega)).trans h4 | replace h4 := hG118 | skip
  first | replace hr0 := (hF118 _ (by omega)).trans hr0 | replace hr0 := hG118 | skip
  obtain ⟨G9, hG9, hF9, hcv⟩ : ∃ G9 : Gh, G9 4 = cR E 3 4 (fun k => some (ga E (sId k))) ∧ (∀ j, j ≠ 4 → G9 j = G j) ∧ ∀ H, gS E G H → gS E G9 H := ⟨gup G 4 (cR E 3 4 (fun k => some (ga E (sId k)))), gup_self _ _ _, fun j hj => gup_ne _ _ hj, fun H h => h.cR h4 (fun j hj => hfj j hj)⟩
  refine v_cv hcv ?_
  refine v_wk (cells2 := 103) (slots2 := 30848) (by omega) (by omega) ?_
  refine v_vret C dX11_init_121 ?_
  exact hend G9 ⟨(hF9 _ (by omega)).trans h0, hF.keep (fun j a b => by rw [hF9 j (by omega), hF118 j (by omega), hfr115 j (by omega), hF98 j (by omega)]), hG9, fun k hk => (hsj k hk).keep (fun j a b => by unfold sId at a b; rw [hF9 j (by omega), hF118 j (by omega), hfr115 j (by omega), hF98 j (by omega)]), hrk.keep (fun j a b => by rw [hF9 j (by omega), hF118 j (by omega)]), hlim⟩ (fun j hj => by rw [hF9 j (by omega), hF118 j (by omega), hfr115 j (by omega), hF98 j (by omega)]; exact hfr j hj)
set_option maxHeartbeats 4000000 in
set_option maxRecDepth 100000 in
theorem i_FS (l : Launch) (E : Ev) {G0 : Gh} {x1 x2 x3 x4 : Int32} (h0 : G0 0 = cO 10 [.null, .int (nI 0), .null, .null]) : K_X11_init l E (103) (30848) (some (ga E (1))) (some (ga E (104))) G0 [.ref (ga E 0), .int x1, .int x2, .int x3, .int x4] (fun _ G2 => ∃ P, lpS (wi x1 2 65521) P ∧ isFS E G2 P (wi x2 1 256) (wi x3 1 8) (wi x4 1 64) (famA P) (famB P) (fun _ => strEmpty) [] ∧ ∀ j, 104 ≤ j → G2 j = G0 j) := by
  refine Fc.of rfl [some (.ref (ga E 0)), some (.int x1), some (.int x2), some (.int x3), some (.int x4), none] 1 rfl (Nat.le_of_ble_eq_true rfl) ?_
  intro M hM0 hini C
  subst hM0
  replace hini := hini rfl
  refine v_aload_n C dX11_init_0 rfl ?_
  refine mc_X11_1 C dX11_init_1 (Nat.le_of_ble_eq_true rfl) (Nat.le_of_ble_eq_true rfl) ?_
  refine v_aload_n C dX11_init_4 rfl ?_
  refine nn_X11_7 (i := 1) C dX11_init_5 ⟨by omega, by omega⟩ (fun G hG5 hF5 => ?_)
  first | replace h0 := (hF5 _ (by omega)).trans h0 | replace h0 := hG5 | skip
  have h1 := hG5
  refine v_dup C dX11_init_8 rfl ?_
  refine v_iload_n C dX11_init_9 rfl ?_
  refine v_iconst (v := nI 2) C dX11_init_10 (by decide) ?_
  refine v_ldc C tw783 dX11_init_11 ?_
  refine v_topi (show _ = nI 65521 by decide) ?_
  refine mc_X11_12 C dX11_init_13 (c_FS_within _ E _ (x := x1) (a := 2) (b := 65521) (by omega) (by omega)) (okr_s rfl (by omega) (by omega)) (fun r13 G13 hp13 => ?_)
  obtain ⟨hr13, rfl⟩ := hp13
  subst hr13
  have hw13 := wi_bd (x := x1) (show 2 ≤ 65521 by decide)
  refine mc_X11_16 C dX11_init_16 (c_FS_lpf _ E _ (n := wi x1 2 65521) hw13.2) (okr_s rfl (by omega) (by omega)) (fun r16 G16 hp16 => ?_)
  obtain ⟨⟨P, hlp, hr16⟩, rfl⟩ := hp16
  subst hr16
  refine v_iload_n C dX11_init_19 rfl ?_
  refine v_iconst (v := nI 1) C dX11_init_20 (by decide) ?_
  refine v_sipush (v := nI 256) C dX11_init_21 (by decide) ?_
  refine mc_X11_12 C dX11_init_24 (c_FS_within _ E _ (x := x2) (a := 1) (b := 256) (by omega) (by omega)) (okr_s rfl (by omega) (by omega)) (fun r24 G24 hp24 => ?_)
  obtain ⟨hr24, rfl⟩ := hp24
  subst hr24
  have hw24 := wi_bd (x := x2) (show 1 ≤ 256 by decide)
  refine v_iload_n C dX11_init_27 rfl ?_
  refine v_iconst (v := nI 1) C dX11_init_28 (by decide) ?_
  refine v_bipush (v := nI 8) C dX11_init_29 (by decide) ?_
  refine mc_X11_12 C dX11_init_31 (c_FS_within _ E _ (x := x3) (a := 1) (b := 8) (by omega) (by omega)) (okr_s rfl (by omega) (by omega)) (fun r31 G31 hp31 => ?_)
  obtain ⟨hr31, rfl⟩ := hp31
  subst hr31
  have hw31 := wi_bd (x := x3) (show 1 ≤ 8 by decide)
  refine mc_X11_20 C dX11_init_34 (i_Fam _ E (b := 1) (P := P) (W := wi x2 1 256) (R := wi x3 1 8) ⟨by have := hlp.1; omega, hlp.2.1, hw24.1, hw24.2, hw31.1, hw31.2⟩ h1) rfl ⟨by omega, by omega⟩ (fun r34 G34 hp34 => ?_)
  obtain ⟨hF, hfr34⟩ := hp34
  clear h1
  replace h0 := (hfr34 _ (by omega)).trans h0
  refine pf_X11_23 C dX11_init_37 hini (by assumption) (fun G hG37 hF37 => ?_)
  first | replace h0 := (hF37 _ (by omega)).trans h0 | replace h0 := hG37 | skip
  first | replace h1 := (hF37 _ (by omega)).trans h1 | replace h1 := hG37 | skip
  refine v_aload_n C dX11_init_40 rfl ?_
  refine v_iload C dX11_init_41 rfl ?_
  refine v_iconst (v := nI 1) C dX11_init_43 (by decide) ?_
  refine v_bipush (v := nI 64) C dX11_init_44 (by decide) ?_
  refine mc_X11_12 C dX11_init_46 (c_FS_within _ E _ (x := x4) (a := 1) (b := 64) (by omega) (by omega)) (okr_s rfl (by omega) (by omega)) (fun r46 G46 hp46 => ?_)
  obtain ⟨hr46, rfl⟩ := hp46
  subst hr46
  have hw46 := wi_bd (x := x4) (show 1 ≤ 64 by decide)
  refine pf_X11_27 C dX11_init_49 hini (by assumption) (fun G hG49 hF49 => ?_)
  first | replace h0 := (hF49 _ (by omega)).trans h0 | replace h0 := hG49 | skip
  first | replace h1 := (hF49 _ (by omega)).trans h1 | replace h1 := hG49 | skip
  refine v_aload_n C dX11_init_52 rfl ?_
  refine v_iconst (v := nI 4) C dX11_init_53 (by decide) ?_
  refine v_anew (i := 4) C (t0 := 3) tcl_X11_31 tao_St rfl dX11_init_54 (by omega) ⟨by omega, by omega⟩ (fun G hG54 hF54 => ?_)
  replace h0 := (hF54 _ (by omega)).trans h0
  have h4 := hG54
  refine pf_X11_33 C dX11_init_57 hini (by assumption) (fun G hG57 hF57 => ?_)
  first | replace h0 := (hF57 _ (by omega)).trans h0 | replace h0 := hG57 | skip
  first | replace h1 := (hF57 _ (by omega)).trans h1 | replace h1 := hG57 | skip
  first | replace h4 := (hF57 _ (by omega)).trans h4 | replace h4 := hG57 | skip
  refine v_iconst (v := nI 0) C dX11_init_60 (by decide) ?_
  refine v_istore_5 C dX11_init_61 (by decide) (by first | rfl | assumption) ?_
  refine v_wk (cells2 := 4 + 24 * 0) (slots2 := 25 + 7555 * 0) (by omega) (by omega) ?_
  refine fsi_loop C (G0 := G0) (P := P) (W := wi x2 1 256) (R := wi x3 1 8) (lim := wi x4 1 64) (A := famA P) (B := famB P) hw46 ?_ 5 0 (by omega) (by omega) G (fun _ => none) h0 (hF.keep (fun j a b => by rw [hF57 j (by omega), hF54 j (by omega), hF49 j (by omega), hF37 j (by omega)])) h4 (fun j hj => by omega) (fun j hj => by omega) (fun j hj => by rw [hF57 j (by omega), hF54 j (by omega), hF49 j (by omega), hF37 j (by omega), hfr34 j (by omega), hF5 j (by omega)])
  intro G7 f h0 hF h4 hfj hsj hfr
  exact fsi_tail C hini hw46 h0 hF h4 hfj hsj hfr (fun G2 h1 h2 => ⟨P, hlp, h1, h2⟩)

