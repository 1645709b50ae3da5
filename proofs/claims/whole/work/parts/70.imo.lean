set_option maxHeartbeats 4000000 in
set_option maxRecDepth 100000 in
theorem mpi_loop {M : Mx} {E : Ev} (C : Cx M E yX12_init.cls cX12_init 7 none 1 24 22 22504) {post : Unit → Gh → Prop} {G : Gh} {x1 x2 x3 x4 : Int32} {n : Nat} (kend : ∀ p, lpS n p → V M E 7 (QE M E (fun _ : Unit => none) (some (ga E 127)) 22 22504 post) (some (ga E 127)) 22 22504 G 211 [some (.ref (ga E 104)), some (.int x1), some (.int x2), some (.int x3), some (.int x4), some (.int (nI p)), none] []) : ∀ (t p : Nat), n ≤ p → p ≤ 65521 → 65522 - p < t → (∀ q, n ≤ q → q < p → ¬ prm q) → V M E 7 (QE M E (fun _ : Unit => none) (some (ga E 127)) 22 22504 post) (some (ga E 127)) 22 22504 G 197 [some (.ref (ga E 104)), some (.int x1), some (.int x2), some (.int x3), some (.int x4), some (.int (nI p)), none] [] := by
  intro t
  induction t with
  | zero => intro d _ _ h; omega
  | succ t ih =>
    intro p hnp hp6 ht hno
    refine v_iload C dX12_init_197 rfl ?_
    refine mc_X12_83 C dX12_init_199 (c_Mo_isPrime _ E _ (n := p) hp6) (okr_s rfl (by omega) (by omega)) (fun r199 G199 hp199 => ?_)
    obtain ⟨hr199, rfl⟩ := hp199
    first | refine v_ifb_ne C 211 dX12_init_202 (by decide) (fun h202 => ?_) (fun h202 => ?_) | refine v_ifn_ne C 211 dX12_init_202 (by decide) (by omega) (fun h202 => ?_) (fun h202 => ?_) | refine v_if_ne C 211 dX12_init_202 (by decide) (fun h202 => ?_) (fun h202 => ?_)
    · skip
      exact kend p ⟨hnp, hp6, hr199.mp h202, hno⟩
    · skip
      first | refine v_iinc_5 C dX12_init_205 (nI_1 _) (by decide) (by first | rfl | assumption) ?_ | refine v_iinc_5 C dX12_init_205 rfl (by decide) (by first | rfl | assumption) ?_
      refine v_goto C 197 dX12_init_208 (by decide) ?_
      have hp5 : p ≠ 65521 := fun e9 => by
        subst e9
        have := hr199.mpr prm_last
        rw [h202] at this
        cases this
      refine ih (p + 1) (by omega) (by omega) (by omega) (fun q h1 h2 => ?_)
      by_cases q9 : q = p
      · subst q9; exact fun h => by have := hr199.mpr h; rw [h202] at this; cases this
      · exact hno q h1 (by omega)
set_option maxHeartbeats 4000000 in
set_option maxRecDepth 100000 in
theorem mri_loop {M : Mx} {E : Ev} (C : Cx M E yX12_init.cls cX12_init 7 none 1 24 22 22504) {post : Unit → Gh → Prop} {G0 : Gh} {x1 x2 x3 x4 : Int32} {P W R lim : Nat} (hr : 2 ≤ P ∧ P ≤ 65521 ∧ 1 ≤ W ∧ W ≤ 256 ∧ 1 ≤ R ∧ R ≤ 8) (hlim : 1 ≤ lim ∧ lim ≤ 64) (hend : ∀ G, isMo E G P W R lim 0 0 (famA P) (famB P) → (∀ j, j ≠ 105 ∧ j ≠ 106 → G j = G0 j) → post () G) : ∀ (t i : Nat), i ≤ R → R - i < t → ∀ (G : Gh) (fa fb : Nat → Int32), G 104 = moO E P W R lim 0 0 → G 105 = cI E 8 fa → G 106 = cI E 8 fb → (∀ j, j < i → fa j = nI (famA P j) ∧ fb j = nI (famB P j)) → (∀ j, j ≠ 105 ∧ j ≠ 106 → G j = G0 j) → V M E 7 (QE M E (fun _ : Unit => none) (some (ga E 127)) 22 22504 post) (some (ga E 127)) 22 22504 G 255 [some (.ref (ga E 104)), some (.int x1), some (.int x2), some (.int x3), some (.int x4), some (.int (nI P)), some (.int (nI i))] [] := by
  intro t
  induction t with
  | zero => intro i _ h; omega
  | succ t ih =>
    intro i hi ht G fa fb ho k5 k6 hfab hfr
    refine v_iload C dX12_init_255 rfl ?_
    refine v_aload_n C dX12_init_257 rfl ?_
    refine gf_X12_94 C dX12_init_258 (by assumption) ?_
    refine v_icmpn_ge C 314 dX12_init_261 (by decide) (by omega) (by omega) (fun h261 => ?_) (fun h261 => ?_)
    · skip
      refine v_vret C dX12_init_314 ?_
      have e9 : i = R := by omega
      subst e9
      exact hend G ⟨fa, fb, ho, k5, k6, fun j hj => (hfab j hj).1, fun j hj => (hfab j hj).2, hr, hlim, fun j hj => ⟨by unfold famA; have := Nat.mod_lt (7919 * j + 13) (show 0 < P - 1 by omega); omega, by unfold famB; exact Nat.mod_lt _ (by omega)⟩⟩ hfr
    · skip
      refine v_aload_n C dX12_init_264 rfl ?_
      refine gf_X12_7 C dX12_init_265 (by assumption) ?_
      refine v_iload C dX12_init_268 rfl ?_
      refine v_iconst (v := nI 1) C dX12_init_270 (by decide) ?_
      refine v_sipush (v := nI 7919) C dX12_init_271 (by decide) ?_
      refine v_iload C dX12_init_274 rfl ?_
      first | refine v_imuln C dX12_init_276 ?_ | refine v_imul C dX12_init_276 ?_
      refine v_bipush (v := nI 13) C dX12_init_277 (by decide) ?_
      first | refine v_iaddn C dX12_init_279 ?_ | refine v_iadd C dX12_init_279 ?_
      refine v_aload_n C dX12_init_280 rfl ?_
      refine gf_X12_87 C dX12_init_281 (by assumption) ?_
      refine v_iconst (v := nI 1) C dX12_init_284 (by decide) ?_
      first | refine v_isubn C dX12_init_285 (by omega) ?_ | refine v_isub C dX12_init_285 ?_
      refine v_iremn C dX12_init_286 (by omega) (by omega) (by omega) ?_
      first | refine v_iaddn C dX12_init_287 ?_ | refine v_iadd C dX12_init_287 ?_
      refine v_iast C dX12_init_288 (by assumption) (by omega) (by omega) (fun G hG288 hF288 => ?_)
      first | replace ho := (hF288 _ (by omega)).trans ho | replace ho := hG288 | skip
      first | replace k5 := (hF288 _ (by omega)).trans k5 | replace k5 := hG288 | skip
      first | replace k6 := (hF288 _ (by omega)).trans k6 | replace k6 := hG288 | skip
      refine v_aload_n C dX12_init_289 rfl ?_
      refine gf_X12_13 C dX12_init_290 (by assumption) ?_
      refine v_iload C dX12_init_293 rfl ?_
      refine v_ldc C tw821 dX12_init_295 ?_
      refine v_topi (show _ = nI 104729 by decide) ?_
      refine v_iload C dX12_init_297 rfl ?_
      first | refine v_imuln C dX12_init_299 ?_ | refine v_imul C dX12_init_299 ?_
      refine v_iconst (v := nI 5) C dX12_init_300 (by decide) ?_
      first | refine v_iaddn C dX12_init_301 ?_ | refine v_iadd C dX12_init_301 ?_
      refine v_aload_n C dX12_init_302 rfl ?_
      refine gf_X12_87 C dX12_init_303 (by assumption) ?_
      refine v_iremn C dX12_init_306 (by omega) (by omega) (by omega) ?_
      refine v_iast C dX12_init_307 (by assumption) (by omega) (by omega) (fun G hG307 hF307 => ?_)
      first | replace ho := (hF307 _ (by omega)).trans ho | replace ho := hG307 | skip
      first | replace k5 := (hF307 _ (by omega)).trans k5 | replace k5 := hG307 | skip
      first | replace k6 := (hF307 _ (by omega)).trans k6 | replace k6 := hG307 | skip
      first | refine v_iinc_6 C dX12_init_308 (nI_1 _) (by decide) (by first | rfl | assumption) ?_ | refine v_iinc_6 C dX12_init_308 rfl (by decide) (by first | rfl | assumption) ?_
      refine v_goto C 255 dX12_init_311 (by decide) ?_
      refine ih (i + 1) (by omega) (by omega) G _ _ ho k5 k6 (fun j hj => ?_) (fun j hj => by rw [hF307 j (by omega), hF288 j (by omega)]; exact hfr j hj)
      by_cases q9 : j = i
      · subst q9; rw [fu_self, fu_self]; exact ⟨rfl, rfl⟩
      · rw [fu_ne _ _ q9, fu_ne _ _ q9]; exact hfab j (by omega)
set_option maxHeartbeats 4000000 in
set_option maxRecDepth 100000 in
theorem i_Mo (l : Launch) (E : Ev) {G0 : Gh} {x1 x2 x3 x4 : Int32} (ho : G0 104 = cO 11 [.int (nI 0), .int (nI 0), .int (nI 0), .int (nI 0), .null, .null, .null, .null, .null, .null, .null, .null, .null, .null, .null, .null, .null, .null, .null, .null, .null, .int (nI 0), .null, .null, .int (nI 0), .null, .null, .null]) : K_X12_init l E (22) (22504) (some (ga E (105))) (some (ga E (127))) G0 [.ref (ga E 104), .int x1, .int x2, .int x3, .int x4] (fun _ G2 => ∃ P, lpS (wi x1 2 65521) P ∧ isMd E G2 P (wi x2 1 256) (wi x3 1 8) (wi x4 1 64) 0 0 (famA P) (famB P) (fun _ => strEmpty) ∧ isPA E G2 ∧ isRp E G2 [] ∧ ∀ j, j < 104 → G2 j = G0 j) := by
  refine Fc.of rfl [some (.ref (ga E 104)), some (.int x1), some (.int x2), some (.int x3), some (.int x4), none, none] 2 rfl (Nat.le_of_ble_eq_true rfl) ?_
  intro M hM0 hini C
  subst hM0
  replace hini := hini rfl
  refine v_aload_n C dX12_init_0 rfl ?_
  refine mc_X12_1 C dX12_init_1 (Nat.le_of_ble_eq_true rfl) (Nat.le_of_ble_eq_true rfl) ?_
  refine v_aload_n C dX12_init_4 rfl ?_
  refine v_bipush (v := nI 8) C dX12_init_5 (by decide) ?_
  refine v_newaI (i := 105) C dX12_init_7 (by omega) ⟨by omega, by omega⟩ (fun G hG7 hF7 => ?_)
  first | replace ho := (hF7 _ (by omega)).trans ho | replace ho := hG7 | skip
  have a105 := hG7
  refine pf_X12_7 C dX12_init_9 hini (by assumption) (fun G hG9 hF9 => ?_)
  first | replace ho := (hF9 _ (by omega)).trans ho | replace ho := hG9 | skip
  first | replace a105 := (hF9 _ (by omega)).trans a105 | replace a105 := hG9 | skip
  refine v_aload_n C dX12_init_12 rfl ?_
  refine v_bipush (v := nI 8) C dX12_init_13 (by decide) ?_
  refine v_newaI (i := 106) C dX12_init_15 (by omega) ⟨by omega, by omega⟩ (fun G hG15 hF15 => ?_)
  first | replace ho := (hF15 _ (by omega)).trans ho | replace ho := hG15 | skip
  first | replace a105 := (hF15 _ (by omega)).trans a105 | replace a105 := hG15 | skip
  have a106 := hG15
  refine pf_X12_13 C dX12_init_17 hini (by assumption) (fun G hG17 hF17 => ?_)
  first | replace ho := (hF17 _ (by omega)).trans ho | replace ho := hG17 | skip
  first | replace a105 := (hF17 _ (by omega)).trans a105 | replace a105 := hG17 | skip
  first | replace a106 := (hF17 _ (by omega)).trans a106 | replace a106 := hG17 | skip
  refine v_aload_n C dX12_init_20 rfl ?_
  refine v_iconst (v := nI 4) C dX12_init_21 (by decide) ?_
  refine v_newaJ (i := 107) C dX12_init_22 (by omega) ⟨by omega, by omega⟩ (fun G hG22 hF22 => ?_)
  first | replace ho := (hF22 _ (by omega)).trans ho | replace ho := hG22 | skip
  first | replace a105 := (hF22 _ (by omega)).trans a105 | replace a105 := hG22 | skip
  first | replace a106 := (hF22 _ (by omega)).trans a106 | replace a106 := hG22 | skip
  have a107 := hG22
  refine pf_X12_16 C dX12_init_24 hini (by assumption) (fun G hG24 hF24 => ?_)
  first | replace ho := (hF24 _ (by omega)).trans ho | replace ho := hG24 | skip
  first | replace a105 := (hF24 _ (by omega)).trans a105 | replace a105 := hG24 | skip
  first | replace a106 := (hF24 _ (by omega)).trans a106 | replace a106 := hG24 | skip
  first | replace a107 := (hF24 _ (by omega)).trans a107 | replace a107 := hG24 | skip
  refine v_aload_n C dX12_init_27 rfl ?_
  refine v_sipush (v := nI 8192) C dX12_init_28 (by decide) ?_
  refine v_newaJ (i := 108) C dX12_init_31 (by omega) ⟨by omega, by omega⟩ (fun G hG31 hF31 => ?_)
  first | replace ho := (hF31 _ (by omega)).trans ho | replace ho := hG31 | skip
  first | replace a105 := (hF31 _ (by omega)).trans a105 | replace a105 := hG31 | skip
  first | replace a106 := (hF31 _ (by omega)).trans a106 | replace a106 := hG31 | skip
  first | replace a107 := (hF31 _ (by omega)).trans a107 | replace a107 := hG31 | skip
  have a108 := hG31
  refine pf_X12_20 C dX12_init_33 hini (by assumption) (fun G hG33 hF33 => ?_)
  first | replace ho := (hF33 _ (by omega)).trans ho | replace ho := hG33 | skip
  first | replace a105 := (hF33 _ (by omega)).trans a105 | replace a105 := hG33 | skip
  first | replace a106 := (hF33 _ (by omega)).trans a106 | replace a106 := hG33 | skip
  first | replace a107 := (hF33 _ (by omega)).trans a107 | replace a107 := hG33 | skip
  first | replace a108 := (hF33 _ (by omega)).trans a108 | replace a108 := hG33 | skip
  refine v_aload_n C dX12_init_36 rfl ?_
  refine v_sipush (v := nI 8192) C dX12_init_37 (by decide) ?_
  refine v_newaJ (i := 109) C dX12_init_40 (by omega) ⟨by omega, by omega⟩ (fun G hG40 hF40 => ?_)
  first | replace ho := (hF40 _ (by omega)).trans ho | replace ho := hG40 | skip
  first | replace a105 := (hF40 _ (by omega)).trans a105 | replace a105 := hG40 | skip
  first | replace a106 := (hF40 _ (by omega)).trans a106 | replace a106 := hG40 | skip
  first | replace a107 := (hF40 _ (by omega)).trans a107 | replace a107 := hG40 | skip
  first | replace a108 := (hF40 _ (by omega)).trans a108 | replace a108 := hG40 | skip
  have a109 := hG40
  refine pf_X12_23 C dX12_init_42 hini (by assumption) (fun G hG42 hF42 => ?_)
  first | replace ho := (hF42 _ (by omega)).trans ho | replace ho := hG42 | skip
  first | replace a105 := (hF42 _ (by omega)).trans a105 | replace a105 := hG42 | skip
  first | replace a106 := (hF42 _ (by omega)).trans a106 | replace a106 := hG42 | skip
  first | replace a107 := (hF42 _ (by omega)).trans a107 | replace a107 := hG42 | skip
  first | replace a108 := (hF42 _ (by omega)).trans a108 | replace a108 := hG42 | skip
  first | replace a109 := (hF42 _ (by omega)).trans a109 | replace a109 := hG42 | skip
  refine v_aload_n C dX12_init_45 rfl ?_
  refine v_iconst (v := nI 4) C dX12_init_46 (by decide) ?_
  refine v_newaI (i := 110) C dX12_init_47 (by omega) ⟨by omega, by omega⟩ (fun G hG47 hF47 => ?_)
  first | replace ho := (hF47 _ (by omega)).trans ho | replace ho := hG47 | skip
  first | replace a105 := (hF47 _ (by omega)).trans a105 | replace a105 := hG47 | skip
  first | replace a106 := (hF47 _ (by omega)).trans a106 | replace a106 := hG47 | skip
  first | replace a107 := (hF47 _ (by omega)).trans a107 | replace a107 := hG47 | skip
  first | replace a108 := (hF47 _ (by omega)).trans a108 | replace a108 := hG47 | skip
  first | replace a109 := (hF47 _ (by omega)).trans a109 | replace a109 := hG47 | skip
  have a110 := hG47
  refine pf_X12_26 C dX12_init_49 hini (by assumption) (fun G hG49 hF49 => ?_)
  first | replace ho := (hF49 _ (by omega)).trans ho | replace ho := hG49 | skip
  first | replace a105 := (hF49 _ (by omega)).trans a105 | replace a105 := hG49 | skip
  first | replace a106 := (hF49 _ (by omega)).trans a106 | replace a106 := hG49 | skip
  first | replace a107 := (hF49 _ (by omega)).trans a107 | replace a107 := hG49 | skip
  first | replace a108 := (hF49 _ (by omega)).trans a108 | replace a108 := hG49 | skip
  first | replace a109 := (hF49 _ (by omega)).trans a109 | replace a109 := hG49 | skip
  first | replace a110 := (hF49 _ (by omega)).trans a110 | replace a110 := hG49 | skip
  refine v_aload_n C dX12_init_52 rfl ?_
  refine v_iconst (v := nI 4) C dX12_init_53 (by decide) ?_
  refine v_newaJ (i := 111) C dX12_init_54 (by omega) ⟨by omega, by omega⟩ (fun G hG54 hF54 => ?_)
  first | replace ho := (hF54 _ (by omega)).trans ho | replace ho := hG54 | skip
  first | replace a105 := (hF54 _ (by omega)).trans a105 | replace a105 := hG54 | skip
  first | replace a106 := (hF54 _ (by omega)).trans a106 | replace a106 := hG54 | skip
  first | replace a107 := (hF54 _ (by omega)).trans a107 | replace a107 := hG54 | skip
  first | replace a108 := (hF54 _ (by omega)).trans a108 | replace a108 := hG54 | skip
  first | replace a109 := (hF54 _ (by omega)).trans a109 | replace a109 := hG54 | skip
  first | replace a110 := (hF54 _ (by omega)).trans a110 | replace a110 := hG54 | skip
  have a111 := hG54
  refine pf_X12_29 C dX12_init_56 hini (by assumption) (fun G hG56 hF56 => ?_)
  first | replace ho := (hF56 _ (by omega)).trans ho | replace ho := hG56 | skip
  first | replace a105 := (hF56 _ (by omega)).trans a105 | replace a105 := hG56 | skip
  first | replace a106 := (hF56 _ (by omega)).trans a106 | replace a106 := hG56 | skip
  first | replace a107 := (hF56 _ (by omega)).trans a107 | replace a107 := hG56 | skip
  first | replace a108 := (hF56 _ (by omega)).trans a108 | replace a108 := hG56 | skip
  first | replace a109 := (hF56 _ (by omega)).trans a109 | replace a109 := hG56 | skip
  first | replace a110 := (hF56 _ (by omega)).trans a110 | replace a110 := hG56 | skip
  first | replace a111 := (hF56 _ (by omega)).trans a111 | replace a111 := hG56 | skip
  refine v_aload_n C dX12_init_59 rfl ?_
  refine v_sipush (v := nI 256) C dX12_init_60 (by decide) ?_
  refine v_newaI (i := 112) C dX12_init_63 (by omega) ⟨by omega, by omega⟩ (fun G hG63 hF63 => ?_)
  first | replace ho := (hF63 _ (by omega)).trans ho | replace ho := hG63 | skip
  first | replace a105 := (hF63 _ (by omega)).trans a105 | replace a105 := hG63 | skip
  first | replace a106 := (hF63 _ (by omega)).trans a106 | replace a106 := hG63 | skip
  first | replace a107 := (hF63 _ (by omega)).trans a107 | replace a107 := hG63 | skip
  first | replace a108 := (hF63 _ (by omega)).trans a108 | replace a108 := hG63 | skip
  first | replace a109 := (hF63 _ (by omega)).trans a109 | replace a109 := hG63 | skip
  first | replace a110 := (hF63 _ (by omega)).trans a110 | replace a110 := hG63 | skip
  first | replace a111 := (hF63 _ (by omega)).trans a111 | replace a111 := hG63 | skip
  have a112 := hG63
  refine pf_X12_32 C dX12_init_65 hini (by assumption) (fun G hG65 hF65 => ?_)
  first | replace ho := (hF65 _ (by omega)).trans ho | replace ho := hG65 | skip
  first | replace a105 := (hF65 _ (by omega)).trans a105 | replace a105 := hG65 | skip
  first | replace a106 := (hF65 _ (by omega)).trans a106 | replace a106 := hG65 | skip
  first | replace a107 := (hF65 _ (by omega)).trans a107 | replace a107 := hG65 | skip
  first | replace a108 := (hF65 _ (by omega)).trans a108 | replace a108 := hG65 | skip
  first | replace a109 := (hF65 _ (by omega)).trans a109 | replace a109 := hG65 | skip
  first | replace a110 := (hF65 _ (by omega)).trans a110 | replace a110 := hG65 | skip
  first | replace a111 := (hF65 _ (by omega)).trans a111 | replace a111 := hG65 | skip
  first | replace a112 := (hF65 _ (by omega)).trans a112 | replace a112 := hG65 | skip
  refine v_aload_n C dX12_init_68 rfl ?_
  refine v_sipush (v := nI 256) C dX12_init_69 (by decide) ?_
  refine v_newaJ (i := 113) C dX12_init_72 (by omega) ⟨by omega, by omega⟩ (fun G hG72 hF72 => ?_)
  first | replace ho := (hF72 _ (by omega)).trans ho | replace ho := hG72 | skip
  first | replace a105 := (hF72 _ (by omega)).trans a105 | replace a105 := hG72 | skip
  first | replace a106 := (hF72 _ (by omega)).trans a106 | replace a106 := hG72 | skip
  first | replace a107 := (hF72 _ (by omega)).trans a107 | replace a107 := hG72 | skip
  first | replace a108 := (hF72 _ (by omega)).trans a108 | replace a108 := hG72 | skip
  first | replace a109 := (hF72 _ (by omega)).trans a109 | replace a109 := hG72 | skip
  first | replace a110 := (hF72 _ (by omega)).trans a110 | replace a110 := hG72 | skip
  first | replace a111 := (hF72 _ (by omega)).trans a111 | replace a111 := hG72 | skip
  first | replace a112 := (hF72 _ (by omega)).trans a112 | replace a112 := hG72 | skip
  have a113 := hG72
  refine pf_X12_35 C dX12_init_74 hini (by assumption) (fun G hG74 hF74 => ?_)
  first | replace ho := (hF74 _ (by omega)).trans ho | replace ho := hG74 | skip
  first | replace a105 := (hF74 _ (by omega)).trans a105 | replace a105 := hG74 | skip
  first | replace a106 := (hF74 _ (by omega)).trans a106 | replace a106 := hG74 | skip
  first | replace a107 := (hF74 _ (by omega)).trans a107 | replace a107 := hG74 | skip
  first | replace a108 := (hF74 _ (by omega)).trans a108 | replace a108 := hG74 | skip
  first | replace a109 := (hF74 _ (by omega)).trans a109 | replace a109 := hG74 | skip
  first | replace a110 := (hF74 _ (by omega)).trans a110 | replace a110 := hG74 | skip
  first | replace a111 := (hF74 _ (by omega)).trans a111 | replace a111 := hG74 | skip
  first | replace a112 := (hF74 _ (by omega)).trans a112 | replace a112 := hG74 | skip
  first | replace a113 := (hF74 _ (by omega)).trans a113 | replace a113 := hG74 | skip
  refine v_aload_n C dX12_init_77 rfl ?_
  refine v_iconst (v := nI 4) C dX12_init_78 (by decide) ?_
  refine v_newaI (i := 114) C dX12_init_79 (by omega) ⟨by omega, by omega⟩ (fun G hG79 hF79 => ?_)
  first | replace ho := (hF79 _ (by omega)).trans ho | replace ho := hG79 | skip
  first | replace a105 := (hF79 _ (by omega)).trans a105 | replace a105 := hG79 | skip
  first | replace a106 := (hF79 _ (by omega)).trans a106 | replace a106 := hG79 | skip
  first | replace a107 := (hF79 _ (by omega)).trans a107 | replace a107 := hG79 | skip
  first | replace a108 := (hF79 _ (by omega)).trans a108 | replace a108 := hG79 | skip
  first | replace a109 := (hF79 _ (by omega)).trans a109 | replace a109 := hG79 | skip
  first | replace a110 := (hF79 _ (by omega)).trans a110 | replace a110 := hG79 | skip
  first | replace a111 := (hF79 _ (by omega)).trans a111 | replace a111 := hG79 | skip
  first | replace a112 := (hF79 _ (by omega)).trans a112 | replace a112 := hG79 | skip
  first | replace a113 := (hF79 _ (by omega)).trans a113 | replace a113 := hG79 | skip
  have a114 := hG79
  refine pf_X12_38 C dX12_init_81 hini (by assumption) (fun G hG81 hF81 => ?_)
  first | replace ho := (hF81 _ (by omega)).trans ho | replace ho := hG81 | skip
  first | replace a105 := (hF81 _ (by omega)).trans a105 | replace a105 := hG81 | skip
  first | replace a106 := (hF81 _ (by omega)).trans a106 | replace a106 := hG81 | skip
  first | replace a107 := (hF81 _ (by omega)).trans a107 | replace a107 := hG81 | skip
  first | replace a108 := (hF81 _ (by omega)).trans a108 | replace a108 := hG81 | skip
  first | replace a109 := (hF81 _ (by omega)).trans a109 | replace a109 := hG81 | skip
  first | replace a110 := (hF81 _ (by omega)).trans a110 | replace a110 := hG81 | skip
  first | replace a111 := (hF81 _ (by omega)).trans a111 | replace a111 := hG81 | skip
  first | replace a112 := (hF81 _ (by omega)).trans a112 | replace a112 := hG81 | skip
  first | replace a113 := (hF81 _ (by omega)).trans a113 | replace a113 := hG81 | skip
  first | replace a114 := (hF81 _ (by omega)).trans a114 | replace a114 := hG81 | skip
  refine v_aload_n C dX12_init_84 rfl ?_
  refine v_sipush (v := nI 256) C dX12_init_85 (by decide) ?_
  refine v_newaI (i := 115) C dX12_init_88 (by omega) ⟨by omega, by omega⟩ (fun G hG88 hF88 => ?_)
  first | replace ho := (hF88 _ (by omega)).trans ho | replace ho := hG88 | skip
  first | replace a105 := (hF88 _ (by omega)).trans a105 | replace a105 := hG88 | skip
  first | replace a106 := (hF88 _ (by omega)).trans a106 | replace a106 := hG88 | skip
  first | replace a107 := (hF88 _ (by omega)).trans a107 | replace a107 := hG88 | skip
  first | replace a108 := (hF88 _ (by omega)).trans a108 | replace a108 := hG88 | skip
  first | replace a109 := (hF88 _ (by omega)).trans a109 | replace a109 := hG88 | skip
  first | replace a110 := (hF88 _ (by omega)).trans a110 | replace a110 := hG88 | skip
  first | replace a111 := (hF88 _ (by omega)).trans a111 | replace a111 := hG88 | skip
  first | replace a112 := (hF88 _ (by omega)).trans a112 | replace a112 := hG88 | skip
  first | replace a113 := (hF88 _ (by omega)).trans a113 | replace a113 := hG88 | skip
  first | replace a114 := (hF88 _ (by omega)).trans a114 | replace a114 := hG88 | skip
  have a115 := hG88
  refine pf_X12_41 C dX12_init_90 hini (by assumption) (fun G hG90 hF90 => ?_)
  first | replace ho := (hF90 _ (by omega)).trans ho | replace ho := hG90 | skip
  first | replace a105 := (hF90 _ (by omega)).trans a105 | replace a105 := hG90 | skip
  first | replace a106 := (hF90 _ (by omega)).trans a106 | replace a106 := hG90 | skip
  first | replace a107 := (hF90 _ (by omega)).trans a107 | replace a107 := hG90 | skip
  first | replace a108 := (hF90 _ (by omega)).trans a108 | replace a108 := hG90 | skip
  first | replace a109 := (hF90 _ (by omega)).trans a109 | replace a109 := hG90 | skip
  first | replace a110 := (hF90 _ (by omega)).trans a110 | replace a110 := hG90 | skip
  first | replace a111 := (hF90 _ (by omega)).trans a111 | replace a111 := hG90 | skip
  first | replace a112 := (hF90 _ (by omega)).trans a112 | replace a112 := hG90 | skip
  first | replace a113 := (hF90 _ (by omega)).trans a113 | replace a113 := hG90 | skip
  first | replace a114 := (hF90 _ (by omega)).trans a114 | replace a114 := hG90 | skip
  first | replace a115 := (hF90 _ (by omega)).trans a115 | replace a115 := hG90 | skip
  refine v_aload_n C dX12_init_93 rfl ?_
  refine v_sipush (v := nI 256) C dX12_init_94 (by decide) ?_
  refine v_newaJ (i := 116) C dX12_init_97 (by omega) ⟨by omega, by omega⟩ (fun G hG97 hF97 => ?_)
  first | replace ho := (hF97 _ (by omega)).trans ho | replace ho := hG97 | skip
  first | replace a105 := (hF97 _ (by omega)).trans a105 | replace a105 := hG97 | skip
  first | replace a106 := (hF97 _ (by omega)).trans a106 | replace a106 := hG97 | skip
  first | replace a107 := (hF97 _ (by omega)).trans a107 | replace a107 := hG97 | skip
  first | replace a108 := (hF97 _ (by omega)).trans a108 | replace a108 := hG97 | skip
  first | replace a109 := (hF97 _ (by omega)).trans a109 | replace a109 := hG97 | skip
  first | replace a110 := (hF97 _ (by omega)).trans a110 | replace a110 := hG97 | skip
  first | replace a111 := (hF97 _ (by omega)).trans a111 | replace a111 := hG97 | skip
  first | replace a112 := (hF97 _ (by omega)).trans a112 | replace a112 := hG97 | skip
  first | replace a113 := (hF97 _ (by omega)).trans a113 | replace a113 := hG97 | skip
  first | replace a114 := (hF97 _ (by omega)).trans a114 | replace a114 := hG97 | skip
  first | replace a115 := (hF97 _ (by omega)).trans a115 | replace a115 := hG97 | skip
  have a116 := hG97
  refine pf_X12_44 C dX12_init_99 hini (by assumption) (fun G hG99 hF99 => ?_)
  first | replace ho := (hF99 _ (by omega)).trans ho | replace ho := hG99 | skip
  first | replace a105 := (hF99 _ (by omega)).trans a105 | replace a105 := hG99 | skip
  first | replace a106 := (hF99 _ (by omega)).trans a106 | replace a106 := hG99 | skip
  first | replace a107 := (hF99 _ (by omega)).trans a107 | replace a107 := hG99 | skip
  first | replace a108 := (hF99 _ (by omega)).trans a108 | replace a108 := hG99 | skip
  first | replace a109 := (hF99 _ (by omega)).trans a109 | replace a109 := hG99 | skip
  first | replace a110 := (hF99 _ (by omega)).trans a110 | replace a110 := hG99 | skip
  first | replace a111 := (hF99 _ (by omega)).trans a111 | replace a111 := hG99 | skip
  first | replace a112 := (hF99 _ (by omega)).trans a112 | replace a112 := hG99 | skip
  first | replace a113 := (hF99 _ (by omega)).trans a113 | replace a113 := hG99 | skip
  first | replace a114 := (hF99 _ (by omega)).trans a114 | replace a114 := hG99 | skip
  first | replace a115 := (hF99 _ (by omega)).trans a115 | replace a115 := hG99 | skip
  first | replace a116 := (hF99 _ (by omega)).trans a116 | replace a116 := hG99 | skip
  refine v_aload_n C dX12_init_102 rfl ?_
  refine v_sipush (v := nI 256) C dX12_init_103 (by decide) ?_
  refine v_newaJ (i := 117) C dX12_init_106 (by omega) ⟨by omega, by omega⟩ (fun G hG106 hF106 => ?_)
  first | replace ho := (hF106 _ (by omega)).trans ho | replace ho := hG106 | skip
  first | replace a105 := (hF106 _ (by omega)).trans a105 | replace a105 := hG106 | skip
  first | replace a106 := (hF106 _ (by omega)).trans a106 | replace a106 := hG106 | skip
  first | replace a107 := (hF106 _ (by omega)).trans a107 | replace a107 := hG106 | skip
  first | replace a108 := (hF106 _ (by omega)).trans a108 | replace a108 := hG106 | skip
  first | replace a109 := (hF106 _ (by omega)).trans a109 | replace a109 := hG106 | skip
  first | replace a110 := (hF106 _ (by omega)).trans a110 | replace a110 := hG106 | skip
  first | replace a111 := (hF106 _ (by omega)).trans a111 | replace a111 := hG106 | skip
  first | replace a112 := (hF106 _ (by omega)).trans a112 | replace a112 := hG106 | skip
  first | replace a113 := (hF106 _ (by omega)).trans a113 | replace a113 := hG106 | skip
  first | replace a114 := (hF106 _ (by omega)).trans a114 | replace a114 := hG106 | skip
  first | replace a115 := (hF106 _ (by omega)).trans a115 | replace a115 := hG106 | skip
  first | replace a116 := (hF106 _ (by omega)).trans a116 | replace a116 := hG106 | skip
  have a117 := hG106
  refine pf_X12_47 C dX12_init_108 hini (by assumption) (fun G hG108 hF108 => ?_)
  first | replace ho := (hF108 _ (by omega)).trans ho | replace ho := hG108 | skip
  first | replace a105 := (hF108 _ (by omega)).trans a105 | replace a105 := hG108 | skip
  first | replace a106 := (hF108 _ (by omega)).trans a106 | replace a106 := hG108 | skip
  first | replace a107 := (hF108 _ (by omega)).trans a107 | replace a107 := hG108 | skip
  first | replace a108 := (hF108 _ (by omega)).trans a108 | replace a108 := hG108 | skip
  first | replace a109 := (hF108 _ (by omega)).trans a109 | replace a109 := hG108 | skip
  first | replace a110 := (hF108 _ (by omega)).trans a110 | replace a110 := hG108 | skip
  first | replace a111 := (hF108 _ (by omega)).trans a111 | replace a111 := hG108 | skip
  first | replace a112 := (hF108 _ (by omega)).trans a112 | replace a112 := hG108 | skip
  first | replace a113 := (hF108 _ (by omega)).trans a113 | replace a113 := hG108 | skip
  first | replace a114 := (hF108 _ (by omega)).trans a114 | replace a114 := hG108 | skip
  first | replace a115 := (hF108 _ (by omega)).trans a115 | replace a115 := hG108 | skip
  first | replace a116 := (hF108 _ (by omega)).trans a116 | replace a116 := hG108 | skip
  first | replace a117 := (hF108 _ (by omega)).trans a117 | replace a117 := hG108 | skip
  refine v_aload_n C dX12_init_111 rfl ?_
  refine v_iconst (v := nI 4) C dX12_init_112 (by decide) ?_
  refine v_newaI (i := 118) C dX12_init_113 (by omega) ⟨by omega, by omega⟩ (fun G hG113 hF113 => ?_)
  first | replace ho := (hF113 _ (by omega)).trans ho | replace ho := hG113 | skip
  first | replace a105 := (hF113 _ (by omega)).trans a105 | replace a105 := hG113 | skip
  first | replace a106 := (hF113 _ (by omega)).trans a106 | replace a106 := hG113 | skip
  first | replace a107 := (hF113 _ (by omega)).trans a107 | replace a107 := hG113 | skip
  first | replace a108 := (hF113 _ (by omega)).trans a108 | replace a108 := hG113 | skip
  first | replace a109 := (hF113 _ (by omega)).trans a109 | replace a109 := hG113 | skip
  first | replace a110 := (hF113 _ (by omega)).trans a110 | replace a110 := hG113 | skip
  first | replace a111 := (hF113 _ (by omega)).trans a111 | replace a111 := hG113 | skip
  first | replace a112 := (hF113 _ (by omega)).trans a112 | replace a112 := hG113 | skip
  first | replace a113 := (hF113 _ (by omega)).trans a113 | replace a113 := hG113 | skip
  first | replace a114 := (hF113 _ (by omega)).trans a114 | replace a114 := hG113 | skip
  first | replace a115 := (hF113 _ (by omega)).trans a115 | replace a115 := hG113 | skip
  first | replace a116 := (hF113 _ (by omega)).trans a116 | replace a116 := hG113 | skip
  first | replace a117 := (hF113 _ (by omega)).trans a117 | replace a117 := hG113 | skip
  have a118 := hG113
  refine pf_X12_50 C dX12_init_115 hini (by assumption) (fun G hG115 hF115 => ?_)
  first | replace ho := (hF115 _ (by omega)).trans ho | replace ho := hG115 | skip
  first | replace a105 := (hF115 _ (by omega)).trans a105 | replace a105 := hG115 | skip
  first | replace a106 := (hF115 _ (by omega)).trans a106 | replace a106 := hG115 | skip
  first | replace a107 := (hF115 _ (by omega)).trans a107 | replace a107 := hG115 | skip
  first | replace a108 := (hF115 _ (by omega)).trans a108 | replace a108 := hG115 | skip
  first | replace a109 := (hF115 _ (by omega)).trans a109 | replace a109 := hG115 | skip
  first | replace a110 := (hF115 _ (by omega)).trans a110 | replace a110 := hG115 | skip
  first | replace a111 := (hF115 _ (by omega)).trans a111 | replace a111 := hG115 | skip
  first | replace a112 := (hF115 _ (by omega)).trans a112 | replace a112 := hG115 | skip
  first | replace a113 := (hF115 _ (by omega)).trans a113 | replace a113 := hG115 | skip
  first | replace a114 := (hF115 _ (by omega)).trans a114 | replace a114 := hG115 | skip
  first | replace a115 := (hF115 _ (by omega)).trans a115 | replace a115 := hG115 | skip
  first | replace a116 := (hF115 _ (by omega)).trans a116 | replace a116 := hG115 | skip
  first | replace a117 := (hF115 _ (by omega)).trans a117 | replace a117 := hG115 | skip
  first | replace a118 := (hF115 _ (by omega)).trans a118 | replace a118 := hG115 | skip
  refine v_aload_n C dX12_init_118 rfl ?_
  refine v_iconst (v := nI 4) C dX12_init_119 (by decide) ?_
  refine v_newaZ (i := 119) C dX12_init_120 (by omega) ⟨by omega, by omega⟩ (fun G hG120 hF120 => ?_)
  first | replace ho := (hF120 _ (by omega)).trans ho | replace ho := hG120 | skip
  first | replace a105 := (hF120 _ (by omega)).trans a105 | replace a105 := hG120 | skip
  first | replace a106 := (hF120 _ (by omega)).trans a106 | replace a106 := hG120 | skip
  first | replace a107 := (hF120 _ (by omega)).trans a107 | replace a107 := hG120 | skip
  first | replace a108 := (hF120 _ (by omega)).trans a108 | replace a108 := hG120 | skip
  first | replace a109 := (hF120 _ (by omega)).trans a109 | replace a109 := hG120 | skip
  first | replace a110 := (hF120 _ (by omega)).trans a110 | replace a110 := hG120 | skip
  first | replace a111 := (hF120 _ (by omega)).trans a111 | replace a111 := hG120 | skip
  first | replace a112 := (hF120 _ (by omega)).trans a112 | replace a112 := hG120 | skip
  first | replace a113 := (hF120 _ (by omega)).trans a113 | replace a113 := hG120 | skip
  first | replace a114 := (hF120 _ (by omega)).trans a114 | replace a114 := hG120 | skip
  first | replace a115 := (hF120 _ (by omega)).trans a115 | replace a115 := hG120 | skip
  first | replace a116 := (hF120 _ (by omega)).trans a116 | replace a116 := hG120 | skip
  first | replace a117 := (hF120 _ (by omega)).trans a117 | replace a117 := hG120 | skip
  first | replace a118 := (hF120 _ (by omega)).trans a118 | replace a118 := hG120 | skip
  have a119 := hG120
  refine pf_X12_53 C dX12_init_122 hini (by assumption) (fun G hG122 hF122 => ?_)
  first | replace ho := (hF122 _ (by omega)).trans ho | replace ho := hG122 | skip
  first | replace a105 := (hF122 _ (by omega)).trans a105 | replace a105 := hG122 | skip
  first | replace a106 := (hF122 _ (by omega)).trans a106 | replace a106 := hG122 | skip
  first | replace a107 := (hF122 _ (by omega)).trans a107 | replace a107 := hG122 | skip
  first | replace a108 := (hF122 _ (by omega)).trans a108 | replace a108 := hG122 | skip
  first | replace a109 := (hF122 _ (by omega)).trans a109 | replace a109 := hG122 | skip
  first | replace a110 := (hF122 _ (by omega)).trans a110 | replace a110 := hG122 | skip
  first | replace a111 := (hF122 _ (by omega)).trans a111 | replace a111 := hG122 | skip
  first | replace a112 := (hF122 _ (by omega)).trans a112 | replace a112 := hG122 | skip
  first | replace a113 := (hF122 _ (by omega)).trans a113 | replace a113 := hG122 | skip
  first | replace a114 := (hF122 _ (by omega)).trans a114 | replace a114 := hG122 | skip
  first | replace a115 := (hF122 _ (by omega)).trans a115 | replace a115 := hG122 | skip
  first | replace a116 := (hF122 _ (by omega)).trans a116 | replace a116 := hG122 | skip
  first | replace a117 := (hF122 _ (by omega)).trans a117 | replace a117 := hG122 | skip
  first | replace a118 := (hF122 _ (by omega)).trans a118 | replace a118 := hG122 | skip
  first | replace a119 := (hF122 _ (by omega)).trans a119 | replace a119 := hG122 | skip
  refine v_aload_n C dX12_init_125 rfl ?_
  refine v_sipush (v := nI 1200) C dX12_init_126 (by decide) ?_
  refine v_newaI (i := 120) C dX12_init_129 (by omega) ⟨by omega, by omega⟩ (fun G hG129 hF129 => ?_)
  first | replace ho := (hF129 _ (by omega)).trans ho | replace ho := hG129 | skip
  first | replace a105 := (hF129 _ (by omega)).trans a105 | replace a105 := hG129 | skip
  first | replace a106 := (hF129 _ (by omega)).trans a106 | replace a106 := hG129 | skip
  first | replace a107 := (hF129 _ (by omega)).trans a107 | replace a107 := hG129 | skip
  first | replace a108 := (hF129 _ (by omega)).trans a108 | replace a108 := hG129 | skip
  first | replace a109 := (hF129 _ (by omega)).trans a109 | replace a109 := hG129 | skip
  first | replace a110 := (hF129 _ (by omega)).trans a110 | replace a110 := hG129 | skip
  first | replace a111 := (hF129 _ (by omega)).trans a111 | replace a111 := hG129 | skip
  first | replace a112 := (hF129 _ (by omega)).trans a112 | replace a112 := hG129 | skip
  first | replace a113 := (hF129 _ (by omega)).trans a113 | replace a113 := hG129 | skip
  first | replace a114 := (hF129 _ (by omega)).trans a114 | replace a114 := hG129 | skip
  first | replace a115 := (hF129 _ (by omega)).trans a115 | replace a115 := hG129 | skip
  first | replace a116 := (hF129 _ (by omega)).trans a116 | replace a116 := hG129 | skip
  first | replace a117 := (hF129 _ (by omega)).trans a117 | replace a117 := hG129 | skip
  first | replace a118 := (hF129 _ (by omega)).trans a118 | replace a118 := hG129 | skip
  first | replace a119 := (hF129 _ (by omega)).trans a119 | replace a119 := hG129 | skip
  have a120 := hG129
  refine pf_X12_57 C dX12_init_131 hini (by assumption) (fun G hG131 hF131 => ?_)
  first | replace ho := (hF131 _ (by omega)).trans ho | replace ho := hG131 | skip
  first | replace a105 := (hF131 _ (by omega)).trans a105 | replace a105 := hG131 | skip
  first | replace a106 := (hF131 _ (by omega)).trans a106 | replace a106 := hG131 | skip
  first | replace a107 := (hF131 _ (by omega)).trans a107 | replace a107 := hG131 | skip
  first | replace a108 := (hF131 _ (by omega)).trans a108 | replace a108 := hG131 | skip
  first | replace a109 := (hF131 _ (by omega)).trans a109 | replace a109 := hG131 | skip
  first | replace a110 := (hF131 _ (by omega)).trans a110 | replace a110 := hG131 | skip
  first | replace a111 := (hF131 _ (by omega)).trans a111 | replace a111 := hG131 | skip
  first | replace a112 := (hF131 _ (by omega)).trans a112 | replace a112 := hG131 | skip
  first | replace a113 := (hF131 _ (by omega)).trans a113 | replace a113 := hG131 | skip
  first | replace a114 := (hF131 _ (by omega)).trans a114 | replace a114 := hG131 | skip
  first | replace a115 := (hF131 _ (by omega)).trans a115 | replace a115 := hG131 | skip
  first | replace a116 := (hF131 _ (by omega)).trans a116 | replace a116 := hG131 | skip
  first | replace a117 := (hF131 _ (by omega)).trans a117 | replace a117 := hG131 | skip
  first | replace a118 := (hF131 _ (by omega)).trans a118 | replace a118 := hG131 | skip
  first | replace a119 := (hF131 _ (by omega)).trans a119 | replace a119 := hG131 | skip
  first | replace a120 := (hF131 _ (by omega)).trans a120 | replace a120 := hG131 | skip
  refine v_aload_n C dX12_init_134 rfl ?_
  refine v_sipush (v := nI 1200) C dX12_init_135 (by decide) ?_
  refine v_newaJ (i := 121) C dX12_init_138 (by omega) ⟨by omega, by omega⟩ (fun G hG138 hF138 => ?_)
  first | replace ho := (hF138 _ (by omega)).trans ho | replace ho := hG138 | skip
  first | replace a105 := (hF138 _ (by omega)).trans a105 | replace a105 := hG138 | skip
  first | replace a106 := (hF138 _ (by omega)).trans a106 | replace a106 := hG138 | skip
  first | replace a107 := (hF138 _ (by omega)).trans a107 | replace a107 := hG138 | skip
  first | replace a108 := (hF138 _ (by omega)).trans a108 | replace a108 := hG138 | skip
  first | replace a109 := (hF138 _ (by omega)).trans a109 | replace a109 := hG138 | skip
  first | replace a110 := (hF138 _ (by omega)).trans a110 | replace a110 := hG138 | skip
  first | replace a111 := (hF138 _ (by omega)).trans a111 | replace a111 := hG138 | skip
  first | replace a112 := (hF138 _ (by omega)).trans a112 | replace a112 := hG138 | skip
  first | replace a113 := (hF138 _ (by omega)).trans a113 | replace a113 := hG138 | skip
  first | replace a114 := (hF138 _ (by omega)).trans a114 | replace a114 := hG138 | skip
  first | replace a115 := (hF138 _ (by omega)).trans a115 | replace a115 := hG138 | skip
  first | replace a116 := (hF138 _ (by omega)).trans a116 | replace a116 := hG138 | skip
  first | replace a117 := (hF138 _ (by omega)).trans a117 | replace a117 := hG138 | skip
  first | replace a118 := (hF138 _ (by omega)).trans a118 | replace a118 := hG138 | skip
  first | replace a119 := (hF138 _ (by omega)).trans a119 | replace a119 := hG138 | skip
  first | replace a120 := (hF138 _ (by omega)).trans a120 | replace a120 := hG138 | skip
  have a121 := hG138
  refine pf_X12_60 C dX12_init_140 hini (by assumption) (fun G hG140 hF140 => ?_)
  first | replace ho := (hF140 _ (by omega)).trans ho | replace ho := hG140 | skip
  first | replace a105 := (hF140 _ (by omega)).trans a105 | replace a105 := hG140 | skip
  first | replace a106 := (hF140 _ (by omega)).trans a106 | replace a106 := hG140 | skip
  first | replace a107 := (hF140 _ (by omega)).trans a107 | replace a107 := hG140 | skip
  first | replace a108 := (hF140 _ (by omega)).trans a108 | replace a108 := hG140 | skip
  first | replace a109 := (hF140 _ (by omega)).trans a109 | replace a109 := hG140 | skip
  first | replace a110 := (hF140 _ (by omega)).trans a110 | replace a110 := hG140 | skip
  first | replace a111 := (hF140 _ (by omega)).trans a111 | replace a111 := hG140 | skip
  first | replace a112 := (hF140 _ (by omega)).trans a112 | replace a112 := hG140 | skip
  first | replace a113 := (hF140 _ (by omega)).trans a113 | replace a113 := hG140 | skip
  first | replace a114 := (hF140 _ (by omega)).trans a114 | replace a114 := hG140 | skip
  first | replace a115 := (hF140 _ (by omega)).trans a115 | replace a115 := hG140 | skip
  first | replace a116 := (hF140 _ (by omega)).trans a116 | replace a116 := hG140 | skip
  first | replace a117 := (hF140 _ (by omega)).trans a117 | replace a117 := hG140 | skip
  first | replace a118 := (hF140 _ (by omega)).trans a118 | replace a118 := hG140 | skip
  first | replace a119 := (hF140 _ (by omega)).trans a119 | replace a119 := hG140 | skip
  first | replace a120 := (hF140 _ (by omega)).trans a120 | replace a120 := hG140 | skip
  first | replace a121 := (hF140 _ (by omega)).trans a121 | replace a121 := hG140 | skip
  refine v_aload_n C dX12_init_143 rfl ?_
  refine v_sipush (v := nI 300) C dX12_init_144 (by decide) ?_
  refine v_newaI (i := 122) C dX12_init_147 (by omega) ⟨by omega, by omega⟩ (fun G hG147 hF147 => ?_)
  first | replace ho := (hF147 _ (by omega)).trans ho | replace ho := hG147 | skip
  first | replace a105 := (hF147 _ (by omega)).trans a105 | replace a105 := hG147 | skip
  first | replace a106 := (hF147 _ (by omega)).trans a106 | replace a106 := hG147 | skip
  first | replace a107 := (hF147 _ (by omega)).trans a107 | replace a107 := hG147 | skip
  first | replace a108 := (hF147 _ (by omega)).trans a108 | replace a108 := hG147 | skip
  first | replace a109 := (hF147 _ (by omega)).trans a109 | replace a109 := hG147 | skip
  first | replace a110 := (hF147 _ (by omega)).trans a110 | replace a110 := hG147 | skip
  first | replace a111 := (hF147 _ (by omega)).trans a111 | replace a111 := hG147 | skip
  first | replace a112 := (hF147 _ (by omega)).trans a112 | replace a112 := hG147 | skip
  first | replace a113 := (hF147 _ (by omega)).trans a113 | replace a113 := hG147 | skip
  first | replace a114 := (hF147 _ (by omega)).trans a114 | replace a114 := hG147 | skip
  first | replace a115 := (hF147 _ (by omega)).trans a115 | replace a115 := hG147 | skip
  first | replace a116 := (hF147 _ (by omega)).trans a116 | replace a116 := hG147 | skip
  first | replace a117 := (hF147 _ (by omega)).trans a117 | replace a117 := hG147 | skip
  first | replace a118 := (hF147 _ (by omega)).trans a118 | replace a118 := hG147 | skip
  first | replace a119 := (hF147 _ (by omega)).trans a119 | replace a119 := hG147 | skip
  first | replace a120 := (hF147 _ (by omega)).trans a120 | replace a120 := hG147 | skip
  first | replace a121 := (hF147 _ (by omega)).trans a121 | replace a121 := hG147 | skip
  have a122 := hG147
  refine pf_X12_63 C dX12_init_149 hini (by assumption) (fun G hG149 hF149 => ?_)
  first | replace ho := (hF149 _ (by omega)).trans ho | replace ho := hG149 | skip
  first | replace a105 := (hF149 _ (by omega)).trans a105 | replace a105 := hG149 | skip
  first | replace a106 := (hF149 _ (by omega)).trans a106 | replace a106 := hG149 | skip
  first | replace a107 := (hF149 _ (by omega)).trans a107 | replace a107 := hG149 | skip
  first | replace a108 := (hF149 _ (by omega)).trans a108 | replace a108 := hG149 | skip
  first | replace a109 := (hF149 _ (by omega)).trans a109 | replace a109 := hG149 | skip
  first | replace a110 := (hF149 _ (by omega)).trans a110 | replace a110 := hG149 | skip
  first | replace a111 := (hF149 _ (by omega)).trans a111 | replace a111 := hG149 | skip
  first | replace a112 := (hF149 _ (by omega)).trans a112 | replace a112 := hG149 | skip
  first | replace a113 := (hF149 _ (by omega)).trans a113 | replace a113 := hG149 | skip
  first | replace a114 := (hF149 _ (by omega)).trans a114 | replace a114 := hG149 | skip
  first | replace a115 := (hF149 _ (by omega)).trans a115 | replace a115 := hG149 | skip
  first | replace a116 := (hF149 _ (by omega)).trans a116 | replace a116 := hG149 | skip
  first | replace a117 := (hF149 _ (by omega)).trans a117 | replace a117 := hG149 | skip
  first | replace a118 := (hF149 _ (by omega)).trans a118 | replace a118 := hG149 | skip
  first | replace a119 := (hF149 _ (by omega)).trans a119 | replace a119 := hG149 | skip
  first | replace a120 := (hF149 _ (by omega)).trans a120 | replace a120 := hG149 | skip
  first | replace a121 := (hF149 _ (by omega)).trans a121 | replace a121 := hG149 | skip
  first | replace a122 := (hF149 _ (by omega)).trans a122 | replace a122 := hG149 | skip
  refine v_aload_n C dX12_init_152 rfl ?_
  refine v_sipush (v := nI 300) C dX12_init_153 (by decide) ?_
  refine v_newaJ (i := 123) C dX12_init_156 (by omega) ⟨by omega, by omega⟩ (fun G hG156 hF156 => ?_)
  first | replace ho := (hF156 _ (by omega)).trans ho | replace ho := hG156 | skip
  first | replace a105 := (hF156 _ (by omega)).trans a105 | replace a105 := hG156 | skip
  first | replace a106 := (hF156 _ (by omega)).trans a106 | replace a106 := hG156 | skip
  first | replace a107 := (hF156 _ (by omega)).trans a107 | replace a107 := hG156 | skip
  first | replace a108 := (hF156 _ (by omega)).trans a108 | replace a108 := hG156 | skip
  first | replace a109 := (hF156 _ (by omega)).trans a109 | replace a109 := hG156 | skip
  first | replace a110 := (hF156 _ (by omega)).trans a110 | replace a110 := hG156 | skip
  first | replace a111 := (hF156 _ (by omega)).trans a111 | replace a111 := hG156 | skip
  first | replace a112 := (hF156 _ (by omega)).trans a112 | replace a112 := hG156 | skip
  first | replace a113 := (hF156 _ (by omega)).trans a113 | replace a113 := hG156 | skip
  first | replace a114 := (hF156 _ (by omega)).trans a114 | replace a114 := hG156 | skip
  first | replace a115 := (hF156 _ (by omega)).trans a115 | replace a115 := hG156 | skip
  first | replace a116 := (hF156 _ (by omega)).trans a116 | replace a116 := hG156 | skip
  first | replace a117 := (hF156 _ (by omega)).trans a117 | replace a117 := hG156 | skip
  first | replace a118 := (hF156 _ (by omega)).trans a118 | replace a118 := hG156 | skip
  first | replace a119 := (hF156 _ (by omega)).trans a119 | replace a119 := hG156 | skip
  first | replace a120 := (hF156 _ (by omega)).trans a120 | replace a120 := hG156 | skip
  first | replace a121 := (hF156 _ (by omega)).trans a121 | replace a121 := hG156 | skip
  first | replace a122 := (hF156 _ (by omega)).trans a122 | replace a122 := hG156 | skip
  have a123 := hG156
  refine pf_X12_66 C dX12_init_158 hini (by assumption) (fun G hG158 hF158 => ?_)
  first | replace ho := (hF158 _ (by omega)).trans ho | replace ho := hG158 | skip
  first | replace a105 := (hF158 _ (by omega)).trans a105 | replace a105 := hG158 | skip
  first | replace a106 := (hF158 _ (by omega)).trans a106 | replace a106 := hG158 | skip
  first | replace a107 := (hF158 _ (by omega)).trans a107 | replace a107 := hG158 | skip
  first | replace a108 := (hF158 _ (by omega)).trans a108 | replace a108 := hG158 | skip
  first | replace a109 := (hF158 _ (by omega)).trans a109 | replace a109 := hG158 | skip
  first | replace a110 := (hF158 _ (by omega)).trans a110 | replace a110 := hG158 | skip
  first | replace a111 := (hF158 _ (by omega)).trans a111 | replace a111 := hG158 | skip
  first | replace a112 := (hF158 _ (by omega)).trans a112 | replace a112 := hG158 | skip
  first | replace a113 := (hF158 _ (by omega)).trans a113 | replace a113 := hG158 | skip
  first | replace a114 := (hF158 _ (by omega)).trans a114 | replace a114 := hG158 | skip
  first | replace a115 := (hF158 _ (by omega)).trans a115 | replace a115 := hG158 | skip
  first | replace a116 := (hF158 _ (by omega)).trans a116 | replace a116 := hG158 | skip
  first | replace a117 := (hF158 _ (by omega)).trans a117 | replace a117 := hG158 | skip
  first | replace a118 := (hF158 _ (by omega)).trans a118 | replace a118 := hG158 | skip
  first | replace a119 := (hF158 _ (by omega)).trans a119 | replace a119 := hG158 | skip
  first | replace a120 := (hF158 _ (by omega)).trans a120 | replace a120 := hG158 | skip
  first | replace a121 := (hF158 _ (by omega)).trans a121 | replace a121 := hG158 | skip
  first | replace a122 := (hF158 _ (by omega)).trans a122 | replace a122 := hG158 | skip
  first | replace a123 := (hF158 _ (by omega)).trans a123 | replace a123 := hG158 | skip
  refine v_aload_n C dX12_init_161 rfl ?_
  refine v_sipush (v := nI 600) C dX12_init_162 (by decide) ?_
  refine v_newaI (i := 124) C dX12_init_165 (by omega) ⟨by omega, by omega⟩ (fun G hG165 hF165 => ?_)
  first | replace ho := (hF165 _ (by omega)).trans ho | replace ho := hG165 | skip
  first | replace a105 := (hF165 _ (by omega)).trans a105 | replace a105 := hG165 | skip
  first | replace a106 := (hF165 _ (by omega)).trans a106 | replace a106 := hG165 | skip
  first | replace a107 := (hF165 _ (by omega)).trans a107 | replace a107 := hG165 | skip
  first | replace a108 := (hF165 _ (by omega)).trans a108 | replace a108 := hG165 | skip
  first | replace a109 := (hF165 _ (by omega)).trans a109 | replace a109 := hG165 | skip
  first | replace a110 := (hF165 _ (by omega)).trans a110 | replace a110 := hG165 | skip
  first | replace a111 := (hF165 _ (by omega)).trans a111 | replace a111 := hG165 | skip
  first | replace a112 := (hF165 _ (by omega)).trans a112 | replace a112 := hG165 | skip
  first | replace a113 := (hF165 _ (by omega)).trans a113 | replace a113 := hG165 | skip
  first | replace a114 := (hF165 _ (by omega)).trans a114 | replace a114 := hG165 | skip
  first | replace a115 := (hF165 _ (by omega)).trans a115 | replace a115 := hG165 | skip
  first | replace a116 := (hF165 _ (by omega)).trans a116 | replace a116 := hG165 | skip
  first | replace a117 := (hF165 _ (by omega)).trans a117 | replace a117 := hG165 | skip
  first | replace a118 := (hF165 _ (by omega)).trans a118 | replace a118 := hG165 | skip
  first | replace a119 := (hF165 _ (by omega)).trans a119 | replace a119 := hG165 | skip
  first | replace a120 := (hF165 _ (by omega)).trans a120 | replace a120 := hG165 | skip
  first | replace a121 := (hF165 _ (by omega)).trans a121 | replace a121 := hG165 | skip
  first | replace a122 := (hF165 _ (by omega)).trans a122 | replace a122 := hG165 | skip
  first | replace a123 := (hF165 _ (by omega)).trans a123 | replace a123 := hG165 | skip
  have a124 := hG165
  refine pf_X12_69 C dX12_init_167 hini (by assumption) (fun G hG167 hF167 => ?_)
  first | replace ho := (hF167 _ (by omega)).trans ho | replace ho := hG167 | skip
  first | replace a105 := (hF167 _ (by omega)).trans a105 | replace a105 := hG167 | skip
  first | replace a106 := (hF167 _ (by omega)).trans a106 | replace a106 := hG167 | skip
  first | replace a107 := (hF167 _ (by omega)).trans a107 | replace a107 := hG167 | skip
  first | replace a108 := (hF167 _ (by omega)).trans a108 | replace a108 := hG167 | skip
  first | replace a109 := (hF167 _ (by omega)).trans a109 | replace a109 := hG167 | skip
  first | replace a110 := (hF167 _ (by omega)).trans a110 | replace a110 := hG167 | skip
  first | replace a111 := (hF167 _ (by omega)).trans a111 | replace a111 := hG167 | skip
  first | replace a112 := (hF167 _ (by omega)).trans a112 | replace a112 := hG167 | skip
  first | replace a113 := (hF167 _ (by omega)).trans a113 | replace a113 := hG167 | skip
  first | replace a114 := (hF167 _ (by omega)).trans a114 | replace a114 := hG167 | skip
  first | replace a115 := (hF167 _ (by omega)).trans a115 | replace a115 := hG167 | skip
  first | replace a116 := (hF167 _ (by omega)).trans a116 | replace a116 := hG167 | skip
  first | replace a117 := (hF167 _ (by omega)).trans a117 | replace a117 := hG167 | skip
  first | replace a118 := (hF167 _ (by omega)).trans a118 | replace a118 := hG167 | skip
  first | replace a119 := (hF167 _ (by omega)).trans a119 | replace a119 := hG167 | skip
  first | replace a120 := (hF167 _ (by omega)).trans a120 | replace a120 := hG167 | skip
  first | replace a121 := (hF167 _ (by omega)).trans a121 | replace a121 := hG167 | skip
  first | replace a122 := (hF167 _ (by omega)).trans a122 | replace a122 := hG167 | skip
  first | replace a123 := (hF167 _ (by omega)).trans a123 | replace a123 := hG167 | skip
  first | replace a124 := (hF167 _ (by omega)).trans a124 | replace a124 := hG167 | skip
  refine v_aload_n C dX12_init_170 rfl ?_
  refine v_sipush (v := nI 600) C dX12_init_171 (by decide) ?_
  refine v_newaJ (i := 125) C dX12_init_174 (by omega) ⟨by omega, by omega⟩ (fun G hG174 hF174 => ?_)
  first | replace ho := (hF174 _ (by omega)).trans ho | replace ho := hG174 | skip
  first | replace a105 := (hF174 _ (by omega)).trans a105 | replace a105 := hG174 | skip
  first | replace a106 := (hF174 _ (by omega)).trans a106 | replace a106 := hG174 | skip
  first | replace a107 := (hF174 _ (by omega)).trans a107 | replace a107 := hG174 | skip
  first | replace a108 := (hF174 _ (by omega)).trans a108 | replace a108 := hG174 | skip
  first | replace a109 := (hF174 _ (by omega)).trans a109 | replace a109 := hG174 | skip
  first | replace a110 := (hF174 _ (by omega)).trans a110 | replace a110 := hG174 | skip
  first | replace a111 := (hF174 _ (by omega)).trans a111 | replace a111 := hG174 | skip
  first | replace a112 := (hF174 _ (by omega)).trans a112 | replace a112 := hG174 | skip
  first | replace a113 := (hF174 _ (by omega)).trans a113 | replace a113 := hG174 | skip
  first | replace a114 := (hF174 _ (by omega)).trans a114 | replace a114 := hG174 | skip
  first | replace a115 := (hF174 _ (by omega)).trans a115 | replace a115 := hG174 | skip
  first | replace a116 := (hF174 _ (by omega)).trans a116 | replace a116 := hG174 | skip
  first | replace a117 := (hF174 _ (by omega)).trans a117 | replace a117 := hG174 | skip
  first | replace a118 := (hF174 _ (by omega)).trans a118 | replace a118 := hG174 | skip
  first | replace a119 := (hF174 _ (by omega)).trans a119 | replace a119 := hG174 | skip
  first | replace a120 := (hF174 _ (by omega)).trans a120 | replace a120 := hG174 | skip
  first | replace a121 := (hF174 _ (by omega)).trans a121 | replace a121 := hG174 | skip
  first | replace a122 := (hF174 _ (by omega)).trans a122 | replace a122 := hG174 | skip
  first | replace a123 := (hF174 _ (by omega)).trans a123 | replace a123 := hG174 | skip
  first | replace a124 := (hF174 _ (by omega)).trans a124 | replace a124 := hG174 | skip
  have a125 := hG174
  refine pf_X12_72 C dX12_init_176 hini (by assumption) (fun G hG176 hF176 => ?_)
  first | replace ho := (hF176 _ (by omega)).trans ho | replace ho := hG176 | skip
  first | replace a105 := (hF176 _ (by omega)).trans a105 | replace a105 := hG176 | skip
  first | replace a106 := (hF176 _ (by omega)).trans a106 | replace a106 := hG176 | skip
  first | replace a107 := (hF176 _ (by omega)).trans a107 | replace a107 := hG176 | skip
  first | replace a108 := (hF176 _ (by omega)).trans a108 | replace a108 := hG176 | skip
  first | replace a109 := (hF176 _ (by omega)).trans a109 | replace a109 := hG176 | skip
  first | replace a110 := (hF176 _ (by omega)).trans a110 | replace a110 := hG176 | skip
  first | replace a111 := (hF176 _ (by omega)).trans a111 | replace a111 := hG176 | skip
  first | replace a112 := (hF176 _ (by omega)).trans a112 | replace a112 := hG176 | skip
  first | replace a113 := (hF176 _ (by omega)).trans a113 | replace a113 := hG176 | skip
  first | replace a114 := (hF176 _ (by omega)).trans a114 | replace a114 := hG176 | skip
  first | replace a115 := (hF176 _ (by omega)).trans a115 | replace a115 := hG176 | skip
  first | replace a116 := (hF176 _ (by omega)).trans a116 | replace a116 := hG176 | skip
  first | replace a117 := (hF176 _ (by omega)).trans a117 | replace a117 := hG176 | skip
  first | replace a118 := (hF176 _ (by omega)).trans a118 | replace a118 := hG176 | skip
  first | replace a119 := (hF176 _ (by omega)).trans a119 | replace a119 := hG176 | skip
  first | replace a120 := (hF176 _ (by omega)).trans a120 | replace a120 := hG176 | skip
  first | replace a121 := (hF176 _ (by omega)).trans a121 | replace a121 := hG176 | skip
  first | replace a122 := (hF176 _ (by omega)).trans a122 | replace a122 := hG176 | skip
  first | replace a123 := (hF176 _ (by omega)).trans a123 | replace a123 := hG176 | skip
  first | replace a124 := (hF176 _ (by omega)).trans a124 | replace a124 := hG176 | skip
  first | replace a125 := (hF176 _ (by omega)).trans a125 | replace a125 := hG176 | skip
  refine v_aload_n C dX12_init_179 rfl ?_
  refine v_sipush (v := nI 600) C dX12_init_180 (by decide) ?_
  refine v_newaJ (i := 126) C dX12_init_183 (by omega) ⟨by omega, by omega⟩ (fun G hG183 hF183 => ?_)
  first | replace ho := (hF183 _ (by omega)).trans ho | replace ho := hG183 | skip
  first | replace a105 := (hF183 _ (by omega)).trans a105 | replace a105 := hG183 | skip
  first | replace a106 := (hF183 _ (by omega)).trans a106 | replace a106 := hG183 | skip
  first | replace a107 := (hF183 _ (by omega)).trans a107 | replace a107 := hG183 | skip
  first | replace a108 := (hF183 _ (by omega)).trans a108 | replace a108 := hG183 | skip
  first | replace a109 := (hF183 _ (by omega)).trans a109 | replace a109 := hG183 | skip
  first | replace a110 := (hF183 _ (by omega)).trans a110 | replace a110 := hG183 | skip
  first | replace a111 := (hF183 _ (by omega)).trans a111 | replace a111 := hG183 | skip
  first | replace a112 := (hF183 _ (by omega)).trans a112 | replace a112 := hG183 | skip
  first | replace a113 := (hF183 _ (by omega)).trans a113 | replace a113 := hG183 | skip
  first | replace a114 := (hF183 _ (by omega)).trans a114 | replace a114 := hG183 | skip
  first | replace a115 := (hF183 _ (by omega)).trans a115 | replace a115 := hG183 | skip
  first | replace a116 := (hF183 _ (by omega)).trans a116 | replace a116 := hG183 | skip
  first | replace a117 := (hF183 _ (by omega)).trans a117 | replace a117 := hG183 | skip
  first | replace a118 := (hF183 _ (by omega)).trans a118 | replace a118 := hG183 | skip
  first | replace a119 := (hF183 _ (by omega)).trans a119 | replace a119 := hG183 | skip
  first | replace a120 := (hF183 _ (by omega)).trans a120 | replace a120 := hG183 | skip
  first | replace a121 := (hF183 _ (by omega)).trans a121 | replace a121 := hG183 | skip
  first | replace a122 := (hF183 _ (by omega)).trans a122 | replace a122 := hG183 | skip
  first | replace a123 := (hF183 _ (by omega)).trans a123 | replace a123 := hG183 | skip
  first | replace a124 := (hF183 _ (by omega)).trans a124 | replace a124 := hG183 | skip
  first | replace a125 := (hF183 _ (by omega)).trans a125 | replace a125 := hG183 | skip
  have a126 := hG183
  refine pf_X12_75 C dX12_init_185 hini (by assumption) (fun G hG185 hF185 => ?_)
  first | replace ho := (hF185 _ (by omega)).trans ho | replace ho := hG185 | skip
  first | replace a105 := (hF185 _ (by omega)).trans a105 | replace a105 := hG185 | skip
  first | replace a106 := (hF185 _ (by omega)).trans a106 | replace a106 := hG185 | skip
  first | replace a107 := (hF185 _ (by omega)).trans a107 | replace a107 := hG185 | skip
  first | replace a108 := (hF185 _ (by omega)).trans a108 | replace a108 := hG185 | skip
  first | replace a109 := (hF185 _ (by omega)).trans a109 | replace a109 := hG185 | skip
  first | replace a110 := (hF185 _ (by omega)).trans a110 | replace a110 := hG185 | skip
  first | replace a111 := (hF185 _ (by omega)).trans a111 | replace a111 := hG185 | skip
  first | replace a112 := (hF185 _ (by omega)).trans a112 | replace a112 := hG185 | skip
  first | replace a113 := (hF185 _ (by omega)).trans a113 | replace a113 := hG185 | skip
  first | replace a114 := (hF185 _ (by omega)).trans a114 | replace a114 := hG185 | skip
  first | replace a115 := (hF185 _ (by omega)).trans a115 | replace a115 := hG185 | skip
  first | replace a116 := (hF185 _ (by omega)).trans a116 | replace a116 := hG185 | skip
  first | replace a117 := (hF185 _ (by omega)).trans a117 | replace a117 := hG185 | skip
  first | replace a118 := (hF185 _ (by omega)).trans a118 | replace a118 := hG185 | skip
  first | replace a119 := (hF185 _ (by omega)).trans a119 | replace a119 := hG185 | skip
  first | replace a120 := (hF185 _ (by omega)).trans a120 | replace a120 := hG185 | skip
  first | replace a121 := (hF185 _ (by omega)).trans a121 | replace a121 := hG185 | skip
  first | replace a122 := (hF185 _ (by omega)).trans a122 | replace a122 := hG185 | skip
  first | replace a123 := (hF185 _ (by omega)).trans a123 | replace a123 := hG185 | skip
  first | replace a124 := (hF185 _ (by omega)).trans a124 | replace a124 := hG185 | skip
  first | replace a125 := (hF185 _ (by omega)).trans a125 | replace a125 := hG185 | skip
  first | replace a126 := (hF185 _ (by omega)).trans a126 | replace a126 := hG185 | skip
  refine v_iload_n C dX12_init_188 rfl ?_
  refine v_iconst (v := nI 2) C dX12_init_189 (by decide) ?_
  refine v_ldc C tw820 dX12_init_190 ?_
  refine v_topi (show _ = nI 65521 by decide) ?_
  refine mc_X12_79 C dX12_init_192 (c_Mo_within _ E _ (x := x1) (a := 2) (b := 65521) (by omega) (by omega)) (okr_s rfl (by omega) (by omega)) (fun r192 G192 hp192 => ?_)
  obtain ⟨hr192, rfl⟩ := hp192
  subst hr192
  have hw192 := wi_bd (x := x1) (show 2 ≤ 65521 by decide)
  refine v_istore_5 C dX12_init_195 (by decide) (by first | rfl | assumption) ?_
  refine v_sl (cells2 := 22) (slots2 := 22504) (by omega) (by omega) ?_
  refine mpi_loop C (n := wi x1 2 65521) ?_ 65523 (wi x1 2 65521) (by omega) hw192.2 (by omega) (fun q h1 h2 => by omega)
  intro P hlp
  refine v_aload_n C dX12_init_211 rfl ?_
  refine v_iload C dX12_init_212 rfl ?_
  refine pf_X12_87 C dX12_init_214 hini (by assumption) (fun G hG214 hF214 => ?_)
  first | replace ho := (hF214 _ (by omega)).trans ho | replace ho := hG214 | skip
  first | replace a105 := (hF214 _ (by omega)).trans a105 | replace a105 := hG214 | skip
  first | replace a106 := (hF214 _ (by omega)).trans a106 | replace a106 := hG214 | skip
  first | replace a107 := (hF214 _ (by omega)).trans a107 | replace a107 := hG214 | skip
  first | replace a108 := (hF214 _ (by omega)).trans a108 | replace a108 := hG214 | skip
  first | replace a109 := (hF214 _ (by omega)).trans a109 | replace a109 := hG214 | skip
  first | replace a110 := (hF214 _ (by omega)).trans a110 | replace a110 := hG214 | skip
  first | replace a111 := (hF214 _ (by omega)).trans a111 | replace a111 := hG214 | skip
  first | replace a112 := (hF214 _ (by omega)).trans a112 | replace a112 := hG214 | skip
  first | replace a113 := (hF214 _ (by omega)).trans a113 | replace a113 := hG214 | skip
  first | replace a114 := (hF214 _ (by omega)).trans a114 | replace a114 := hG214 | skip
  first | replace a115 := (hF214 _ (by omega)).trans a115 | replace a115 := hG214 | skip
  first | replace a116 := (hF214 _ (by omega)).trans a116 | replace a116 := hG214 | skip
  first | replace a117 := (hF214 _ (by omega)).trans a117 | replace a117 := hG214 | skip
  first | replace a118 := (hF214 _ (by omega)).trans a118 | replace a118 := hG214 | skip
  first | replace a119 := (hF214 _ (by omega)).trans a119 | replace a119 := hG214 | skip
  first | replace a120 := (hF214 _ (by omega)).trans a120 | replace a120 := hG214 | skip
  first | replace a121 := (hF214 _ (by omega)).trans a121 | replace a121 := hG214 | skip
  first | replace a122 := (hF214 _ (by omega)).trans a122 | replace a122 := hG214 | skip
  first | replace a123 := (hF214 _ (by omega)).trans a123 | replace a123 := hG214 | skip
  first | replace a124 := (hF214 _ (by omega)).trans a124 | replace a124 := hG214 | skip
  first | replace a125 := (hF214 _ (by omega)).trans a125 | replace a125 := hG214 | skip
  first | replace a126 := (hF214 _ (by omega)).trans a126 | replace a126 := hG214 | skip
  refine v_aload_n C dX12_init_217 rfl ?_
  refine v_iload_n C dX12_init_218 rfl ?_
  refine v_iconst (v := nI 1) C dX12_init_219 (by decide) ?_
  refine v_sipush (v := nI 256) C dX12_init_220 (by decide) ?_
  refine mc_X12_79 C dX12_init_223 (c_Mo_within _ E _ (x := x2) (a := 1) (b := 256) (by omega) (by omega)) (okr_s rfl (by omega) (by omega)) (fun r223 G223 hp223 => ?_)
  obtain ⟨hr223, rfl⟩ := hp223
  subst hr223
  have hw223 := wi_bd (x := x2) (show 1 ≤ 256 by decide)
  refine pf_X12_91 C dX12_init_226 hini (by assumption) (fun G hG226 hF226 => ?_)
  first | replace ho := (hF226 _ (by omega)).trans ho | replace ho := hG226 | skip
  first | replace a105 := (hF226 _ (by omega)).trans a105 | replace a105 := hG226 | skip
  first | replace a106 := (hF226 _ (by omega)).trans a106 | replace a106 := hG226 | skip
  first | replace a107 := (hF226 _ (by omega)).trans a107 | replace a107 := hG226 | skip
  first | replace a108 := (hF226 _ (by omega)).trans a108 | replace a108 := hG226 | skip
  first | replace a109 := (hF226 _ (by omega)).trans a109 | replace a109 := hG226 | skip
  first | replace a110 := (hF226 _ (by omega)).trans a110 | replace a110 := hG226 | skip
  first | replace a111 := (hF226 _ (by omega)).trans a111 | replace a111 := hG226 | skip
  first | replace a112 := (hF226 _ (by omega)).trans a112 | replace a112 := hG226 | skip
  first | replace a113 := (hF226 _ (by omega)).trans a113 | replace a113 := hG226 | skip
  first | replace a114 := (hF226 _ (by omega)).trans a114 | replace a114 := hG226 | skip
  first | replace a115 := (hF226 _ (by omega)).trans a115 | replace a115 := hG226 | skip
  first | replace a116 := (hF226 _ (by omega)).trans a116 | replace a116 := hG226 | skip
  first | replace a117 := (hF226 _ (by omega)).trans a117 | replace a117 := hG226 | skip
  first | replace a118 := (hF226 _ (by omega)).trans a118 | replace a118 := hG226 | skip
  first | replace a119 := (hF226 _ (by omega)).trans a119 | replace a119 := hG226 | skip
  first | replace a120 := (hF226 _ (by omega)).trans a120 | replace a120 := hG226 | skip
  first | replace a121 := (hF226 _ (by omega)).trans a121 | replace a121 := hG226 | skip
  first | replace a122 := (hF226 _ (by omega)).trans a122 | replace a122 := hG226 | skip
  first | replace a123 := (hF226 _ (by omega)).trans a123 | replace a123 := hG226 | skip
  first | replace a124 := (hF226 _ (by omega)).trans a124 | replace a124 := hG226 | skip
  first | replace a125 := (hF226 _ (by omega)).trans a125 | replace a125 := hG226 | skip
  first | replace a126 := (hF226 _ (by omega)).trans a126 | replace a126 := hG226 | skip
  refine v_aload_n C dX12_init_229 rfl ?_
  refine v_iload_n C dX12_init_230 rfl ?_
  refine v_iconst (v := nI 1) C dX12_init_231 (by decide) ?_
  refine v_bipush (v := nI 8) C dX12_init_232 (by decide) ?_
  refine mc_X12_79 C dX12_init_234 (c_Mo_within _ E _ (x := x3) (a := 1) (b := 8) (by omega) (by omega)) (okr_s rfl (by omega) (by omega)) (fun r234 G234 hp234 => ?_)
  obtain ⟨hr234, rfl⟩ := hp234
  subst hr234
  have hw234 := wi_bd (x := x3) (show 1 ≤ 8 by decide)
  refine pf_X12_94 C dX12_init_237 hini (by assumption) (fun G hG237 hF237 => ?_)
  first | replace ho := (hF237 _ (by omega)).trans ho | replace ho := hG237 | skip
  first | replace a105 := (hF237 _ (by omega)).trans a105 | replace a105 := hG237 | skip
  first | replace a106 := (hF237 _ (by omega)).trans a106 | replace a106 := hG237 | skip
  first | replace a107 := (hF237 _ (by omega)).trans a107 | replace a107 := hG237 | skip
  first | replace a108 := (hF237 _ (by omega)).trans a108 | replace a108 := hG237 | skip
  first | replace a109 := (hF237 _ (by omega)).trans a109 | replace a109 := hG237 | skip
  first | replace a110 := (hF237 _ (by omega)).trans a110 | replace a110 := hG237 | skip
  first | replace a111 := (hF237 _ (by omega)).trans a111 | replace a111 := hG237 | skip
  first | replace a112 := (hF237 _ (by omega)).trans a112 | replace a112 := hG237 | skip
  first | replace a113 := (hF237 _ (by omega)).trans a113 | replace a113 := hG237 | skip
  first | replace a114 := (hF237 _ (by omega)).trans a114 | replace a114 := hG237 | skip
  first | replace a115 := (hF237 _ (by omega)).trans a115 | replace a115 := hG237 | skip
  first | replace a116 := (hF237 _ (by omega)).trans a116 | replace a116 := hG237 | skip
  first | replace a117 := (hF237 _ (by omega)).trans a117 | replace a117 := hG237 | skip
  first | replace a118 := (hF237 _ (by omega)).trans a118 | replace a118 := hG237 | skip
  first | replace a119 := (hF237 _ (by omega)).trans a119 | replace a119 := hG237 | skip
  first | replace a120 := (hF237 _ (by omega)).trans a120 | replace a120 := hG237 | skip
  first | replace a121 := (hF237 _ (by omega)).trans a121 | replace a121 := hG237 | skip
  first | replace a122 := (hF237 _ (by omega)).trans a122 | replace a122 := hG237 | skip
  first | replace a123 := (hF237 _ (by omega)).trans a123 | replace a123 := hG237 | skip
  first | replace a124 := (hF237 _ (by omega)).trans a124 | replace a124 := hG237 | skip
  first | replace a125 := (hF237 _ (by omega)).trans a125 | replace a125 := hG237 | skip
  first | replace a126 := (hF237 _ (by omega)).trans a126 | replace a126 := hG237 | skip
  refine v_aload_n C dX12_init_240 rfl ?_
  refine v_iload C dX12_init_241 rfl ?_
  refine v_iconst (v := nI 1) C dX12_init_243 (by decide) ?_
  refine v_bipush (v := nI 64) C dX12_init_244 (by decide) ?_
  refine mc_X12_79 C dX12_init_246 (c_Mo_within _ E _ (x := x4) (a := 1) (b := 64) (by omega) (by omega)) (okr_s rfl (by omega) (by omega)) (fun r246 G246 hp246 => ?_)
  obtain ⟨hr246, rfl⟩ := hp246
  subst hr246
  have hw246 := wi_bd (x := x4) (show 1 ≤ 64 by decide)
  refine pf_X12_97 C dX12_init_249 hini (by assumption) (fun G hG249 hF249 => ?_)
  first | replace ho := (hF249 _ (by omega)).trans ho | replace ho := hG249 | skip
  first | replace a105 := (hF249 _ (by omega)).trans a105 | replace a105 := hG249 | skip
  first | replace a106 := (hF249 _ (by omega)).trans a106 | replace a106 := hG249 | skip
  first | replace a107 := (hF249 _ (by omega)).trans a107 | replace a107 := hG249 | skip
  first | replace a108 := (hF249 _ (by omega)).trans a108 | replace a108 := hG249 | skip
  first | replace a109 := (hF249 _ (by omega)).trans a109 | replace a109 := hG249 | skip
  first | replace a110 := (hF249 _ (by omega)).trans a110 | replace a110 := hG249 | skip
  first | replace a111 := (hF249 _ (by omega)).trans a111 | replace a111 := hG249 | skip
  first | replace a112 := (hF249 _ (by omega)).trans a112 | replace a112 := hG249 | skip
  first | replace a113 := (hF249 _ (by omega)).trans a113 | replace a113 := hG249 | skip
  first | replace a114 := (hF249 _ (by omega)).trans a114 | replace a114 := hG249 | skip
  first | replace a115 := (hF249 _ (by omega)).trans a115 | replace a115 := hG249 | skip
  first | replace a116 := (hF249 _ (by omega)).trans a116 | replace a116 := hG249 | skip
  first | replace a117 := (hF249 _ (by omega)).trans a117 | replace a117 := hG249 | skip
  first | replace a118 := (hF249 _ (by omega)).trans a118 | replace a118 := hG249 | skip
  first | replace a119 := (hF249 _ (by omega)).trans a119 | replace a119 := hG249 | skip
  first | replace a120 := (hF249 _ (by omega)).trans a120 | replace a120 := hG249 | skip
  first | replace a121 := (hF249 _ (by omega)).trans a121 | replace a121 := hG249 | skip
  first | replace a122 := (hF249 _ (by omega)).trans a122 | replace a122 := hG249 | skip
  first | replace a123 := (hF249 _ (by omega)).trans a123 | replace a123 := hG249 | skip
  first | replace a124 := (hF249 _ (by omega)).trans a124 | replace a124 := hG249 | skip
  first | replace a125 := (hF249 _ (by omega)).trans a125 | replace a125 := hG249 | skip
  first | replace a126 := (hF249 _ (by omega)).trans a126 | replace a126 := hG249 | skip
  refine v_iconst (v := nI 0) C dX12_init_252 (by decide) ?_
  refine v_istore_6 C dX12_init_253 (by decide) (by first | rfl | assumption) ?_
  refine mri_loop C (W := wi x2 1 256) (R := wi x3 1 8) (lim := wi x4 1 64) ⟨by have := hlp.1; omega, hlp.2.1, hw223.1, hw223.2, hw234.1, hw234.2⟩ hw246 ?_ (wi x3 1 8 + 1) 0 (by omega) (by omega) G _ _ ho a105 a106 (fun j hj => by omega) (fun _ _ => rfl)
  intro G9 hm9 hfr9
  refine ⟨P, hlp, ⟨hm9, ⟨_, ((hfr9 _ (by omega)).trans a107), fun s hs => rfl⟩, ⟨_, ((hfr9 _ (by omega)).trans a108), fun q r c _ _ _ => rfl⟩, ⟨_, ((hfr9 _ (by omega)).trans a109), fun q r c _ _ _ => rfl⟩, ⟨_, _, _, _, ((hfr9 _ (by omega)).trans a110), ((hfr9 _ (by omega)).trans a111), ((hfr9 _ (by omega)).trans a112), ((hfr9 _ (by omega)).trans a113), fun s hs => ⟨rfl, rfl, fun j c h => by simp [zM, strEmpty] at h, by simp [zM, strEmpty], fun c h => by simp [zM, strEmpty] at h, by simp [zM, strEmpty, ckeys]⟩⟩, ⟨_, _, _, _, ((hfr9 _ (by omega)).trans a114), ((hfr9 _ (by omega)).trans a115), ((hfr9 _ (by omega)).trans a116), ((hfr9 _ (by omega)).trans a117), fun s hs => ⟨rfl, fun j c h => by simp [zS, strEmpty] at h, by simp [zS, strEmpty], fun c h => by simp [zS, strEmpty] at h, by simp [zS, strEmpty, ckeys]⟩⟩, ⟨_, _, _, _, ((hfr9 _ (by omega)).trans a118), ((hfr9 _ (by omega)).trans a119), ((hfr9 _ (by omega)).trans a120), ((hfr9 _ (by omega)).trans a121), fun s hs => ⟨rfl, rfl, fun j c h => by simp [zK, strEmpty] at h, by simp [zK, strEmpty], fun c h => by simp [zK, strEmpty] at h, by simp [zK, strEmpty, nkeys]⟩⟩⟩, ⟨_, _, _, ((hfr9 _ (by omega)).trans a124), ((hfr9 _ (by omega)).trans a125), ((hfr9 _ (by omega)).trans a126)⟩, ⟨_, _, ((hfr9 _ (by omega)).trans a122), ((hfr9 _ (by omega)).trans a123), fun i c h => by simp at h, by simp, fun c h => by simp at h⟩, fun j hj => ?_⟩
  rw [hfr9 j (by omega), hF249 j (by omega), hF237 j (by omega), hF226 j (by omega), hF214 j (by omega), hF185 j (by omega), hF183 j (by omega), hF176 j (by omega), hF174 j (by omega), hF167 j (by omega), hF165 j (by omega), hF158 j (by omega), hF156 j (by omega), hF149 j (by omega), hF147 j (by omega), hF140 j (by omega), hF138 j (by omega), hF131 j (by omega), hF129 j (by omega), hF122 j (by omega), hF120 j (by omega), hF115 j (by omega), hF113 j (by omega), hF108 j (by omega), hF106 j (by omega), hF99 j (by omega), hF97 j (by omega), hF90 j (by omega), hF88 j (by omega), hF81 j (by omega), hF79 j (by omega), hF74 j (by omega), hF72 j (by omega), hF65 j (by omega), hF63 j (by omega), hF56 j (by omega), hF54 j (by omega), hF49 j (by omega), hF47 j (by omega), hF42 j (by omega), hF40 j (by omega), hF33 j (by omega), hF31 j (by omega), hF24 j (by omega), hF22 j (by omega), hF17 j (by omega), hF15 j (by omega), hF9 j (by omega), hF7 j (by omega)]

