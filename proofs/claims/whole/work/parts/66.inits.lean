theorem v_sl {M : Mx} {E : Ev} {nL : Nat} {Q : State → Prop} {z : Option Nat} {cells cells2 slots slots2 : Nat} {G : Gh} {pc : Nat} {lo : List (Option Value)} {st : List Value} (e1 : cells = cells2) (e2 : slots = slots2) (h : V M E nL Q z cells2 slots2 G pc lo st) : V M E nL Q z cells slots G pc lo st := by rw [e1, e2]; exact h
theorem v_cv {M : Mx} {E : Ev} {nL : Nat} {Q : State → Prop} {z : Option Nat} {cells slots : Nat} {G G2 : Gh} {pc : Nat} {lo : List (Option Value)} {st : List Value} (e : ∀ H, gS E G H → gS E G2 H) (h : V M E nL Q z cells slots G2 pc lo st) : V M E nL Q z cells slots G pc lo st := fun H locs ls a b c d => h H locs ls (e H a) b c d
theorem arrV_cg (c : ClassId) {N : Nat} {f g : Nat → Value} (h : ∀ j, j < N → f j = g j) : arrV c N f = arrV c N g := by
  unfold arrV
  congr 1
  apply Array.ext
  · simp
  · intro i h1 h2
    simp at h1 h2 ⊢
    exact h i (by omega)
theorem gS.cR {E : Ev} {G : Gh} {H : Heap} {t n i : Nat} {f g : Nat → Option Nat} (h : gS E G H) (hG : G i = cR E t n f) (hfg : ∀ j, j < n → f j = g j) : gS E (gup G i (cR E t n g)) H := by
  intro j e he
  by_cases q9 : j = i
  · subst q9
    rw [gup_self] at he
    cases he
    have h9 := h j _ hG
    show H[ga E j]? = some (vp_cell _ _)
    rw [vp_cell_q, ← arrV_cg (f := fun j => va_rf (f j)) _ (fun j hj => by rw [hfg j hj]), ← vp_cell_q]
    exact h9
  · rw [gup_ne _ _ q9] at he
    exact h j e he

set_option maxHeartbeats 4000000 in
set_option maxRecDepth 100000 in
theorem i_KS (l : Launch) (E : Ev) {G : Gh} {b P : Nat} {S : Nat → Prop} (hP : P < 65536) (hS : ∀ k, ¬ S k) (h0 : G b = cO 5 [.null]) : K_X5_init l E (1) (P / 64 + 1) (some (ga E (b + 1))) (some (ga E (b + 2))) G [.ref (ga E b), .int (nI P)] (fun _ G2 => isKS E G2 b P S ∧ ∀ j, j ≠ b ∧ j ≠ b + 1 → G2 j = G j) := by
  refine Fc.of rfl [some (.ref (ga E b)), some (.int (nI P))] 0 rfl (Nat.le_of_ble_eq_true rfl) ?_
  intro M hM0 hini C
  subst hM0
  replace hini := hini rfl
  refine v_aload_n C dX5_init_0 rfl ?_
  refine mc_X5_1 C dX5_init_1 (Nat.le_of_ble_eq_true rfl) (Nat.le_of_ble_eq_true rfl) ?_
  refine v_aload_n C dX5_init_4 rfl ?_
  refine v_iload_n C dX5_init_5 rfl ?_
  refine v_bipush (v := nI 64) C dX5_init_6 (by decide) ?_
  refine v_idivn C dX5_init_8 (by omega) (by omega) (by omega) ?_
  refine v_iconst (v := nI 1) C dX5_init_9 (by decide) ?_
  first | refine v_iaddn C dX5_init_10 ?_ | refine v_iadd C dX5_init_10 ?_
  refine v_newaJ C dX5_init_11 (by omega) ⟨by omega, by omega⟩ (fun G hG11 hF11 => ?_)
  first | replace h0 := (hF11 _ (by omega)).trans h0 | replace h0 := hG11 | skip
  have h1 := hG11
  refine pf_X5_7 C dX5_init_13 hini (by assumption) (fun G hG13 hF13 => ?_)
  first | replace h0 := (hF13 _ (by omega)).trans h0 | replace h0 := hG13 | skip
  first | replace h1 := (hF13 _ (by omega)).trans h1 | replace h1 := hG13 | skip
  refine v_sl (cells2 := 1) (slots2 := P / 64 + 1) (by omega) (by omega) ?_
  refine v_vret C dX5_init_16 ?_
  exact ⟨⟨_, h0, h1, fun k hk => absurd hk (hS k)⟩, fun j hj => by rw [hF13 j (by omega), hF11 j (by omega)]⟩

set_option maxHeartbeats 4000000 in
set_option maxRecDepth 100000 in
theorem i_Ctr (l : Launch) (E : Ev) {G : Gh} {b P lim : Nat} (hP : P ≤ 65521) (hlim : 1 ≤ lim ∧ lim ≤ 64) (h0 : G b = cO 1 [.int (nI 0), .null, .null, .null, .null, .int (nI 0)]) : K_X1_init l E (5) (6 * lim + 1 + (P / 64 + 1)) (some (ga E (b + 1))) (some (ga E (b + 6))) G [.ref (ga E b), .int (nI P), .int (nI lim)] (fun _ G2 => isCtr E G2 b P lim [] ∧ ∀ j, (j < b ∨ b + 6 ≤ j) → G2 j = G j) := by
  refine Fc.of rfl [some (.ref (ga E b)), some (.int (nI P)), some (.int (nI lim))] 0 rfl (Nat.le_of_ble_eq_true rfl) ?_
  intro M hM0 hini C
  subst hM0
  replace hini := hini rfl
  refine v_aload_n C dX1_init_0 rfl ?_
  refine mc_X1_3 C dX1_init_1 (Nat.le_of_ble_eq_true rfl) (Nat.le_of_ble_eq_true rfl) ?_
  refine v_aload_n C dX1_init_4 rfl ?_
  refine v_iload_n C dX1_init_5 rfl ?_
  refine pf_X1_9 C dX1_init_6 hini (by assumption) (fun G hG6 hF6 => ?_)
  first | replace h0 := (hF6 _ (by omega)).trans h0 | replace h0 := hG6 | skip
  refine v_aload_n C dX1_init_9 rfl ?_
  refine v_iconst (v := nI 2) C dX1_init_10 (by decide) ?_
  refine v_iload_n C dX1_init_11 rfl ?_
  first | refine v_imuln C dX1_init_12 ?_ | refine v_imul C dX1_init_12 ?_
  refine v_newaI C dX1_init_13 (by omega) ⟨by omega, by omega⟩ (fun G hG13 hF13 => ?_)
  first | replace h0 := (hF13 _ (by omega)).trans h0 | replace h0 := hG13 | skip
  have h1 := hG13
  refine pf_X1_15 C dX1_init_15 hini (by assumption) (fun G hG15 hF15 => ?_)
  first | replace h0 := (hF15 _ (by omega)).trans h0 | replace h0 := hG15 | skip
  first | replace h1 := (hF15 _ (by omega)).trans h1 | replace h1 := hG15 | skip
  refine v_aload_n C dX1_init_18 rfl ?_
  refine v_iconst (v := nI 2) C dX1_init_19 (by decide) ?_
  refine v_iload_n C dX1_init_20 rfl ?_
  first | refine v_imuln C dX1_init_21 ?_ | refine v_imul C dX1_init_21 ?_
  refine v_newaJ C dX1_init_22 (by omega) ⟨by omega, by omega⟩ (fun G hG22 hF22 => ?_)
  first | replace h0 := (hF22 _ (by omega)).trans h0 | replace h0 := hG22 | skip
  first | replace h1 := (hF22 _ (by omega)).trans h1 | replace h1 := hG22 | skip
  have h2 := hG22
  refine pf_X1_19 C dX1_init_24 hini (by assumption) (fun G hG24 hF24 => ?_)
  first | replace h0 := (hF24 _ (by omega)).trans h0 | replace h0 := hG24 | skip
  first | replace h1 := (hF24 _ (by omega)).trans h1 | replace h1 := hG24 | skip
  first | replace h2 := (hF24 _ (by omega)).trans h2 | replace h2 := hG24 | skip
  refine v_aload_n C dX1_init_27 rfl ?_
  refine v_iconst (v := nI 2) C dX1_init_28 (by decide) ?_
  refine v_iload_n C dX1_init_29 rfl ?_
  first | refine v_imuln C dX1_init_30 ?_ | refine v_imul C dX1_init_30 ?_
  refine v_newaJ C dX1_init_31 (by omega) ⟨by omega, by omega⟩ (fun G hG31 hF31 => ?_)
  first | replace h0 := (hF31 _ (by omega)).trans h0 | replace h0 := hG31 | skip
  first | replace h1 := (hF31 _ (by omega)).trans h1 | replace h1 := hG31 | skip
  first | replace h2 := (hF31 _ (by omega)).trans h2 | replace h2 := hG31 | skip
  have h3 := hG31
  refine pf_X1_23 C dX1_init_33 hini (by assumption) (fun G hG33 hF33 => ?_)
  first | replace h0 := (hF33 _ (by omega)).trans h0 | replace h0 := hG33 | skip
  first | replace h1 := (hF33 _ (by omega)).trans h1 | replace h1 := hG33 | skip
  first | replace h2 := (hF33 _ (by omega)).trans h2 | replace h2 := hG33 | skip
  first | replace h3 := (hF33 _ (by omega)).trans h3 | replace h3 := hG33 | skip
  refine v_aload_n C dX1_init_36 rfl ?_
  refine nn_X1_26 C dX1_init_37 ⟨by omega, by omega⟩ (fun G hG37 hF37 => ?_)
  first | replace h0 := (hF37 _ (by omega)).trans h0 | replace h0 := hG37 | skip
  first | replace h1 := (hF37 _ (by omega)).trans h1 | replace h1 := hG37 | skip
  first | replace h2 := (hF37 _ (by omega)).trans h2 | replace h2 := hG37 | skip
  first | replace h3 := (hF37 _ (by omega)).trans h3 | replace h3 := hG37 | skip
  have h4 := hG37
  refine v_dup C dX1_init_40 rfl ?_
  refine v_iload_n C dX1_init_41 rfl ?_
  refine mc_X1_28 C dX1_init_42 (i_KS _ E (b := b + 4) (P := P) (S := fun k => k ∈ ckeys []) (by omega) (fun k h => by simp [ckeys] at h) h4) rfl ⟨by omega, by omega⟩ (fun r42 G42 hp42 => ?_)
  obtain ⟨hks, hfr42⟩ := hp42
  replace h0 := (hfr42 _ (by omega)).trans h0
  replace h1 := (hfr42 _ (by omega)).trans h1
  replace h2 := (hfr42 _ (by omega)).trans h2
  replace h3 := (hfr42 _ (by omega)).trans h3
  clear h4
  refine pf_X1_31 C dX1_init_45 hini (by assumption) (fun G hG45 hF45 => ?_)
  first | replace h0 := (hF45 _ (by omega)).trans h0 | replace h0 := hG45 | skip
  first | replace h1 := (hF45 _ (by omega)).trans h1 | replace h1 := hG45 | skip
  first | replace h2 := (hF45 _ (by omega)).trans h2 | replace h2 := hG45 | skip
  first | replace h3 := (hF45 _ (by omega)).trans h3 | replace h3 := hG45 | skip
  first | replace h4 := (hF45 _ (by omega)).trans h4 | replace h4 := hG45 | skip
  refine v_sl (cells2 := 5) (slots2 := 6 * lim + 1 + (P / 64 + 1)) (by omega) (by omega) ?_
  refine v_vret C dX1_init_48 ?_
  exact ⟨⟨_, _, _, h0, h1, h2, h3, hks.keep (fun j a b => hF45 j (by omega)), fun j c h => by simp at h, ⟨hlim.1, hlim.2, by simp, by omega⟩, fun c h => by simp at h, by simp [ckeys]⟩, fun j hj => by rw [hF45 j (by omega), hfr42 j (by omega), hF37 j (by omega), hF33 j (by omega), hF31 j (by omega), hF24 j (by omega), hF22 j (by omega), hF15 j (by omega), hF13 j (by omega), hF6 j (by omega)]⟩

set_option maxHeartbeats 4000000 in
set_option maxRecDepth 100000 in
theorem i_Mis (l : Launch) (E : Ev) {G : Gh} {b P lim : Nat} (hP : P ≤ 65521) (hlim : 1 ≤ lim ∧ lim ≤ 64) (h0 : G b = cO 6 [.null, .long (lN 0)]) : K_X6_init l E (6) (6 + (6 * lim + 1 + (P / 64 + 1))) (some (ga E (b + 1))) (some (ga E (b + 7))) G [.ref (ga E b), .int (nI P), .int (nI lim)] (fun _ G2 => isMis E G2 b P lim [] 0 ∧ ∀ j, (j < b ∨ b + 7 ≤ j) → G2 j = G j) := by
  refine Fc.of rfl [some (.ref (ga E b)), some (.int (nI P)), some (.int (nI lim))] 0 rfl (Nat.le_of_ble_eq_true rfl) ?_
  intro M hM0 hini C
  subst hM0
  replace hini := hini rfl
  refine v_aload_n C dX6_init_0 rfl ?_
  refine mc_X6_1 C dX6_init_1 (Nat.le_of_ble_eq_true rfl) (Nat.le_of_ble_eq_true rfl) ?_
  refine v_aload_n C dX6_init_4 rfl ?_
  refine nn_X6_7 C dX6_init_5 ⟨by omega, by omega⟩ (fun G hG5 hF5 => ?_)
  first | replace h0 := (hF5 _ (by omega)).trans h0 | replace h0 := hG5 | skip
  have h1 := hG5
  refine v_dup C dX6_init_8 rfl ?_
  refine v_iload_n C dX6_init_9 rfl ?_
  refine v_iload_n C dX6_init_10 rfl ?_
  refine mc_X6_9 C dX6_init_11 (i_Ctr _ E (b := b + 1) (P := P) (lim := lim) hP hlim h1) rfl ⟨by omega, by omega⟩ (fun r11 G11 hp11 => ?_)
  obtain ⟨hc, hfr11⟩ := hp11
  replace h0 := (hfr11 _ (by omega)).trans h0
  clear h1
  refine pf_X6_12 C dX6_init_14 hini (by assumption) (fun G hG14 hF14 => ?_)
  first | replace h0 := (hF14 _ (by omega)).trans h0 | replace h0 := hG14 | skip
  first | replace h1 := (hF14 _ (by omega)).trans h1 | replace h1 := hG14 | skip
  refine v_sl (cells2 := 6) (slots2 := 6 + (6 * lim + 1 + (P / 64 + 1))) (by omega) (by omega) ?_
  refine v_vret C dX6_init_17 ?_
  exact ⟨⟨h0, hc.keep (fun j a b => hF14 j (by omega))⟩, fun j hj => by rw [hF14 j (by omega), hfr11 j (by omega), hF5 j (by omega)]⟩

set_option maxHeartbeats 4000000 in
set_option maxRecDepth 100000 in
theorem i_Sav (l : Launch) (E : Ev) {G : Gh} {b P lim : Nat} (hP : P ≤ 65521) (hlim : 1 ≤ lim ∧ lim ≤ 64) (h0 : G b = cO 8 [.null]) : K_X8_init l E (6) (6 + (6 * lim + 1 + (P / 64 + 1))) (some (ga E (b + 1))) (some (ga E (b + 7))) G [.ref (ga E b), .int (nI P), .int (nI lim)] (fun _ G2 => isSav E G2 b P lim [] ∧ ∀ j, (j < b ∨ b + 7 ≤ j) → G2 j = G j) := by
  refine Fc.of rfl [some (.ref (ga E b)), some (.int (nI P)), some (.int (nI lim))] 0 rfl (Nat.le_of_ble_eq_true rfl) ?_
  intro M hM0 hini C
  subst hM0
  replace hini := hini rfl
  refine v_aload_n C dX8_init_0 rfl ?_
  refine mc_X8_1 C dX8_init_1 (Nat.le_of_ble_eq_true rfl) (Nat.le_of_ble_eq_true rfl) ?_
  refine v_aload_n C dX8_init_4 rfl ?_
  refine nn_X8_7 C dX8_init_5 ⟨by omega, by omega⟩ (fun G hG5 hF5 => ?_)
  first | replace h0 := (hF5 _ (by omega)).trans h0 | replace h0 := hG5 | skip
  have h1 := hG5
  refine v_dup C dX8_init_8 rfl ?_
  refine v_iload_n C dX8_init_9 rfl ?_
  refine v_iload_n C dX8_init_10 rfl ?_
  refine mc_X8_9 C dX8_init_11 (i_Ctr _ E (b := b + 1) (P := P) (lim := lim) hP hlim h1) rfl ⟨by omega, by omega⟩ (fun r11 G11 hp11 => ?_)
  obtain ⟨hc, hfr11⟩ := hp11
  replace h0 := (hfr11 _ (by omega)).trans h0
  clear h1
  refine pf_X8_12 C dX8_init_14 hini (by assumption) (fun G hG14 hF14 => ?_)
  first | replace h0 := (hF14 _ (by omega)).trans h0 | replace h0 := hG14 | skip
  first | replace h1 := (hF14 _ (by omega)).trans h1 | replace h1 := hG14 | skip
  refine v_sl (cells2 := 6) (slots2 := 6 + (6 * lim + 1 + (P / 64 + 1))) (by omega) (by omega) ?_
  refine v_vret C dX8_init_17 ?_
  exact ⟨⟨h0, hc.keep (fun j a b => hF14 j (by omega))⟩, fun j hj => by rw [hF14 j (by omega), hfr11 j (by omega), hF5 j (by omega)]⟩

set_option maxHeartbeats 4000000 in
set_option maxRecDepth 100000 in
theorem i_Cnt (l : Launch) (E : Ev) {G : Gh} {b P : Nat} (hP : 2 ≤ P ∧ P ≤ 65521) (h0 : G b = cO 2 [.null, .null, .int (nI 0), .int (nI 0)]) : K_X2_init l E (2) (2 * min P 300) (some (ga E (b + 1))) (some (ga E (b + 3))) G [.ref (ga E b), .int (nI P)] (fun _ G2 => isCnt E G2 b P (min P 300) [] false ∧ ∀ j, (j < b ∨ b + 3 ≤ j) → G2 j = G j) := by
  refine Fc.of rfl [some (.ref (ga E b)), some (.int (nI P)), none] 1 rfl (Nat.le_of_ble_eq_true rfl) ?_
  intro M hM0 hini C
  subst hM0
  replace hini := hini rfl
  refine v_aload_n C dX2_init_0 rfl ?_
  refine mc_X2_3 C dX2_init_1 (Nat.le_of_ble_eq_true rfl) (Nat.le_of_ble_eq_true rfl) ?_
  refine v_iload_n C dX2_init_4 rfl ?_
  refine v_sipush (v := nI 300) C dX2_init_5 (by decide) ?_
  refine mc_X2_9 C dX2_init_8 rfl ?_
  refine v_topi (show (if nI 300 < nI P then nI 300 else nI P) = nI (min P 300) by split <;> rename_i h9 <;> rw [Int32.lt_iff_toInt_lt, nI_toInt (by omega), nI_toInt (by omega)] at h9 <;> congr 1 <;> omega) ?_
  refine v_istore_2 C dX2_init_11 (by decide) (by first | rfl | assumption) ?_
  refine v_aload_n C dX2_init_12 rfl ?_
  refine v_iload_n C dX2_init_13 rfl ?_
  refine v_newaI C dX2_init_14 (by omega) ⟨by omega, by omega⟩ (fun G hG14 hF14 => ?_)
  first | replace h0 := (hF14 _ (by omega)).trans h0 | replace h0 := hG14 | skip
  have h1 := hG14
  refine pf_X2_15 C dX2_init_16 hini (by assumption) (fun G hG16 hF16 => ?_)
  first | replace h0 := (hF16 _ (by omega)).trans h0 | replace h0 := hG16 | skip
  first | replace h1 := (hF16 _ (by omega)).trans h1 | replace h1 := hG16 | skip
  refine v_aload_n C dX2_init_19 rfl ?_
  refine v_iload_n C dX2_init_20 rfl ?_
  refine v_newaJ C dX2_init_21 (by omega) ⟨by omega, by omega⟩ (fun G hG21 hF21 => ?_)
  first | replace h0 := (hF21 _ (by omega)).trans h0 | replace h0 := hG21 | skip
  first | replace h1 := (hF21 _ (by omega)).trans h1 | replace h1 := hG21 | skip
  have h2 := hG21
  refine pf_X2_21 C dX2_init_23 hini (by assumption) (fun G hG23 hF23 => ?_)
  first | replace h0 := (hF23 _ (by omega)).trans h0 | replace h0 := hG23 | skip
  first | replace h1 := (hF23 _ (by omega)).trans h1 | replace h1 := hG23 | skip
  first | replace h2 := (hF23 _ (by omega)).trans h2 | replace h2 := hG23 | skip
  refine v_sl (cells2 := 2) (slots2 := 2 * min P 300) (by omega) (by omega) ?_
  refine v_vret C dX2_init_26 ?_
  exact ⟨⟨_, _, h0, h1, h2, fun j c h => by simp at h, ⟨by simp, by omega, by omega⟩, fun c h => by simp at h, fun a b c d q1 q2 => by simp at q2⟩, fun j hj => by rw [hF23 j (by omega), hF21 j (by omega), hF16 j (by omega), hF14 j (by omega)]⟩

set_option maxHeartbeats 4000000 in
set_option maxRecDepth 100000 in
theorem i_Rnk (l : Launch) (E : Ev) {G : Gh} {b room : Nat} (hr : 1 ≤ room ∧ room ≤ 300) (h0 : G b = cO 7 [.null, .null, .int (nI 0)]) : K_X7_init l E (2) (2 * room) (some (ga E (b + 1))) (some (ga E (b + 3))) G [.ref (ga E b), .int (nI room)] (fun _ G2 => isRnk E G2 b room [] ∧ ∀ j, (j < b ∨ b + 3 ≤ j) → G2 j = G j) := by
  refine Fc.of rfl [some (.ref (ga E b)), some (.int (nI room))] 0 rfl (Nat.le_of_ble_eq_true rfl) ?_
  intro M hM0 hini C
  subst hM0
  replace hini := hini rfl
  refine v_aload_n C dX7_init_0 rfl ?_
  refine mc_X7_3 C dX7_init_1 (Nat.le_of_ble_eq_true rfl) (Nat.le_of_ble_eq_true rfl) ?_
  refine v_aload_n C dX7_init_4 rfl ?_
  refine v_iload_n C dX7_init_5 rfl ?_
  refine v_newaI C dX7_init_6 (by omega) ⟨by omega, by omega⟩ (fun G hG6 hF6 => ?_)
  first | replace h0 := (hF6 _ (by omega)).trans h0 | replace h0 := hG6 | skip
  have h1 := hG6
  refine pf_X7_9 C dX7_init_8 hini (by assumption) (fun G hG8 hF8 => ?_)
  first | replace h0 := (hF8 _ (by omega)).trans h0 | replace h0 := hG8 | skip
  first | replace h1 := (hF8 _ (by omega)).trans h1 | replace h1 := hG8 | skip
  refine v_aload_n C dX7_init_11 rfl ?_
  refine v_iload_n C dX7_init_12 rfl ?_
  refine v_newaJ C dX7_init_13 (by omega) ⟨by omega, by omega⟩ (fun G hG13 hF13 => ?_)
  first | replace h0 := (hF13 _ (by omega)).trans h0 | replace h0 := hG13 | skip
  first | replace h1 := (hF13 _ (by omega)).trans h1 | replace h1 := hG13 | skip
  have h2 := hG13
  refine pf_X7_15 C dX7_init_15 hini (by assumption) (fun G hG15 hF15 => ?_)
  first | replace h0 := (hF15 _ (by omega)).trans h0 | replace h0 := hG15 | skip
  first | replace h1 := (hF15 _ (by omega)).trans h1 | replace h1 := hG15 | skip
  first | replace h2 := (hF15 _ (by omega)).trans h2 | replace h2 := hG15 | skip
  refine v_sl (cells2 := 2) (slots2 := 2 * room) (by omega) (by omega) ?_
  refine v_vret C dX7_init_18 ?_
  exact ⟨⟨_, _, h0, h1, h2, fun j c h => by simp at h, ⟨by simp, hr.1, hr.2⟩, fun c h => by simp at h⟩, fun j hj => by rw [hF15 j (by omega), hF13 j (by omega), hF8 j (by omega), hF6 j (by omega)]⟩

set_option maxHeartbeats 4000000 in
set_option maxRecDepth 100000 in
theorem i_Best (l : Launch) (E : Ev) {G : Gh} {b p1 p2 p3 p4 n : Nat} (h0 : G b = cO 0 [.null, .null, .null, .null]) : K_X0_init l E (0) (0) (some (ga E (n))) (some (ga E (n))) G [.ref (ga E b), .ref (ga E p1), .ref (ga E p2), .ref (ga E p3), .ref (ga E p4)] (fun _ G2 => G2 b = cO 0 [.ref (ga E p1), .ref (ga E p2), .ref (ga E p3), .ref (ga E p4)] ∧ ∀ j, j ≠ b → G2 j = G j) := by
  refine Fc.of rfl [some (.ref (ga E b)), some (.ref (ga E p1)), some (.ref (ga E p2)), some (.ref (ga E p3)), some (.ref (ga E p4))] 0 rfl (Nat.le_of_ble_eq_true rfl) ?_
  intro M hM0 hini C
  subst hM0
  replace hini := hini rfl
  refine v_aload_n C dX0_init_0 rfl ?_
  refine mc_X0_1 C dX0_init_1 (Nat.le_of_ble_eq_true rfl) (Nat.le_of_ble_eq_true rfl) ?_
  refine v_aload_n C dX0_init_4 rfl ?_
  refine v_aload_n C dX0_init_5 rfl ?_
  refine pf_X0_7 C dX0_init_6 hini (by assumption) (fun G hG6 hF6 => ?_)
  first | replace h0 := (hF6 _ (by omega)).trans h0 | replace h0 := hG6 | skip
  refine v_aload_n C dX0_init_9 rfl ?_
  refine v_aload_n C dX0_init_10 rfl ?_
  refine pf_X0_13 C dX0_init_11 hini (by assumption) (fun G hG11 hF11 => ?_)
  first | replace h0 := (hF11 _ (by omega)).trans h0 | replace h0 := hG11 | skip
  refine v_aload_n C dX0_init_14 rfl ?_
  refine v_aload_n C dX0_init_15 rfl ?_
  refine pf_X0_16 C dX0_init_16 hini (by assumption) (fun G hG16 hF16 => ?_)
  first | replace h0 := (hF16 _ (by omega)).trans h0 | replace h0 := hG16 | skip
  refine v_aload_n C dX0_init_19 rfl ?_
  refine v_aload C dX0_init_20 rfl ?_
  refine pf_X0_20 C dX0_init_22 hini (by assumption) (fun G hG22 hF22 => ?_)
  first | replace h0 := (hF22 _ (by omega)).trans h0 | replace h0 := hG22 | skip
  refine v_vret C dX0_init_25 ?_
  exact ⟨h0, fun j hj => by rw [hF22 j (by omega), hF16 j (by omega), hF11 j (by omega), hF6 j (by omega)]⟩

set_option maxHeartbeats 4000000 in
set_option maxRecDepth 100000 in
theorem i_Grid (l : Launch) (E : Ev) {G : Gh} {b fam P W R : Nat} {A B : Nat → Nat} {cf : Bool} (hfb : fam ≠ b) (hF : isFam E G fam P W R A B) (h0 : G b = cO 4 [.null, .int (nI 0), .null]) : K_X4_init l E (1) (R * W) (some (ga E (b + 1))) (some (ga E (b + 2))) G [.ref (ga E b), .ref (ga E fam), .int (bI cf)] (fun _ G2 => isGrid E G2 b fam cf R W (fun _ _ => 0) ∧ ∀ j, j ≠ b ∧ j ≠ b + 1 → G2 j = G j) := by
  refine Fc.of rfl [some (.ref (ga E b)), some (.ref (ga E fam)), some (.int (bI cf))] 0 rfl (Nat.le_of_ble_eq_true rfl) ?_
  intro M hM0 hini C
  subst hM0
  replace hini := hini rfl
  obtain ⟨fa, fb, hb0, -, -, -, -, hr, -⟩ := id hF
  refine v_aload_n C dX4_init_0 rfl ?_
  refine mc_X4_1 C dX4_init_1 (Nat.le_of_ble_eq_true rfl) (Nat.le_of_ble_eq_true rfl) ?_
  refine v_aload_n C dX4_init_4 rfl ?_
  refine v_aload_n C dX4_init_5 rfl ?_
  refine pf_X4_7 C dX4_init_6 hini (by assumption) (fun G hG6 hF6 => ?_)
  first | replace h0 := (hF6 _ (by omega)).trans h0 | replace h0 := hG6 | skip
  first | replace hb0 := (hF6 _ (by omega)).trans hb0 | replace hb0 := hG6 | skip
  refine v_aload_n C dX4_init_9 rfl ?_
  refine v_iload_n C dX4_init_10 rfl ?_
  refine pf_X4_13 C dX4_init_11 (by first | exact Or.inl rfl | exact Or.inr rfl | assumption | exact bI_01 _) hini (by assumption) (fun G hG11 hF11 => ?_)
  first | replace h0 := (hF11 _ (by omega)).trans h0 | replace h0 := hG11 | skip
  first | replace hb0 := (hF11 _ (by omega)).trans hb0 | replace hb0 := hG11 | skip
  refine v_aload_n C dX4_init_14 rfl ?_
  refine v_aload_n C dX4_init_15 rfl ?_
  refine gf_X4_17 C dX4_init_16 (by assumption) ?_
  refine v_aload_n C dX4_init_19 rfl ?_
  refine gf_X4_23 C dX4_init_20 (by assumption) ?_
  first | refine v_imuln C dX4_init_23 ?_ | refine v_imul C dX4_init_23 ?_
  have hRW := RW_le hr.2.2.2.2.2 hr.2.2.2.1
  refine v_newaJ C dX4_init_24 (by omega) ⟨by omega, by omega⟩ (fun G hG24 hF24 => ?_)
  first | replace h0 := (hF24 _ (by omega)).trans h0 | replace h0 := hG24 | skip
  first | replace hb0 := (hF24 _ (by omega)).trans hb0 | replace hb0 := hG24 | skip
  have h1 := hG24
  refine pf_X4_26 C dX4_init_26 hini (by assumption) (fun G hG26 hF26 => ?_)
  first | replace h0 := (hF26 _ (by omega)).trans h0 | replace h0 := hG26 | skip
  first | replace hb0 := (hF26 _ (by omega)).trans hb0 | replace hb0 := hG26 | skip
  first | replace h1 := (hF26 _ (by omega)).trans h1 | replace h1 := hG26 | skip
  refine v_sl (cells2 := 1) (slots2 := R * W) (by omega) (by omega) ?_
  refine v_vret C dX4_init_29 ?_
  exact ⟨⟨_, h0, h1, fun i hi => rfl⟩, fun j hj => by rw [hF26 j (by omega), hF24 j (by omega), hF11 j (by omega), hF6 j (by omega)]⟩

