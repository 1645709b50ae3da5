def moN (E : Ev) (G : Gh) (N : Nat → Nat) : Prop := ∃ f : Nat → Int64, G 107 = cJ E 4 f ∧ ∀ s, s < 4 → f s = lN (N s)
theorem moN.keep {E : Ev} {G G2 : Gh} {N : Nat → Nat} (h : moN E G N) (hf : G2 107 = G 107) : moN E G2 N := by
  obtain ⟨f, h0, h1⟩ := h
  exact ⟨f, hf.trans h0, h1⟩
theorem moN_pack {E : Ev} {G : Gh} {N : Nat → Nat} {f : Nat → Int64} {s v : Nat} (h0 : G 107 = cJ E 4 (fu f s (lN v))) (h1 : ∀ s, s < 4 → f s = lN (N s)) : moN E G (fu N s v) := by
  refine ⟨_, h0, fun q hq => ?_⟩
  by_cases q9 : q = s
  · subst q9; rw [fu_self, fu_self]
  · rw [fu_ne _ _ q9, fu_ne _ _ q9]; exact h1 q hq
theorem gT_hit (cf : Bool) (h : Nat → Nat) (g t : Nat) (D : Nat → Nat → Nat) (r : Nat) : gTake cf h g t D r (h r) = if cf then max (D r (h r)) (g + t) else D r (h r) + t := if_pos rfl
theorem gT_miss (cf : Bool) {h : Nat → Nat} (g t : Nat) (D : Nat → Nat → Nat) {r c : Nat} (hc : c ≠ h r) : gTake cf h g t D r c = D r c := if_neg hc
theorem isMo.rc {E : Ev} {G : Gh} {P W R lim rq po : Nat} {A B : Nat → Nat} (h : isMo E G P W R lim rq po A B) : G 104 = moO E P W R lim rq po := by
  obtain ⟨fa, fb, h0, h1⟩ := h
  exact h0
def mgr (f : Nat → Int64) (R W : Nat) (D : Nat → Nat → Nat → Nat) : Prop := ∀ s r c, s < 4 → r < R → c < W → f (2048 * s + 256 * r + c) = lN (D s r c)
theorem mg_step {f : Nat → Int64} {R W s k hk : Nat} {D : Nat → Nat → Nat → Nat} {D' : Nat → Nat → Nat} {v : Int64} (h : mgr f R W (fu D s (gPart k D' (D s)))) (hR : R ≤ 8) (hW : W ≤ 256) (hhk : hk < W) (hkR : k < R) (hv : v = lN (D' k hk)) (hne : ∀ c, c ≠ hk → D' k c = D s k c) : mgr (fu f (2048 * s + 256 * k + hk) v) R W (fu D s (gPart (k + 1) D' (D s))) := by
  intro q r c hq hr hc9
  have h1 := h q r c hq hr hc9
  by_cases q9 : q = s
  · subst q9
    rw [fu_self] at h1 ⊢
    by_cases q8 : r = k
    · subst q8
      by_cases q7 : c = hk
      · subst q7
        rw [fu_self, hv]
        congr 1
        unfold gPart
        rw [if_pos (by omega)]
      · rw [fu_ne _ _ (by omega), h1]
        congr 1
        unfold gPart
        rw [if_neg (by omega), if_pos (by omega), hne c q7]
    · rw [fu_ne _ _ (by omega), h1]
      congr 1
      unfold gPart
      by_cases q6 : r < k
      · rw [if_pos q6, if_pos (by omega)]
      · rw [if_neg q6, if_neg (by omega)]
  · rw [fu_ne _ _ (by omega), h1, fu_ne _ _ q9, fu_ne _ _ q9]
theorem gPart_all {R W : Nat} {D D' : Nat → Nat → Nat} {f : Nat → Int64} {s : Nat} {D0 : Nat → Nat → Nat → Nat} (h : mgr f R W (fu D0 s (gPart R D' D))) : mgr f R W (fu D0 s D') := by
  intro q r c hq hr hc9
  rw [h q r c hq hr hc9]
  by_cases q9 : q = s
  · subst q9; rw [fu_self, fu_self]; congr 1; exact if_pos hr
  · rw [fu_ne _ _ q9, fu_ne _ _ q9]
theorem gPart_zero {R W : Nat} {D' : Nat → Nat → Nat} {f : Nat → Int64} {s : Nat} {D0 : Nat → Nat → Nat → Nat} (h : mgr f R W D0) : mgr f R W (fu D0 s (gPart 0 D' (D0 s))) := by
  intro q r c hq hr hc9
  rw [h q r c hq hr hc9]
  by_cases q9 : q = s
  · subst q9; rw [fu_self]; rfl
  · rw [fu_ne _ _ q9]
def isMd (E : Ev) (G : Gh) (P W R lim rq po : Nat) (A B : Nat → Nat) (Y : Nat → Str) : Prop := isMo E G P W R lim rq po A B ∧ moN E G (fun s => zN (Y s)) ∧ moG E G 108 R W (fun s => zP (Y s)) ∧ moG E G 109 R W (fun s => zC (Y s)) ∧ moM E G lim P (fun s => zM (Y s)) (fun s => zT (Y s)) ∧ moS E G lim P (fun s => zS (Y s)) ∧ moC E G P (fun s => zK (Y s)) (fun s => zG (Y s))
theorem isMd.keep {E : Ev} {G G2 : Gh} {P W R lim rq po : Nat} {A B : Nat → Nat} {Y : Nat → Str} (h : isMd E G P W R lim rq po A B Y) (hf : ∀ j, 104 ≤ j → j < 122 → G2 j = G j) : isMd E G2 P W R lim rq po A B Y := by
  obtain ⟨h0, h1, h2, h3, h4, h5, h6⟩ := h
  exact ⟨h0.keep (fun j a b => hf j a (by omega)), h1.keep (hf _ (by omega) (by omega)), h2.keep (hf _ (by omega) (by omega)), h3.keep (hf _ (by omega) (by omega)), h4.keep (fun j a b => hf j (by omega) (by omega)), h5.keep (fun j a b => hf j (by omega) (by omega)), h6.keep (fun j a b => hf j (by omega) b)⟩
theorem fu_map {α β : Type} (g : α → β) (Y : Nat → α) (k : Nat) (S : α) : (fun s => g (fu Y k S s)) = fu (fun s => g (Y s)) k (g S) := by
  funext j
  by_cases q9 : j = k
  · subst q9; rw [fu_self, fu_self]
  · rw [fu_ne _ _ q9, fu_ne _ _ q9]
theorem isMd_upd {E : Ev} {G : Gh} {P W R lim rq po : Nat} {A B : Nat → Nat} {Y : Nat → Str} {k : Nat} {S : Str} (h0 : isMo E G P W R lim rq po A B) (h1 : moN E G (fu (fun s => zN (Y s)) k (zN S))) (h2 : moG E G 108 R W (fu (fun s => zP (Y s)) k (zP S))) (h3 : moG E G 109 R W (fu (fun s => zC (Y s)) k (zC S))) (h4 : moM E G lim P (fu (fun s => zM (Y s)) k (zM S)) (fu (fun s => zT (Y s)) k (zT S))) (h5 : moS E G lim P (fu (fun s => zS (Y s)) k (zS S))) (h6 : moC E G P (fu (fun s => zK (Y s)) k (zK S)) (fu (fun s => zG (Y s)) k (zG S))) : isMd E G P W R lim rq po A B (fu Y k S) := by
  unfold isMd
  rw [fu_map zN, fu_map zP, fu_map zC, fu_map zM, fu_map zT, fu_map zS, fu_map zK, fu_map zG]
  exact ⟨h0, h1, h2, h3, h4, h5, h6⟩
def yStep (P W R : Nat) (A B : Nat → Nat) (lim : Nat) (S : Str) (x : Nat) : Str := (zN S + 1, gTake false (fun r => hsh P W (A r) (B r) x) (gEst P W R A B (zP S) x) 1 (zP S), gTake true (fun r => hsh P W (A r) (B r) x) (gEst P W R A B (zC S) x) 1 (zC S), (mStep lim (zM S) (zT S) x).1, (mStep lim (zM S) (zT S) x).2, sTake lim (zS S) x 1, (cStep (zK S, zG S) x 1).1, (cStep (zK S, zG S) x 1).2)

set_option maxHeartbeats 4000000 in
set_option maxRecDepth 100000 in
theorem comes_loop {M : Mx} {E : Ev} {z : Option Nat} (C : Cx M E yX12_comes.cls cX12_comes 7 none 3 73 0 0) {post : Unit → Gh → Prop} {G0 : Gh} {P W R lim rq po s x g : Nat} {A B : Nat → Nat} {Dp Dc : Nat → Nat → Nat → Nat} {Dp9 Dc9 : Nat → Nat → Nat} {gp : Nat} (hDp9 : Dp9 = gTake false (fun r => hsh P W (A r) (B r) x) gp 1 (Dp s)) (hDc9 : Dc9 = gTake true (fun r => hsh P W (A r) (B r) x) g 1 (Dc s)) (hs : s < 4) (hx : x < P) (hg : g < 2 ^ 62) (hB : ∀ r, r < R → ∀ c, c < W → Dc s r c < 2 ^ 62)
    (kend : ∀ (G : Gh) (fp fq : Nat → Int64), isMo E G P W R lim rq po A B → G 108 = cJ E 8192 fp → G 109 = cJ E 8192 fq → mgr fp R W (fu Dp s Dp9) → mgr fq R W (fu Dc s Dc9) → (∀ j, j ≠ 108 ∧ j ≠ 109 → G j = G0 j) → ∀ x6 : Option Value, V M E 7 (QE M E (fun _ : Unit => none) z 0 0 post) z 0 0 G 88 [some (.ref (ga E 104)), some (.int (nI s)), some (.int (nI x)), some (.long (lN (g + 1))), none, some (.int (nI R)), x6] []) :
    ∀ (t k : Nat), k ≤ R → R - k < t → ∀ (G : Gh) (fp fq : Nat → Int64), isMo E G P W R lim rq po A B → G 108 = cJ E 8192 fp → G 109 = cJ E 8192 fq → mgr fp R W (fu Dp s (gPart k Dp9 (Dp s))) → mgr fq R W (fu Dc s (gPart k Dc9 (Dc s))) → (∀ j, j ≠ 108 ∧ j ≠ 109 → G j = G0 j) → ∀ x6 : Option Value, V M E 7 (QE M E (fun _ : Unit => none) z 0 0 post) z 0 0 G 22 [some (.ref (ga E 104)), some (.int (nI s)), some (.int (nI x)), some (.long (lN (g + 1))), none, some (.int (nI k)), x6] [] := by
  intro t
  induction t with
  | zero => intro k _ h; omega
  | succ t ih =>
    intro k hk ht G fp fq hm hp hq hip hiq hfr x6
    obtain ⟨fa, fb, ho, k5, k6, hfa, hfb, hrg, hlim, hab⟩ := id hm
    refine v_iload C dX12_comes_22 rfl ?_
    refine v_aload_n C dX12_comes_24 rfl ?_
    refine gf_X12_94 C dX12_comes_25 (by assumption) ?_
    refine v_icmpn_ge C 88 dX12_comes_28 (by decide) (by omega) (by omega) (fun h28 => ?_) (fun h28 => ?_)
    · skip
      have e9 : k = R := by omega
      subst e9
      exact kend G fp fq hm hp hq (gPart_all hip) (gPart_all hiq) hfr _
    · skip
      have hkR : k < R := by omega
      have hhw : hsh P W (A k) (B k) x < W := hsh_lt (by omega)
      have hvp : fp (2048 * s + 256 * k + hsh P W (A k) (B k) x) = lN (Dp s k (hsh P W (A k) (B k) x)) := by rw [hip s k _ hs hkR hhw, fu_self]; congr 1; exact if_neg (Nat.lt_irrefl k)
      have hvq : fq (2048 * s + 256 * k + hsh P W (A k) (B k) x) = lN (Dc s k (hsh P W (A k) (B k) x)) := by rw [hiq s k _ hs hkR hhw, fu_self]; congr 1; exact if_neg (Nat.lt_irrefl k)
      have hbc := hB k hkR _ hhw
      refine v_aload_n C dX12_comes_31 rfl ?_
      refine v_iload_n C dX12_comes_32 rfl ?_
      refine v_iload C dX12_comes_33 rfl ?_
      refine v_iload_n C dX12_comes_35 rfl ?_
      refine mc_X12_111 C dX12_comes_36 (by assumption) (c_Mo_cellOf _ E z (s := s) (r := k) (x := x) hs hkR hx hm) rfl (fun r36 G36 hp36 => ?_)
      obtain ⟨rfl, rfl⟩ := hp36
      refine v_istore_6 C dX12_comes_39 (by decide) (by first | rfl | assumption) ?_
      refine v_aload_n C dX12_comes_41 rfl ?_
      refine gf_X12_20 C dX12_comes_42 (by assumption) ?_
      refine v_iload C dX12_comes_45 rfl ?_
      refine v_dup2 C dX12_comes_47 rfl rfl ?_
      refine v_lald C dX12_comes_48 (by assumption) (by omega) (by omega) hvp ?_
      refine v_lconst (v := lN 1) C dX12_comes_49 (by decide) ?_
      first | refine v_laddn C dX12_comes_50 ?_ | refine v_ladd C dX12_comes_50 ?_
      refine v_last C dX12_comes_51 (by assumption) (by omega) (by omega) (fun G hG51 hF51 => ?_)
      first | replace ho := (hF51 _ (by omega)).trans ho | replace ho := hG51 | skip
      first | replace k5 := (hF51 _ (by omega)).trans k5 | replace k5 := hG51 | skip
      first | replace k6 := (hF51 _ (by omega)).trans k6 | replace k6 := hG51 | skip
      first | replace hp := (hF51 _ (by omega)).trans hp | replace hp := hG51 | skip
      first | replace hq := (hF51 _ (by omega)).trans hq | replace hq := hG51 | skip
      refine v_aload_n C dX12_comes_52 rfl ?_
      refine gf_X12_23 C dX12_comes_53 (by assumption) ?_
      refine v_iload C dX12_comes_56 rfl ?_
      refine v_aload_n C dX12_comes_58 rfl ?_
      refine gf_X12_23 C dX12_comes_59 (by assumption) ?_
      refine v_iload C dX12_comes_62 rfl ?_
      refine v_lald C dX12_comes_64 (by assumption) (by omega) (by omega) hvq ?_
      refine v_lload_n C dX12_comes_65 rfl ?_
      refine v_lcmpn_ge C 74 dX12_comes_66 dX12_comes_67 (by decide) (by omega) (by omega) (fun h66 => ?_) (fun h66 => ?_)
      · skip
        refine v_aload_n C dX12_comes_74 rfl ?_
        refine gf_X12_23 C dX12_comes_75 (by assumption) ?_
        refine v_iload C dX12_comes_78 rfl ?_
        refine v_lald C dX12_comes_80 (by assumption) (by omega) (by omega) hvq ?_
        refine v_last C dX12_comes_81 (by assumption) (by omega) (by omega) (fun G hG81 hF81 => ?_)
        first | replace ho := (hF81 _ (by omega)).trans ho | replace ho := hG81 | skip
        first | replace k5 := (hF81 _ (by omega)).trans k5 | replace k5 := hG81 | skip
        first | replace k6 := (hF81 _ (by omega)).trans k6 | replace k6 := hG81 | skip
        first | replace hp := (hF81 _ (by omega)).trans hp | replace hp := hG81 | skip
        first | replace hq := (hF81 _ (by omega)).trans hq | replace hq := hG81 | skip
        first | refine v_iinc_5 C dX12_comes_82 (nI_1 _) (by decide) (by first | rfl | assumption) ?_ | refine v_iinc_5 C dX12_comes_82 rfl (by decide) (by first | rfl | assumption) ?_
        refine v_goto C 22 dX12_comes_85 (by decide) ?_
        refine ih (k + 1) (by omega) (by omega) G _ _ (hm.keep (fun j a b => by rw [hF81 j (by omega), hF51 j (by omega)])) hp hq ?_ ?_ (fun j hj => by rw [hF81 j (by omega), hF51 j (by omega)]; exact hfr j hj) _
        · exact mg_step hip hrg.2.2.2.2.2 hrg.2.2.2.1 hhw hkR (by rw [hDp9, gT_hit]; rfl) (fun c hc9 => by rw [hDp9]; exact gT_miss _ _ _ _ hc9)
        · refine mg_step hiq hrg.2.2.2.2.2 hrg.2.2.2.1 hhw hkR ?_ (fun c hc9 => by rw [hDc9]; exact gT_miss _ _ _ _ hc9)
          rw [hDc9, gT_hit]
          show _ = lN (max _ _)
          first
            | rw [Nat.max_eq_right (by omega)]
            | rw [Nat.max_eq_left (by omega)]
      · skip
        refine v_lload_n C dX12_comes_70 rfl ?_
        refine v_goto C 81 dX12_comes_71 (by decide) ?_
        refine v_last C dX12_comes_81 (by assumption) (by omega) (by omega) (fun G hG81 hF81 => ?_)
        first | replace ho := (hF81 _ (by omega)).trans ho | replace ho := hG81 | skip
        first | replace k5 := (hF81 _ (by omega)).trans k5 | replace k5 := hG81 | skip
        first | replace k6 := (hF81 _ (by omega)).trans k6 | replace k6 := hG81 | skip
        first | replace hp := (hF81 _ (by omega)).trans hp | replace hp := hG81 | skip
        first | replace hq := (hF81 _ (by omega)).trans hq | replace hq := hG81 | skip
        first | refine v_iinc_5 C dX12_comes_82 (nI_1 _) (by decide) (by first | rfl | assumption) ?_ | refine v_iinc_5 C dX12_comes_82 rfl (by decide) (by first | rfl | assumption) ?_
        refine v_goto C 22 dX12_comes_85 (by decide) ?_
        refine ih (k + 1) (by omega) (by omega) G _ _ (hm.keep (fun j a b => by rw [hF81 j (by omega), hF51 j (by omega)])) hp hq ?_ ?_ (fun j hj => by rw [hF81 j (by omega), hF51 j (by omega)]; exact hfr j hj) _
        · exact mg_step hip hrg.2.2.2.2.2 hrg.2.2.2.1 hhw hkR (by rw [hDp9, gT_hit]; rfl) (fun c hc9 => by rw [hDp9]; exact gT_miss _ _ _ _ hc9)
        · refine mg_step hiq hrg.2.2.2.2.2 hrg.2.2.2.1 hhw hkR ?_ (fun c hc9 => by rw [hDc9]; exact gT_miss _ _ _ _ hc9)
          rw [hDc9, gT_hit]
          show _ = lN (max _ _)
          first
            | rw [Nat.max_eq_right (by omega)]
            | rw [Nat.max_eq_left (by omega)]
set_option maxHeartbeats 4000000 in
set_option maxRecDepth 100000 in
theorem c_Mo_comes (l : Launch) (E : Ev) (z : Option Nat) {G : Gh} {P W R lim rq po : Nat} {A B : Nat → Nat} {Y : Nat → Str} {s x : Nat} (hs : s < 4) (hx : x < P) (hB : ∀ r, r < R → ∀ c, c < W → zC (Y s) r c < 2 ^ 62) (hbm : ∀ c ∈ zM (Y s), c.2.1 < 2 ^ 62) (hbs : ∀ c ∈ zS (Y s), c.2.1 < 2 ^ 61) (hsr : nsrt (zS (Y s))) (hd : isMd E G P W R lim rq po A B Y) : K_X12_comes l E z G [.ref (ga E 104), .int (nI s), .int (nI x)] (fun _ G2 => isMd E G2 P W R lim rq po A B (fu Y s (yStep P W R A B lim (Y s) x)) ∧ ∀ j, (j < 107 ∨ 122 ≤ j) → G2 j = G j) := by
  refine Fc.of rfl [some (.ref (ga E 104)), some (.int (nI s)), some (.int (nI x)), none, none, none, none] 4 rfl (Nat.le_of_ble_eq_true rfl) ?_
  intro M hM0 hini C
  subst hM0
  obtain ⟨hm, ⟨ft, h7, hft⟩, ⟨fp, hp, hip⟩, ⟨fq, hq, hiq⟩, hMm, hMs, hMc⟩ := id hd
  obtain ⟨fa, fb, ho, k5, k6, hfa, hfb, hrg, hlim, hab⟩ := id hm
  refine v_aload_n C dX12_comes_0 rfl ?_
  refine gf_X12_16 C dX12_comes_1 (by assumption) ?_
  refine v_iload_n C dX12_comes_4 rfl ?_
  refine v_dup2 C dX12_comes_5 rfl rfl ?_
  refine v_lald C dX12_comes_6 (by assumption) (by omega) (by omega) (hft s hs) ?_
  refine v_lconst (v := lN 1) C dX12_comes_7 (by decide) ?_
  first | refine v_laddn C dX12_comes_8 ?_ | refine v_ladd C dX12_comes_8 ?_
  refine v_last C dX12_comes_9 (by assumption) (by omega) (by omega) (fun G hG9 hF9 => ?_)
  first | replace ho := (hF9 _ (by omega)).trans ho | replace ho := hG9 | skip
  first | replace k5 := (hF9 _ (by omega)).trans k5 | replace k5 := hG9 | skip
  first | replace k6 := (hF9 _ (by omega)).trans k6 | replace k6 := hG9 | skip
  first | replace hp := (hF9 _ (by omega)).trans hp | replace hp := hG9 | skip
  first | replace hq := (hF9 _ (by omega)).trans hq | replace hq := hG9 | skip
  replace hm := hm.keep (fun j a b => hF9 j (by omega))
  have hgc : moG E G 109 R W (fun s => zC (Y s)) := ⟨fq, hq, hiq⟩
  have hgb : gEst P W R A B (zC (Y s)) x < 2 ^ 62 := gm_bd (f := fun r => zC (Y s) r (hsh P W (A r) (B r) x)) (hB 0 (by omega) _ (hsh_lt (by omega))) _
  replace hMm := hMm.keep (fun j a b => hF9 j (by omega))
  replace hMs := hMs.keep (fun j a b => hF9 j (by omega))
  replace hMc := hMc.keep (fun j a b => hF9 j (by omega))
  refine v_aload_n C dX12_comes_10 rfl ?_
  refine v_iload_n C dX12_comes_11 rfl ?_
  refine v_iload_n C dX12_comes_12 rfl ?_
  refine mc_X12_114 C dX12_comes_13 (by assumption) (c_Mo_leastCareful _ E z (D := fun s => zC (Y s)) hs hx hB hm hgc) rfl (fun r13 G13 hp13 => ?_)
  obtain ⟨rfl, rfl⟩ := hp13
  refine v_lconst (v := lN 1) C dX12_comes_16 (by decide) ?_
  first | refine v_laddn C dX12_comes_17 ?_ | refine v_ladd C dX12_comes_17 ?_
  refine v_lstore_3 C dX12_comes_18 (by decide) (by first | rfl | assumption) ?_
  refine v_iconst (v := nI 0) C dX12_comes_19 (by decide) ?_
  refine v_istore_5 C dX12_comes_20 (by decide) (by first | rfl | assumption) ?_
  refine comes_loop C (Dp := fun s => zP (Y s)) (Dc := fun s => zC (Y s)) (gp := gEst P W R A B (zP (Y s)) x) rfl rfl hs hx hgb hB ?_ (R + 1) 0 (by omega) (by omega) G fp fq hm hp hq (gPart_zero hip) (gPart_zero hiq) (fun _ _ => rfl) _
  rename_i G1
  clear hp hq hip hiq fp fq hgc ho k5 k6
  intro G fp fq hm2 hp hq hip hiq hfr x6
  replace hMm := hMm.keep (fun j a b => hfr j (by omega))
  replace hMs := hMs.keep (fun j a b => hfr j (by omega))
  replace hMc := hMc.keep (fun j a b => hfr j (by omega))
  clear hm
  have hm := hm2
  clear hm2
  refine v_aload_n C dX12_comes_88 rfl ?_
  refine v_iload_n C dX12_comes_89 rfl ?_
  refine v_iload_n C dX12_comes_90 rfl ?_
  refine mc_X12_118 C dX12_comes_91 (hm.rc) (c_Mo_comesMisra _ E z (Ms := fun s => zM (Y s)) (T := fun s => zT (Y s)) hs hx hbm hm hMm) rfl (fun r91 G91 hp91 => ?_)
  obtain ⟨hMm, hfr91⟩ := hp91
  replace hm := hm.keep (fun j a b => hfr91 j (by omega))
  replace hMs := hMs.keep (fun j a b => hfr91 j (by omega))
  replace hp := (hfr91 _ (by omega)).trans hp
  replace hq := (hfr91 _ (by omega)).trans hq
  refine v_aload_n C dX12_comes_94 rfl ?_
  refine v_iload_n C dX12_comes_95 rfl ?_
  refine v_iload_n C dX12_comes_96 rfl ?_
  refine mc_X12_122 C dX12_comes_97 (hm.rc) (c_Mo_comesSaving _ E z (Ss := fun s => zS (Y s)) hs hx hbs hsr hm hMs) rfl (fun r97 G97 hp97 => ?_)
  obtain ⟨hMs, hfr97⟩ := hp97
  replace hm := hm.keep (fun j a b => hfr97 j (by omega))
  replace hMm := hMm.keep (fun j a b => hfr97 j (by omega))
  replace hp := (hfr97 _ (by omega)).trans hp
  replace hq := (hfr97 _ (by omega)).trans hq
  replace hMc := hMc.keep (fun j a b => (hfr97 j (by omega)).trans (hfr91 j (by omega)))
  refine v_aload_n C dX12_comes_100 rfl ?_
  refine v_iload_n C dX12_comes_101 rfl ?_
  refine v_iload_n C dX12_comes_102 rfl ?_
  refine v_lconst (v := lN 1) C dX12_comes_103 (by decide) ?_
  refine mc_X12_125 C dX12_comes_104 (hm.rc) (c_Mo_comesCounts _ E z (Ks := fun s => zK (Y s)) (Gn := fun s => zG (Y s)) (n := 1) hs hx hm hMc) rfl (fun r104 G104 hp104 => ?_)
  obtain ⟨hMc, hfr104⟩ := hp104
  replace hm := hm.keep (fun j a b => hfr104 j (by omega))
  replace hMm := hMm.keep (fun j a b => hfr104 j (by omega))
  replace hMs := hMs.keep (fun j a b => hfr104 j (by omega))
  replace hp := (hfr104 _ (by omega)).trans hp
  replace hq := (hfr104 _ (by omega)).trans hq
  refine v_vret C dX12_comes_107 ?_
  refine ⟨isMd_upd hm ?_ ⟨fp, hp, hip⟩ ⟨fq, hq, hiq⟩ hMm hMs hMc, fun j hj => ?_⟩
  · refine moN_pack (f := ft) ?_ hft
    rw [hfr104 _ (by omega), hfr97 _ (by omega), hfr91 _ (by omega), hfr _ (by omega)]
    exact hG9
  · rw [hfr104 j (by omega), hfr97 j (by omega), hfr91 j (by omega), hfr j (by omega), hF9 j (by omega)]

