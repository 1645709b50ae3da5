def addI (T F k : Nat) (g f : Nat → Int64) : Prop := (∀ i, i < k → f (T + i) = g (T + i) + g (F + i)) ∧ ∀ q, (q < T ∨ T + k ≤ q) → f q = g q
theorem addI0 {T F : Nat} {g : Nat → Int64} : addI T F 0 g g := ⟨fun i h => absurd h (Nat.not_lt_zero i), fun _ _ => rfl⟩
theorem addI_step {T F k B : Nat} {g f : Nat → Int64} (h : addI T F k g f) (hk : k < B) (hd : T = F ∨ T + B ≤ F ∨ F + B ≤ T) : addI T F (k + 1) g (fu f (T + k) (f (T + k) + f (F + k))) := by
  obtain ⟨h1, h2⟩ := h
  refine ⟨fun i hi => ?_, fun q hq => ?_⟩
  · by_cases q9 : i = k
    · subst q9; rw [fu_self, h2 _ (by omega), h2 _ (by omega)]
    · rw [fu_ne _ _ (by omega)]; exact h1 i (by omega)
  · rw [fu_ne _ _ (by omega)]; exact h2 q (by omega)
theorem mgr_add {g f : Nat → Int64} {R W s s2 : Nat} {D : Nat → Nat → Nat → Nat} (h : mgr g R W D) (hR : R ≤ 8) (hW : W ≤ 256) (hs : s < 4) (hs2 : s2 < 4) (hz : addI (2048 * s) (2048 * s2) 2048 g f) : mgr f R W (fu D s (fun r c => D s r c + D s2 r c)) := by
  intro q r c hq hr hc9
  by_cases q9 : q = s
  · subst q9
    rw [fu_self]
    have := hz.1 (256 * r + c) (by omega)
    rw [← Nat.add_assoc, ← Nat.add_assoc] at this
    rw [this, h q r c hq hr hc9, h s2 r c hs2 hr hc9, lN_add]
  · rw [fu_ne _ _ q9, hz.2 _ (by omega)]; exact h q r c hq hr hc9
def yPut (lim : Nat) (S S2 : Str) (sv : Ctr) : Str := (zN S + zN S2, fun r c => zP S r c + zP S2 r c, fun r c => zC S r c + zC S2 r c, (mPut lim (zM S) (zM S2) (zT S) (zT S2)).1, (mPut lim (zM S) (zM S2) (zT S) (zT S2)).2, sv, (yK (zK S) (zG S) (zK S2) (zG S2)).1, (yK (zK S) (zG S) (zK S2) (zG S2)).2)
theorem zS_setM (Y : Nat → Str) (s : Nat) (p : Ctr × Nat) (j : Nat) : zS (fu Y s (setM (Y s) p) j) = zS (Y j) := by
  by_cases q9 : j = s
  · subst q9; rw [fu_self]; rfl
  · rw [fu_ne _ _ q9]

set_option maxHeartbeats 4000000 in
set_option maxRecDepth 100000 in
theorem mjoin_loop {M : Mx} {E : Ev} {z : Option Nat} (C : Cx M E yX12_join.cls cX12_join 4 (some .long) 3 76 0 0) {post : Int64 → Gh → Prop} {G0 : Gh} {P W R lim rq po s s2 : Nat} {gp gq : Nat → Int64} (hs : s < 4) (hs2 : s2 < 4)
    (kend : ∀ (G : Gh) (fp fq : Nat → Int64), G 104 = moO E P W R lim rq po → G 108 = cJ E 8192 fp → G 109 = cJ E 8192 fq → addI (2048 * s) (2048 * s2) 2048 gp fp → addI (2048 * s) (2048 * s2) 2048 gq fq → (∀ j, j ≠ 108 ∧ j ≠ 109 → G j = G0 j) → V M E 4 (QE M E (fun r : Int64 => some (.long r)) z 0 0 post) z 0 0 G 125 [some (.ref (ga E 104)), some (.int (nI s)), some (.int (nI s2)), some (.int (nI 2048))] []) :
    ∀ (u k : Nat), k ≤ 2048 → 2048 - k < u → ∀ (G : Gh) (fp fq : Nat → Int64), G 104 = moO E P W R lim rq po → G 108 = cJ E 8192 fp → G 109 = cJ E 8192 fq → addI (2048 * s) (2048 * s2) k gp fp → addI (2048 * s) (2048 * s2) k gq fq → (∀ j, j ≠ 108 ∧ j ≠ 109 → G j = G0 j) → V M E 4 (QE M E (fun r : Int64 => some (.long r)) z 0 0 post) z 0 0 G 58 [some (.ref (ga E 104)), some (.int (nI s)), some (.int (nI s2)), some (.int (nI k))] [] := by
  intro u
  induction u with
  | zero => intro k _ h; omega
  | succ u ih =>
    intro k hk hu G fp fq ho hp hq hzp hzq hfr
    refine v_iload_n C dX12_join_58 rfl ?_
    refine v_sipush (v := nI 2048) C dX12_join_59 (by decide) ?_
    refine v_icmpn_ge C 125 dX12_join_62 (by decide) (by omega) (by omega) (fun h62 => ?_) (fun h62 => ?_)
    · skip
      have e9 : k = 2048 := by omega
      subst e9
      exact kend G fp fq ho hp hq hzp hzq hfr
    · skip
      refine v_aload_n C dX12_join_65 rfl ?_
      refine gf_X12_20 C dX12_join_66 (by assumption) ?_
      refine v_sipush (v := nI 2048) C dX12_join_69 (by decide) ?_
      refine v_iload_n C dX12_join_72 rfl ?_
      first | refine v_imuln C dX12_join_73 ?_ | refine v_imul C dX12_join_73 ?_
      refine v_iload_n C dX12_join_74 rfl ?_
      first | refine v_iaddn C dX12_join_75 ?_ | refine v_iadd C dX12_join_75 ?_
      refine v_dup2 C dX12_join_76 rfl rfl ?_
      refine v_lald C dX12_join_77 (by assumption) (by omega) (by omega) rfl ?_
      refine v_aload_n C dX12_join_78 rfl ?_
      refine gf_X12_20 C dX12_join_79 (by assumption) ?_
      refine v_sipush (v := nI 2048) C dX12_join_82 (by decide) ?_
      refine v_iload_n C dX12_join_85 rfl ?_
      first | refine v_imuln C dX12_join_86 ?_ | refine v_imul C dX12_join_86 ?_
      refine v_iload_n C dX12_join_87 rfl ?_
      first | refine v_iaddn C dX12_join_88 ?_ | refine v_iadd C dX12_join_88 ?_
      refine v_lald C dX12_join_89 (by assumption) (by omega) (by omega) rfl ?_
      refine v_ladd C dX12_join_90 ?_
      refine v_last C dX12_join_91 (by assumption) (by omega) (by omega) (fun G hG91 hF91 => ?_)
      first | replace ho := (hF91 _ (by omega)).trans ho | replace ho := hG91 | skip
      first | replace hp := (hF91 _ (by omega)).trans hp | replace hp := hG91 | skip
      first | replace hq := (hF91 _ (by omega)).trans hq | replace hq := hG91 | skip
      refine v_aload_n C dX12_join_92 rfl ?_
      refine gf_X12_23 C dX12_join_93 (by assumption) ?_
      refine v_sipush (v := nI 2048) C dX12_join_96 (by decide) ?_
      refine v_iload_n C dX12_join_99 rfl ?_
      first | refine v_imuln C dX12_join_100 ?_ | refine v_imul C dX12_join_100 ?_
      refine v_iload_n C dX12_join_101 rfl ?_
      first | refine v_iaddn C dX12_join_102 ?_ | refine v_iadd C dX12_join_102 ?_
      refine v_dup2 C dX12_join_103 rfl rfl ?_
      refine v_lald C dX12_join_104 (by assumption) (by omega) (by omega) rfl ?_
      refine v_aload_n C dX12_join_105 rfl ?_
      refine gf_X12_23 C dX12_join_106 (by assumption) ?_
      refine v_sipush (v := nI 2048) C dX12_join_109 (by decide) ?_
      refine v_iload_n C dX12_join_112 rfl ?_
      first | refine v_imuln C dX12_join_113 ?_ | refine v_imul C dX12_join_113 ?_
      refine v_iload_n C dX12_join_114 rfl ?_
      first | refine v_iaddn C dX12_join_115 ?_ | refine v_iadd C dX12_join_115 ?_
      refine v_lald C dX12_join_116 (by assumption) (by omega) (by omega) rfl ?_
      refine v_ladd C dX12_join_117 ?_
      refine v_last C dX12_join_118 (by assumption) (by omega) (by omega) (fun G hG118 hF118 => ?_)
      first | replace ho := (hF118 _ (by omega)).trans ho | replace ho := hG118 | skip
      first | replace hp := (hF118 _ (by omega)).trans hp | replace hp := hG118 | skip
      first | replace hq := (hF118 _ (by omega)).trans hq | replace hq := hG118 | skip
      first | refine v_iinc_3 C dX12_join_119 (nI_1 _) (by decide) (by first | rfl | assumption) ?_ | refine v_iinc_3 C dX12_join_119 rfl (by decide) (by first | rfl | assumption) ?_
      refine v_goto C 58 dX12_join_122 (by decide) ?_
      exact ih (k + 1) (by omega) (by omega) G _ _ ho hp hq (addI_step (B := 2048) hzp (by omega) (by omega)) (addI_step (B := 2048) hzq (by omega) (by omega)) (fun j hj => by rw [hF118 j (by omega), hF91 j (by omega)]; exact hfr j hj)
theorem yPut_pack {E : Ev} {G G2 : Gh} {P W R lim rq po s s2 : Nat} {A B : Nat → Nat} {Y Y1 : Nat → Str} {sv : Ctr} {ft gp fp gq fq : Nat → Int64} (hs : s < 4) (hs2 : s2 < 4) (hY1 : Y1 = fu (fu (fu Y s (setM (Y s) (mPut lim (zM (Y s)) (zM (Y s2)) (zT (Y s)) (zT (Y s2))))) s (setS ((fu Y s (setM (Y s) (mPut lim (zM (Y s)) (zM (Y s2)) (zT (Y s)) (zT (Y s2)))) s)) sv)) s (setK ((fu (fu Y s (setM (Y s) (mPut lim (zM (Y s)) (zM (Y s2)) (zT (Y s)) (zT (Y s2))))) s (setS ((fu Y s (setM (Y s) (mPut lim (zM (Y s)) (zM (Y s2)) (zT (Y s)) (zT (Y s2)))) s)) sv) s)) (yK (zK (Y s)) (zG (Y s)) (zK (Y s2)) (zG (Y s2)))))
    (hd : isMd E G P W R lim rq po A B Y1) (h0 : isMo E G2 P W R lim rq po A B) (hgp : G 108 = cJ E 8192 gp) (hgq : G 109 = cJ E 8192 gq) (hip : mgr gp R W (fun q => zP (Y q))) (hiq : mgr gq R W (fun q => zC (Y q))) (h7 : G2 107 = cJ E 4 (fu ft s (lN (zN (Y s) + zN (Y s2))))) (hft : ∀ q, q < 4 → ft q = lN (zN (Y q))) (hp : G2 108 = cJ E 8192 fp) (hq : G2 109 = cJ E 8192 fq) (hzp : addI (2048 * s) (2048 * s2) 2048 gp fp) (hzq : addI (2048 * s) (2048 * s2) 2048 gq fq) (hf : ∀ j, 110 ≤ j → j < 122 → G2 j = G j) : isMd E G2 P W R lim rq po A B (fu Y s (yPut lim (Y s) (Y s2) sv)) := by
  have hrg := h0.hl.1
  obtain ⟨-, -, -, -, h4, h5, h6⟩ := hd
  rw [fu_fu, fu_fu] at hY1
  have f1 : ∀ {α : Type} (g : Str → α) (v : α), g (Y1 s) = v → (fun q => g (Y1 q)) = fu (fun q => g (Y q)) s v := by
    intro α g v hg
    funext j
    by_cases q9 : j = s
    · subst q9; rw [fu_self]; exact hg
    · rw [fu_ne _ _ q9, hY1, fu_ne _ _ q9]
  have e1 : Y1 s = (zN (Y s), zP (Y s), zC (Y s), (mPut lim (zM (Y s)) (zM (Y s2)) (zT (Y s)) (zT (Y s2))).1, (mPut lim (zM (Y s)) (zM (Y s2)) (zT (Y s)) (zT (Y s2))).2, sv, (yK (zK (Y s)) (zG (Y s)) (zK (Y s2)) (zG (Y s2))).1, (yK (zK (Y s)) (zG (Y s)) (zK (Y s2)) (zG (Y s2))).2) := by
    rw [hY1, fu_self, fu_self, fu_self]; rfl
  rw [f1 zM _ (congrArg _ e1), f1 zT _ (congrArg _ e1)] at h4
  rw [f1 zS _ (congrArg _ e1)] at h5
  rw [f1 zK _ (congrArg _ e1), f1 zG _ (congrArg _ e1)] at h6
  exact isMd_upd h0 (moN_pack (v := zN (Y s) + zN (Y s2)) h7 hft) ⟨_, hp, mgr_add hip hrg.2.2.2.2.2 hrg.2.2.2.1 hs hs2 hzp⟩ ⟨_, hq, mgr_add hiq hrg.2.2.2.2.2 hrg.2.2.2.1 hs hs2 hzq⟩ (h4.keep (fun j a b => hf j (by omega) (by omega))) (h5.keep (fun j a b => hf j (by omega) (by omega))) (h6.keep (fun j a b => hf j (by omega) (by omega)))

set_option maxHeartbeats 4000000 in
set_option maxRecDepth 100000 in
theorem c_Mo_join (l : Launch) (E : Ev) (z : Option Nat) {G : Gh} {P W R lim rq po : Nat} {A B : Nat → Nat} {Y : Nat → Str} {x1 x2 : Int32} (hok : ∀ k, k < 4 → okS W R (Y k)) (hbj : ∀ k k2, k < 4 → k2 < 4 → zN (Y k) + zN (Y k2) ≤ N15 → (∀ c ∈ mAdd (zM (Y k)) (zM (Y k2)), c.2.1 < 2 ^ 62) ∧ (∀ c ∈ mAdd (zM (Y k)) (zM (Y k2)), 1 ≤ c.2.1) ∧ (∀ c ∈ sU lim (zS (Y k)) (zS (Y k2)) (zS (Y k2)).length, c.2.1 < 2 ^ 62) ∧ (mPut lim (zM (Y k)) (zM (Y k2)) (zT (Y k)) (zT (Y k2))).1.length ≤ lim) (hpa : isPA E G) (hd : isMd E G P W R lim rq po A B Y) : K_X12_join l E z G [.ref (ga E 104), .int x1, .int x2] (fun r G2 => (if oJoinOk Y x1 x2 = true then (r = lN (zN (Y (ix x1)) + zN (Y (ix x2))) ∧ ∃ po2 sv, svSpec lim (sU lim (zS (Y (ix x1))) (zS (Y (ix x2))) (zS (Y (ix x2))).length) sv ∧ isMd E G2 P W R lim rq po2 A B (fu Y (ix x1) (yPut lim (Y (ix x1)) (Y (ix x2)) sv)) ∧ isPA E G2) else (r = -1 ∧ ∃ po2, isMd E G2 P W R lim rq po2 A B Y ∧ isPA E G2)) ∧ ∀ j, (j < 104 ∨ 122 ≤ j) ∧ (j < 124 ∨ 127 ≤ j) → G2 j = G j) := by
  refine Fc.of rfl [some (.ref (ga E 104)), some (.int x1), some (.int x2), none] 1 rfl (Nat.le_of_ble_eq_true rfl) ?_
  intro M hM0 hini C
  subst hM0
  obtain ⟨hm, ⟨ft, h7, hft⟩, ⟨fp, hp, hip⟩, ⟨fq, hq, hiq⟩, hMm, hMs, hMc⟩ := id hd
  replace hft : ∀ q, q < 4 → ft q = lN (zN (Y q)) := hft
  replace hip : ∀ q r c, q < 4 → r < R → c < W → fp (2048 * q + 256 * r + c) = lN (zP (Y q) r c) := hip
  replace hiq : ∀ q r c, q < 4 → r < R → c < W → fq (2048 * q + 256 * r + c) = lN (zC (Y q) r c) := hiq
  obtain ⟨fa, fb, ho, k5, k6, hfa, hfb, hrg, hlim, hab⟩ := id hm
  cases hi1 : iin x1 4 with
  | false =>
    refine v_iload_n C dX12_join_0 rfl ?_
    refine mc_X12_146 C dX12_join_1 (c_Mo_isStream _ E z) rfl (fun r1 G1 hp1 => ?_)
    obtain ⟨hr1, rfl⟩ := hp1
    rw [hi1] at hr1
    subst hr1
    first | refine v_ifb_eq C 34 dX12_join_4 (by decide) (fun h4 => ?_) (fun h4 => by exfalso; first | omega | exact absurd h4 (by decide) | (have h9 := of_decide_eq_true h4; omega) | (have h9 := of_decide_eq_false h4; omega) | contradiction | simp_all) | refine v_ifn_eq C 34 dX12_join_4 (by decide) (by omega) (fun h4 => ?_) (fun h4 => by exfalso; first | omega | exact absurd h4 (by decide) | (have h9 := of_decide_eq_true h4; omega) | (have h9 := of_decide_eq_false h4; omega) | contradiction | simp_all) | refine v_if_eq C 34 dX12_join_4 (by decide) (fun h4 => ?_) (fun h4 => by exfalso; first | omega | exact absurd h4 (by decide) | (have h9 := of_decide_eq_true h4; omega) | (have h9 := of_decide_eq_false h4; omega) | contradiction | simp_all)
    refine v_ldc2 C tw824 dX12_join_34 ?_
    refine v_lret C dX12_join_37 ?_
    refine ⟨?_, fun _ _ => rfl⟩
    rw [if_neg (by unfold oJoinOk; simp [hi1])]
    exact ⟨rfl, po, hd, hpa⟩
  | true =>
    obtain ⟨s, hs, rfl⟩ := iin_of hi1 (by decide)
    have hsx : ix (nI s) = s := ix_nI (by omega)
    cases hi2 : iin x2 4 with
    | false =>
      refine v_iload_n C dX12_join_0 rfl ?_
      refine mc_X12_146 C dX12_join_1 (c_Mo_isStream _ E z) rfl (fun r1 G1 hp1 => ?_)
      obtain ⟨hr1, rfl⟩ := hp1
      rw [hi1] at hr1
      subst hr1
      first | refine v_ifb_eq C 34 dX12_join_4 (by decide) (fun h4 => by exfalso; first | omega | exact absurd h4 (by decide) | (have h9 := of_decide_eq_true h4; omega) | (have h9 := of_decide_eq_false h4; omega) | contradiction | simp_all) (fun h4 => ?_) | refine v_ifn_eq C 34 dX12_join_4 (by decide) (by omega) (fun h4 => by exfalso; first | omega | exact absurd h4 (by decide) | (have h9 := of_decide_eq_true h4; omega) | (have h9 := of_decide_eq_false h4; omega) | contradiction | simp_all) (fun h4 => ?_) | refine v_if_eq C 34 dX12_join_4 (by decide) (fun h4 => by exfalso; first | omega | exact absurd h4 (by decide) | (have h9 := of_decide_eq_true h4; omega) | (have h9 := of_decide_eq_false h4; omega) | contradiction | simp_all) (fun h4 => ?_)
      refine v_iload_n C dX12_join_7 rfl ?_
      refine mc_X12_146 C dX12_join_8 (c_Mo_isStream _ E z) rfl (fun r8 G8 hp8 => ?_)
      obtain ⟨hr8, rfl⟩ := hp8
      rw [hi2] at hr8
      subst hr8
      first | refine v_ifb_eq C 34 dX12_join_11 (by decide) (fun h11 => ?_) (fun h11 => by exfalso; first | omega | exact absurd h11 (by decide) | (have h9 := of_decide_eq_true h11; omega) | (have h9 := of_decide_eq_false h11; omega) | contradiction | simp_all) | refine v_ifn_eq C 34 dX12_join_11 (by decide) (by omega) (fun h11 => ?_) (fun h11 => by exfalso; first | omega | exact absurd h11 (by decide) | (have h9 := of_decide_eq_true h11; omega) | (have h9 := of_decide_eq_false h11; omega) | contradiction | simp_all) | refine v_if_eq C 34 dX12_join_11 (by decide) (fun h11 => ?_) (fun h11 => by exfalso; first | omega | exact absurd h11 (by decide) | (have h9 := of_decide_eq_true h11; omega) | (have h9 := of_decide_eq_false h11; omega) | contradiction | simp_all)
      refine v_ldc2 C tw824 dX12_join_34 ?_
      refine v_lret C dX12_join_37 ?_
      refine ⟨?_, fun _ _ => rfl⟩
      rw [if_neg (by unfold oJoinOk; simp [hi1, hi2])]
      exact ⟨rfl, po, hd, hpa⟩
    | true =>
      obtain ⟨s2, hs2, rfl⟩ := iin_of hi2 (by decide)
      have hs2x : ix (nI s2) = s2 := ix_nI (by omega)
      refine v_iload_n C dX12_join_0 rfl ?_
      refine mc_X12_146 C dX12_join_1 (c_Mo_isStream _ E z) rfl (fun r1 G1 hp1 => ?_)
      obtain ⟨hr1, rfl⟩ := hp1
      rw [hi1] at hr1
      subst hr1
      first | refine v_ifb_eq C 34 dX12_join_4 (by decide) (fun h4 => by exfalso; first | omega | exact absurd h4 (by decide) | (have h9 := of_decide_eq_true h4; omega) | (have h9 := of_decide_eq_false h4; omega) | contradiction | simp_all) (fun h4 => ?_) | refine v_ifn_eq C 34 dX12_join_4 (by decide) (by omega) (fun h4 => by exfalso; first | omega | exact absurd h4 (by decide) | (have h9 := of_decide_eq_true h4; omega) | (have h9 := of_decide_eq_false h4; omega) | contradiction | simp_all) (fun h4 => ?_) | refine v_if_eq C 34 dX12_join_4 (by decide) (fun h4 => by exfalso; first | omega | exact absurd h4 (by decide) | (have h9 := of_decide_eq_true h4; omega) | (have h9 := of_decide_eq_false h4; omega) | contradiction | simp_all) (fun h4 => ?_)
      refine v_iload_n C dX12_join_7 rfl ?_
      refine mc_X12_146 C dX12_join_8 (c_Mo_isStream _ E z) rfl (fun r8 G8 hp8 => ?_)
      obtain ⟨hr8, rfl⟩ := hp8
      rw [hi2] at hr8
      subst hr8
      first | refine v_ifb_eq C 34 dX12_join_11 (by decide) (fun h11 => by exfalso; first | omega | exact absurd h11 (by decide) | (have h9 := of_decide_eq_true h11; omega) | (have h9 := of_decide_eq_false h11; omega) | contradiction | simp_all) (fun h11 => ?_) | refine v_ifn_eq C 34 dX12_join_11 (by decide) (by omega) (fun h11 => by exfalso; first | omega | exact absurd h11 (by decide) | (have h9 := of_decide_eq_true h11; omega) | (have h9 := of_decide_eq_false h11; omega) | contradiction | simp_all) (fun h11 => ?_) | refine v_if_eq C 34 dX12_join_11 (by decide) (fun h11 => by exfalso; first | omega | exact absurd h11 (by decide) | (have h9 := of_decide_eq_true h11; omega) | (have h9 := of_decide_eq_false h11; omega) | contradiction | simp_all) (fun h11 => ?_)
      have hn1 := (hok s hs).1
      have hn2 := (hok s2 hs2).1
      unfold N15 at hn1 hn2
      refine v_aload_n C dX12_join_14 rfl ?_
      refine gf_X12_16 C dX12_join_15 (by assumption) ?_
      refine v_iload_n C dX12_join_18 rfl ?_
      refine v_lald C dX12_join_19 (by assumption) (by omega) (by omega) (hft s hs) ?_
      refine v_aload_n C dX12_join_20 rfl ?_
      refine gf_X12_16 C dX12_join_21 (by assumption) ?_
      refine v_iload_n C dX12_join_24 rfl ?_
      refine v_lald C dX12_join_25 (by assumption) (by omega) (by omega) (hft s2 hs2) ?_
      first | refine v_laddn C dX12_join_26 ?_ | refine v_ladd C dX12_join_26 ?_
      refine v_ldc2 C tw823 dX12_join_27 ?_
      refine v_topl (show (1000000000000000 : Int64) = lN 1000000000000000 by decide) ?_
      refine v_lcmpn_le C 38 dX12_join_30 dX12_join_31 (by decide) (by omega) (by omega) (fun h30 => ?_) (fun h30 => ?_)
      · skip
        have hN : zN (Y s) + zN (Y s2) ≤ N15 := by unfold N15; omega
        clear ho h7 hp hq
        refine v_aload_n C dX12_join_38 rfl ?_
        refine v_iload_n C dX12_join_39 rfl ?_
        refine v_iload_n C dX12_join_40 rfl ?_
        refine mc_X12_163 C dX12_join_41 (hm.rc) (c_Mo_joinMisra _ E z hs hs2 (fun c hc9 => ((hok s hs).2.2.2.1.2 c hc9).2.2) (hbj s s2 hs hs2 hN).1 (hbj s s2 hs hs2 hN).2.1 (hbj s s2 hs hs2 hN).2.2.2 hpa hd) rfl (fun r41 G41 hp41 => ?_)
        obtain ⟨po41, hd41, hpa41, hfr41⟩ := hp41
        refine v_aload_n C dX12_join_44 rfl ?_
        refine v_iload_n C dX12_join_45 rfl ?_
        refine v_iload_n C dX12_join_46 rfl ?_
        refine mc_X12_166 C dX12_join_47 (hd41.1.rc) (c_Mo_joinSaving _ E z (Y := (fu Y s (setM (Y s) (mPut lim (zM (Y s)) (zM (Y s2)) (zT (Y s)) (zT (Y s2)))))) hs hs2 (by rw [zS_setM, zS_setM]; exact (hbj s s2 hs hs2 hN).2.2.1) hpa41 hd41) rfl (fun r47 G47 hp47 => ?_)
        obtain ⟨po47, sv, hsv, hd47, hpa47, hfr47⟩ := hp47
        refine v_aload_n C dX12_join_50 rfl ?_
        refine v_iload_n C dX12_join_51 rfl ?_
        refine v_iload_n C dX12_join_52 rfl ?_
        refine mc_X12_169 C dX12_join_53 (hd47.1.rc) (c_Mo_joinCounts _ E z hs hs2 hpa47 hd47) rfl (fun r53 G53 hp53 => ?_)
        obtain ⟨po53, hd53, hpa53, hfr53⟩ := hp53
        refine v_iconst (v := nI 0) C dX12_join_56 (by decide) ?_
        refine v_istore_3 C dX12_join_57 (by decide) (by first | rfl | assumption) ?_
        rw [zS_setM, zS_setM] at hsv
        have ek : ∀ j, zK (fu (fu Y s (setM (Y s) (mPut lim (zM (Y s)) (zM (Y s2)) (zT (Y s)) (zT (Y s2))))) s (setS ((fu Y s (setM (Y s) (mPut lim (zM (Y s)) (zM (Y s2)) (zT (Y s)) (zT (Y s2))))) s) sv) j) = zK (Y j) ∧ zG (fu (fu Y s (setM (Y s) (mPut lim (zM (Y s)) (zM (Y s2)) (zT (Y s)) (zT (Y s2))))) s (setS ((fu Y s (setM (Y s) (mPut lim (zM (Y s)) (zM (Y s2)) (zT (Y s)) (zT (Y s2))))) s) sv) j) = zG (Y j) := fun j => by
          by_cases q9 : j = s
          · subst q9; rw [fu_self, fu_self]; exact ⟨rfl, rfl⟩
          · rw [fu_ne _ _ q9, fu_ne _ _ q9]; exact ⟨rfl, rfl⟩
        rw [(ek s).1, (ek s).2, (ek s2).1, (ek s2).2] at hd53
        have ep : ∀ j, zP (fu (fu (fu Y s (setM (Y s) (mPut lim (zM (Y s)) (zM (Y s2)) (zT (Y s)) (zT (Y s2))))) s (setS ((fu Y s (setM (Y s) (mPut lim (zM (Y s)) (zM (Y s2)) (zT (Y s)) (zT (Y s2))))) s) sv)) s (setK (fu (fu Y s (setM (Y s) (mPut lim (zM (Y s)) (zM (Y s2)) (zT (Y s)) (zT (Y s2))))) s (setS ((fu Y s (setM (Y s) (mPut lim (zM (Y s)) (zM (Y s2)) (zT (Y s)) (zT (Y s2))))) s) sv) s) (yK (zK (Y s)) (zG (Y s)) (zK (Y s2)) (zG (Y s2)))) j) = zP (Y j) ∧ zC (fu (fu (fu Y s (setM (Y s) (mPut lim (zM (Y s)) (zM (Y s2)) (zT (Y s)) (zT (Y s2))))) s (setS ((fu Y s (setM (Y s) (mPut lim (zM (Y s)) (zM (Y s2)) (zT (Y s)) (zT (Y s2))))) s) sv)) s (setK (fu (fu Y s (setM (Y s) (mPut lim (zM (Y s)) (zM (Y s2)) (zT (Y s)) (zT (Y s2))))) s (setS ((fu Y s (setM (Y s) (mPut lim (zM (Y s)) (zM (Y s2)) (zT (Y s)) (zT (Y s2))))) s) sv) s) (yK (zK (Y s)) (zG (Y s)) (zK (Y s2)) (zG (Y s2)))) j) = zC (Y j) ∧ zN (fu (fu (fu Y s (setM (Y s) (mPut lim (zM (Y s)) (zM (Y s2)) (zT (Y s)) (zT (Y s2))))) s (setS ((fu Y s (setM (Y s) (mPut lim (zM (Y s)) (zM (Y s2)) (zT (Y s)) (zT (Y s2))))) s) sv)) s (setK (fu (fu Y s (setM (Y s) (mPut lim (zM (Y s)) (zM (Y s2)) (zT (Y s)) (zT (Y s2))))) s (setS ((fu Y s (setM (Y s) (mPut lim (zM (Y s)) (zM (Y s2)) (zT (Y s)) (zT (Y s2))))) s) sv) s) (yK (zK (Y s)) (zG (Y s)) (zK (Y s2)) (zG (Y s2)))) j) = zN (Y j) := fun j => by
          by_cases q9 : j = s
          · subst q9; rw [fu_self, fu_self, fu_self]; exact ⟨rfl, rfl, rfl⟩
          · rw [fu_ne _ _ q9, fu_ne _ _ q9, fu_ne _ _ q9]; exact ⟨rfl, rfl, rfl⟩
        clear hip hiq hft ft fp fq
        obtain ⟨hm9, ⟨ft, h7, hft⟩, ⟨fp, hp53, hip⟩, ⟨fq, hq53, hiq⟩, -⟩ := id hd53
        replace hft : ∀ q, q < 4 → ft q = lN (zN (Y q)) := fun q hq => by rw [hft q hq]; simp only []; rw [(ep q).2.2]
        replace hip : mgr fp R W (fun q => zP (Y q)) := fun q r c a b d => by rw [hip q r c a b d]; simp only []; rw [(ep q).1]
        replace hiq : mgr fq R W (fun q => zC (Y q)) := fun q r c a b d => by rw [hiq q r c a b d]; simp only []; rw [(ep q).2.1]
        have ho := hm9.rc
        refine mjoin_loop C hs hs2 ?_ 2049 0 (by omega) (by omega) G53 fp fq ho hp53 hq53 addI0 addI0 (fun _ _ => rfl)
        clear ho
        intro G fp2 fq2 ho hp hq hzp hzq hfr
        replace h7 := (hfr _ (by omega)).trans h7
        refine v_aload_n C dX12_join_125 rfl ?_
        refine gf_X12_16 C dX12_join_126 (by assumption) ?_
        refine v_iload_n C dX12_join_129 rfl ?_
        refine v_dup2 C dX12_join_130 rfl rfl ?_
        refine v_lald C dX12_join_131 (by assumption) (by omega) (by omega) (hft s hs) ?_
        refine v_aload_n C dX12_join_132 rfl ?_
        refine gf_X12_16 C dX12_join_133 (by assumption) ?_
        refine v_iload_n C dX12_join_136 rfl ?_
        refine v_lald C dX12_join_137 (by assumption) (by omega) (by omega) (hft s2 hs2) ?_
        first | refine v_laddn C dX12_join_138 ?_ | refine v_ladd C dX12_join_138 ?_
        refine v_last C dX12_join_139 (by assumption) (by omega) (by omega) (fun G hG139 hF139 => ?_)
        first | replace ho := (hF139 _ (by omega)).trans ho | replace ho := hG139 | skip
        first | replace h7 := (hF139 _ (by omega)).trans h7 | replace h7 := hG139 | skip
        first | replace hp := (hF139 _ (by omega)).trans hp | replace hp := hG139 | skip
        first | replace hq := (hF139 _ (by omega)).trans hq | replace hq := hG139 | skip
        refine v_aload_n C dX12_join_140 rfl ?_
        refine gf_X12_16 C dX12_join_141 (by assumption) ?_
        refine v_iload_n C dX12_join_144 rfl ?_
        refine v_lald C dX12_join_145 (by assumption) (by omega) (by omega) (fu_self _ _ _) ?_
        refine v_lret C dX12_join_146 ?_
        refine ⟨?_, fun j hj => ?_⟩
        · rw [if_pos (by unfold oJoinOk; rw [hi1, hi2, hsx, hs2x, Bool.true_and, Bool.true_and]; exact decide_eq_true (by unfold N15; omega))]
          rw [hsx, hs2x]
          exact ⟨rfl, _, sv, hsv, yPut_pack hs hs2 rfl hd53 ((hd53.1).keep (fun j a b => by rw [hF139 j (by omega), hfr j (by omega)])) hp53 hq53 hip hiq h7 hft hp hq hzp hzq (fun j a b => by rw [hF139 j (by omega), hfr j (by omega)]), hpa53.keep (fun j a b => by rw [hF139 j (by omega), hfr j (by omega)])⟩
        · rw [hF139 j (by omega), hfr j (by omega), hfr53 j (by omega), hfr47 j (by omega), hfr41 j (by omega)]
      · skip
        refine v_ldc2 C tw824 dX12_join_34 ?_
        refine v_lret C dX12_join_37 ?_
        refine ⟨?_, fun _ _ => rfl⟩
        rw [if_neg (by unfold oJoinOk; rw [hi1, hi2, hsx, hs2x, Bool.true_and, Bool.true_and]; simp only [decide_eq_true_eq]; unfold N15; omega)]
        exact ⟨rfl, po, hd, hpa⟩

