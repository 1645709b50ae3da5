def yAdd (P W R : Nat) (A B : Nat → Nat) (lim : Nat) (Y : Nat → Str) (x1 x2 x3 : Int32) : Int64 × (Nat → Str) := if iin x1 4 = true then (if iin x2 P = true then (if itm x3 1000 = true then (if zN (Y (ix x1)) + ix x3 ≤ N15 then (lN (zN (Y (ix x1)) + ix x3), fu Y (ix x1) (yIter P W R A B lim (Y (ix x1)) (ix x2) (ix x3))) else (-1, Y)) else (-1, Y)) else (-1, Y)) else (-1, Y)
theorem okS.hB {W R : Nat} {S : Str} (h : okS W R S) : ∀ r, r < R → ∀ c, c < W → zC S r c < 2 ^ 62 := fun r hr c hc9 => by
  have h1 := h.1; have h2 := h.2.2.1 r hr c hc9; unfold N15 at h1; omega
theorem okS.hP {W R : Nat} {S : Str} (h : okS W R S) : ∀ r, r < R → ∀ c, c < W → zP S r c < 2 ^ 62 := fun r hr c hc9 => by
  have h1 := h.1; have h2 := h.2.1 r hr c hc9; unfold N15 at h1; omega
theorem okS.hM {W R : Nat} {S : Str} (h : okS W R S) : ∀ c ∈ zM S, c.2.1 < 2 ^ 62 := fun c hc9 => by
  have h1 := h.1; have h2 := h.2.2.2.1.2 c hc9; unfold N15 at h1; omega
theorem okS.hS {W R : Nat} {S : Str} (h : okS W R S) : ∀ c ∈ zS S, c.2.1 < 2 ^ 61 := fun c hc9 => by
  have h1 := h.1; have h2 := h.2.2.2.2.1 c hc9; unfold N15 at h1; omega

set_option maxHeartbeats 4000000 in
set_option maxRecDepth 100000 in
theorem madd_loop {M : Mx} {E : Ev} {z : Option Nat} (C : Cx M E yX12_add.cls cX12_add 5 (some .long) 4 99 0 0) {post : Int64 → Gh → Prop} {G0 : Gh} {P W R lim rq po s x t : Nat} {A B : Nat → Nat} {Y : Nat → Str} (hs : s < 4) (hx : x < P) (ht : t ≤ 1000) (hrg : 2 ≤ P ∧ P ≤ 65521 ∧ 1 ≤ W ∧ W ≤ 256 ∧ 1 ≤ R ∧ R ≤ 8) (hok : okS W R (Y s)) (hn : zN (Y s) + t ≤ N15) (hend : ∀ {G : Gh} {v : Int64}, v = lN (zN (Y s) + t) → isMd E G P W R lim rq po A B (fu Y s (yIter P W R A B lim (Y s) x t)) → (∀ j, (j < 107 ∨ 122 ≤ j) → G j = G0 j) → post v G) :
    ∀ (u k : Nat), k ≤ t → t - k < u → ∀ (G : Gh), isMd E G P W R lim rq po A B (fu Y s (yIter P W R A B lim (Y s) x k)) → (∀ j, (j < 107 ∨ 122 ≤ j) → G j = G0 j) → V M E 5 (QE M E (fun r : Int64 => some (.long r)) z 0 0 post) z 0 0 G 49 [some (.ref (ga E 104)), some (.int (nI s)), some (.int (nI x)), some (.int (nI t)), some (.int (nI k))] [] := by
  intro u
  induction u with
  | zero => intro k _ h; omega
  | succ u ih =>
    intro k hk hu G hd hfr
    refine v_iload C dX12_add_49 rfl ?_
    refine v_iload_n C dX12_add_51 rfl ?_
    refine v_icmpn_ge C 67 dX12_add_52 (by decide) (by omega) (by omega) (fun h52 => ?_) (fun h52 => ?_)
    · skip
      have e9 : k = t := by omega
      subst e9
      clear ih
      obtain ⟨hm, ⟨ft, h7, hft⟩, -⟩ := id hd
      have ho := hm.rc
      refine v_aload_n C dX12_add_67 rfl ?_
      refine gf_X12_16 C dX12_add_68 (by assumption) ?_
      refine v_iload_n C dX12_add_71 rfl ?_
      refine v_lald C dX12_add_72 (by assumption) (by omega) (by omega) (hft s hs) ?_
      refine v_lret C dX12_add_73 ?_
      refine hend ?_ hd hfr
      simp only []
      rw [fu_self, yIter_N]
    · skip
      have hk9 := okS_iter (P := P) (A := A) (B := B) (lim := lim) (x := x) hok hrg.2.2.1 hrg.2.2.2.2.1 k (by omega)
      refine v_aload_n C dX12_add_55 rfl ?_
      refine v_iload_n C dX12_add_56 rfl ?_
      refine v_iload_n C dX12_add_57 rfl ?_
      refine mc_X12_153 C dX12_add_58 (hd.1.rc) (c_Mo_comes _ E z (Y := fu Y s (yIter P W R A B lim (Y s) x k)) hs hx (by rw [fu_self]; exact hk9.hB) (by rw [fu_self]; exact hk9.hM) (by rw [fu_self]; exact hk9.hS) (by rw [fu_self]; exact hk9.2.2.2.2.2) hd) rfl (fun r58 G58 hp58 => ?_)
      obtain ⟨hd58, hfr58⟩ := hp58
      rw [fu_self, fu_fu] at hd58
      first | refine v_iinc_4 C dX12_add_61 (nI_1 _) (by decide) (by first | rfl | assumption) ?_ | refine v_iinc_4 C dX12_add_61 rfl (by decide) (by first | rfl | assumption) ?_
      refine v_goto C 49 dX12_add_64 (by decide) ?_
      exact ih (k + 1) (by omega) (by omega) G58 hd58 (fun j hj => by rw [hfr58 j hj]; exact hfr j hj)
set_option maxHeartbeats 4000000 in
set_option maxRecDepth 100000 in
theorem c_Mo_add (l : Launch) (E : Ev) (z : Option Nat) {G : Gh} {P W R lim rq po : Nat} {A B : Nat → Nat} {Y : Nat → Str} {x1 x2 x3 : Int32} (hok : ∀ k, k < 4 → okS W R (Y k)) (hd : isMd E G P W R lim rq po A B Y) : K_X12_add l E z G [.ref (ga E 104), .int x1, .int x2, .int x3] (fun r G2 => r = (yAdd P W R A B lim Y x1 x2 x3).1 ∧ isMd E G2 P W R lim rq po A B (yAdd P W R A B lim Y x1 x2 x3).2 ∧ ∀ j, (j < 107 ∨ 122 ≤ j) → G2 j = G j) := by
  refine Fc.of rfl [some (.ref (ga E 104)), some (.int x1), some (.int x2), some (.int x3), none] 1 rfl (Nat.le_of_ble_eq_true rfl) ?_
  intro M hM0 hini C
  subst hM0
  obtain ⟨hm, ⟨ft, h7, hft⟩, ⟨fp, hp, hip⟩, ⟨fq, hq, hiq⟩, hMm, hMs, hMc⟩ := id hd
  replace hft : ∀ q, q < 4 → ft q = lN (zN (Y q)) := hft
  replace hip : ∀ q r c, q < 4 → r < R → c < W → fp (2048 * q + 256 * r + c) = lN (zP (Y q) r c) := hip
  replace hiq : ∀ q r c, q < 4 → r < R → c < W → fq (2048 * q + 256 * r + c) = lN (zC (Y q) r c) := hiq
  obtain ⟨fa, fb, ho, k5, k6, hfa, hfb, hrg, hlim, hab⟩ := id hm
  cases hi1 : iin x1 4 with
  | false =>
    refine v_iload_n C dX12_add_0 rfl ?_
    refine mc_X12_146 C dX12_add_1 (c_Mo_isStream _ E z) rfl (fun r1 G1 hp1 => ?_)
    obtain ⟨hr1, rfl⟩ := hp1
    rw [hi1] at hr1
    subst hr1
    first | refine v_ifb_eq C 42 dX12_add_4 (by decide) (fun h4 => ?_) (fun h4 => by exfalso; first | omega | exact absurd h4 (by decide) | (have h9 := of_decide_eq_true h4; omega) | (have h9 := of_decide_eq_false h4; omega) | contradiction | simp_all) | refine v_ifn_eq C 42 dX12_add_4 (by decide) (by omega) (fun h4 => ?_) (fun h4 => by exfalso; first | omega | exact absurd h4 (by decide) | (have h9 := of_decide_eq_true h4; omega) | (have h9 := of_decide_eq_false h4; omega) | contradiction | simp_all) | refine v_if_eq C 42 dX12_add_4 (by decide) (fun h4 => ?_) (fun h4 => by exfalso; first | omega | exact absurd h4 (by decide) | (have h9 := of_decide_eq_true h4; omega) | (have h9 := of_decide_eq_false h4; omega) | contradiction | simp_all)
    refine v_ldc2 C tw824 dX12_add_42 ?_
    refine v_lret C dX12_add_45 ?_
    refine ⟨?_, ?_, fun _ _ => rfl⟩
    · unfold yAdd; rw [if_neg (by rw [hi1]; decide)]
    · unfold yAdd; rw [if_neg (by rw [hi1]; decide)]; exact hd
  | true =>
    obtain ⟨s, hs, rfl⟩ := iin_of hi1 (by decide)
    have hsx : ix (nI s) = s := ix_nI (by omega)
    cases hi2 : iin x2 P with
    | false =>
      refine v_iload_n C dX12_add_0 rfl ?_
      refine mc_X12_146 C dX12_add_1 (c_Mo_isStream _ E z) rfl (fun r1 G1 hp1 => ?_)
      obtain ⟨hr1, rfl⟩ := hp1
      rw [hi1] at hr1
      subst hr1
      first | refine v_ifb_eq C 42 dX12_add_4 (by decide) (fun h4 => by exfalso; first | omega | exact absurd h4 (by decide) | (have h9 := of_decide_eq_true h4; omega) | (have h9 := of_decide_eq_false h4; omega) | contradiction | simp_all) (fun h4 => ?_) | refine v_ifn_eq C 42 dX12_add_4 (by decide) (by omega) (fun h4 => by exfalso; first | omega | exact absurd h4 (by decide) | (have h9 := of_decide_eq_true h4; omega) | (have h9 := of_decide_eq_false h4; omega) | contradiction | simp_all) (fun h4 => ?_) | refine v_if_eq C 42 dX12_add_4 (by decide) (fun h4 => by exfalso; first | omega | exact absurd h4 (by decide) | (have h9 := of_decide_eq_true h4; omega) | (have h9 := of_decide_eq_false h4; omega) | contradiction | simp_all) (fun h4 => ?_)
      refine v_aload_n C dX12_add_7 rfl ?_
      refine v_iload_n C dX12_add_8 rfl ?_
      refine mc_X12_105 C dX12_add_9 (by assumption) (c_Mo_isKey _ E z hm) rfl (fun r9 G9 hp9 => ?_)
      obtain ⟨hr9, rfl⟩ := hp9
      rw [hi2] at hr9
      subst hr9
      first | refine v_ifb_eq C 42 dX12_add_12 (by decide) (fun h12 => ?_) (fun h12 => by exfalso; first | omega | exact absurd h12 (by decide) | (have h9 := of_decide_eq_true h12; omega) | (have h9 := of_decide_eq_false h12; omega) | contradiction | simp_all) | refine v_ifn_eq C 42 dX12_add_12 (by decide) (by omega) (fun h12 => ?_) (fun h12 => by exfalso; first | omega | exact absurd h12 (by decide) | (have h9 := of_decide_eq_true h12; omega) | (have h9 := of_decide_eq_false h12; omega) | contradiction | simp_all) | refine v_if_eq C 42 dX12_add_12 (by decide) (fun h12 => ?_) (fun h12 => by exfalso; first | omega | exact absurd h12 (by decide) | (have h9 := of_decide_eq_true h12; omega) | (have h9 := of_decide_eq_false h12; omega) | contradiction | simp_all)
      refine v_ldc2 C tw824 dX12_add_42 ?_
      refine v_lret C dX12_add_45 ?_
      refine ⟨?_, ?_, fun _ _ => rfl⟩
      · unfold yAdd; rw [if_pos hi1]; rw [if_neg (by rw [hi2]; decide)]
      · unfold yAdd; rw [if_pos hi1]; rw [if_neg (by rw [hi2]; decide)]; exact hd
    | true =>
      obtain ⟨x, hx, rfl⟩ := iin_of hi2 (by omega)
      have hxx : ix (nI x) = x := ix_nI (by omega)
      cases hi3 : itm x3 1000 with
      | false =>
        refine v_iload_n C dX12_add_0 rfl ?_
        refine mc_X12_146 C dX12_add_1 (c_Mo_isStream _ E z) rfl (fun r1 G1 hp1 => ?_)
        obtain ⟨hr1, rfl⟩ := hp1
        rw [hi1] at hr1
        subst hr1
        first | refine v_ifb_eq C 42 dX12_add_4 (by decide) (fun h4 => by exfalso; first | omega | exact absurd h4 (by decide) | (have h9 := of_decide_eq_true h4; omega) | (have h9 := of_decide_eq_false h4; omega) | contradiction | simp_all) (fun h4 => ?_) | refine v_ifn_eq C 42 dX12_add_4 (by decide) (by omega) (fun h4 => by exfalso; first | omega | exact absurd h4 (by decide) | (have h9 := of_decide_eq_true h4; omega) | (have h9 := of_decide_eq_false h4; omega) | contradiction | simp_all) (fun h4 => ?_) | refine v_if_eq C 42 dX12_add_4 (by decide) (fun h4 => by exfalso; first | omega | exact absurd h4 (by decide) | (have h9 := of_decide_eq_true h4; omega) | (have h9 := of_decide_eq_false h4; omega) | contradiction | simp_all) (fun h4 => ?_)
        refine v_aload_n C dX12_add_7 rfl ?_
        refine v_iload_n C dX12_add_8 rfl ?_
        refine mc_X12_105 C dX12_add_9 (by assumption) (c_Mo_isKey _ E z hm) rfl (fun r9 G9 hp9 => ?_)
        obtain ⟨hr9, rfl⟩ := hp9
        rw [hi2] at hr9
        subst hr9
        first | refine v_ifb_eq C 42 dX12_add_12 (by decide) (fun h12 => by exfalso; first | omega | exact absurd h12 (by decide) | (have h9 := of_decide_eq_true h12; omega) | (have h9 := of_decide_eq_false h12; omega) | contradiction | simp_all) (fun h12 => ?_) | refine v_ifn_eq C 42 dX12_add_12 (by decide) (by omega) (fun h12 => by exfalso; first | omega | exact absurd h12 (by decide) | (have h9 := of_decide_eq_true h12; omega) | (have h9 := of_decide_eq_false h12; omega) | contradiction | simp_all) (fun h12 => ?_) | refine v_if_eq C 42 dX12_add_12 (by decide) (fun h12 => by exfalso; first | omega | exact absurd h12 (by decide) | (have h9 := of_decide_eq_true h12; omega) | (have h9 := of_decide_eq_false h12; omega) | contradiction | simp_all) (fun h12 => ?_)
        refine v_iload_n C dX12_add_15 rfl ?_
        refine v_iconst (v := nI 1) C dX12_add_16 (by decide) ?_
        refine v_sipush (v := nI 1000) C dX12_add_17 (by decide) ?_
        refine mc_X12_101 C dX12_add_20 (c_Mo_in _ E z) rfl (fun r20 G20 hp20 => ?_)
        obtain ⟨hr20, rfl⟩ := hp20
        rw [inn_itm (n := 1000) (by omega), hi3] at hr20
        subst hr20
        first | refine v_ifb_eq C 42 dX12_add_23 (by decide) (fun h23 => ?_) (fun h23 => by exfalso; first | omega | exact absurd h23 (by decide) | (have h9 := of_decide_eq_true h23; omega) | (have h9 := of_decide_eq_false h23; omega) | contradiction | simp_all) | refine v_ifn_eq C 42 dX12_add_23 (by decide) (by omega) (fun h23 => ?_) (fun h23 => by exfalso; first | omega | exact absurd h23 (by decide) | (have h9 := of_decide_eq_true h23; omega) | (have h9 := of_decide_eq_false h23; omega) | contradiction | simp_all) | refine v_if_eq C 42 dX12_add_23 (by decide) (fun h23 => ?_) (fun h23 => by exfalso; first | omega | exact absurd h23 (by decide) | (have h9 := of_decide_eq_true h23; omega) | (have h9 := of_decide_eq_false h23; omega) | contradiction | simp_all)
        refine v_ldc2 C tw824 dX12_add_42 ?_
        refine v_lret C dX12_add_45 ?_
        refine ⟨?_, ?_, fun _ _ => rfl⟩
        · unfold yAdd; rw [if_pos hi1]; rw [if_pos hi2]; rw [if_neg (by rw [hi3]; decide)]
        · unfold yAdd; rw [if_pos hi1]; rw [if_pos hi2]; rw [if_neg (by rw [hi3]; decide)]; exact hd
      | true =>
        obtain ⟨t, ht1, ht2, rfl⟩ := itm_of hi3 (by decide)
        have htx : ix (nI t) = t := ix_nI (by omega)
        refine v_iload_n C dX12_add_0 rfl ?_
        refine mc_X12_146 C dX12_add_1 (c_Mo_isStream _ E z) rfl (fun r1 G1 hp1 => ?_)
        obtain ⟨hr1, rfl⟩ := hp1
        rw [hi1] at hr1
        subst hr1
        first | refine v_ifb_eq C 42 dX12_add_4 (by decide) (fun h4 => by exfalso; first | omega | exact absurd h4 (by decide) | (have h9 := of_decide_eq_true h4; omega) | (have h9 := of_decide_eq_false h4; omega) | contradiction | simp_all) (fun h4 => ?_) | refine v_ifn_eq C 42 dX12_add_4 (by decide) (by omega) (fun h4 => by exfalso; first | omega | exact absurd h4 (by decide) | (have h9 := of_decide_eq_true h4; omega) | (have h9 := of_decide_eq_false h4; omega) | contradiction | simp_all) (fun h4 => ?_) | refine v_if_eq C 42 dX12_add_4 (by decide) (fun h4 => by exfalso; first | omega | exact absurd h4 (by decide) | (have h9 := of_decide_eq_true h4; omega) | (have h9 := of_decide_eq_false h4; omega) | contradiction | simp_all) (fun h4 => ?_)
        refine v_aload_n C dX12_add_7 rfl ?_
        refine v_iload_n C dX12_add_8 rfl ?_
        refine mc_X12_105 C dX12_add_9 (by assumption) (c_Mo_isKey _ E z hm) rfl (fun r9 G9 hp9 => ?_)
        obtain ⟨hr9, rfl⟩ := hp9
        rw [hi2] at hr9
        subst hr9
        first | refine v_ifb_eq C 42 dX12_add_12 (by decide) (fun h12 => by exfalso; first | omega | exact absurd h12 (by decide) | (have h9 := of_decide_eq_true h12; omega) | (have h9 := of_decide_eq_false h12; omega) | contradiction | simp_all) (fun h12 => ?_) | refine v_ifn_eq C 42 dX12_add_12 (by decide) (by omega) (fun h12 => by exfalso; first | omega | exact absurd h12 (by decide) | (have h9 := of_decide_eq_true h12; omega) | (have h9 := of_decide_eq_false h12; omega) | contradiction | simp_all) (fun h12 => ?_) | refine v_if_eq C 42 dX12_add_12 (by decide) (fun h12 => by exfalso; first | omega | exact absurd h12 (by decide) | (have h9 := of_decide_eq_true h12; omega) | (have h9 := of_decide_eq_false h12; omega) | contradiction | simp_all) (fun h12 => ?_)
        refine v_iload_n C dX12_add_15 rfl ?_
        refine v_iconst (v := nI 1) C dX12_add_16 (by decide) ?_
        refine v_sipush (v := nI 1000) C dX12_add_17 (by decide) ?_
        refine mc_X12_101 C dX12_add_20 (c_Mo_in _ E z) rfl (fun r20 G20 hp20 => ?_)
        obtain ⟨hr20, rfl⟩ := hp20
        rw [inn_itm (n := 1000) (by omega), hi3] at hr20
        subst hr20
        first | refine v_ifb_eq C 42 dX12_add_23 (by decide) (fun h23 => by exfalso; first | omega | exact absurd h23 (by decide) | (have h9 := of_decide_eq_true h23; omega) | (have h9 := of_decide_eq_false h23; omega) | contradiction | simp_all) (fun h23 => ?_) | refine v_ifn_eq C 42 dX12_add_23 (by decide) (by omega) (fun h23 => by exfalso; first | omega | exact absurd h23 (by decide) | (have h9 := of_decide_eq_true h23; omega) | (have h9 := of_decide_eq_false h23; omega) | contradiction | simp_all) (fun h23 => ?_) | refine v_if_eq C 42 dX12_add_23 (by decide) (fun h23 => by exfalso; first | omega | exact absurd h23 (by decide) | (have h9 := of_decide_eq_true h23; omega) | (have h9 := of_decide_eq_false h23; omega) | contradiction | simp_all) (fun h23 => ?_)
        have hn9 := (hok s hs).1
        unfold N15 at hn9
        refine v_aload_n C dX12_add_26 rfl ?_
        refine gf_X12_16 C dX12_add_27 (by assumption) ?_
        refine v_iload_n C dX12_add_30 rfl ?_
        refine v_lald C dX12_add_31 (by assumption) (by omega) (by omega) (hft s hs) ?_
        refine v_iload_n C dX12_add_32 rfl ?_
        first | refine v_i2ln C dX12_add_33 (by omega) ?_ | refine v_i2l C dX12_add_33 rfl ?_
        first | refine v_laddn C dX12_add_34 ?_ | refine v_ladd C dX12_add_34 ?_
        refine v_ldc2 C tw823 dX12_add_35 ?_
        refine v_topl (show (1000000000000000 : Int64) = lN 1000000000000000 by decide) ?_
        refine v_lcmpn_le C 46 dX12_add_38 dX12_add_39 (by decide) (by omega) (by omega) (fun h38 => ?_) (fun h38 => ?_)
        · skip
          refine v_iconst (v := nI 0) C dX12_add_46 (by decide) ?_
          refine v_istore_4 C dX12_add_47 (by decide) (by first | rfl | assumption) ?_
          have e9 : yAdd P W R A B lim Y (nI s) (nI x) (nI t) = (lN (zN (Y s) + t), fu Y s (yIter P W R A B lim (Y s) x t)) := by
            unfold yAdd; rw [if_pos hi1, if_pos hi2, if_pos hi3, hsx, htx, hxx, if_pos (by unfold N15; omega)]
          rw [e9]
          exact madd_loop C hs hx ht2 hrg (hok s hs) (by unfold N15; omega) (fun a b c => ⟨a, b, c⟩) (t + 1) 0 (by omega) (by omega) G (by show isMd E G P W R lim rq po A B (fu Y s (Y s)); rw [fu_same]; exact hd) (fun _ _ => rfl)
        · skip
          refine v_ldc2 C tw824 dX12_add_42 ?_
          refine v_lret C dX12_add_45 ?_
          refine ⟨?_, ?_, fun _ _ => rfl⟩
          · unfold yAdd; rw [if_pos hi1]; rw [if_pos hi2]; rw [if_pos hi3]; rw [hsx]; rw [htx]; rw [if_neg (by unfold N15; omega)]
          · unfold yAdd; rw [if_pos hi1]; rw [if_pos hi2]; rw [if_pos hi3]; rw [hsx]; rw [htx]; rw [if_neg (by unfold N15; omega)]; exact hd

