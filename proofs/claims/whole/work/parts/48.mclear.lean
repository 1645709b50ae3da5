theorem moM_pack {E : Ev} {G : Gh} {lim P s : Nat} {Ms : Nat → Ctr} {T : Nat → Nat} {l2 : Ctr} {t2 : Nat} {fms gms gk fk : Nat → Int32} {ftk gtk gn fn : Nat → Int64} (hall : ∀ q, q < 4 → moM1 gms gk gtk gn lim P q (Ms q) (T q)) (hlim : lim ≤ 64) (hs : s < 4) (h0 : G 110 = cI E 4 fms) (h1 : G 111 = cJ E 4 ftk) (h2 : G 112 = cI E 256 fk) (h3 : G 113 = cJ E 256 fn) (hss : ∀ q, q ≠ s → fms q = gms q ∧ ftk q = gtk q) (hoth : ∀ q, (q < 64 * s ∨ 64 * s + 64 ≤ q) → fk q = gk q ∧ fn q = gn q) (hme : moM1 fms fk ftk fn lim P s l2 t2) : moM E G lim P (fu Ms s l2) (fu T s t2) := by
  refine ⟨fms, fk, ftk, fn, h0, h1, h2, h3, fun q hq => ?_⟩
  by_cases q9 : q = s
  · subst q9
    rw [fu_self, fu_self]
    exact hme
  · rw [fu_ne _ _ q9, fu_ne _ _ q9]
    obtain ⟨g1, g2, g3, g4, g5⟩ := hall q hq
    refine ⟨by rw [(hss q q9).1]; exact g1, by rw [(hss q q9).2]; exact g2, fun i c hic => ?_, g4, g5⟩
    have hil := (List.getElem?_eq_some_iff.mp hic).1
    have hold := hoth (64 * q + i) (by omega)
    rw [hold.1, hold.2]
    exact g3 i c hic
def blk {α : Type} (T F k : Nat) (g f : Nat → α) : Prop := (∀ i, i < k → f (T + i) = g (F + i)) ∧ ∀ q, (q < T ∨ T + k ≤ q) → f q = g q
theorem blk0 {α : Type} {T F : Nat} {g : Nat → α} : blk T F 0 g g := ⟨fun i h => absurd h (Nat.not_lt_zero i), fun _ _ => rfl⟩
theorem blk_step {α : Type} {T F k B : Nat} {g f : Nat → α} (h : blk T F k g f) (hk : k < B) (hd : T = F ∨ T + B ≤ F ∨ F + B ≤ T) : blk T F (k + 1) g (fu f (T + k) (f (F + k))) := by
  obtain ⟨h1, h2⟩ := h
  refine ⟨fun i hi => ?_, fun q hq => ?_⟩
  · by_cases q9 : i = k
    · subst q9; rw [fu_self]; exact h2 _ (by omega)
    · rw [fu_ne _ _ (by omega)]; exact h1 i (by omega)
  · rw [fu_ne _ _ (by omega)]; exact h2 q (by omega)
def yClear (Y : Nat → Str) (x1 : Int32) : Bool × (Nat → Str) := if iin x1 4 = true then (true, fu Y (ix x1) strEmpty) else (false, Y)
def yCopy (Y : Nat → Str) (x1 x2 : Int32) : Bool × (Nat → Str) := if iin x1 4 = true then (if iin x2 4 = true then (true, fu Y (ix x1) (Y (ix x2))) else (false, Y)) else (false, Y)
def zro (T k : Nat) (g f : Nat → Int64) : Prop := (∀ i, i < k → f (T + i) = lN 0) ∧ ∀ q, (q < T ∨ T + k ≤ q) → f q = g q
theorem zro_step {T k : Nat} {g f : Nat → Int64} (h : zro T k g f) : zro T (k + 1) g (fu f (T + k) (lN 0)) := by
  obtain ⟨h1, h2⟩ := h
  refine ⟨fun i hi => ?_, fun q hq => ?_⟩
  · by_cases q9 : i = k
    · subst q9; exact fu_self _ _ _
    · rw [fu_ne _ _ (by omega)]; exact h1 i (by omega)
  · rw [fu_ne _ _ (by omega)]; exact h2 q (by omega)
theorem mgr_zero {g f : Nat → Int64} {R W s : Nat} {D : Nat → Nat → Nat → Nat} (h : mgr g R W D) (hR : R ≤ 8) (hW : W ≤ 256) (hs : s < 4) (hz : zro (2048 * s) 2048 g f) : mgr f R W (fu D s (fun _ _ => 0)) := by
  intro q r c hq hr hc9
  by_cases q9 : q = s
  · subst q9; rw [fu_self]; have := hz.1 (256 * r + c) (by omega); rw [← Nat.add_assoc] at this; exact this
  · rw [fu_ne _ _ q9, hz.2 _ (by omega)]; exact h q r c hq hr hc9
theorem mgr_copy {g f : Nat → Int64} {R W s s2 : Nat} {D : Nat → Nat → Nat → Nat} (h : mgr g R W D) (hR : R ≤ 8) (hW : W ≤ 256) (hs : s < 4) (hs2 : s2 < 4) (hz : blk (2048 * s) (2048 * s2) 2048 g f) : mgr f R W (fu D s (D s2)) := by
  intro q r c hq hr hc9
  by_cases q9 : q = s
  · subst q9; rw [fu_self]; have := hz.1 (256 * r + c) (by omega); rw [← Nat.add_assoc, ← Nat.add_assoc] at this; rw [this]; exact h s2 r c hs2 hr hc9
  · rw [fu_ne _ _ q9, hz.2 _ (by omega)]; exact h q r c hq hr hc9

set_option maxHeartbeats 4000000 in
set_option maxRecDepth 100000 in
theorem mclear_loop {M : Mx} {E : Ev} {z : Option Nat} (C : Cx M E yX12_clear.cls cX12_clear 3 (some .boolean) 2 42 0 0) {post : Bool → Gh → Prop} {G0 : Gh} {P W R lim rq po s : Nat} {gp gq : Nat → Int64} (hs : s < 4)
    (kend : ∀ (G : Gh) (fp fq : Nat → Int64), G 104 = moO E P W R lim rq po → G 108 = cJ E 8192 fp → G 109 = cJ E 8192 fq → zro (2048 * s) 2048 gp fp → zro (2048 * s) 2048 gq fq → (∀ j, j ≠ 108 ∧ j ≠ 109 → G j = G0 j) → V M E 3 (QE M E (fun r : Bool => some (.int (bI r))) z 0 0 post) z 0 0 G 55 [some (.ref (ga E 104)), some (.int (nI s)), some (.int (nI (2048 * s + 2048)))] []) :
    ∀ (u k : Nat), k ≤ 2048 → 2048 - k < u → ∀ (G : Gh) (fp fq : Nat → Int64), G 104 = moO E P W R lim rq po → G 108 = cJ E 8192 fp → G 109 = cJ E 8192 fq → zro (2048 * s) k gp fp → zro (2048 * s) k gq fq → (∀ j, j ≠ 108 ∧ j ≠ 109 → G j = G0 j) → V M E 3 (QE M E (fun r : Bool => some (.int (bI r))) z 0 0 post) z 0 0 G 22 [some (.ref (ga E 104)), some (.int (nI s)), some (.int (nI (2048 * s + k)))] [] := by
  intro u
  induction u with
  | zero => intro k _ h; omega
  | succ u ih =>
    intro k hk hu G fp fq ho hp hq hzp hzq hfr
    refine v_iload_n C dX12_clear_22 rfl ?_
    refine v_sipush (v := nI 2048) C dX12_clear_23 (by decide) ?_
    refine v_iload_n C dX12_clear_26 rfl ?_
    first | refine v_imuln C dX12_clear_27 ?_ | refine v_imul C dX12_clear_27 ?_
    refine v_sipush (v := nI 2048) C dX12_clear_28 (by decide) ?_
    first | refine v_iaddn C dX12_clear_31 ?_ | refine v_iadd C dX12_clear_31 ?_
    refine v_icmpn_ge C 55 dX12_clear_32 (by decide) (by omega) (by omega) (fun h32 => ?_) (fun h32 => ?_)
    · skip
      have e9 : k = 2048 := by omega
      subst e9
      exact kend G fp fq ho hp hq hzp hzq hfr
    · skip
      refine v_aload_n C dX12_clear_35 rfl ?_
      refine gf_X12_20 C dX12_clear_36 (by assumption) ?_
      refine v_iload_n C dX12_clear_39 rfl ?_
      refine v_lconst (v := lN 0) C dX12_clear_40 (by decide) ?_
      refine v_last C dX12_clear_41 (by assumption) (by omega) (by omega) (fun G hG41 hF41 => ?_)
      first | replace ho := (hF41 _ (by omega)).trans ho | replace ho := hG41 | skip
      first | replace hp := (hF41 _ (by omega)).trans hp | replace hp := hG41 | skip
      first | replace hq := (hF41 _ (by omega)).trans hq | replace hq := hG41 | skip
      refine v_aload_n C dX12_clear_42 rfl ?_
      refine gf_X12_23 C dX12_clear_43 (by assumption) ?_
      refine v_iload_n C dX12_clear_46 rfl ?_
      refine v_lconst (v := lN 0) C dX12_clear_47 (by decide) ?_
      refine v_last C dX12_clear_48 (by assumption) (by omega) (by omega) (fun G hG48 hF48 => ?_)
      first | replace ho := (hF48 _ (by omega)).trans ho | replace ho := hG48 | skip
      first | replace hp := (hF48 _ (by omega)).trans hp | replace hp := hG48 | skip
      first | replace hq := (hF48 _ (by omega)).trans hq | replace hq := hG48 | skip
      first | refine v_iinc_2 C dX12_clear_49 (nI_1 _) (by decide) (by first | rfl | assumption) ?_ | refine v_iinc_2 C dX12_clear_49 rfl (by decide) (by first | rfl | assumption) ?_
      refine v_goto C 22 dX12_clear_52 (by decide) ?_
      exact ih (k + 1) (by omega) (by omega) G _ _ ho hp hq (zro_step hzp) (zro_step hzq) (fun j hj => by rw [hF48 j (by omega), hF41 j (by omega)]; exact hfr j hj)
set_option maxHeartbeats 4000000 in
set_option maxRecDepth 100000 in
theorem c_Mo_clear (l : Launch) (E : Ev) (z : Option Nat) {G : Gh} {P W R lim rq po : Nat} {A B : Nat → Nat} {Y : Nat → Str} {x1 : Int32} (hd : isMd E G P W R lim rq po A B Y) : K_X12_clear l E z G [.ref (ga E 104), .int x1] (fun r G2 => r = (yClear Y x1).1 ∧ isMd E G2 P W R lim rq po A B (yClear Y x1).2 ∧ ∀ j, (j < 107 ∨ 122 ≤ j) → G2 j = G j) := by
  refine Fc.of rfl [some (.ref (ga E 104)), some (.int x1), none] 1 rfl (Nat.le_of_ble_eq_true rfl) ?_
  intro M hM0 hini C
  subst hM0
  obtain ⟨hm, ⟨ft, h7, hft⟩, ⟨fp, hp, hip⟩, ⟨fq, hq, hiq⟩, hMm, hMs, hMc⟩ := id hd
  replace hft : ∀ q, q < 4 → ft q = lN (zN (Y q)) := hft
  replace hip : ∀ q r c, q < 4 → r < R → c < W → fp (2048 * q + 256 * r + c) = lN (zP (Y q) r c) := hip
  replace hiq : ∀ q r c, q < 4 → r < R → c < W → fq (2048 * q + 256 * r + c) = lN (zC (Y q) r c) := hiq
  obtain ⟨fa, fb, ho, k5, k6, hfa, hfb, hrg, hlim, hab⟩ := id hm
  obtain ⟨fms, fmk, ftk, fmn, ma, mb, mc, md, hallM⟩ := id hMm
  obtain ⟨fss, fsk, fsn, fse, sa, sb, sc, sd, hallS⟩ := id hMs
  obtain ⟨fcn, fcz, fck, fct, ca, cb, cc, cd, hallC⟩ := id hMc
  replace hallM : ∀ q, q < 4 → moM1 fms fmk ftk fmn lim P q (zM (Y q)) (zT (Y q)) := hallM
  replace hallS : ∀ q, q < 4 → moS1 fss fsk fsn fse lim P q (zS (Y q)) := hallS
  replace hallC : ∀ q, q < 4 → moC1 fcn fcz fck fct P q (zK (Y q)) (zG (Y q)) := hallC
  cases hi1 : iin x1 4 with
  | false =>
    refine v_iload_n C dX12_clear_0 rfl ?_
    refine mc_X12_146 C dX12_clear_1 (c_Mo_isStream _ E z) rfl (fun r1 G1 hp1 => ?_)
    obtain ⟨hr1, rfl⟩ := hp1
    rw [hi1] at hr1
    subst hr1
    first | refine v_ifb_ne C 9 dX12_clear_4 (by decide) (fun h4 => by exfalso; first | omega | exact absurd h4 (by decide) | (have h9 := of_decide_eq_true h4; omega) | (have h9 := of_decide_eq_false h4; omega) | contradiction | simp_all) (fun h4 => ?_) | refine v_ifn_ne C 9 dX12_clear_4 (by decide) (by omega) (fun h4 => by exfalso; first | omega | exact absurd h4 (by decide) | (have h9 := of_decide_eq_true h4; omega) | (have h9 := of_decide_eq_false h4; omega) | contradiction | simp_all) (fun h4 => ?_) | refine v_if_ne C 9 dX12_clear_4 (by decide) (fun h4 => by exfalso; first | omega | exact absurd h4 (by decide) | (have h9 := of_decide_eq_true h4; omega) | (have h9 := of_decide_eq_false h4; omega) | contradiction | simp_all) (fun h4 => ?_)
    refine v_iconst (v := bI false) C dX12_clear_7 (by decide) ?_
    refine v_zret C dX12_clear_8 ?_
    refine ⟨?_, ?_, fun _ _ => rfl⟩
    · unfold yClear; rw [if_neg (by rw [hi1]; decide)]
    · unfold yClear; rw [if_neg (by rw [hi1]; decide)]; exact hd
  | true =>
    obtain ⟨s, hs, rfl⟩ := iin_of hi1 (by decide)
    have hsx : ix (nI s) = s := ix_nI (by omega)
    refine v_iload_n C dX12_clear_0 rfl ?_
    refine mc_X12_146 C dX12_clear_1 (c_Mo_isStream _ E z) rfl (fun r1 G1 hp1 => ?_)
    obtain ⟨hr1, rfl⟩ := hp1
    rw [hi1] at hr1
    subst hr1
    first | refine v_ifb_ne C 9 dX12_clear_4 (by decide) (fun h4 => ?_) (fun h4 => by exfalso; first | omega | exact absurd h4 (by decide) | (have h9 := of_decide_eq_true h4; omega) | (have h9 := of_decide_eq_false h4; omega) | contradiction | simp_all) | refine v_ifn_ne C 9 dX12_clear_4 (by decide) (by omega) (fun h4 => ?_) (fun h4 => by exfalso; first | omega | exact absurd h4 (by decide) | (have h9 := of_decide_eq_true h4; omega) | (have h9 := of_decide_eq_false h4; omega) | contradiction | simp_all) | refine v_if_ne C 9 dX12_clear_4 (by decide) (fun h4 => ?_) (fun h4 => by exfalso; first | omega | exact absurd h4 (by decide) | (have h9 := of_decide_eq_true h4; omega) | (have h9 := of_decide_eq_false h4; omega) | contradiction | simp_all)
    have hm0 := hm
    refine v_aload_n C dX12_clear_9 rfl ?_
    refine gf_X12_16 C dX12_clear_10 (by assumption) ?_
    refine v_iload_n C dX12_clear_13 rfl ?_
    refine v_lconst (v := lN 0) C dX12_clear_14 (by decide) ?_
    refine v_last C dX12_clear_15 (by assumption) (by omega) (by omega) (fun G hG15 hF15 => ?_)
    first | replace ho := (hF15 _ (by omega)).trans ho | replace ho := hG15 | skip
    first | replace h7 := (hF15 _ (by omega)).trans h7 | replace h7 := hG15 | skip
    first | replace hp := (hF15 _ (by omega)).trans hp | replace hp := hG15 | skip
    first | replace hq := (hF15 _ (by omega)).trans hq | replace hq := hG15 | skip
    first | replace ma := (hF15 _ (by omega)).trans ma | replace ma := hG15 | skip
    first | replace mb := (hF15 _ (by omega)).trans mb | replace mb := hG15 | skip
    first | replace mc := (hF15 _ (by omega)).trans mc | replace mc := hG15 | skip
    first | replace md := (hF15 _ (by omega)).trans md | replace md := hG15 | skip
    first | replace sa := (hF15 _ (by omega)).trans sa | replace sa := hG15 | skip
    first | replace sb := (hF15 _ (by omega)).trans sb | replace sb := hG15 | skip
    first | replace sc := (hF15 _ (by omega)).trans sc | replace sc := hG15 | skip
    first | replace sd := (hF15 _ (by omega)).trans sd | replace sd := hG15 | skip
    first | replace ca := (hF15 _ (by omega)).trans ca | replace ca := hG15 | skip
    first | replace cb := (hF15 _ (by omega)).trans cb | replace cb := hG15 | skip
    first | replace cc := (hF15 _ (by omega)).trans cc | replace cc := hG15 | skip
    first | replace cd := (hF15 _ (by omega)).trans cd | replace cd := hG15 | skip
    refine v_sipush (v := nI 2048) C dX12_clear_16 (by decide) ?_
    refine v_iload_n C dX12_clear_19 rfl ?_
    first | refine v_imuln C dX12_clear_20 ?_ | refine v_imul C dX12_clear_20 ?_
    refine v_istore_2 C dX12_clear_21 (by decide) (by first | rfl | assumption) ?_
    refine mclear_loop C hs ?_ 2049 0 (by omega) (by omega) G fp fq ho hp hq ⟨fun i h => absurd h (Nat.not_lt_zero i), fun _ _ => rfl⟩ ⟨fun i h => absurd h (Nat.not_lt_zero i), fun _ _ => rfl⟩ (fun _ _ => rfl)
    rename_i G1
    clear ho hp hq
    intro G fp2 fq2 ho hp hq hzp hzq hfr
    replace h7 := (hfr _ (by omega)).trans h7
    replace ma := (hfr _ (by omega)).trans ma
    replace mb := (hfr _ (by omega)).trans mb
    replace mc := (hfr _ (by omega)).trans mc
    replace md := (hfr _ (by omega)).trans md
    replace sa := (hfr _ (by omega)).trans sa
    replace sb := (hfr _ (by omega)).trans sb
    replace sc := (hfr _ (by omega)).trans sc
    replace sd := (hfr _ (by omega)).trans sd
    replace ca := (hfr _ (by omega)).trans ca
    replace cb := (hfr _ (by omega)).trans cb
    replace cc := (hfr _ (by omega)).trans cc
    replace cd := (hfr _ (by omega)).trans cd
    refine v_aload_n C dX12_clear_55 rfl ?_
    refine gf_X12_26 C dX12_clear_56 (by assumption) ?_
    refine v_iload_n C dX12_clear_59 rfl ?_
    refine v_iconst (v := nI 0) C dX12_clear_60 (by decide) ?_
    refine v_iast C dX12_clear_61 (by assumption) (by omega) (by omega) (fun G hG61 hF61 => ?_)
    first | replace ho := (hF61 _ (by omega)).trans ho | replace ho := hG61 | skip
    first | replace h7 := (hF61 _ (by omega)).trans h7 | replace h7 := hG61 | skip
    first | replace hp := (hF61 _ (by omega)).trans hp | replace hp := hG61 | skip
    first | replace hq := (hF61 _ (by omega)).trans hq | replace hq := hG61 | skip
    first | replace ma := (hF61 _ (by omega)).trans ma | replace ma := hG61 | skip
    first | replace mb := (hF61 _ (by omega)).trans mb | replace mb := hG61 | skip
    first | replace mc := (hF61 _ (by omega)).trans mc | replace mc := hG61 | skip
    first | replace md := (hF61 _ (by omega)).trans md | replace md := hG61 | skip
    first | replace sa := (hF61 _ (by omega)).trans sa | replace sa := hG61 | skip
    first | replace sb := (hF61 _ (by omega)).trans sb | replace sb := hG61 | skip
    first | replace sc := (hF61 _ (by omega)).trans sc | replace sc := hG61 | skip
    first | replace sd := (hF61 _ (by omega)).trans sd | replace sd := hG61 | skip
    first | replace ca := (hF61 _ (by omega)).trans ca | replace ca := hG61 | skip
    first | replace cb := (hF61 _ (by omega)).trans cb | replace cb := hG61 | skip
    first | replace cc := (hF61 _ (by omega)).trans cc | replace cc := hG61 | skip
    first | replace cd := (hF61 _ (by omega)).trans cd | replace cd := hG61 | skip
    refine v_aload_n C dX12_clear_62 rfl ?_
    refine gf_X12_29 C dX12_clear_63 (by assumption) ?_
    refine v_iload_n C dX12_clear_66 rfl ?_
    refine v_lconst (v := lN 0) C dX12_clear_67 (by decide) ?_
    refine v_last C dX12_clear_68 (by assumption) (by omega) (by omega) (fun G hG68 hF68 => ?_)
    first | replace ho := (hF68 _ (by omega)).trans ho | replace ho := hG68 | skip
    first | replace h7 := (hF68 _ (by omega)).trans h7 | replace h7 := hG68 | skip
    first | replace hp := (hF68 _ (by omega)).trans hp | replace hp := hG68 | skip
    first | replace hq := (hF68 _ (by omega)).trans hq | replace hq := hG68 | skip
    first | replace ma := (hF68 _ (by omega)).trans ma | replace ma := hG68 | skip
    first | replace mb := (hF68 _ (by omega)).trans mb | replace mb := hG68 | skip
    first | replace mc := (hF68 _ (by omega)).trans mc | replace mc := hG68 | skip
    first | replace md := (hF68 _ (by omega)).trans md | replace md := hG68 | skip
    first | replace sa := (hF68 _ (by omega)).trans sa | replace sa := hG68 | skip
    first | replace sb := (hF68 _ (by omega)).trans sb | replace sb := hG68 | skip
    first | replace sc := (hF68 _ (by omega)).trans sc | replace sc := hG68 | skip
    first | replace sd := (hF68 _ (by omega)).trans sd | replace sd := hG68 | skip
    first | replace ca := (hF68 _ (by omega)).trans ca | replace ca := hG68 | skip
    first | replace cb := (hF68 _ (by omega)).trans cb | replace cb := hG68 | skip
    first | replace cc := (hF68 _ (by omega)).trans cc | replace cc := hG68 | skip
    first | replace cd := (hF68 _ (by omega)).trans cd | replace cd := hG68 | skip
    refine v_aload_n C dX12_clear_69 rfl ?_
    refine gf_X12_38 C dX12_clear_70 (by assumption) ?_
    refine v_iload_n C dX12_clear_73 rfl ?_
    refine v_iconst (v := nI 0) C dX12_clear_74 (by decide) ?_
    refine v_iast C dX12_clear_75 (by assumption) (by omega) (by omega) (fun G hG75 hF75 => ?_)
    first | replace ho := (hF75 _ (by omega)).trans ho | replace ho := hG75 | skip
    first | replace h7 := (hF75 _ (by omega)).trans h7 | replace h7 := hG75 | skip
    first | replace hp := (hF75 _ (by omega)).trans hp | replace hp := hG75 | skip
    first | replace hq := (hF75 _ (by omega)).trans hq | replace hq := hG75 | skip
    first | replace ma := (hF75 _ (by omega)).trans ma | replace ma := hG75 | skip
    first | replace mb := (hF75 _ (by omega)).trans mb | replace mb := hG75 | skip
    first | replace mc := (hF75 _ (by omega)).trans mc | replace mc := hG75 | skip
    first | replace md := (hF75 _ (by omega)).trans md | replace md := hG75 | skip
    first | replace sa := (hF75 _ (by omega)).trans sa | replace sa := hG75 | skip
    first | replace sb := (hF75 _ (by omega)).trans sb | replace sb := hG75 | skip
    first | replace sc := (hF75 _ (by omega)).trans sc | replace sc := hG75 | skip
    first | replace sd := (hF75 _ (by omega)).trans sd | replace sd := hG75 | skip
    first | replace ca := (hF75 _ (by omega)).trans ca | replace ca := hG75 | skip
    first | replace cb := (hF75 _ (by omega)).trans cb | replace cb := hG75 | skip
    first | replace cc := (hF75 _ (by omega)).trans cc | replace cc := hG75 | skip
    first | replace cd := (hF75 _ (by omega)).trans cd | replace cd := hG75 | skip
    refine v_aload_n C dX12_clear_76 rfl ?_
    refine gf_X12_50 C dX12_clear_77 (by assumption) ?_
    refine v_iload_n C dX12_clear_80 rfl ?_
    refine v_iconst (v := nI 0) C dX12_clear_81 (by decide) ?_
    refine v_iast C dX12_clear_82 (by assumption) (by omega) (by omega) (fun G hG82 hF82 => ?_)
    first | replace ho := (hF82 _ (by omega)).trans ho | replace ho := hG82 | skip
    first | replace h7 := (hF82 _ (by omega)).trans h7 | replace h7 := hG82 | skip
    first | replace hp := (hF82 _ (by omega)).trans hp | replace hp := hG82 | skip
    first | replace hq := (hF82 _ (by omega)).trans hq | replace hq := hG82 | skip
    first | replace ma := (hF82 _ (by omega)).trans ma | replace ma := hG82 | skip
    first | replace mb := (hF82 _ (by omega)).trans mb | replace mb := hG82 | skip
    first | replace mc := (hF82 _ (by omega)).trans mc | replace mc := hG82 | skip
    first | replace md := (hF82 _ (by omega)).trans md | replace md := hG82 | skip
    first | replace sa := (hF82 _ (by omega)).trans sa | replace sa := hG82 | skip
    first | replace sb := (hF82 _ (by omega)).trans sb | replace sb := hG82 | skip
    first | replace sc := (hF82 _ (by omega)).trans sc | replace sc := hG82 | skip
    first | replace sd := (hF82 _ (by omega)).trans sd | replace sd := hG82 | skip
    first | replace ca := (hF82 _ (by omega)).trans ca | replace ca := hG82 | skip
    first | replace cb := (hF82 _ (by omega)).trans cb | replace cb := hG82 | skip
    first | replace cc := (hF82 _ (by omega)).trans cc | replace cc := hG82 | skip
    first | replace cd := (hF82 _ (by omega)).trans cd | replace cd := hG82 | skip
    refine v_aload_n C dX12_clear_83 rfl ?_
    refine gf_X12_53 C dX12_clear_84 (by assumption) ?_
    refine v_iload_n C dX12_clear_87 rfl ?_
    refine v_iconst (v := nI 0) C dX12_clear_88 (by decide) ?_
    refine v_zast C dX12_clear_89 (by assumption) (by omega) (by omega) (by first | exact Or.inl rfl | exact Or.inr rfl) (fun G hG89 hF89 => ?_)
    first | replace ho := (hF89 _ (by omega)).trans ho | replace ho := hG89 | skip
    first | replace h7 := (hF89 _ (by omega)).trans h7 | replace h7 := hG89 | skip
    first | replace hp := (hF89 _ (by omega)).trans hp | replace hp := hG89 | skip
    first | replace hq := (hF89 _ (by omega)).trans hq | replace hq := hG89 | skip
    first | replace ma := (hF89 _ (by omega)).trans ma | replace ma := hG89 | skip
    first | replace mb := (hF89 _ (by omega)).trans mb | replace mb := hG89 | skip
    first | replace mc := (hF89 _ (by omega)).trans mc | replace mc := hG89 | skip
    first | replace md := (hF89 _ (by omega)).trans md | replace md := hG89 | skip
    first | replace sa := (hF89 _ (by omega)).trans sa | replace sa := hG89 | skip
    first | replace sb := (hF89 _ (by omega)).trans sb | replace sb := hG89 | skip
    first | replace sc := (hF89 _ (by omega)).trans sc | replace sc := hG89 | skip
    first | replace sd := (hF89 _ (by omega)).trans sd | replace sd := hG89 | skip
    first | replace ca := (hF89 _ (by omega)).trans ca | replace ca := hG89 | skip
    first | replace cb := (hF89 _ (by omega)).trans cb | replace cb := hG89 | skip
    first | replace cc := (hF89 _ (by omega)).trans cc | replace cc := hG89 | skip
    first | replace cd := (hF89 _ (by omega)).trans cd | replace cd := hG89 | skip
    refine v_iconst (v := bI true) C dX12_clear_90 (by decide) ?_
    refine v_zret C dX12_clear_91 ?_
    have e9 : yClear Y (nI s) = (true, fu Y s strEmpty) := by unfold yClear; rw [if_pos hi1, hsx]
    rw [e9]
    have hfr9 : ∀ j, (j < 107 ∨ 122 ≤ j) → G j = G1 j := fun j hj => by rw [hF89 j (by omega), hF82 j (by omega), hF75 j (by omega), hF68 j (by omega), hF61 j (by omega), hfr j (by omega), hF15 j (by omega)]
    refine ⟨rfl, isMd_upd ?_ (moN_pack (v := 0) h7 hft) ⟨_, hp, mgr_zero hip hrg.2.2.2.2.2 hrg.2.2.2.1 hs hzp⟩ ⟨_, hq, mgr_zero hiq hrg.2.2.2.2.2 hrg.2.2.2.1 hs hzq⟩ (moM_pack hallM hlim.2 hs ma mb mc md (fun q hq => ⟨fu_ne _ _ hq, fu_ne _ _ hq⟩) (fun _ _ => ⟨rfl, rfl⟩) ⟨fu_self _ _ _, fu_self _ _ _, fun i c hic => by simp [zM, strEmpty] at hic, by simp [zM, strEmpty], fun c hc9 => by simp [zM, strEmpty] at hc9, by simp [zM, strEmpty, ckeys]⟩) (moS_pack hallS hs sa sb sc sd (fun q hq => fu_ne _ _ hq) (fu_self _ _ _) (fun i c hic => by simp [zS, strEmpty] at hic) (fun _ _ => ⟨rfl, rfl, rfl⟩) (by simp [zS, strEmpty]) hlim.2 ⟨⟨hlim.1, hlim.2, by simp [zS, strEmpty], hrg.2.1⟩, fun c hc9 => by simp [zS, strEmpty] at hc9, by simp [zS, strEmpty, ckeys]⟩) (moC_pack hallC hs ca cb cc cd (fun q hq => ⟨fu_ne _ _ hq, fu_ne _ _ hq⟩) (fun _ _ => ⟨rfl, rfl⟩) ⟨fu_self _ _ _, fu_self _ _ _, fun i c hic => by simp [zK, strEmpty] at hic, by simp [zK, strEmpty], fun c hc9 => by simp [zK, strEmpty] at hc9, by simp [zK, strEmpty, nkeys]⟩), hfr9⟩
    exact hm0.keep (fun j a b => hfr9 j (by omega))

