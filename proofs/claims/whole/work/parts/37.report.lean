def rFold (val : Nat → Int64) (bar : Int64) (room : Nat) : Nat → Nat × Rnk
  | 0 => (0, [])
  | k + 1 => if bar < val k then ((rFold val bar room k).1 + 1, rOffer room (rFold val bar room k).2 (k, val k)) else rFold val bar room k
theorem rFold_yes {val : Nat → Int64} {bar : Int64} {room k : Nat} (h : bar < val k) : (rFold val bar room (k + 1)).1 = (rFold val bar room k).1 + 1 ∧ (rFold val bar room (k + 1)).2 = rOffer room (rFold val bar room k).2 (k, val k) := by rw [rFold, if_pos h]; exact ⟨rfl, rfl⟩
theorem rFold_no {val : Nat → Int64} {bar : Int64} {room k : Nat} (h : ¬ bar < val k) : (rFold val bar room (k + 1)).1 = (rFold val bar room k).1 ∧ (rFold val bar room (k + 1)).2 = (rFold val bar room k).2 := by rw [rFold, if_neg h]; exact ⟨rfl, rfl⟩
theorem isRnk.rc {E : Ev} {G : Gh} {b room : Nat} {l : Rnk} (h : isRnk E G b room l) : G b = cO 7 [.ref (ga E (b + 1)), .ref (ga E (b + 2)), .int (nI l.length)] := by
  obtain ⟨fk, fn, h0, h1⟩ := h
  exact h0
def oRepVal (P W R : Nat) (A B : Nat → Nat) (lim : Nat) (S : Str) (q : Nat) (sure : Bool) (x : Nat) : Int64 := if sure = true then kLow P W R A B lim S q x else kHigh P W R A B lim S q x

set_option maxHeartbeats 400000 in
set_option maxRecDepth 100000 in
theorem rep_loop0 {M : Mx} {E : Ev} {z : Option Nat} (C : Cx M E yX11_report.cls cX11_report 13 (some .int) 5 109 0 0) {post : Int32 → Gh → Prop} {G0 : Gh} {P W R lim : Nat} {A B : Nat → Nat} {Z : Nat → Str} {k : Nat} {x1 x2 x3 : Int32} {sure : Bool} {bar : Int64} {val : Nat → Int64} (hval : ∀ x, val x = oRepVal P W R A B lim (Z k) 0 sure x) (hk : k < 4) (hbd : ∀ k, k < 4 → bdS R W lim (Z k)) (hend : ∀ {G : Gh}, isFS E G P W R lim A B Z (rFold val bar (min P 300) P).2 → (∀ j, 104 ≤ j → G j = G0 j) → post (nI (rFold val bar (min P 300) P).1) G) : ∀ (t i : Nat), i ≤ P → P - i < t → ∀ (G : Gh) (x11 x12 : Option Value), isFS E G P W R lim A B Z (rFold val bar (min P 300) i).2 → (∀ j, 104 ≤ j → G j = G0 j) → V M E 13 (QE M E (fun r : Int32 => some (.int r)) z 0 0 post) z 0 0 G 61 [some (.ref (ga E 0)), some (.int x1), some (.int x2), some (.int x3), some (.int (bI sure)), some (.ref (ga E (sId k))), some (.ref (ga E (sId k + 1))), some (.long bar), none, some (.int (nI (rFold val bar (min P 300) i).1)), some (.int (nI i)), x11, x12] [] := by
  intro t
  induction t with
  | zero => intro i _ h; omega
  | succ t ih =>
    intro i hi ht G x11 x12 hfs hfr
    obtain ⟨hf0, hF, hf4, hfst, hfr0, hlim⟩ := id hfs
    have hrg := hfs.rng
    have hstk := hfst k hk
    obtain ⟨hs0, hg1, hg2, hms, hsv, hct, hs22, hs23⟩ := id hstk
    have hbp := (hbd k hk).1
    have hbc := (hbd k hk).2.1
    have hfc := hF.rc
    refine v_iload C dX11_report_61 rfl ?_
    refine v_aload_n C dX11_report_63 rfl ?_
    refine gf_X11_23 C dX11_report_64 (by assumption) ?_
    refine gf_X11_42 C dX11_report_67 (by assumption) ?_
    refine v_icmpn_ge C 129 dX11_report_70 (by decide) (by omega) (by omega) (fun h70 => ?_) (fun h70 => ?_)
    · skip
      refine v_iload C dX11_report_129 rfl ?_
      refine v_iret C dX11_report_131 ?_
      have e9 : i = P := by omega
      rw [e9]
      rw [e9] at hfs
      exact hend hfs hfr
    · skip
      have hfc := hF.rc
      refine v_iload C dX11_report_73 rfl ?_
      first | refine v_ifb_eq C 90 dX11_report_75 (by decide) (fun h75 => ?_) (fun h75 => ?_) | refine v_ifn_eq C 90 dX11_report_75 (by decide) (by omega) (fun h75 => ?_) (fun h75 => ?_) | refine v_if_eq C 90 dX11_report_75 (by decide) (fun h75 => ?_) (fun h75 => ?_)
      · skip
        refine v_aload C dX11_report_90 rfl ?_
        refine v_iload C dX11_report_92 rfl ?_
        refine mc_X11_124_X4 C dX11_report_94 (hg1.rc) (c_Grid_high _ E z h70 hbp hF hg1) rfl (fun r94 G94 hp94 => ?_)
        obtain ⟨hv94, rfl⟩ := hp94
        have hv9 : val i = r94 := by rw [hval, oRepVal, if_neg (by rw [h75]; decide), hv94]; rfl
        refine v_lstore_11 C dX11_report_99 (by decide) (by first | rfl | assumption) ?_
        refine v_lload C dX11_report_101 rfl ?_
        refine v_lload C dX11_report_103 rfl ?_
        refine v_lcmp_le C 123 dX11_report_105 dX11_report_106 (by decide) (fun h105 => ?_) (fun h105 => ?_)
        · skip
          refine v_iinc_10 C dX11_report_123 (nI_1 _) (by decide) rfl ?_
          refine v_goto C 61 dX11_report_126 (by decide) ?_
          have hnl : ¬ bar < val i := by rw [hv9]; exact Int64.not_lt.mpr h105
          have e9 := rFold_no (room := min P 300) hnl
          rw [← e9.1]
          exact ih (i + 1) (by omega) (by omega) G _ _ (by rw [e9.2]; exact hfs) hfr
        · skip
          refine v_iinc_9 C dX11_report_109 (nI_1 _) (by decide) rfl ?_
          refine v_aload_n C dX11_report_112 rfl ?_
          refine gf_X11_54 C dX11_report_113 (by assumption) ?_
          refine v_iload C dX11_report_116 rfl ?_
          refine v_lload C dX11_report_118 rfl ?_
          refine mc_X11_190 C dX11_report_120 (hfr0.rc) (c_Rnk_offer _ E z (x := i) (by omega) hfr0) rfl (fun r120 G120 hp120 => ?_)
          obtain ⟨hrk120, hfr120⟩ := hp120
          refine v_iinc_10 C dX11_report_123 (nI_1 _) (by decide) rfl ?_
          refine v_goto C 61 dX11_report_126 (by decide) ?_
          have hlt : bar < val i := by rw [hv9]; exact Int64.not_le.mp h105
          have e9 := rFold_yes (room := min P 300) hlt
          rw [← e9.1]
          exact ih (i + 1) (by omega) (by omega) G120 _ _ ⟨(hfr120 _ (by omega)).trans hf0, hF.keep (fun j a b => hfr120 j (by omega)), (hfr120 _ (by omega)).trans hf4, fun q9 hq9 => (hfst q9 hq9).keep (fun j a b => hfr120 j (by unfold sId at b; omega)), by rw [e9.2, hv9]; exact hrk120, hlim⟩ (fun j hj => by rw [hfr120 j (by omega)]; exact hfr j hj)
      · skip
        refine v_aload C dX11_report_78 rfl ?_
        refine v_iload C dX11_report_80 rfl ?_
        refine mc_X11_121_X4 C dX11_report_82 (hg1.rc) (c_Grid_low _ E z) rfl (fun r82 G82 hp82 => ?_)
        obtain ⟨hv82, rfl⟩ := hp82
        have hv9 : val i = r82 := by rw [hval, oRepVal, if_pos h75, hv82]; rfl
        refine v_goto C 99 dX11_report_87 (by decide) ?_
        refine v_lstore_11 C dX11_report_99 (by decide) (by first | rfl | assumption) ?_
        refine v_lload C dX11_report_101 rfl ?_
        refine v_lload C dX11_report_103 rfl ?_
        refine v_lcmp_le C 123 dX11_report_105 dX11_report_106 (by decide) (fun h105 => ?_) (fun h105 => ?_)
        · skip
          refine v_iinc_10 C dX11_report_123 (nI_1 _) (by decide) rfl ?_
          refine v_goto C 61 dX11_report_126 (by decide) ?_
          have hnl : ¬ bar < val i := by rw [hv9]; exact Int64.not_lt.mpr h105
          have e9 := rFold_no (room := min P 300) hnl
          rw [← e9.1]
          exact ih (i + 1) (by omega) (by omega) G _ _ (by rw [e9.2]; exact hfs) hfr
        · skip
          refine v_iinc_9 C dX11_report_109 (nI_1 _) (by decide) rfl ?_
          refine v_aload_n C dX11_report_112 rfl ?_
          refine gf_X11_54 C dX11_report_113 (by assumption) ?_
          refine v_iload C dX11_report_116 rfl ?_
          refine v_lload C dX11_report_118 rfl ?_
          refine mc_X11_190 C dX11_report_120 (hfr0.rc) (c_Rnk_offer _ E z (x := i) (by omega) hfr0) rfl (fun r120 G120 hp120 => ?_)
          obtain ⟨hrk120, hfr120⟩ := hp120
          refine v_iinc_10 C dX11_report_123 (nI_1 _) (by decide) rfl ?_
          refine v_goto C 61 dX11_report_126 (by decide) ?_
          have hlt : bar < val i := by rw [hv9]; exact Int64.not_le.mp h105
          have e9 := rFold_yes (room := min P 300) hlt
          rw [← e9.1]
          exact ih (i + 1) (by omega) (by omega) G120 _ _ ⟨(hfr120 _ (by omega)).trans hf0, hF.keep (fun j a b => hfr120 j (by omega)), (hfr120 _ (by omega)).trans hf4, fun q9 hq9 => (hfst q9 hq9).keep (fun j a b => hfr120 j (by unfold sId at b; omega)), by rw [e9.2, hv9]; exact hrk120, hlim⟩ (fun j hj => by rw [hfr120 j (by omega)]; exact hfr j hj)
set_option maxHeartbeats 400000 in
set_option maxRecDepth 100000 in
theorem rep_loop1 {M : Mx} {E : Ev} {z : Option Nat} (C : Cx M E yX11_report.cls cX11_report 13 (some .int) 5 109 0 0) {post : Int32 → Gh → Prop} {G0 : Gh} {P W R lim : Nat} {A B : Nat → Nat} {Z : Nat → Str} {k : Nat} {x1 x2 x3 : Int32} {sure : Bool} {bar : Int64} {val : Nat → Int64} (hval : ∀ x, val x = oRepVal P W R A B lim (Z k) 1 sure x) (hk : k < 4) (hbd : ∀ k, k < 4 → bdS R W lim (Z k)) (hend : ∀ {G : Gh}, isFS E G P W R lim A B Z (rFold val bar (min P 300) P).2 → (∀ j, 104 ≤ j → G j = G0 j) → post (nI (rFold val bar (min P 300) P).1) G) : ∀ (t i : Nat), i ≤ P → P - i < t → ∀ (G : Gh) (x11 x12 : Option Value), isFS E G P W R lim A B Z (rFold val bar (min P 300) i).2 → (∀ j, 104 ≤ j → G j = G0 j) → V M E 13 (QE M E (fun r : Int32 => some (.int r)) z 0 0 post) z 0 0 G 61 [some (.ref (ga E 0)), some (.int x1), some (.int x2), some (.int x3), some (.int (bI sure)), some (.ref (ga E (sId k))), some (.ref (ga E (sId k + 3))), some (.long bar), none, some (.int (nI (rFold val bar (min P 300) i).1)), some (.int (nI i)), x11, x12] [] := by
  intro t
  induction t with
  | zero => intro i _ h; omega
  | succ t ih =>
    intro i hi ht G x11 x12 hfs hfr
    obtain ⟨hf0, hF, hf4, hfst, hfr0, hlim⟩ := id hfs
    have hrg := hfs.rng
    have hstk := hfst k hk
    obtain ⟨hs0, hg1, hg2, hms, hsv, hct, hs22, hs23⟩ := id hstk
    have hbp := (hbd k hk).1
    have hbc := (hbd k hk).2.1
    have hfc := hF.rc
    refine v_iload C dX11_report_61 rfl ?_
    refine v_aload_n C dX11_report_63 rfl ?_
    refine gf_X11_23 C dX11_report_64 (by assumption) ?_
    refine gf_X11_42 C dX11_report_67 (by assumption) ?_
    refine v_icmpn_ge C 129 dX11_report_70 (by decide) (by omega) (by omega) (fun h70 => ?_) (fun h70 => ?_)
    · skip
      refine v_iload C dX11_report_129 rfl ?_
      refine v_iret C dX11_report_131 ?_
      have e9 : i = P := by omega
      rw [e9]
      rw [e9] at hfs
      exact hend hfs hfr
    · skip
      have hfc := hF.rc
      refine v_iload C dX11_report_73 rfl ?_
      first | refine v_ifb_eq C 90 dX11_report_75 (by decide) (fun h75 => ?_) (fun h75 => ?_) | refine v_ifn_eq C 90 dX11_report_75 (by decide) (by omega) (fun h75 => ?_) (fun h75 => ?_) | refine v_if_eq C 90 dX11_report_75 (by decide) (fun h75 => ?_) (fun h75 => ?_)
      · skip
        refine v_aload C dX11_report_90 rfl ?_
        refine v_iload C dX11_report_92 rfl ?_
        refine mc_X11_124_X4 C dX11_report_94 (hg2.rc) (c_Grid_high _ E z h70 hbc hF hg2) rfl (fun r94 G94 hp94 => ?_)
        obtain ⟨hv94, rfl⟩ := hp94
        have hv9 : val i = r94 := by rw [hval, oRepVal, if_neg (by rw [h75]; decide), hv94]; rfl
        refine v_lstore_11 C dX11_report_99 (by decide) (by first | rfl | assumption) ?_
        refine v_lload C dX11_report_101 rfl ?_
        refine v_lload C dX11_report_103 rfl ?_
        refine v_lcmp_le C 123 dX11_report_105 dX11_report_106 (by decide) (fun h105 => ?_) (fun h105 => ?_)
        · skip
          refine v_iinc_10 C dX11_report_123 (nI_1 _) (by decide) rfl ?_
          refine v_goto C 61 dX11_report_126 (by decide) ?_
          have hnl : ¬ bar < val i := by rw [hv9]; exact Int64.not_lt.mpr h105
          have e9 := rFold_no (room := min P 300) hnl
          rw [← e9.1]
          exact ih (i + 1) (by omega) (by omega) G _ _ (by rw [e9.2]; exact hfs) hfr
        · skip
          refine v_iinc_9 C dX11_report_109 (nI_1 _) (by decide) rfl ?_
          refine v_aload_n C dX11_report_112 rfl ?_
          refine gf_X11_54 C dX11_report_113 (by assumption) ?_
          refine v_iload C dX11_report_116 rfl ?_
          refine v_lload C dX11_report_118 rfl ?_
          refine mc_X11_190 C dX11_report_120 (hfr0.rc) (c_Rnk_offer _ E z (x := i) (by omega) hfr0) rfl (fun r120 G120 hp120 => ?_)
          obtain ⟨hrk120, hfr120⟩ := hp120
          refine v_iinc_10 C dX11_report_123 (nI_1 _) (by decide) rfl ?_
          refine v_goto C 61 dX11_report_126 (by decide) ?_
          have hlt : bar < val i := by rw [hv9]; exact Int64.not_le.mp h105
          have e9 := rFold_yes (room := min P 300) hlt
          rw [← e9.1]
          exact ih (i + 1) (by omega) (by omega) G120 _ _ ⟨(hfr120 _ (by omega)).trans hf0, hF.keep (fun j a b => hfr120 j (by omega)), (hfr120 _ (by omega)).trans hf4, fun q9 hq9 => (hfst q9 hq9).keep (fun j a b => hfr120 j (by unfold sId at b; omega)), by rw [e9.2, hv9]; exact hrk120, hlim⟩ (fun j hj => by rw [hfr120 j (by omega)]; exact hfr j hj)
      · skip
        refine v_aload C dX11_report_78 rfl ?_
        refine v_iload C dX11_report_80 rfl ?_
        refine mc_X11_121_X4 C dX11_report_82 (hg2.rc) (c_Grid_low _ E z) rfl (fun r82 G82 hp82 => ?_)
        obtain ⟨hv82, rfl⟩ := hp82
        have hv9 : val i = r82 := by rw [hval, oRepVal, if_pos h75, hv82]; rfl
        refine v_goto C 99 dX11_report_87 (by decide) ?_
        refine v_lstore_11 C dX11_report_99 (by decide) (by first | rfl | assumption) ?_
        refine v_lload C dX11_report_101 rfl ?_
        refine v_lload C dX11_report_103 rfl ?_
        refine v_lcmp_le C 123 dX11_report_105 dX11_report_106 (by decide) (fun h105 => ?_) (fun h105 => ?_)
        · skip
          refine v_iinc_10 C dX11_report_123 (nI_1 _) (by decide) rfl ?_
          refine v_goto C 61 dX11_report_126 (by decide) ?_
          have hnl : ¬ bar < val i := by rw [hv9]; exact Int64.not_lt.mpr h105
          have e9 := rFold_no (room := min P 300) hnl
          rw [← e9.1]
          exact ih (i + 1) (by omega) (by omega) G _ _ (by rw [e9.2]; exact hfs) hfr
        · skip
          refine v_iinc_9 C dX11_report_109 (nI_1 _) (by decide) rfl ?_
          refine v_aload_n C dX11_report_112 rfl ?_
          refine gf_X11_54 C dX11_report_113 (by assumption) ?_
          refine v_iload C dX11_report_116 rfl ?_
          refine v_lload C dX11_report_118 rfl ?_
          refine mc_X11_190 C dX11_report_120 (hfr0.rc) (c_Rnk_offer _ E z (x := i) (by omega) hfr0) rfl (fun r120 G120 hp120 => ?_)
          obtain ⟨hrk120, hfr120⟩ := hp120
          refine v_iinc_10 C dX11_report_123 (nI_1 _) (by decide) rfl ?_
          refine v_goto C 61 dX11_report_126 (by decide) ?_
          have hlt : bar < val i := by rw [hv9]; exact Int64.not_le.mp h105
          have e9 := rFold_yes (room := min P 300) hlt
          rw [← e9.1]
          exact ih (i + 1) (by omega) (by omega) G120 _ _ ⟨(hfr120 _ (by omega)).trans hf0, hF.keep (fun j a b => hfr120 j (by omega)), (hfr120 _ (by omega)).trans hf4, fun q9 hq9 => (hfst q9 hq9).keep (fun j a b => hfr120 j (by unfold sId at b; omega)), by rw [e9.2, hv9]; exact hrk120, hlim⟩ (fun j hj => by rw [hfr120 j (by omega)]; exact hfr j hj)
set_option maxHeartbeats 400000 in
set_option maxRecDepth 100000 in
theorem rep_loop2 {M : Mx} {E : Ev} {z : Option Nat} (C : Cx M E yX11_report.cls cX11_report 13 (some .int) 5 109 0 0) {post : Int32 → Gh → Prop} {G0 : Gh} {P W R lim : Nat} {A B : Nat → Nat} {Z : Nat → Str} {k : Nat} {x1 x2 x3 : Int32} {sure : Bool} {bar : Int64} {val : Nat → Int64} (hval : ∀ x, val x = oRepVal P W R A B lim (Z k) 2 sure x) (hk : k < 4) (hbd : ∀ k, k < 4 → bdS R W lim (Z k)) (hend : ∀ {G : Gh}, isFS E G P W R lim A B Z (rFold val bar (min P 300) P).2 → (∀ j, 104 ≤ j → G j = G0 j) → post (nI (rFold val bar (min P 300) P).1) G) : ∀ (t i : Nat), i ≤ P → P - i < t → ∀ (G : Gh) (x11 x12 : Option Value), isFS E G P W R lim A B Z (rFold val bar (min P 300) i).2 → (∀ j, 104 ≤ j → G j = G0 j) → V M E 13 (QE M E (fun r : Int32 => some (.int r)) z 0 0 post) z 0 0 G 61 [some (.ref (ga E 0)), some (.int x1), some (.int x2), some (.int x3), some (.int (bI sure)), some (.ref (ga E (sId k))), some (.ref (ga E (sId k + 5))), some (.long bar), none, some (.int (nI (rFold val bar (min P 300) i).1)), some (.int (nI i)), x11, x12] [] := by
  intro t
  induction t with
  | zero => intro i _ h; omega
  | succ t ih =>
    intro i hi ht G x11 x12 hfs hfr
    obtain ⟨hf0, hF, hf4, hfst, hfr0, hlim⟩ := id hfs
    have hrg := hfs.rng
    have hstk := hfst k hk
    obtain ⟨hs0, hg1, hg2, hms, hsv, hct, hs22, hs23⟩ := id hstk
    have hbp := (hbd k hk).1
    have hbc := (hbd k hk).2.1
    have hfc := hF.rc
    refine v_iload C dX11_report_61 rfl ?_
    refine v_aload_n C dX11_report_63 rfl ?_
    refine gf_X11_23 C dX11_report_64 (by assumption) ?_
    refine gf_X11_42 C dX11_report_67 (by assumption) ?_
    refine v_icmpn_ge C 129 dX11_report_70 (by decide) (by omega) (by omega) (fun h70 => ?_) (fun h70 => ?_)
    · skip
      refine v_iload C dX11_report_129 rfl ?_
      refine v_iret C dX11_report_131 ?_
      have e9 : i = P := by omega
      rw [e9]
      rw [e9] at hfs
      exact hend hfs hfr
    · skip
      have hfc := hF.rc
      refine v_iload C dX11_report_73 rfl ?_
      first | refine v_ifb_eq C 90 dX11_report_75 (by decide) (fun h75 => ?_) (fun h75 => ?_) | refine v_ifn_eq C 90 dX11_report_75 (by decide) (by omega) (fun h75 => ?_) (fun h75 => ?_) | refine v_if_eq C 90 dX11_report_75 (by decide) (fun h75 => ?_) (fun h75 => ?_)
      · skip
        refine v_aload C dX11_report_90 rfl ?_
        refine v_iload C dX11_report_92 rfl ?_
        refine mc_X11_124_X6 C dX11_report_94 (hms.1) (c_Mis_high _ E z h70 hms) rfl (fun r94 G94 hp94 => ?_)
        obtain ⟨hv94, rfl⟩ := hp94
        have hv9 : val i = r94 := by rw [hval, oRepVal, if_neg (by rw [h75]; decide), hv94]; rfl
        refine v_lstore_11 C dX11_report_99 (by decide) (by first | rfl | assumption) ?_
        refine v_lload C dX11_report_101 rfl ?_
        refine v_lload C dX11_report_103 rfl ?_
        refine v_lcmp_le C 123 dX11_report_105 dX11_report_106 (by decide) (fun h105 => ?_) (fun h105 => ?_)
        · skip
          refine v_iinc_10 C dX11_report_123 (nI_1 _) (by decide) rfl ?_
          refine v_goto C 61 dX11_report_126 (by decide) ?_
          have hnl : ¬ bar < val i := by rw [hv9]; exact Int64.not_lt.mpr h105
          have e9 := rFold_no (room := min P 300) hnl
          rw [← e9.1]
          exact ih (i + 1) (by omega) (by omega) G _ _ (by rw [e9.2]; exact hfs) hfr
        · skip
          refine v_iinc_9 C dX11_report_109 (nI_1 _) (by decide) rfl ?_
          refine v_aload_n C dX11_report_112 rfl ?_
          refine gf_X11_54 C dX11_report_113 (by assumption) ?_
          refine v_iload C dX11_report_116 rfl ?_
          refine v_lload C dX11_report_118 rfl ?_
          refine mc_X11_190 C dX11_report_120 (hfr0.rc) (c_Rnk_offer _ E z (x := i) (by omega) hfr0) rfl (fun r120 G120 hp120 => ?_)
          obtain ⟨hrk120, hfr120⟩ := hp120
          refine v_iinc_10 C dX11_report_123 (nI_1 _) (by decide) rfl ?_
          refine v_goto C 61 dX11_report_126 (by decide) ?_
          have hlt : bar < val i := by rw [hv9]; exact Int64.not_le.mp h105
          have e9 := rFold_yes (room := min P 300) hlt
          rw [← e9.1]
          exact ih (i + 1) (by omega) (by omega) G120 _ _ ⟨(hfr120 _ (by omega)).trans hf0, hF.keep (fun j a b => hfr120 j (by omega)), (hfr120 _ (by omega)).trans hf4, fun q9 hq9 => (hfst q9 hq9).keep (fun j a b => hfr120 j (by unfold sId at b; omega)), by rw [e9.2, hv9]; exact hrk120, hlim⟩ (fun j hj => by rw [hfr120 j (by omega)]; exact hfr j hj)
      · skip
        refine v_aload C dX11_report_78 rfl ?_
        refine v_iload C dX11_report_80 rfl ?_
        refine mc_X11_121_X6 C dX11_report_82 (hms.1) (c_Mis_low _ E z h70 hms) rfl (fun r82 G82 hp82 => ?_)
        obtain ⟨hv82, rfl⟩ := hp82
        have hv9 : val i = r82 := by rw [hval, oRepVal, if_pos h75, hv82]; rfl
        refine v_goto C 99 dX11_report_87 (by decide) ?_
        refine v_lstore_11 C dX11_report_99 (by decide) (by first | rfl | assumption) ?_
        refine v_lload C dX11_report_101 rfl ?_
        refine v_lload C dX11_report_103 rfl ?_
        refine v_lcmp_le C 123 dX11_report_105 dX11_report_106 (by decide) (fun h105 => ?_) (fun h105 => ?_)
        · skip
          refine v_iinc_10 C dX11_report_123 (nI_1 _) (by decide) rfl ?_
          refine v_goto C 61 dX11_report_126 (by decide) ?_
          have hnl : ¬ bar < val i := by rw [hv9]; exact Int64.not_lt.mpr h105
          have e9 := rFold_no (room := min P 300) hnl
          rw [← e9.1]
          exact ih (i + 1) (by omega) (by omega) G _ _ (by rw [e9.2]; exact hfs) hfr
        · skip
          refine v_iinc_9 C dX11_report_109 (nI_1 _) (by decide) rfl ?_
          refine v_aload_n C dX11_report_112 rfl ?_
          refine gf_X11_54 C dX11_report_113 (by assumption) ?_
          refine v_iload C dX11_report_116 rfl ?_
          refine v_lload C dX11_report_118 rfl ?_
          refine mc_X11_190 C dX11_report_120 (hfr0.rc) (c_Rnk_offer _ E z (x := i) (by omega) hfr0) rfl (fun r120 G120 hp120 => ?_)
          obtain ⟨hrk120, hfr120⟩ := hp120
          refine v_iinc_10 C dX11_report_123 (nI_1 _) (by decide) rfl ?_
          refine v_goto C 61 dX11_report_126 (by decide) ?_
          have hlt : bar < val i := by rw [hv9]; exact Int64.not_le.mp h105
          have e9 := rFold_yes (room := min P 300) hlt
          rw [← e9.1]
          exact ih (i + 1) (by omega) (by omega) G120 _ _ ⟨(hfr120 _ (by omega)).trans hf0, hF.keep (fun j a b => hfr120 j (by omega)), (hfr120 _ (by omega)).trans hf4, fun q9 hq9 => (hfst q9 hq9).keep (fun j a b => hfr120 j (by unfold sId at b; omega)), by rw [e9.2, hv9]; exact hrk120, hlim⟩ (fun j hj => by rw [hfr120 j (by omega)]; exact hfr j hj)
set_option maxHeartbeats 400000 in
set_option maxRecDepth 100000 in
theorem rep_loop3 {M : Mx} {E : Ev} {z : Option Nat} (C : Cx M E yX11_report.cls cX11_report 13 (some .int) 5 109 0 0) {post : Int32 → Gh → Prop} {G0 : Gh} {P W R lim : Nat} {A B : Nat → Nat} {Z : Nat → Str} {k : Nat} {x1 x2 x3 : Int32} {sure : Bool} {bar : Int64} {val : Nat → Int64} (hval : ∀ x, val x = oRepVal P W R A B lim (Z k) 3 sure x) (hk : k < 4) (hbd : ∀ k, k < 4 → bdS R W lim (Z k)) (hend : ∀ {G : Gh}, isFS E G P W R lim A B Z (rFold val bar (min P 300) P).2 → (∀ j, 104 ≤ j → G j = G0 j) → post (nI (rFold val bar (min P 300) P).1) G) : ∀ (t i : Nat), i ≤ P → P - i < t → ∀ (G : Gh) (x11 x12 : Option Value), isFS E G P W R lim A B Z (rFold val bar (min P 300) i).2 → (∀ j, 104 ≤ j → G j = G0 j) → V M E 13 (QE M E (fun r : Int32 => some (.int r)) z 0 0 post) z 0 0 G 61 [some (.ref (ga E 0)), some (.int x1), some (.int x2), some (.int x3), some (.int (bI sure)), some (.ref (ga E (sId k))), some (.ref (ga E (sId k + 12))), some (.long bar), none, some (.int (nI (rFold val bar (min P 300) i).1)), some (.int (nI i)), x11, x12] [] := by
  intro t
  induction t with
  | zero => intro i _ h; omega
  | succ t ih =>
    intro i hi ht G x11 x12 hfs hfr
    obtain ⟨hf0, hF, hf4, hfst, hfr0, hlim⟩ := id hfs
    have hrg := hfs.rng
    have hstk := hfst k hk
    obtain ⟨hs0, hg1, hg2, hms, hsv, hct, hs22, hs23⟩ := id hstk
    have hbp := (hbd k hk).1
    have hbc := (hbd k hk).2.1
    have hfc := hF.rc
    refine v_iload C dX11_report_61 rfl ?_
    refine v_aload_n C dX11_report_63 rfl ?_
    refine gf_X11_23 C dX11_report_64 (by assumption) ?_
    refine gf_X11_42 C dX11_report_67 (by assumption) ?_
    refine v_icmpn_ge C 129 dX11_report_70 (by decide) (by omega) (by omega) (fun h70 => ?_) (fun h70 => ?_)
    · skip
      refine v_iload C dX11_report_129 rfl ?_
      refine v_iret C dX11_report_131 ?_
      have e9 : i = P := by omega
      rw [e9]
      rw [e9] at hfs
      exact hend hfs hfr
    · skip
      have hfc := hF.rc
      refine v_iload C dX11_report_73 rfl ?_
      first | refine v_ifb_eq C 90 dX11_report_75 (by decide) (fun h75 => ?_) (fun h75 => ?_) | refine v_ifn_eq C 90 dX11_report_75 (by decide) (by omega) (fun h75 => ?_) (fun h75 => ?_) | refine v_if_eq C 90 dX11_report_75 (by decide) (fun h75 => ?_) (fun h75 => ?_)
      · skip
        refine v_aload C dX11_report_90 rfl ?_
        refine v_iload C dX11_report_92 rfl ?_
        refine mc_X11_124_X8 C dX11_report_94 (hsv.1) (c_Sav_high _ E z h70 hsv) rfl (fun r94 G94 hp94 => ?_)
        obtain ⟨hv94, rfl⟩ := hp94
        have hv9 : val i = r94 := by rw [hval, oRepVal, if_neg (by rw [h75]; decide), hv94]; rfl
        refine v_lstore_11 C dX11_report_99 (by decide) (by first | rfl | assumption) ?_
        refine v_lload C dX11_report_101 rfl ?_
        refine v_lload C dX11_report_103 rfl ?_
        refine v_lcmp_le C 123 dX11_report_105 dX11_report_106 (by decide) (fun h105 => ?_) (fun h105 => ?_)
        · skip
          refine v_iinc_10 C dX11_report_123 (nI_1 _) (by decide) rfl ?_
          refine v_goto C 61 dX11_report_126 (by decide) ?_
          have hnl : ¬ bar < val i := by rw [hv9]; exact Int64.not_lt.mpr h105
          have e9 := rFold_no (room := min P 300) hnl
          rw [← e9.1]
          exact ih (i + 1) (by omega) (by omega) G _ _ (by rw [e9.2]; exact hfs) hfr
        · skip
          refine v_iinc_9 C dX11_report_109 (nI_1 _) (by decide) rfl ?_
          refine v_aload_n C dX11_report_112 rfl ?_
          refine gf_X11_54 C dX11_report_113 (by assumption) ?_
          refine v_iload C dX11_report_116 rfl ?_
          refine v_lload C dX11_report_118 rfl ?_
          refine mc_X11_190 C dX11_report_120 (hfr0.rc) (c_Rnk_offer _ E z (x := i) (by omega) hfr0) rfl (fun r120 G120 hp120 => ?_)
          obtain ⟨hrk120, hfr120⟩ := hp120
          refine v_iinc_10 C dX11_report_123 (nI_1 _) (by decide) rfl ?_
          refine v_goto C 61 dX11_report_126 (by decide) ?_
          have hlt : bar < val i := by rw [hv9]; exact Int64.not_le.mp h105
          have e9 := rFold_yes (room := min P 300) hlt
          rw [← e9.1]
          exact ih (i + 1) (by omega) (by omega) G120 _ _ ⟨(hfr120 _ (by omega)).trans hf0, hF.keep (fun j a b => hfr120 j (by omega)), (hfr120 _ (by omega)).trans hf4, fun q9 hq9 => (hfst q9 hq9).keep (fun j a b => hfr120 j (by unfold sId at b; omega)), by rw [e9.2, hv9]; exact hrk120, hlim⟩ (fun j hj => by rw [hfr120 j (by omega)]; exact hfr j hj)
      · skip
        refine v_aload C dX11_report_78 rfl ?_
        refine v_iload C dX11_report_80 rfl ?_
        refine mc_X11_121_X8 C dX11_report_82 (hsv.1) (c_Sav_low _ E z h70 hsv) rfl (fun r82 G82 hp82 => ?_)
        obtain ⟨hv82, rfl⟩ := hp82
        have hv9 : val i = r82 := by rw [hval, oRepVal, if_pos h75, hv82]; rfl
        refine v_goto C 99 dX11_report_87 (by decide) ?_
        refine v_lstore_11 C dX11_report_99 (by decide) (by first | rfl | assumption) ?_
        refine v_lload C dX11_report_101 rfl ?_
        refine v_lload C dX11_report_103 rfl ?_
        refine v_lcmp_le C 123 dX11_report_105 dX11_report_106 (by decide) (fun h105 => ?_) (fun h105 => ?_)
        · skip
          refine v_iinc_10 C dX11_report_123 (nI_1 _) (by decide) rfl ?_
          refine v_goto C 61 dX11_report_126 (by decide) ?_
          have hnl : ¬ bar < val i := by rw [hv9]; exact Int64.not_lt.mpr h105
          have e9 := rFold_no (room := min P 300) hnl
          rw [← e9.1]
          exact ih (i + 1) (by omega) (by omega) G _ _ (by rw [e9.2]; exact hfs) hfr
        · skip
          refine v_iinc_9 C dX11_report_109 (nI_1 _) (by decide) rfl ?_
          refine v_aload_n C dX11_report_112 rfl ?_
          refine gf_X11_54 C dX11_report_113 (by assumption) ?_
          refine v_iload C dX11_report_116 rfl ?_
          refine v_lload C dX11_report_118 rfl ?_
          refine mc_X11_190 C dX11_report_120 (hfr0.rc) (c_Rnk_offer _ E z (x := i) (by omega) hfr0) rfl (fun r120 G120 hp120 => ?_)
          obtain ⟨hrk120, hfr120⟩ := hp120
          refine v_iinc_10 C dX11_report_123 (nI_1 _) (by decide) rfl ?_
          refine v_goto C 61 dX11_report_126 (by decide) ?_
          have hlt : bar < val i := by rw [hv9]; exact Int64.not_le.mp h105
          have e9 := rFold_yes (room := min P 300) hlt
          rw [← e9.1]
          exact ih (i + 1) (by omega) (by omega) G120 _ _ ⟨(hfr120 _ (by omega)).trans hf0, hF.keep (fun j a b => hfr120 j (by omega)), (hfr120 _ (by omega)).trans hf4, fun q9 hq9 => (hfst q9 hq9).keep (fun j a b => hfr120 j (by unfold sId at b; omega)), by rw [e9.2, hv9]; exact hrk120, hlim⟩ (fun j hj => by rw [hfr120 j (by omega)]; exact hfr j hj)
set_option maxHeartbeats 400000 in
set_option maxRecDepth 100000 in
theorem rep_loop4 {M : Mx} {E : Ev} {z : Option Nat} (C : Cx M E yX11_report.cls cX11_report 13 (some .int) 5 109 0 0) {post : Int32 → Gh → Prop} {G0 : Gh} {P W R lim : Nat} {A B : Nat → Nat} {Z : Nat → Str} {k : Nat} {x1 x2 x3 : Int32} {sure : Bool} {bar : Int64} {val : Nat → Int64} (hval : ∀ x, val x = oRepVal P W R A B lim (Z k) 4 sure x) (hk : k < 4) (hbd : ∀ k, k < 4 → bdS R W lim (Z k)) (hend : ∀ {G : Gh}, isFS E G P W R lim A B Z (rFold val bar (min P 300) P).2 → (∀ j, 104 ≤ j → G j = G0 j) → post (nI (rFold val bar (min P 300) P).1) G) : ∀ (t i : Nat), i ≤ P → P - i < t → ∀ (G : Gh) (x11 x12 : Option Value), isFS E G P W R lim A B Z (rFold val bar (min P 300) i).2 → (∀ j, 104 ≤ j → G j = G0 j) → V M E 13 (QE M E (fun r : Int32 => some (.int r)) z 0 0 post) z 0 0 G 61 [some (.ref (ga E 0)), some (.int x1), some (.int x2), some (.int x3), some (.int (bI sure)), some (.ref (ga E (sId k))), some (.ref (ga E (sId k + 23))), some (.long bar), none, some (.int (nI (rFold val bar (min P 300) i).1)), some (.int (nI i)), x11, x12] [] := by
  intro t
  induction t with
  | zero => intro i _ h; omega
  | succ t ih =>
    intro i hi ht G x11 x12 hfs hfr
    obtain ⟨hf0, hF, hf4, hfst, hfr0, hlim⟩ := id hfs
    have hrg := hfs.rng
    have hstk := hfst k hk
    obtain ⟨hs0, hg1, hg2, hms, hsv, hct, hs22, hs23⟩ := id hstk
    have hbp := (hbd k hk).1
    have hbc := (hbd k hk).2.1
    have hfc := hF.rc
    refine v_iload C dX11_report_61 rfl ?_
    refine v_aload_n C dX11_report_63 rfl ?_
    refine gf_X11_23 C dX11_report_64 (by assumption) ?_
    refine gf_X11_42 C dX11_report_67 (by assumption) ?_
    refine v_icmpn_ge C 129 dX11_report_70 (by decide) (by omega) (by omega) (fun h70 => ?_) (fun h70 => ?_)
    · skip
      refine v_iload C dX11_report_129 rfl ?_
      refine v_iret C dX11_report_131 ?_
      have e9 : i = P := by omega
      rw [e9]
      rw [e9] at hfs
      exact hend hfs hfr
    · skip
      have hfc := hF.rc
      refine v_iload C dX11_report_73 rfl ?_
      first | refine v_ifb_eq C 90 dX11_report_75 (by decide) (fun h75 => ?_) (fun h75 => ?_) | refine v_ifn_eq C 90 dX11_report_75 (by decide) (by omega) (fun h75 => ?_) (fun h75 => ?_) | refine v_if_eq C 90 dX11_report_75 (by decide) (fun h75 => ?_) (fun h75 => ?_)
      · skip
        refine v_aload C dX11_report_90 rfl ?_
        refine v_iload C dX11_report_92 rfl ?_
        refine mc_X11_124_X0 C dX11_report_94 (hs23) (c_Best_high _ E z h70 hbp hbc hF hstk) rfl (fun r94 G94 hp94 => ?_)
        obtain ⟨hv94, rfl⟩ := hp94
        have hv9 : val i = r94 := by rw [hval, oRepVal, if_neg (by rw [h75]; decide), hv94]; rfl
        refine v_lstore_11 C dX11_report_99 (by decide) (by first | rfl | assumption) ?_
        refine v_lload C dX11_report_101 rfl ?_
        refine v_lload C dX11_report_103 rfl ?_
        refine v_lcmp_le C 123 dX11_report_105 dX11_report_106 (by decide) (fun h105 => ?_) (fun h105 => ?_)
        · skip
          refine v_iinc_10 C dX11_report_123 (nI_1 _) (by decide) rfl ?_
          refine v_goto C 61 dX11_report_126 (by decide) ?_
          have hnl : ¬ bar < val i := by rw [hv9]; exact Int64.not_lt.mpr h105
          have e9 := rFold_no (room := min P 300) hnl
          rw [← e9.1]
          exact ih (i + 1) (by omega) (by omega) G _ _ (by rw [e9.2]; exact hfs) hfr
        · skip
          refine v_iinc_9 C dX11_report_109 (nI_1 _) (by decide) rfl ?_
          refine v_aload_n C dX11_report_112 rfl ?_
          refine gf_X11_54 C dX11_report_113 (by assumption) ?_
          refine v_iload C dX11_report_116 rfl ?_
          refine v_lload C dX11_report_118 rfl ?_
          refine mc_X11_190 C dX11_report_120 (hfr0.rc) (c_Rnk_offer _ E z (x := i) (by omega) hfr0) rfl (fun r120 G120 hp120 => ?_)
          obtain ⟨hrk120, hfr120⟩ := hp120
          refine v_iinc_10 C dX11_report_123 (nI_1 _) (by decide) rfl ?_
          refine v_goto C 61 dX11_report_126 (by decide) ?_
          have hlt : bar < val i := by rw [hv9]; exact Int64.not_le.mp h105
          have e9 := rFold_yes (room := min P 300) hlt
          rw [← e9.1]
          exact ih (i + 1) (by omega) (by omega) G120 _ _ ⟨(hfr120 _ (by omega)).trans hf0, hF.keep (fun j a b => hfr120 j (by omega)), (hfr120 _ (by omega)).trans hf4, fun q9 hq9 => (hfst q9 hq9).keep (fun j a b => hfr120 j (by unfold sId at b; omega)), by rw [e9.2, hv9]; exact hrk120, hlim⟩ (fun j hj => by rw [hfr120 j (by omega)]; exact hfr j hj)
      · skip
        refine v_aload C dX11_report_78 rfl ?_
        refine v_iload C dX11_report_80 rfl ?_
        refine mc_X11_121_X0 C dX11_report_82 (hs23) (c_Best_low _ E z h70 hF hstk) rfl (fun r82 G82 hp82 => ?_)
        obtain ⟨hv82, rfl⟩ := hp82
        have hv9 : val i = r82 := by rw [hval, oRepVal, if_pos h75, hv82]; rfl
        refine v_goto C 99 dX11_report_87 (by decide) ?_
        refine v_lstore_11 C dX11_report_99 (by decide) (by first | rfl | assumption) ?_
        refine v_lload C dX11_report_101 rfl ?_
        refine v_lload C dX11_report_103 rfl ?_
        refine v_lcmp_le C 123 dX11_report_105 dX11_report_106 (by decide) (fun h105 => ?_) (fun h105 => ?_)
        · skip
          refine v_iinc_10 C dX11_report_123 (nI_1 _) (by decide) rfl ?_
          refine v_goto C 61 dX11_report_126 (by decide) ?_
          have hnl : ¬ bar < val i := by rw [hv9]; exact Int64.not_lt.mpr h105
          have e9 := rFold_no (room := min P 300) hnl
          rw [← e9.1]
          exact ih (i + 1) (by omega) (by omega) G _ _ (by rw [e9.2]; exact hfs) hfr
        · skip
          refine v_iinc_9 C dX11_report_109 (nI_1 _) (by decide) rfl ?_
          refine v_aload_n C dX11_report_112 rfl ?_
          refine gf_X11_54 C dX11_report_113 (by assumption) ?_
          refine v_iload C dX11_report_116 rfl ?_
          refine v_lload C dX11_report_118 rfl ?_
          refine mc_X11_190 C dX11_report_120 (hfr0.rc) (c_Rnk_offer _ E z (x := i) (by omega) hfr0) rfl (fun r120 G120 hp120 => ?_)
          obtain ⟨hrk120, hfr120⟩ := hp120
          refine v_iinc_10 C dX11_report_123 (nI_1 _) (by decide) rfl ?_
          refine v_goto C 61 dX11_report_126 (by decide) ?_
          have hlt : bar < val i := by rw [hv9]; exact Int64.not_le.mp h105
          have e9 := rFold_yes (room := min P 300) hlt
          rw [← e9.1]
          exact ih (i + 1) (by omega) (by omega) G120 _ _ ⟨(hfr120 _ (by omega)).trans hf0, hF.keep (fun j a b => hfr120 j (by omega)), (hfr120 _ (by omega)).trans hf4, fun q9 hq9 => (hfst q9 hq9).keep (fun j a b => hfr120 j (by unfold sId at b; omega)), by rw [e9.2, hv9]; exact hrk120, hlim⟩ (fun j hj => by rw [hfr120 j (by omega)]; exact hfr j hj)
def oRepOk (x1 x2 x3 : Int32) : Bool := iin x1 4 && iin x2 5 && itm x3 100000
def oRep (P W R : Nat) (A B : Nat → Nat) (lim room : Nat) (Z : Nat → Str) (x1 x2 x3 : Int32) (sure : Bool) : Nat × Rnk := rFold (oRepVal P W R A B lim (Z (ix x1)) (ix x2) sure) (lN (zN (Z (ix x1)) / ix x3)) room P
def oRepR (P W R : Nat) (A B : Nat → Nat) (lim room : Nat) (Z : Nat → Str) (rk : Rnk) (x1 x2 x3 : Int32) (sure : Bool) : Int32 × Rnk := if oRepOk x1 x2 x3 = true then (nI (oRep P W R A B lim room Z x1 x2 x3 sure).1, (oRep P W R A B lim room Z x1 x2 x3 sure).2) else (-1, rk)
set_option maxHeartbeats 4000000 in
set_option maxRecDepth 100000 in
theorem c_FS_repN (l : Launch) (E : Ev) (z : Option Nat) {G : Gh} {P W R lim : Nat} {A B : Nat → Nat} {Z : Nat → Str} {rk : Rnk} {x1 x2 x3 : Int32} {sure : Bool} (hi1 : iin x1 4 = false) (hfs : isFS E G P W R lim A B Z rk) : K_X11_report l E z G [.ref (ga E 0), .int x1, .int x2, .int x3, .int (bI sure)] (fun r G2 => r = (oRepR P W R A B lim (min P 300) Z rk x1 x2 x3 sure).1 ∧ isFS E G2 P W R lim A B Z (oRepR P W R A B lim (min P 300) Z rk x1 x2 x3 sure).2 ∧ ∀ j, 104 ≤ j → G2 j = G j) := by
  refine Fc.of rfl [some (.ref (ga E 0)), some (.int x1), some (.int x2), some (.int x3), some (.int (bI sure)), none, none, none, none, none, none, none, none] 8 rfl (Nat.le_of_ble_eq_true rfl) ?_
  intro M hM0 hini C
  subst hM0
  obtain ⟨hf0, hF, hf4, hfst, hfr0, hlim⟩ := id hfs
  have hrg := hfs.rng
  refine v_aload_n C dX11_report_0 rfl ?_
  refine v_iload_n C dX11_report_1 rfl ?_
  refine mc_X11_85 C dX11_report_2 (by assumption) (c_FS_atN _ E z hi1 hfs) rfl (fun r2 G2 hp2 => ?_)
  obtain ⟨rfl, rfl⟩ := hp2
  refine v_astoreN_5 C dX11_report_5 (by decide) (by first | rfl | assumption) ?_
  refine v_aload_n C dX11_report_7 rfl ?_
  refine v_iload_n C dX11_report_8 rfl ?_
  refine v_iload_n C dX11_report_9 rfl ?_
  refine mc_X11_111 C dX11_report_10 (by assumption) (c_FS_skN _ E z hi1 hfs) rfl (fun r10 G10 hp10 => ?_)
  obtain ⟨rfl, rfl⟩ := hp10
  refine v_astoreN_6 C dX11_report_13 (by decide) (by first | rfl | assumption) ?_
  refine v_aloadN C dX11_report_15 rfl ?_
  refine v_ifnullN C 36 dX11_report_17 (by decide) ?_
  refine v_iconst (v := -1) C dX11_report_36 (by decide) ?_
  refine v_iret C dX11_report_37 ?_
  have hok9 : oRepOk x1 x2 x3 = false := by unfold oRepOk; rw [hi1]; simp
  unfold oRepR
  rw [hok9]
  exact ⟨rfl, hfs, fun _ _ => rfl⟩

set_option maxHeartbeats 4000000 in
set_option maxRecDepth 100000 in
theorem c_FS_repM (l : Launch) (E : Ev) (z : Option Nat) {G : Gh} {P W R lim : Nat} {A B : Nat → Nat} {Z : Nat → Str} {rk : Rnk} {k : Nat} {x2 x3 : Int32} {sure : Bool} (hk : k < 4) (hi2 : iin x2 5 = false) (hfs : isFS E G P W R lim A B Z rk) : K_X11_report l E z G [.ref (ga E 0), .int (nI k), .int x2, .int x3, .int (bI sure)] (fun r G2 => r = (oRepR P W R A B lim (min P 300) Z rk (nI k) x2 x3 sure).1 ∧ isFS E G2 P W R lim A B Z (oRepR P W R A B lim (min P 300) Z rk (nI k) x2 x3 sure).2 ∧ ∀ j, 104 ≤ j → G2 j = G j) := by
  refine Fc.of rfl [some (.ref (ga E 0)), some (.int (nI k)), some (.int x2), some (.int x3), some (.int (bI sure)), none, none, none, none, none, none, none, none] 8 rfl (Nat.le_of_ble_eq_true rfl) ?_
  intro M hM0 hini C
  subst hM0
  obtain ⟨hf0, hF, hf4, hfst, hfr0, hlim⟩ := id hfs
  have hrg := hfs.rng
  have hkx : ix (nI k) = k := ix_nI (by omega)
  have hi1 : iin (nI k) 4 = true := by rw [iin_nI (by omega)]; simp [hk]
  refine v_aload_n C dX11_report_0 rfl ?_
  refine v_iload_n C dX11_report_1 rfl ?_
  refine mc_X11_85 C dX11_report_2 (by assumption) (c_FS_at _ E z hk hfs) rfl (fun r2 G2 hp2 => ?_)
  obtain ⟨rfl, rfl⟩ := hp2
  refine v_astore_5 C dX11_report_5 (by decide) (by first | rfl | assumption) ?_
  refine v_aload_n C dX11_report_7 rfl ?_
  refine v_iload_n C dX11_report_8 rfl ?_
  refine v_iload_n C dX11_report_9 rfl ?_
  refine mc_X11_111 C dX11_report_10 (by assumption) (c_FS_skM _ E z hk hi2 hfs) rfl (fun r10 G10 hp10 => ?_)
  obtain ⟨rfl, rfl⟩ := hp10
  refine v_astoreN_6 C dX11_report_13 (by decide) (by first | rfl | assumption) ?_
  refine v_aload C dX11_report_15 rfl ?_
  refine v_ifnull C dX11_report_17 ?_
  refine v_aloadN C dX11_report_20 rfl ?_
  refine v_ifnullN C 36 dX11_report_22 (by decide) ?_
  refine v_iconst (v := -1) C dX11_report_36 (by decide) ?_
  refine v_iret C dX11_report_37 ?_
  have hok9 : oRepOk (nI k) x2 x3 = false := by unfold oRepOk; rw [hi2]; simp
  unfold oRepR
  rw [hok9]
  exact ⟨rfl, hfs, fun _ _ => rfl⟩

set_option maxHeartbeats 4000000 in
set_option maxRecDepth 100000 in
theorem c_FS_rep0 (l : Launch) (E : Ev) (z : Option Nat) {G : Gh} {P W R lim : Nat} {A B : Nat → Nat} {Z : Nat → Str} {rk : Rnk} {k : Nat} {x3 : Int32} {sure : Bool} (hk : k < 4) (hbd : ∀ k, k < 4 → bdS R W lim (Z k)) (hn15 : ∀ k, k < 4 → zN (Z k) ≤ N15) (hfs : isFS E G P W R lim A B Z rk) : K_X11_report l E z G [.ref (ga E 0), .int (nI k), .int (nI 0), .int x3, .int (bI sure)] (fun r G2 => r = (oRepR P W R A B lim (min P 300) Z rk (nI k) (nI 0) x3 sure).1 ∧ isFS E G2 P W R lim A B Z (oRepR P W R A B lim (min P 300) Z rk (nI k) (nI 0) x3 sure).2 ∧ ∀ j, 104 ≤ j → G2 j = G j) := by
  refine Fc.of rfl [some (.ref (ga E 0)), some (.int (nI k)), some (.int (nI 0)), some (.int x3), some (.int (bI sure)), none, none, none, none, none, none, none, none] 8 rfl (Nat.le_of_ble_eq_true rfl) ?_
  intro M hM0 hini C
  subst hM0
  obtain ⟨hf0, hF, hf4, hfst, hfr0, hlim⟩ := id hfs
  have hrg := hfs.rng
  have hkx : ix (nI k) = k := ix_nI (by omega)
  have hi1 : iin (nI k) 4 = true := by rw [iin_nI (by omega)]; simp [hk]
  have hi2 : iin (nI 0) 5 = true := by decide
  have hqx : ix (nI 0) = 0 := ix_nI (by decide)
  cases hi3 : itm x3 100000 with
  | false =>
    refine v_aload_n C dX11_report_0 rfl ?_
    refine v_iload_n C dX11_report_1 rfl ?_
    refine mc_X11_85 C dX11_report_2 (by assumption) (c_FS_at _ E z hk hfs) rfl (fun r2 G2 hp2 => ?_)
    obtain ⟨rfl, rfl⟩ := hp2
    refine v_astore_5 C dX11_report_5 (by decide) (by first | rfl | assumption) ?_
    refine v_aload_n C dX11_report_7 rfl ?_
    refine v_iload_n C dX11_report_8 rfl ?_
    refine v_iload_n C dX11_report_9 rfl ?_
    refine mc_X11_111 C dX11_report_10 (by assumption) (c_FS_sk _ E z (q := 0) hk (by decide) hfs) rfl (fun r10 G10 hp10 => ?_)
    obtain ⟨rfl, rfl⟩ := hp10
    refine v_astore_6 C dX11_report_13 (by decide) (by first | rfl | assumption) ?_
    refine v_aload C dX11_report_15 rfl ?_
    refine v_ifnull C dX11_report_17 ?_
    refine v_aload C dX11_report_20 rfl ?_
    refine v_ifnull C dX11_report_22 ?_
    refine v_iload_n C dX11_report_25 rfl ?_
    refine v_iconst (v := nI 1) C dX11_report_26 (by decide) ?_
    refine v_icmp_lt C 36 dX11_report_27 (by decide) (fun h27 => ?_) (fun h27 => ?_)
    · skip
      refine v_iconst (v := -1) C dX11_report_36 (by decide) ?_
      refine v_iret C dX11_report_37 ?_
      have hok9 : oRepOk (nI k) (nI 0) x3 = false := by unfold oRepOk; rw [hi3]; simp
      unfold oRepR
      rw [hok9]
      exact ⟨rfl, hfs, fun _ _ => rfl⟩
    · skip
      refine v_iload_n C dX11_report_30 rfl ?_
      refine v_ldc C tw815 dX11_report_31 ?_
      refine v_topi (show (100000 : Int32) = nI 100000 by decide) ?_
      refine v_icmp_le C 38 dX11_report_33 (by decide) (fun h33 => ?_) (fun h33 => ?_)
      · skip
        exact absurd (itm_ok (by decide) h27 h33) (by rw [hi3]; decide)
      · skip
        refine v_iconst (v := -1) C dX11_report_36 (by decide) ?_
        refine v_iret C dX11_report_37 ?_
        have hok9 : oRepOk (nI k) (nI 0) x3 = false := by unfold oRepOk; rw [hi3]; simp
        unfold oRepR
        rw [hok9]
        exact ⟨rfl, hfs, fun _ _ => rfl⟩
  | true =>
    obtain ⟨t, ht1, ht2, rfl⟩ := itm_of hi3 (by decide)
    have htx : ix (nI t) = t := ix_nI (by omega)
    refine v_aload_n C dX11_report_0 rfl ?_
    refine v_iload_n C dX11_report_1 rfl ?_
    refine mc_X11_85 C dX11_report_2 (by assumption) (c_FS_at _ E z hk hfs) rfl (fun r2 G2 hp2 => ?_)
    obtain ⟨rfl, rfl⟩ := hp2
    refine v_astore_5 C dX11_report_5 (by decide) (by first | rfl | assumption) ?_
    refine v_aload_n C dX11_report_7 rfl ?_
    refine v_iload_n C dX11_report_8 rfl ?_
    refine v_iload_n C dX11_report_9 rfl ?_
    refine mc_X11_111 C dX11_report_10 (by assumption) (c_FS_sk _ E z (q := 0) hk (by decide) hfs) rfl (fun r10 G10 hp10 => ?_)
    obtain ⟨rfl, rfl⟩ := hp10
    refine v_astore_6 C dX11_report_13 (by decide) (by first | rfl | assumption) ?_
    refine v_aload C dX11_report_15 rfl ?_
    refine v_ifnull C dX11_report_17 ?_
    refine v_aload C dX11_report_20 rfl ?_
    refine v_ifnull C dX11_report_22 ?_
    refine v_iload_n C dX11_report_25 rfl ?_
    refine v_iconst (v := nI 1) C dX11_report_26 (by decide) ?_
    refine v_icmpn_lt C 36 dX11_report_27 (by decide) (by omega) (by omega) (fun h27 => by exfalso; first | omega | exact absurd h27 (by decide) | (have h9 := of_decide_eq_true h27; omega) | (have h9 := of_decide_eq_false h27; omega) | contradiction | simp_all) (fun h27 => ?_)
    refine v_iload_n C dX11_report_30 rfl ?_
    refine v_ldc C tw815 dX11_report_31 ?_
    refine v_topi (show (100000 : Int32) = nI 100000 by decide) ?_
    refine v_icmpn_le C 38 dX11_report_33 (by decide) (by omega) (by omega) (fun h33 => ?_) (fun h33 => by exfalso; first | omega | exact absurd h33 (by decide) | (have h9 := of_decide_eq_true h33; omega) | (have h9 := of_decide_eq_false h33; omega) | contradiction | simp_all)
    have hs0 := (hfst k hk).1
    have hn9 := hn15 k hk
    unfold N15 at hn9
    refine v_aload C dX11_report_38 rfl ?_
    refine gf_X11_91 C dX11_report_40 (by assumption) ?_
    refine v_iload_n C dX11_report_43 rfl ?_
    first | refine v_i2ln C dX11_report_44 (by omega) ?_ | refine v_i2l C dX11_report_44 rfl ?_
    refine v_ldivn C dX11_report_45 (by omega) (by omega) (by omega) ?_
    refine v_lstore_7 C dX11_report_46 (by decide) (by first | rfl | assumption) ?_
    refine v_iconst (v := nI 0) C dX11_report_48 (by decide) ?_
    refine v_istore_9 C dX11_report_49 (by decide) (by first | rfl | assumption) ?_
    refine v_aload_n C dX11_report_51 rfl ?_
    refine gf_X11_54 C dX11_report_52 (by assumption) ?_
    refine mc_X11_187 C dX11_report_55 (hfr0.rc) (c_Rnk_start _ E z hfr0) rfl (fun r55 G55 hp55 => ?_)
    obtain ⟨hrk55, hfr55⟩ := hp55
    refine v_iconst (v := nI 0) C dX11_report_58 (by decide) ?_
    refine v_istore_10 C dX11_report_59 (by decide) (by first | rfl | assumption) ?_
    have hok9 : oRepOk (nI k) (nI 0) (nI t) = true := by unfold oRepOk; rw [hi1, hi2, hi3]; rfl
    unfold oRepR oRep
    rw [if_pos hok9, hkx, hqx, htx]
    exact rep_loop0 C (k := k) (val := oRepVal P W R A B lim (Z k) 0 sure) (bar := lN (zN (Z k) / t)) (fun _ => rfl) hk hbd (fun h1 h2 => ⟨rfl, h1, h2⟩) (P + 1) 0 (by omega) (by omega) G55 _ _ ⟨(hfr55 _ (by omega)).trans hf0, hF.keep (fun j a b => hfr55 j (by omega)), (hfr55 _ (by omega)).trans hf4, fun q9 hq9 => (hfst q9 hq9).keep (fun j a b => hfr55 j (by unfold sId at b; omega)), hrk55, hlim⟩ (fun j hj => hfr55 j (by omega))

set_option maxHeartbeats 4000000 in
set_option maxRecDepth 100000 in
theorem c_FS_rep1 (l : Launch) (E : Ev) (z : Option Nat) {G : Gh} {P W R lim : Nat} {A B : Nat → Nat} {Z : Nat → Str} {rk : Rnk} {k : Nat} {x3 : Int32} {sure : Bool} (hk : k < 4) (hbd : ∀ k, k < 4 → bdS R W lim (Z k)) (hn15 : ∀ k, k < 4 → zN (Z k) ≤ N15) (hfs : isFS E G P W R lim A B Z rk) : K_X11_report l E z G [.ref (ga E 0), .int (nI k), .int (nI 1), .int x3, .int (bI sure)] (fun r G2 => r = (oRepR P W R A B lim (min P 300) Z rk (nI k) (nI 1) x3 sure).1 ∧ isFS E G2 P W R lim A B Z (oRepR P W R A B lim (min P 300) Z rk (nI k) (nI 1) x3 sure).2 ∧ ∀ j, 104 ≤ j → G2 j = G j) := by
  refine Fc.of rfl [some (.ref (ga E 0)), some (.int (nI k)), some (.int (nI 1)), some (.int x3), some (.int (bI sure)), none, none, none, none, none, none, none, none] 8 rfl (Nat.le_of_ble_eq_true rfl) ?_
  intro M hM0 hini C
  subst hM0
  obtain ⟨hf0, hF, hf4, hfst, hfr0, hlim⟩ := id hfs
  have hrg := hfs.rng
  have hkx : ix (nI k) = k := ix_nI (by omega)
  have hi1 : iin (nI k) 4 = true := by rw [iin_nI (by omega)]; simp [hk]
  have hi2 : iin (nI 1) 5 = true := by decide
  have hqx : ix (nI 1) = 1 := ix_nI (by decide)
  cases hi3 : itm x3 100000 with
  | false =>
    refine v_aload_n C dX11_report_0 rfl ?_
    refine v_iload_n C dX11_report_1 rfl ?_
    refine mc_X11_85 C dX11_report_2 (by assumption) (c_FS_at _ E z hk hfs) rfl (fun r2 G2 hp2 => ?_)
    obtain ⟨rfl, rfl⟩ := hp2
    refine v_astore_5 C dX11_report_5 (by decide) (by first | rfl | assumption) ?_
    refine v_aload_n C dX11_report_7 rfl ?_
    refine v_iload_n C dX11_report_8 rfl ?_
    refine v_iload_n C dX11_report_9 rfl ?_
    refine mc_X11_111 C dX11_report_10 (by assumption) (c_FS_sk _ E z (q := 1) hk (by decide) hfs) rfl (fun r10 G10 hp10 => ?_)
    obtain ⟨rfl, rfl⟩ := hp10
    refine v_astore_6 C dX11_report_13 (by decide) (by first | rfl | assumption) ?_
    refine v_aload C dX11_report_15 rfl ?_
    refine v_ifnull C dX11_report_17 ?_
    refine v_aload C dX11_report_20 rfl ?_
    refine v_ifnull C dX11_report_22 ?_
    refine v_iload_n C dX11_report_25 rfl ?_
    refine v_iconst (v := nI 1) C dX11_report_26 (by decide) ?_
    refine v_icmp_lt C 36 dX11_report_27 (by decide) (fun h27 => ?_) (fun h27 => ?_)
    · skip
      refine v_iconst (v := -1) C dX11_report_36 (by decide) ?_
      refine v_iret C dX11_report_37 ?_
      have hok9 : oRepOk (nI k) (nI 1) x3 = false := by unfold oRepOk; rw [hi3]; simp
      unfold oRepR
      rw [hok9]
      exact ⟨rfl, hfs, fun _ _ => rfl⟩
    · skip
      refine v_iload_n C dX11_report_30 rfl ?_
      refine v_ldc C tw815 dX11_report_31 ?_
      refine v_topi (show (100000 : Int32) = nI 100000 by decide) ?_
      refine v_icmp_le C 38 dX11_report_33 (by decide) (fun h33 => ?_) (fun h33 => ?_)
      · skip
        exact absurd (itm_ok (by decide) h27 h33) (by rw [hi3]; decide)
      · skip
        refine v_iconst (v := -1) C dX11_report_36 (by decide) ?_
        refine v_iret C dX11_report_37 ?_
        have hok9 : oRepOk (nI k) (nI 1) x3 = false := by unfold oRepOk; rw [hi3]; simp
        unfold oRepR
        rw [hok9]
        exact ⟨rfl, hfs, fun _ _ => rfl⟩
  | true =>
    obtain ⟨t, ht1, ht2, rfl⟩ := itm_of hi3 (by decide)
    have htx : ix (nI t) = t := ix_nI (by omega)
    refine v_aload_n C dX11_report_0 rfl ?_
    refine v_iload_n C dX11_report_1 rfl ?_
    refine mc_X11_85 C dX11_report_2 (by assumption) (c_FS_at _ E z hk hfs) rfl (fun r2 G2 hp2 => ?_)
    obtain ⟨rfl, rfl⟩ := hp2
    refine v_astore_5 C dX11_report_5 (by decide) (by first | rfl | assumption) ?_
    refine v_aload_n C dX11_report_7 rfl ?_
    refine v_iload_n C dX11_report_8 rfl ?_
    refine v_iload_n C dX11_report_9 rfl ?_
    refine mc_X11_111 C dX11_report_10 (by assumption) (c_FS_sk _ E z (q := 1) hk (by decide) hfs) rfl (fun r10 G10 hp10 => ?_)
    obtain ⟨rfl, rfl⟩ := hp10
    refine v_astore_6 C dX11_report_13 (by decide) (by first | rfl | assumption) ?_
    refine v_aload C dX11_report_15 rfl ?_
    refine v_ifnull C dX11_report_17 ?_
    refine v_aload C dX11_report_20 rfl ?_
    refine v_ifnull C dX11_report_22 ?_
    refine v_iload_n C dX11_report_25 rfl ?_
    refine v_iconst (v := nI 1) C dX11_report_26 (by decide) ?_
    refine v_icmpn_lt C 36 dX11_report_27 (by decide) (by omega) (by omega) (fun h27 => by exfalso; first | omega | exact absurd h27 (by decide) | (have h9 := of_decide_eq_true h27; omega) | (have h9 := of_decide_eq_false h27; omega) | contradiction | simp_all) (fun h27 => ?_)
    refine v_iload_n C dX11_report_30 rfl ?_
    refine v_ldc C tw815 dX11_report_31 ?_
    refine v_topi (show (100000 : Int32) = nI 100000 by decide) ?_
    refine v_icmpn_le C 38 dX11_report_33 (by decide) (by omega) (by omega) (fun h33 => ?_) (fun h33 => by exfalso; first | omega | exact absurd h33 (by decide) | (have h9 := of_decide_eq_true h33; omega) | (have h9 := of_decide_eq_false h33; omega) | contradiction | simp_all)
    have hs0 := (hfst k hk).1
    have hn9 := hn15 k hk
    unfold N15 at hn9
    refine v_aload C dX11_report_38 rfl ?_
    refine gf_X11_91 C dX11_report_40 (by assumption) ?_
    refine v_iload_n C dX11_report_43 rfl ?_
    first | refine v_i2ln C dX11_report_44 (by omega) ?_ | refine v_i2l C dX11_report_44 rfl ?_
    refine v_ldivn C dX11_report_45 (by omega) (by omega) (by omega) ?_
    refine v_lstore_7 C dX11_report_46 (by decide) (by first | rfl | assumption) ?_
    refine v_iconst (v := nI 0) C dX11_report_48 (by decide) ?_
    refine v_istore_9 C dX11_report_49 (by decide) (by first | rfl | assumption) ?_
    refine v_aload_n C dX11_report_51 rfl ?_
    refine gf_X11_54 C dX11_report_52 (by assumption) ?_
    refine mc_X11_187 C dX11_report_55 (hfr0.rc) (c_Rnk_start _ E z hfr0) rfl (fun r55 G55 hp55 => ?_)
    obtain ⟨hrk55, hfr55⟩ := hp55
    refine v_iconst (v := nI 0) C dX11_report_58 (by decide) ?_
    refine v_istore_10 C dX11_report_59 (by decide) (by first | rfl | assumption) ?_
    have hok9 : oRepOk (nI k) (nI 1) (nI t) = true := by unfold oRepOk; rw [hi1, hi2, hi3]; rfl
    unfold oRepR oRep
    rw [if_pos hok9, hkx, hqx, htx]
    exact rep_loop1 C (k := k) (val := oRepVal P W R A B lim (Z k) 1 sure) (bar := lN (zN (Z k) / t)) (fun _ => rfl) hk hbd (fun h1 h2 => ⟨rfl, h1, h2⟩) (P + 1) 0 (by omega) (by omega) G55 _ _ ⟨(hfr55 _ (by omega)).trans hf0, hF.keep (fun j a b => hfr55 j (by omega)), (hfr55 _ (by omega)).trans hf4, fun q9 hq9 => (hfst q9 hq9).keep (fun j a b => hfr55 j (by unfold sId at b; omega)), hrk55, hlim⟩ (fun j hj => hfr55 j (by omega))

set_option maxHeartbeats 4000000 in
set_option maxRecDepth 100000 in
theorem c_FS_rep2 (l : Launch) (E : Ev) (z : Option Nat) {G : Gh} {P W R lim : Nat} {A B : Nat → Nat} {Z : Nat → Str} {rk : Rnk} {k : Nat} {x3 : Int32} {sure : Bool} (hk : k < 4) (hbd : ∀ k, k < 4 → bdS R W lim (Z k)) (hn15 : ∀ k, k < 4 → zN (Z k) ≤ N15) (hfs : isFS E G P W R lim A B Z rk) : K_X11_report l E z G [.ref (ga E 0), .int (nI k), .int (nI 2), .int x3, .int (bI sure)] (fun r G2 => r = (oRepR P W R A B lim (min P 300) Z rk (nI k) (nI 2) x3 sure).1 ∧ isFS E G2 P W R lim A B Z (oRepR P W R A B lim (min P 300) Z rk (nI k) (nI 2) x3 sure).2 ∧ ∀ j, 104 ≤ j → G2 j = G j) := by
  refine Fc.of rfl [some (.ref (ga E 0)), some (.int (nI k)), some (.int (nI 2)), some (.int x3), some (.int (bI sure)), none, none, none, none, none, none, none, none] 8 rfl (Nat.le_of_ble_eq_true rfl) ?_
  intro M hM0 hini C
  subst hM0
  obtain ⟨hf0, hF, hf4, hfst, hfr0, hlim⟩ := id hfs
  have hrg := hfs.rng
  have hkx : ix (nI k) = k := ix_nI (by omega)
  have hi1 : iin (nI k) 4 = true := by rw [iin_nI (by omega)]; simp [hk]
  have hi2 : iin (nI 2) 5 = true := by decide
  have hqx : ix (nI 2) = 2 := ix_nI (by decide)
  cases hi3 : itm x3 100000 with
  | false =>
    refine v_aload_n C dX11_report_0 rfl ?_
    refine v_iload_n C dX11_report_1 rfl ?_
    refine mc_X11_85 C dX11_report_2 (by assumption) (c_FS_at _ E z hk hfs) rfl (fun r2 G2 hp2 => ?_)
    obtain ⟨rfl, rfl⟩ := hp2
    refine v_astore_5 C dX11_report_5 (by decide) (by first | rfl | assumption) ?_
    refine v_aload_n C dX11_report_7 rfl ?_
    refine v_iload_n C dX11_report_8 rfl ?_
    refine v_iload_n C dX11_report_9 rfl ?_
    refine mc_X11_111 C dX11_report_10 (by assumption) (c_FS_sk _ E z (q := 2) hk (by decide) hfs) rfl (fun r10 G10 hp10 => ?_)
    obtain ⟨rfl, rfl⟩ := hp10
    refine v_astore_6 C dX11_report_13 (by decide) (by first | rfl | assumption) ?_
    refine v_aload C dX11_report_15 rfl ?_
    refine v_ifnull C dX11_report_17 ?_
    refine v_aload C dX11_report_20 rfl ?_
    refine v_ifnull C dX11_report_22 ?_
    refine v_iload_n C dX11_report_25 rfl ?_
    refine v_iconst (v := nI 1) C dX11_report_26 (by decide) ?_
    refine v_icmp_lt C 36 dX11_report_27 (by decide) (fun h27 => ?_) (fun h27 => ?_)
    · skip
      refine v_iconst (v := -1) C dX11_report_36 (by decide) ?_
      refine v_iret C dX11_report_37 ?_
      have hok9 : oRepOk (nI k) (nI 2) x3 = false := by unfold oRepOk; rw [hi3]; simp
      unfold oRepR
      rw [hok9]
      exact ⟨rfl, hfs, fun _ _ => rfl⟩
    · skip
      refine v_iload_n C dX11_report_30 rfl ?_
      refine v_ldc C tw815 dX11_report_31 ?_
      refine v_topi (show (100000 : Int32) = nI 100000 by decide) ?_
      refine v_icmp_le C 38 dX11_report_33 (by decide) (fun h33 => ?_) (fun h33 => ?_)
      · skip
        exact absurd (itm_ok (by decide) h27 h33) (by rw [hi3]; decide)
      · skip
        refine v_iconst (v := -1) C dX11_report_36 (by decide) ?_
        refine v_iret C dX11_report_37 ?_
        have hok9 : oRepOk (nI k) (nI 2) x3 = false := by unfold oRepOk; rw [hi3]; simp
        unfold oRepR
        rw [hok9]
        exact ⟨rfl, hfs, fun _ _ => rfl⟩
  | true =>
    obtain ⟨t, ht1, ht2, rfl⟩ := itm_of hi3 (by decide)
    have htx : ix (nI t) = t := ix_nI (by omega)
    refine v_aload_n C dX11_report_0 rfl ?_
    refine v_iload_n C dX11_report_1 rfl ?_
    refine mc_X11_85 C dX11_report_2 (by assumption) (c_FS_at _ E z hk hfs) rfl (fun r2 G2 hp2 => ?_)
    obtain ⟨rfl, rfl⟩ := hp2
    refine v_astore_5 C dX11_report_5 (by decide) (by first | rfl | assumption) ?_
    refine v_aload_n C dX11_report_7 rfl ?_
    refine v_iload_n C dX11_report_8 rfl ?_
    refine v_iload_n C dX11_report_9 rfl ?_
    refine mc_X11_111 C dX11_report_10 (by assumption) (c_FS_sk _ E z (q := 2) hk (by decide) hfs) rfl (fun r10 G10 hp10 => ?_)
    obtain ⟨rfl, rfl⟩ := hp10
    refine v_astore_6 C dX11_report_13 (by decide) (by first | rfl | assumption) ?_
    refine v_aload C dX11_report_15 rfl ?_
    refine v_ifnull C dX11_report_17 ?_
    refine v_aload C dX11_report_20 rfl ?_
    refine v_ifnull C dX11_report_22 ?_
    refine v_iload_n C dX11_report_25 rfl ?_
    refine v_iconst (v := nI 1) C dX11_report_26 (by decide) ?_
    refine v_icmpn_lt C 36 dX11_report_27 (by decide) (by omega) (by omega) (fun h27 => by exfalso; first | omega | exact absurd h27 (by decide) | (have h9 := of_decide_eq_true h27; omega) | (have h9 := of_decide_eq_false h27; omega) | contradiction | simp_all) (fun h27 => ?_)
    refine v_iload_n C dX11_report_30 rfl ?_
    refine v_ldc C tw815 dX11_report_31 ?_
    refine v_topi (show (100000 : Int32) = nI 100000 by decide) ?_
    refine v_icmpn_le C 38 dX11_report_33 (by decide) (by omega) (by omega) (fun h33 => ?_) (fun h33 => by exfalso; first | omega | exact absurd h33 (by decide) | (have h9 := of_decide_eq_true h33; omega) | (have h9 := of_decide_eq_false h33; omega) | contradiction | simp_all)
    have hs0 := (hfst k hk).1
    have hn9 := hn15 k hk
    unfold N15 at hn9
    refine v_aload C dX11_report_38 rfl ?_
    refine gf_X11_91 C dX11_report_40 (by assumption) ?_
    refine v_iload_n C dX11_report_43 rfl ?_
    first | refine v_i2ln C dX11_report_44 (by omega) ?_ | refine v_i2l C dX11_report_44 rfl ?_
    refine v_ldivn C dX11_report_45 (by omega) (by omega) (by omega) ?_
    refine v_lstore_7 C dX11_report_46 (by decide) (by first | rfl | assumption) ?_
    refine v_iconst (v := nI 0) C dX11_report_48 (by decide) ?_
    refine v_istore_9 C dX11_report_49 (by decide) (by first | rfl | assumption) ?_
    refine v_aload_n C dX11_report_51 rfl ?_
    refine gf_X11_54 C dX11_report_52 (by assumption) ?_
    refine mc_X11_187 C dX11_report_55 (hfr0.rc) (c_Rnk_start _ E z hfr0) rfl (fun r55 G55 hp55 => ?_)
    obtain ⟨hrk55, hfr55⟩ := hp55
    refine v_iconst (v := nI 0) C dX11_report_58 (by decide) ?_
    refine v_istore_10 C dX11_report_59 (by decide) (by first | rfl | assumption) ?_
    have hok9 : oRepOk (nI k) (nI 2) (nI t) = true := by unfold oRepOk; rw [hi1, hi2, hi3]; rfl
    unfold oRepR oRep
    rw [if_pos hok9, hkx, hqx, htx]
    exact rep_loop2 C (k := k) (val := oRepVal P W R A B lim (Z k) 2 sure) (bar := lN (zN (Z k) / t)) (fun _ => rfl) hk hbd (fun h1 h2 => ⟨rfl, h1, h2⟩) (P + 1) 0 (by omega) (by omega) G55 _ _ ⟨(hfr55 _ (by omega)).trans hf0, hF.keep (fun j a b => hfr55 j (by omega)), (hfr55 _ (by omega)).trans hf4, fun q9 hq9 => (hfst q9 hq9).keep (fun j a b => hfr55 j (by unfold sId at b; omega)), hrk55, hlim⟩ (fun j hj => hfr55 j (by omega))

set_option maxHeartbeats 4000000 in
set_option maxRecDepth 100000 in
theorem c_FS_rep3 (l : Launch) (E : Ev) (z : Option Nat) {G : Gh} {P W R lim : Nat} {A B : Nat → Nat} {Z : Nat → Str} {rk : Rnk} {k : Nat} {x3 : Int32} {sure : Bool} (hk : k < 4) (hbd : ∀ k, k < 4 → bdS R W lim (Z k)) (hn15 : ∀ k, k < 4 → zN (Z k) ≤ N15) (hfs : isFS E G P W R lim A B Z rk) : K_X11_report l E z G [.ref (ga E 0), .int (nI k), .int (nI 3), .int x3, .int (bI sure)] (fun r G2 => r = (oRepR P W R A B lim (min P 300) Z rk (nI k) (nI 3) x3 sure).1 ∧ isFS E G2 P W R lim A B Z (oRepR P W R A B lim (min P 300) Z rk (nI k) (nI 3) x3 sure).2 ∧ ∀ j, 104 ≤ j → G2 j = G j) := by
  refine Fc.of rfl [some (.ref (ga E 0)), some (.int (nI k)), some (.int (nI 3)), some (.int x3), some (.int (bI sure)), none, none, none, none, none, none, none, none] 8 rfl (Nat.le_of_ble_eq_true rfl) ?_
  intro M hM0 hini C
  subst hM0
  obtain ⟨hf0, hF, hf4, hfst, hfr0, hlim⟩ := id hfs
  have hrg := hfs.rng
  have hkx : ix (nI k) = k := ix_nI (by omega)
  have hi1 : iin (nI k) 4 = true := by rw [iin_nI (by omega)]; simp [hk]
  have hi2 : iin (nI 3) 5 = true := by decide
  have hqx : ix (nI 3) = 3 := ix_nI (by decide)
  cases hi3 : itm x3 100000 with
  | false =>
    refine v_aload_n C dX11_report_0 rfl ?_
    refine v_iload_n C dX11_report_1 rfl ?_
    refine mc_X11_85 C dX11_report_2 (by assumption) (c_FS_at _ E z hk hfs) rfl (fun r2 G2 hp2 => ?_)
    obtain ⟨rfl, rfl⟩ := hp2
    refine v_astore_5 C dX11_report_5 (by decide) (by first | rfl | assumption) ?_
    refine v_aload_n C dX11_report_7 rfl ?_
    refine v_iload_n C dX11_report_8 rfl ?_
    refine v_iload_n C dX11_report_9 rfl ?_
    refine mc_X11_111 C dX11_report_10 (by assumption) (c_FS_sk _ E z (q := 3) hk (by decide) hfs) rfl (fun r10 G10 hp10 => ?_)
    obtain ⟨rfl, rfl⟩ := hp10
    refine v_astore_6 C dX11_report_13 (by decide) (by first | rfl | assumption) ?_
    refine v_aload C dX11_report_15 rfl ?_
    refine v_ifnull C dX11_report_17 ?_
    refine v_aload C dX11_report_20 rfl ?_
    refine v_ifnull C dX11_report_22 ?_
    refine v_iload_n C dX11_report_25 rfl ?_
    refine v_iconst (v := nI 1) C dX11_report_26 (by decide) ?_
    refine v_icmp_lt C 36 dX11_report_27 (by decide) (fun h27 => ?_) (fun h27 => ?_)
    · skip
      refine v_iconst (v := -1) C dX11_report_36 (by decide) ?_
      refine v_iret C dX11_report_37 ?_
      have hok9 : oRepOk (nI k) (nI 3) x3 = false := by unfold oRepOk; rw [hi3]; simp
      unfold oRepR
      rw [hok9]
      exact ⟨rfl, hfs, fun _ _ => rfl⟩
    · skip
      refine v_iload_n C dX11_report_30 rfl ?_
      refine v_ldc C tw815 dX11_report_31 ?_
      refine v_topi (show (100000 : Int32) = nI 100000 by decide) ?_
      refine v_icmp_le C 38 dX11_report_33 (by decide) (fun h33 => ?_) (fun h33 => ?_)
      · skip
        exact absurd (itm_ok (by decide) h27 h33) (by rw [hi3]; decide)
      · skip
        refine v_iconst (v := -1) C dX11_report_36 (by decide) ?_
        refine v_iret C dX11_report_37 ?_
        have hok9 : oRepOk (nI k) (nI 3) x3 = false := by unfold oRepOk; rw [hi3]; simp
        unfold oRepR
        rw [hok9]
        exact ⟨rfl, hfs, fun _ _ => rfl⟩
  | true =>
    obtain ⟨t, ht1, ht2, rfl⟩ := itm_of hi3 (by decide)
    have htx : ix (nI t) = t := ix_nI (by omega)
    refine v_aload_n C dX11_report_0 rfl ?_
    refine v_iload_n C dX11_report_1 rfl ?_
    refine mc_X11_85 C dX11_report_2 (by assumption) (c_FS_at _ E z hk hfs) rfl (fun r2 G2 hp2 => ?_)
    obtain ⟨rfl, rfl⟩ := hp2
    refine v_astore_5 C dX11_report_5 (by decide) (by first | rfl | assumption) ?_
    refine v_aload_n C dX11_report_7 rfl ?_
    refine v_iload_n C dX11_report_8 rfl ?_
    refine v_iload_n C dX11_report_9 rfl ?_
    refine mc_X11_111 C dX11_report_10 (by assumption) (c_FS_sk _ E z (q := 3) hk (by decide) hfs) rfl (fun r10 G10 hp10 => ?_)
    obtain ⟨rfl, rfl⟩ := hp10
    refine v_astore_6 C dX11_report_13 (by decide) (by first | rfl | assumption) ?_
    refine v_aload C dX11_report_15 rfl ?_
    refine v_ifnull C dX11_report_17 ?_
    refine v_aload C dX11_report_20 rfl ?_
    refine v_ifnull C dX11_report_22 ?_
    refine v_iload_n C dX11_report_25 rfl ?_
    refine v_iconst (v := nI 1) C dX11_report_26 (by decide) ?_
    refine v_icmpn_lt C 36 dX11_report_27 (by decide) (by omega) (by omega) (fun h27 => by exfalso; first | omega | exact absurd h27 (by decide) | (have h9 := of_decide_eq_true h27; omega) | (have h9 := of_decide_eq_false h27; omega) | contradiction | simp_all) (fun h27 => ?_)
    refine v_iload_n C dX11_report_30 rfl ?_
    refine v_ldc C tw815 dX11_report_31 ?_
    refine v_topi (show (100000 : Int32) = nI 100000 by decide) ?_
    refine v_icmpn_le C 38 dX11_report_33 (by decide) (by omega) (by omega) (fun h33 => ?_) (fun h33 => by exfalso; first | omega | exact absurd h33 (by decide) | (have h9 := of_decide_eq_true h33; omega) | (have h9 := of_decide_eq_false h33; omega) | contradiction | simp_all)
    have hs0 := (hfst k hk).1
    have hn9 := hn15 k hk
    unfold N15 at hn9
    refine v_aload C dX11_report_38 rfl ?_
    refine gf_X11_91 C dX11_report_40 (by assumption) ?_
    refine v_iload_n C dX11_report_43 rfl ?_
    first | refine v_i2ln C dX11_report_44 (by omega) ?_ | refine v_i2l C dX11_report_44 rfl ?_
    refine v_ldivn C dX11_report_45 (by omega) (by omega) (by omega) ?_
    refine v_lstore_7 C dX11_report_46 (by decide) (by first | rfl | assumption) ?_
    refine v_iconst (v := nI 0) C dX11_report_48 (by decide) ?_
    refine v_istore_9 C dX11_report_49 (by decide) (by first | rfl | assumption) ?_
    refine v_aload_n C dX11_report_51 rfl ?_
    refine gf_X11_54 C dX11_report_52 (by assumption) ?_
    refine mc_X11_187 C dX11_report_55 (hfr0.rc) (c_Rnk_start _ E z hfr0) rfl (fun r55 G55 hp55 => ?_)
    obtain ⟨hrk55, hfr55⟩ := hp55
    refine v_iconst (v := nI 0) C dX11_report_58 (by decide) ?_
    refine v_istore_10 C dX11_report_59 (by decide) (by first | rfl | assumption) ?_
    have hok9 : oRepOk (nI k) (nI 3) (nI t) = true := by unfold oRepOk; rw [hi1, hi2, hi3]; rfl
    unfold oRepR oRep
    rw [if_pos hok9, hkx, hqx, htx]
    exact rep_loop3 C (k := k) (val := oRepVal P W R A B lim (Z k) 3 sure) (bar := lN (zN (Z k) / t)) (fun _ => rfl) hk hbd (fun h1 h2 => ⟨rfl, h1, h2⟩) (P + 1) 0 (by omega) (by omega) G55 _ _ ⟨(hfr55 _ (by omega)).trans hf0, hF.keep (fun j a b => hfr55 j (by omega)), (hfr55 _ (by omega)).trans hf4, fun q9 hq9 => (hfst q9 hq9).keep (fun j a b => hfr55 j (by unfold sId at b; omega)), hrk55, hlim⟩ (fun j hj => hfr55 j (by omega))

set_option maxHeartbeats 4000000 in
set_option maxRecDepth 100000 in
theorem c_FS_rep4 (l : Launch) (E : Ev) (z : Option Nat) {G : Gh} {P W R lim : Nat} {A B : Nat → Nat} {Z : Nat → Str} {rk : Rnk} {k : Nat} {x3 : Int32} {sure : Bool} (hk : k < 4) (hbd : ∀ k, k < 4 → bdS R W lim (Z k)) (hn15 : ∀ k, k < 4 → zN (Z k) ≤ N15) (hfs : isFS E G P W R lim A B Z rk) : K_X11_report l E z G [.ref (ga E 0), .int (nI k), .int (nI 4), .int x3, .int (bI sure)] (fun r G2 => r = (oRepR P W R A B lim (min P 300) Z rk (nI k) (nI 4) x3 sure).1 ∧ isFS E G2 P W R lim A B Z (oRepR P W R A B lim (min P 300) Z rk (nI k) (nI 4) x3 sure).2 ∧ ∀ j, 104 ≤ j → G2 j = G j) := by
  refine Fc.of rfl [some (.ref (ga E 0)), some (.int (nI k)), some (.int (nI 4)), some (.int x3), some (.int (bI sure)), none, none, none, none, none, none, none, none] 8 rfl (Nat.le_of_ble_eq_true rfl) ?_
  intro M hM0 hini C
  subst hM0
  obtain ⟨hf0, hF, hf4, hfst, hfr0, hlim⟩ := id hfs
  have hrg := hfs.rng
  have hkx : ix (nI k) = k := ix_nI (by omega)
  have hi1 : iin (nI k) 4 = true := by rw [iin_nI (by omega)]; simp [hk]
  have hi2 : iin (nI 4) 5 = true := by decide
  have hqx : ix (nI 4) = 4 := ix_nI (by decide)
  cases hi3 : itm x3 100000 with
  | false =>
    refine v_aload_n C dX11_report_0 rfl ?_
    refine v_iload_n C dX11_report_1 rfl ?_
    refine mc_X11_85 C dX11_report_2 (by assumption) (c_FS_at _ E z hk hfs) rfl (fun r2 G2 hp2 => ?_)
    obtain ⟨rfl, rfl⟩ := hp2
    refine v_astore_5 C dX11_report_5 (by decide) (by first | rfl | assumption) ?_
    refine v_aload_n C dX11_report_7 rfl ?_
    refine v_iload_n C dX11_report_8 rfl ?_
    refine v_iload_n C dX11_report_9 rfl ?_
    refine mc_X11_111 C dX11_report_10 (by assumption) (c_FS_sk _ E z (q := 4) hk (by decide) hfs) rfl (fun r10 G10 hp10 => ?_)
    obtain ⟨rfl, rfl⟩ := hp10
    refine v_astore_6 C dX11_report_13 (by decide) (by first | rfl | assumption) ?_
    refine v_aload C dX11_report_15 rfl ?_
    refine v_ifnull C dX11_report_17 ?_
    refine v_aload C dX11_report_20 rfl ?_
    refine v_ifnull C dX11_report_22 ?_
    refine v_iload_n C dX11_report_25 rfl ?_
    refine v_iconst (v := nI 1) C dX11_report_26 (by decide) ?_
    refine v_icmp_lt C 36 dX11_report_27 (by decide) (fun h27 => ?_) (fun h27 => ?_)
    · skip
      refine v_iconst (v := -1) C dX11_report_36 (by decide) ?_
      refine v_iret C dX11_report_37 ?_
      have hok9 : oRepOk (nI k) (nI 4) x3 = false := by unfold oRepOk; rw [hi3]; simp
      unfold oRepR
      rw [hok9]
      exact ⟨rfl, hfs, fun _ _ => rfl⟩
    · skip
      refine v_iload_n C dX11_report_30 rfl ?_
      refine v_ldc C tw815 dX11_report_31 ?_
      refine v_topi (show (100000 : Int32) = nI 100000 by decide) ?_
      refine v_icmp_le C 38 dX11_report_33 (by decide) (fun h33 => ?_) (fun h33 => ?_)
      · skip
        exact absurd (itm_ok (by decide) h27 h33) (by rw [hi3]; decide)
      · skip
        refine v_iconst (v := -1) C dX11_report_36 (by decide) ?_
        refine v_iret C dX11_report_37 ?_
        have hok9 : oRepOk (nI k) (nI 4) x3 = false := by unfold oRepOk; rw [hi3]; simp
        unfold oRepR
        rw [hok9]
        exact ⟨rfl, hfs, fun _ _ => rfl⟩
  | true =>
    obtain ⟨t, ht1, ht2, rfl⟩ := itm_of hi3 (by decide)
    have htx : ix (nI t) = t := ix_nI (by omega)
    refine v_aload_n C dX11_report_0 rfl ?_
    refine v_iload_n C dX11_report_1 rfl ?_
    refine mc_X11_85 C dX11_report_2 (by assumption) (c_FS_at _ E z hk hfs) rfl (fun r2 G2 hp2 => ?_)
    obtain ⟨rfl, rfl⟩ := hp2
    refine v_astore_5 C dX11_report_5 (by decide) (by first | rfl | assumption) ?_
    refine v_aload_n C dX11_report_7 rfl ?_
    refine v_iload_n C dX11_report_8 rfl ?_
    refine v_iload_n C dX11_report_9 rfl ?_
    refine mc_X11_111 C dX11_report_10 (by assumption) (c_FS_sk _ E z (q := 4) hk (by decide) hfs) rfl (fun r10 G10 hp10 => ?_)
    obtain ⟨rfl, rfl⟩ := hp10
    refine v_astore_6 C dX11_report_13 (by decide) (by first | rfl | assumption) ?_
    refine v_aload C dX11_report_15 rfl ?_
    refine v_ifnull C dX11_report_17 ?_
    refine v_aload C dX11_report_20 rfl ?_
    refine v_ifnull C dX11_report_22 ?_
    refine v_iload_n C dX11_report_25 rfl ?_
    refine v_iconst (v := nI 1) C dX11_report_26 (by decide) ?_
    refine v_icmpn_lt C 36 dX11_report_27 (by decide) (by omega) (by omega) (fun h27 => by exfalso; first | omega | exact absurd h27 (by decide) | (have h9 := of_decide_eq_true h27; omega) | (have h9 := of_decide_eq_false h27; omega) | contradiction | simp_all) (fun h27 => ?_)
    refine v_iload_n C dX11_report_30 rfl ?_
    refine v_ldc C tw815 dX11_report_31 ?_
    refine v_topi (show (100000 : Int32) = nI 100000 by decide) ?_
    refine v_icmpn_le C 38 dX11_report_33 (by decide) (by omega) (by omega) (fun h33 => ?_) (fun h33 => by exfalso; first | omega | exact absurd h33 (by decide) | (have h9 := of_decide_eq_true h33; omega) | (have h9 := of_decide_eq_false h33; omega) | contradiction | simp_all)
    have hs0 := (hfst k hk).1
    have hn9 := hn15 k hk
    unfold N15 at hn9
    refine v_aload C dX11_report_38 rfl ?_
    refine gf_X11_91 C dX11_report_40 (by assumption) ?_
    refine v_iload_n C dX11_report_43 rfl ?_
    first | refine v_i2ln C dX11_report_44 (by omega) ?_ | refine v_i2l C dX11_report_44 rfl ?_
    refine v_ldivn C dX11_report_45 (by omega) (by omega) (by omega) ?_
    refine v_lstore_7 C dX11_report_46 (by decide) (by first | rfl | assumption) ?_
    refine v_iconst (v := nI 0) C dX11_report_48 (by decide) ?_
    refine v_istore_9 C dX11_report_49 (by decide) (by first | rfl | assumption) ?_
    refine v_aload_n C dX11_report_51 rfl ?_
    refine gf_X11_54 C dX11_report_52 (by assumption) ?_
    refine mc_X11_187 C dX11_report_55 (hfr0.rc) (c_Rnk_start _ E z hfr0) rfl (fun r55 G55 hp55 => ?_)
    obtain ⟨hrk55, hfr55⟩ := hp55
    refine v_iconst (v := nI 0) C dX11_report_58 (by decide) ?_
    refine v_istore_10 C dX11_report_59 (by decide) (by first | rfl | assumption) ?_
    have hok9 : oRepOk (nI k) (nI 4) (nI t) = true := by unfold oRepOk; rw [hi1, hi2, hi3]; rfl
    unfold oRepR oRep
    rw [if_pos hok9, hkx, hqx, htx]
    exact rep_loop4 C (k := k) (val := oRepVal P W R A B lim (Z k) 4 sure) (bar := lN (zN (Z k) / t)) (fun _ => rfl) hk hbd (fun h1 h2 => ⟨rfl, h1, h2⟩) (P + 1) 0 (by omega) (by omega) G55 _ _ ⟨(hfr55 _ (by omega)).trans hf0, hF.keep (fun j a b => hfr55 j (by omega)), (hfr55 _ (by omega)).trans hf4, fun q9 hq9 => (hfst q9 hq9).keep (fun j a b => hfr55 j (by unfold sId at b; omega)), hrk55, hlim⟩ (fun j hj => hfr55 j (by omega))

theorem c_FS_report (l : Launch) (E : Ev) (z : Option Nat) {G : Gh} {P W R lim : Nat} {A B : Nat → Nat} {Z : Nat → Str} {rk : Rnk} {x1 x2 x3 : Int32} {sure : Bool} (hbd : ∀ k, k < 4 → bdS R W lim (Z k)) (hn15 : ∀ k, k < 4 → zN (Z k) ≤ N15) (hfs : isFS E G P W R lim A B Z rk) : K_X11_report l E z G [.ref (ga E 0), .int x1, .int x2, .int x3, .int (bI sure)] (fun r G2 => r = (oRepR P W R A B lim (min P 300) Z rk x1 x2 x3 sure).1 ∧ isFS E G2 P W R lim A B Z (oRepR P W R A B lim (min P 300) Z rk x1 x2 x3 sure).2 ∧ ∀ j, 104 ≤ j → G2 j = G j) := by
  cases hi1 : iin x1 4 with
  | false => exact c_FS_repN l E z hi1 hfs
  | true =>
    obtain ⟨k, hk, rfl⟩ := iin_of hi1 (by decide)
    cases hi2 : iin x2 5 with
    | false => exact c_FS_repM l E z hk hi2 hfs
    | true =>
      obtain ⟨q, hq, rfl⟩ := iin_of hi2 (by decide)
      rcases (show q = 0 ∨ q = 1 ∨ q = 2 ∨ q = 3 ∨ q = 4 by omega) with rfl | rfl | rfl | rfl | rfl
      · exact c_FS_rep0 l E z hk hbd hn15 hfs
      · exact c_FS_rep1 l E z hk hbd hn15 hfs
      · exact c_FS_rep2 l E z hk hbd hn15 hfs
      · exact c_FS_rep3 l E z hk hbd hn15 hfs
      · exact c_FS_rep4 l E z hk hbd hn15 hfs
