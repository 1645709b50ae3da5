def isRp (E : Ev) (G : Gh) (rl : Rnk) : Prop := ∃ (fk : Nat → Int32) (fn : Nat → Int64), G 122 = cI E 300 fk ∧ G 123 = cJ E 300 fn ∧ rep3 rl fk fn ∧ rl.length ≤ 300 ∧ ∀ c ∈ rl, c.1 < 65521
theorem isRp.keep {E : Ev} {G G2 : Gh} {rl : Rnk} (h : isRp E G rl) (hf : ∀ j, 122 ≤ j → j < 124 → G2 j = G j) : isRp E G2 rl := by
  obtain ⟨a, b, h0, h1, h2⟩ := h
  exact ⟨a, b, (hf _ (by omega) (by omega)).trans h0, (hf _ (by omega) (by omega)).trans h1, h2⟩
theorem isMo.um {E : Ev} {G G2 : Gh} {P W R lim rq rq2 po po2 : Nat} {A B : Nat → Nat} (h : isMo E G P W R lim rq po A B) (h0 : G2 104 = moO E P W R lim rq2 po2) (h1 : G2 105 = G 105) (h2 : G2 106 = G 106) : isMo E G2 P W R lim rq2 po2 A B := by
  obtain ⟨fa, fb, g0, g1, g2, g3⟩ := h
  exact ⟨fa, fb, h0, h1.trans g1, h2.trans g2, g3⟩
theorem isMd.um {E : Ev} {G G2 : Gh} {P W R lim rq rq2 po po2 : Nat} {A B A2 B2 : Nat → Nat} {Y : Nat → Str} (h : isMd E G P W R lim rq po A B Y) (h9 : isMo E G2 P W R lim rq2 po2 A2 B2) (hf : ∀ j, 107 ≤ j → j < 122 → G2 j = G j) : isMd E G2 P W R lim rq2 po2 A2 B2 Y := by
  obtain ⟨h0, h1, h2, h3, h4, h5, h6⟩ := h
  exact ⟨h9, h1.keep (hf _ (by omega) (by omega)), h2.keep (hf _ (by omega) (by omega)), h3.keep (hf _ (by omega) (by omega)), h4.keep (fun j a b => hf j (by omega) (by omega)), h5.keep (fun j a b => hf j (by omega) (by omega)), h6.keep (fun j a b => hf j (by omega) b)⟩

set_option maxHeartbeats 4000000 in
set_option maxRecDepth 100000 in
theorem rp_loop {M : Mx} {E : Ev} {z : Option Nat} (C : Cx M E yX12_reports.cls cX12_reports 5 none 0 0 0 0) {post : Unit → Gh → Prop} {G0 : Gh} {P W R lim po N : Nat} {m : Rnk} {x : Nat} {v : Int64} (hx : x < 65521) (hml : m.length < 300) (hN : N = m.length ∨ (m.length = 299 ∧ N = 300)) (hkm : ∀ c ∈ m, c.1 < 65521) (hend : ∀ G, G 104 = moO E P W R lim (rIns m (x, v)).length po → isRp E G (rIns m (x, v)) → (∀ j, j ≠ 104 ∧ j ≠ 122 ∧ j ≠ 123 → G j = G0 j) → post () G) : ∀ (t p : Nat), p ≤ m.length → p < t → ∀ (G : Gh) (fk : Nat → Int32) (fn : Nat → Int64), G 104 = moO E P W R lim N po → G 122 = cI E 300 fk → G 123 = cJ E 300 fn → rMid m p fk fn → rPos m v m.length = rPos m v p → (∀ j, j ≠ 104 ∧ j ≠ 122 ∧ j ≠ 123 → G j = G0 j) → V M E 5 (QE M E (fun _ : Unit => none) z 0 0 post) z 0 0 G 46 [some (.ref (ga E 104)), some (.int (nI x)), some (.long v), none, some (.int (nI p))] [] := by
  intro t
  induction t with
  | zero => intro p _ h; omega
  | succ t ih =>
    intro p hpl ht G fk fn ho ra rb hmid hpos hfr
    refine v_iload C dX12_reports_46 rfl ?_
    first | refine v_ifn_le C 103 dX12_reports_48 (by decide) (by omega) (fun h48 => ?_) (fun h48 => ?_) | refine v_if_le C 103 dX12_reports_48 (by decide) (fun h48 => ?_) (fun h48 => ?_)
    · skip
      have hpp : rPos m v m.length = p := by
        rw [hpos]
        first
          | (have hz : p = 0 := by omega
             rw [hz]; rfl)
          | exact rPos_stop (by omega) hcp (Int64.not_lt.mpr h61)
      refine v_aload_n C dX12_reports_103 rfl ?_
      refine gf_X12_66 C dX12_reports_104 (by assumption) ?_
      refine v_iload C dX12_reports_107 rfl ?_
      refine v_lload_n C dX12_reports_109 rfl ?_
      refine v_last C dX12_reports_110 (by assumption) (by omega) (by omega) (fun G hG110 hF110 => ?_)
      first | replace ho := (hF110 _ (by omega)).trans ho | replace ho := hG110 | skip
      first | replace ra := (hF110 _ (by omega)).trans ra | replace ra := hG110 | skip
      first | replace rb := (hF110 _ (by omega)).trans rb | replace rb := hG110 | skip
      refine v_aload_n C dX12_reports_111 rfl ?_
      refine gf_X12_63 C dX12_reports_112 (by assumption) ?_
      refine v_iload C dX12_reports_115 rfl ?_
      refine v_iload_n C dX12_reports_117 rfl ?_
      refine v_iast C dX12_reports_118 (by assumption) (by omega) (by omega) (fun G hG118 hF118 => ?_)
      first | replace ho := (hF118 _ (by omega)).trans ho | replace ho := hG118 | skip
      first | replace ra := (hF118 _ (by omega)).trans ra | replace ra := hG118 | skip
      first | replace rb := (hF118 _ (by omega)).trans rb | replace rb := hG118 | skip
      refine v_aload_n C dX12_reports_119 rfl ?_
      refine v_aload_n C dX12_reports_120 rfl ?_
      refine gf_X12_200 C dX12_reports_121 (by assumption) ?_
      refine v_sipush (v := nI 300) C dX12_reports_124 (by decide) ?_
      refine v_icmpn_ge C 139 dX12_reports_127 (by decide) (by omega) (by omega) (fun h127 => ?_) (fun h127 => ?_)
      · skip
        refine v_sipush (v := nI 300) C dX12_reports_139 (by decide) ?_
        refine pf_X12_200 C dX12_reports_142 (by assumption) (fun G hG142 hF142 => ?_)
        first | replace ho := (hF142 _ (by omega)).trans ho | replace ho := hG142 | skip
        first | replace ra := (hF142 _ (by omega)).trans ra | replace ra := hG142 | skip
        first | replace rb := (hF142 _ (by omega)).trans rb | replace rb := hG142 | skip
        refine v_vret C dX12_reports_145 ?_
        have hln : (rIns m (x, v)).length = m.length + 1 := by unfold rIns; rw [List.length_insertIdx_of_le_length (rPos_le _ _ _)]
        refine hend G ?_ ⟨_, _, ra, rb, ?_, by omega, fun c hcm => ?_⟩ (fun j hj => by rw [hF142 j (by omega), hF118 j (by omega), hF110 j (by omega)]; exact hfr j hj)
        · rw [hln]
          first
            | exact ho
            | (rw [show m.length + 1 = 300 by omega]; exact ho)
            | (rw [show m.length + 1 = N + 1 by omega]; exact ho)
        · unfold rIns; rw [hpp]; exact rMid_end (c0 := (x, v)) hmid hpl
        · unfold rIns at hcm
          rcases (List.mem_insertIdx (rPos_le _ _ _)).mp hcm with q | q
          · rw [q]; exact hx
          · exact hkm c q
      · skip
        refine v_aload_n C dX12_reports_130 rfl ?_
        refine gf_X12_200 C dX12_reports_131 (by assumption) ?_
        refine v_iconst (v := nI 1) C dX12_reports_134 (by decide) ?_
        first | refine v_iaddn C dX12_reports_135 ?_ | refine v_iadd C dX12_reports_135 ?_
        refine v_goto C 142 dX12_reports_136 (by decide) ?_
        refine pf_X12_200 C dX12_reports_142 (by assumption) (fun G hG142 hF142 => ?_)
        first | replace ho := (hF142 _ (by omega)).trans ho | replace ho := hG142 | skip
        first | replace ra := (hF142 _ (by omega)).trans ra | replace ra := hG142 | skip
        first | replace rb := (hF142 _ (by omega)).trans rb | replace rb := hG142 | skip
        refine v_vret C dX12_reports_145 ?_
        have hln : (rIns m (x, v)).length = m.length + 1 := by unfold rIns; rw [List.length_insertIdx_of_le_length (rPos_le _ _ _)]
        refine hend G ?_ ⟨_, _, ra, rb, ?_, by omega, fun c hcm => ?_⟩ (fun j hj => by rw [hF142 j (by omega), hF118 j (by omega), hF110 j (by omega)]; exact hfr j hj)
        · rw [hln]
          first
            | exact ho
            | (rw [show m.length + 1 = 300 by omega]; exact ho)
            | (rw [show m.length + 1 = N + 1 by omega]; exact ho)
        · unfold rIns; rw [hpp]; exact rMid_end (c0 := (x, v)) hmid hpl
        · unfold rIns at hcm
          rcases (List.mem_insertIdx (rPos_le _ _ _)).mp hcm with q | q
          · rw [q]; exact hx
          · exact hkm c q
    · skip
      have hcp : m[p - 1]? = some m[p - 1] := List.getElem?_eq_getElem (by omega)
      have hrp := hmid.1 (p - 1) _ (by omega) hcp
      refine v_aload_n C dX12_reports_51 rfl ?_
      refine gf_X12_66 C dX12_reports_52 (by assumption) ?_
      refine v_iload C dX12_reports_55 rfl ?_
      refine v_iconst (v := nI 1) C dX12_reports_57 (by decide) ?_
      first | refine v_isubn C dX12_reports_58 (by omega) ?_ | refine v_isub C dX12_reports_58 ?_
      refine v_lald C dX12_reports_59 (by assumption) (by omega) (by omega) hrp.2 ?_
      refine v_lload_n C dX12_reports_60 rfl ?_
      refine v_lcmp_ge C 103 dX12_reports_61 dX12_reports_62 (by decide) (fun h61 => ?_) (fun h61 => ?_)
      · skip
        have hpp : rPos m v m.length = p := by
          rw [hpos]
          first
            | (have hz : p = 0 := by omega
               rw [hz]; rfl)
            | exact rPos_stop (by omega) hcp (Int64.not_lt.mpr h61)
        refine v_aload_n C dX12_reports_103 rfl ?_
        refine gf_X12_66 C dX12_reports_104 (by assumption) ?_
        refine v_iload C dX12_reports_107 rfl ?_
        refine v_lload_n C dX12_reports_109 rfl ?_
        refine v_last C dX12_reports_110 (by assumption) (by omega) (by omega) (fun G hG110 hF110 => ?_)
        first | replace ho := (hF110 _ (by omega)).trans ho | replace ho := hG110 | skip
        first | replace ra := (hF110 _ (by omega)).trans ra | replace ra := hG110 | skip
        first | replace rb := (hF110 _ (by omega)).trans rb | replace rb := hG110 | skip
        refine v_aload_n C dX12_reports_111 rfl ?_
        refine gf_X12_63 C dX12_reports_112 (by assumption) ?_
        refine v_iload C dX12_reports_115 rfl ?_
        refine v_iload_n C dX12_reports_117 rfl ?_
        refine v_iast C dX12_reports_118 (by assumption) (by omega) (by omega) (fun G hG118 hF118 => ?_)
        first | replace ho := (hF118 _ (by omega)).trans ho | replace ho := hG118 | skip
        first | replace ra := (hF118 _ (by omega)).trans ra | replace ra := hG118 | skip
        first | replace rb := (hF118 _ (by omega)).trans rb | replace rb := hG118 | skip
        refine v_aload_n C dX12_reports_119 rfl ?_
        refine v_aload_n C dX12_reports_120 rfl ?_
        refine gf_X12_200 C dX12_reports_121 (by assumption) ?_
        refine v_sipush (v := nI 300) C dX12_reports_124 (by decide) ?_
        refine v_icmpn_ge C 139 dX12_reports_127 (by decide) (by omega) (by omega) (fun h127 => ?_) (fun h127 => ?_)
        · skip
          refine v_sipush (v := nI 300) C dX12_reports_139 (by decide) ?_
          refine pf_X12_200 C dX12_reports_142 (by assumption) (fun G hG142 hF142 => ?_)
          first | replace ho := (hF142 _ (by omega)).trans ho | replace ho := hG142 | skip
          first | replace ra := (hF142 _ (by omega)).trans ra | replace ra := hG142 | skip
          first | replace rb := (hF142 _ (by omega)).trans rb | replace rb := hG142 | skip
          refine v_vret C dX12_reports_145 ?_
          have hln : (rIns m (x, v)).length = m.length + 1 := by unfold rIns; rw [List.length_insertIdx_of_le_length (rPos_le _ _ _)]
          refine hend G ?_ ⟨_, _, ra, rb, ?_, by omega, fun c hcm => ?_⟩ (fun j hj => by rw [hF142 j (by omega), hF118 j (by omega), hF110 j (by omega)]; exact hfr j hj)
          · rw [hln]
            first
              | exact ho
              | (rw [show m.length + 1 = 300 by omega]; exact ho)
              | (rw [show m.length + 1 = N + 1 by omega]; exact ho)
          · unfold rIns; rw [hpp]; exact rMid_end (c0 := (x, v)) hmid hpl
          · unfold rIns at hcm
            rcases (List.mem_insertIdx (rPos_le _ _ _)).mp hcm with q | q
            · rw [q]; exact hx
            · exact hkm c q
        · skip
          refine v_aload_n C dX12_reports_130 rfl ?_
          refine gf_X12_200 C dX12_reports_131 (by assumption) ?_
          refine v_iconst (v := nI 1) C dX12_reports_134 (by decide) ?_
          first | refine v_iaddn C dX12_reports_135 ?_ | refine v_iadd C dX12_reports_135 ?_
          refine v_goto C 142 dX12_reports_136 (by decide) ?_
          refine pf_X12_200 C dX12_reports_142 (by assumption) (fun G hG142 hF142 => ?_)
          first | replace ho := (hF142 _ (by omega)).trans ho | replace ho := hG142 | skip
          first | replace ra := (hF142 _ (by omega)).trans ra | replace ra := hG142 | skip
          first | replace rb := (hF142 _ (by omega)).trans rb | replace rb := hG142 | skip
          refine v_vret C dX12_reports_145 ?_
          have hln : (rIns m (x, v)).length = m.length + 1 := by unfold rIns; rw [List.length_insertIdx_of_le_length (rPos_le _ _ _)]
          refine hend G ?_ ⟨_, _, ra, rb, ?_, by omega, fun c hcm => ?_⟩ (fun j hj => by rw [hF142 j (by omega), hF118 j (by omega), hF110 j (by omega)]; exact hfr j hj)
          · rw [hln]
            first
              | exact ho
              | (rw [show m.length + 1 = 300 by omega]; exact ho)
              | (rw [show m.length + 1 = N + 1 by omega]; exact ho)
          · unfold rIns; rw [hpp]; exact rMid_end (c0 := (x, v)) hmid hpl
          · unfold rIns at hcm
            rcases (List.mem_insertIdx (rPos_le _ _ _)).mp hcm with q | q
            · rw [q]; exact hx
            · exact hkm c q
      · skip
        refine v_aload_n C dX12_reports_65 rfl ?_
        refine gf_X12_66 C dX12_reports_66 (by assumption) ?_
        refine v_iload C dX12_reports_69 rfl ?_
        refine v_aload_n C dX12_reports_71 rfl ?_
        refine gf_X12_66 C dX12_reports_72 (by assumption) ?_
        refine v_iload C dX12_reports_75 rfl ?_
        refine v_iconst (v := nI 1) C dX12_reports_77 (by decide) ?_
        first | refine v_isubn C dX12_reports_78 (by omega) ?_ | refine v_isub C dX12_reports_78 ?_
        refine v_lald C dX12_reports_79 (by assumption) (by omega) (by omega) rfl ?_
        refine v_last C dX12_reports_80 (by assumption) (by omega) (by omega) (fun G hG80 hF80 => ?_)
        first | replace ho := (hF80 _ (by omega)).trans ho | replace ho := hG80 | skip
        first | replace ra := (hF80 _ (by omega)).trans ra | replace ra := hG80 | skip
        first | replace rb := (hF80 _ (by omega)).trans rb | replace rb := hG80 | skip
        refine v_aload_n C dX12_reports_81 rfl ?_
        refine gf_X12_63 C dX12_reports_82 (by assumption) ?_
        refine v_iload C dX12_reports_85 rfl ?_
        refine v_aload_n C dX12_reports_87 rfl ?_
        refine gf_X12_63 C dX12_reports_88 (by assumption) ?_
        refine v_iload C dX12_reports_91 rfl ?_
        refine v_iconst (v := nI 1) C dX12_reports_93 (by decide) ?_
        first | refine v_isubn C dX12_reports_94 (by omega) ?_ | refine v_isub C dX12_reports_94 ?_
        refine v_iald C dX12_reports_95 (by assumption) (by omega) (by omega) rfl ?_
        refine v_iast C dX12_reports_96 (by assumption) (by omega) (by omega) (fun G hG96 hF96 => ?_)
        first | replace ho := (hF96 _ (by omega)).trans ho | replace ho := hG96 | skip
        first | replace ra := (hF96 _ (by omega)).trans ra | replace ra := hG96 | skip
        first | replace rb := (hF96 _ (by omega)).trans rb | replace rb := hG96 | skip
        first | refine v_iinc_4 C dX12_reports_97 (nI_dec (by omega)) (by decide) (by first | rfl | assumption) ?_ | refine v_iinc_4 C dX12_reports_97 rfl (by decide) (by first | rfl | assumption) ?_
        refine v_goto C 46 dX12_reports_100 (by decide) ?_
        exact ih (p - 1) (by omega) (by omega) G _ _ ho ra rb (rMid_step hmid (by omega)) (by rw [hpos]; exact rPos_lt (by omega) hcp (Int64.not_le.mp h61)) (fun j hj => by rw [hF96 j (by omega), hF80 j (by omega)]; exact hfr j hj)
set_option maxHeartbeats 4000000 in
set_option maxRecDepth 100000 in
theorem c_Mo_reports (l : Launch) (E : Ev) (z : Option Nat) {G : Gh} {P W R lim po : Nat} {A B : Nat → Nat} {rl : Rnk} {x : Nat} {v : Int64} (hx : x < 65521) (hrp : isRp E G rl) (hm : isMo E G P W R lim rl.length po A B) : K_X12_reports l E z G [.ref (ga E 104), .int (nI x), .long v] (fun _ G2 => isMo E G2 P W R lim (rOffer 300 rl (x, v)).length po A B ∧ isRp E G2 (rOffer 300 rl (x, v)) ∧ ∀ j, j ≠ 104 ∧ j ≠ 122 ∧ j ≠ 123 → G2 j = G j) := by
  refine Fc.of rfl [some (.ref (ga E 104)), some (.int (nI x)), some (.long v), none, none] 1 rfl (Nat.le_of_ble_eq_true rfl) ?_
  intro M hM0 hini C
  subst hM0
  have ho := hm.rc
  obtain ⟨fk, fn, ra, rb, hrep, hll, hkp⟩ := id hrp
  rcases Nat.lt_or_ge rl.length 300 with h3 | h3
  · skip
    refine v_aload_n C dX12_reports_0 rfl ?_
    refine gf_X12_200 C dX12_reports_1 (by assumption) ?_
    refine v_sipush (v := nI 300) C dX12_reports_4 (by decide) ?_
    refine v_icmpn_ge C 17 dX12_reports_7 (by decide) (by omega) (by omega) (fun h7 => by exfalso; first | omega | exact absurd h7 (by decide) | (have h9 := of_decide_eq_true h7; omega) | (have h9 := of_decide_eq_false h7; omega) | contradiction | simp_all) (fun h7 => ?_)
    refine v_aload_n C dX12_reports_10 rfl ?_
    refine gf_X12_200 C dX12_reports_11 (by assumption) ?_
    refine v_goto C 20 dX12_reports_14 (by decide) ?_
    refine v_istore_4 C dX12_reports_20 (by decide) (by first | rfl | assumption) ?_
    refine v_aload_n C dX12_reports_22 rfl ?_
    refine gf_X12_200 C dX12_reports_23 (by assumption) ?_
    refine v_sipush (v := nI 300) C dX12_reports_26 (by decide) ?_
    refine v_icmpn_ne C 46 dX12_reports_29 (by decide) (by omega) (by omega) (fun h29 => ?_) (fun h29 => by exfalso; first | omega | exact absurd h29 (by decide) | (have h9 := of_decide_eq_true h29; omega) | (have h9 := of_decide_eq_false h29; omega) | contradiction | simp_all)
    first
      | (exfalso; omega)
      | (have e9 : rOffer 300 rl (x, v) = rIns rl (x, v) := by unfold rOffer; rw [if_neg (by omega)]
         rw [e9]
         exact rp_loop C hx (by omega) (Or.inl rfl) hkp (fun G h1 h2 h3 => ⟨hm.um h1 (h3 _ (by omega)) (h3 _ (by omega)), h2, h3⟩) (rl.length + 1) rl.length (by omega) (by omega) G fk fn ho ra rb ⟨fun j c _ hjc => hrep j c hjc, fun j c hj hjc => by have := (List.getElem?_eq_some_iff.mp hjc).1; omega⟩ rfl (fun _ _ => rfl))
      | (have e9 : rOffer 300 rl (x, v) = rIns rl.dropLast (x, v) := by
           unfold rOffer; rw [if_pos (by omega), hcl]; simp only []
           rw [if_pos (by exact h41)]
         have hdl : rl.dropLast.length = rl.length - 1 := List.length_dropLast
         rw [e9, show (299 : Nat) = rl.dropLast.length by omega]
         exact rp_loop C hx (by omega) (Or.inr ⟨by omega, by omega⟩) (fun c hcm => hkp c ((List.dropLast_sublist rl).subset hcm)) (fun G h1 h2 h3 => ⟨hm.um h1 (h3 _ (by omega)) (h3 _ (by omega)), h2, h3⟩) (rl.length + 1) rl.dropLast.length (Nat.le_refl _) (by omega) G fk fn ho ra rb ⟨fun j c hj hjc => hrep j c (by rw [List.getElem?_dropLast, if_pos (by omega)] at hjc; exact hjc), fun j c hj hjc => by have := (List.getElem?_eq_some_iff.mp hjc).1; omega⟩ rfl (fun _ _ => rfl))
  · skip
    refine v_aload_n C dX12_reports_0 rfl ?_
    refine gf_X12_200 C dX12_reports_1 (by assumption) ?_
    refine v_sipush (v := nI 300) C dX12_reports_4 (by decide) ?_
    refine v_icmpn_ge C 17 dX12_reports_7 (by decide) (by omega) (by omega) (fun h7 => ?_) (fun h7 => by exfalso; first | omega | exact absurd h7 (by decide) | (have h9 := of_decide_eq_true h7; omega) | (have h9 := of_decide_eq_false h7; omega) | contradiction | simp_all)
    refine v_sipush (v := nI 299) C dX12_reports_17 (by decide) ?_
    refine v_istore_4 C dX12_reports_20 (by decide) (by first | rfl | assumption) ?_
    refine v_aload_n C dX12_reports_22 rfl ?_
    refine gf_X12_200 C dX12_reports_23 (by assumption) ?_
    refine v_sipush (v := nI 300) C dX12_reports_26 (by decide) ?_
    refine v_icmpn_ne C 46 dX12_reports_29 (by decide) (by omega) (by omega) (fun h29 => by exfalso; first | omega | exact absurd h29 (by decide) | (have h9 := of_decide_eq_true h29; omega) | (have h9 := of_decide_eq_false h29; omega) | contradiction | simp_all) (fun h29 => ?_)
    obtain ⟨cl9, hcl⟩ : ∃ cl9, rl[rl.length - 1]? = some cl9 := ⟨_, List.getElem?_eq_getElem (by omega)⟩
    have hcv := (hrep _ _ hcl).2
    rw [show rl.length - 1 = 299 by omega] at hcv
    refine v_aload_n C dX12_reports_32 rfl ?_
    refine gf_X12_66 C dX12_reports_33 (by assumption) ?_
    refine v_sipush (v := nI 299) C dX12_reports_36 (by decide) ?_
    refine v_lald C dX12_reports_39 (by assumption) (by omega) (by omega) hcv ?_
    refine v_lload_n C dX12_reports_40 rfl ?_
    refine v_lcmp_lt C 46 dX12_reports_41 dX12_reports_42 (by decide) (fun h41 => ?_) (fun h41 => ?_)
    · skip
      first
        | (exfalso; omega)
        | (have e9 : rOffer 300 rl (x, v) = rIns rl (x, v) := by unfold rOffer; rw [if_neg (by omega)]
           rw [e9]
           exact rp_loop C hx (by omega) (Or.inl rfl) hkp (fun G h1 h2 h3 => ⟨hm.um h1 (h3 _ (by omega)) (h3 _ (by omega)), h2, h3⟩) (rl.length + 1) rl.length (by omega) (by omega) G fk fn ho ra rb ⟨fun j c _ hjc => hrep j c hjc, fun j c hj hjc => by have := (List.getElem?_eq_some_iff.mp hjc).1; omega⟩ rfl (fun _ _ => rfl))
        | (have e9 : rOffer 300 rl (x, v) = rIns rl.dropLast (x, v) := by
             unfold rOffer; rw [if_pos (by omega), hcl]; simp only []
             rw [if_pos (by exact h41)]
           have hdl : rl.dropLast.length = rl.length - 1 := List.length_dropLast
           rw [e9, show (299 : Nat) = rl.dropLast.length by omega]
           exact rp_loop C hx (by omega) (Or.inr ⟨by omega, by omega⟩) (fun c hcm => hkp c ((List.dropLast_sublist rl).subset hcm)) (fun G h1 h2 h3 => ⟨hm.um h1 (h3 _ (by omega)) (h3 _ (by omega)), h2, h3⟩) (rl.length + 1) rl.dropLast.length (Nat.le_refl _) (by omega) G fk fn ho ra rb ⟨fun j c hj hjc => hrep j c (by rw [List.getElem?_dropLast, if_pos (by omega)] at hjc; exact hjc), fun j c hj hjc => by have := (List.getElem?_eq_some_iff.mp hjc).1; omega⟩ rfl (fun _ _ => rfl))
    · skip
      refine v_vret C dX12_reports_45 ?_
      have e9 : rOffer 300 rl (x, v) = rl := by
        unfold rOffer; rw [if_pos (by omega), hcl]; simp only []
        rw [if_neg (by exact h41)]
      rw [e9]
      exact ⟨hm, hrp, fun _ _ => rfl⟩

theorem rFold_le (val : Nat → Int64) (bar : Int64) (room : Nat) : ∀ k, (rFold val bar room k).1 ≤ k
  | 0 => Nat.le_refl _
  | k + 1 => by
    have ih := rFold_le val bar room k
    rw [rFold]
    split
    · show (rFold val bar room k).1 + 1 ≤ k + 1; omega
    · omega
set_option maxHeartbeats 4000000 in
set_option maxRecDepth 100000 in
theorem mrep_loop {M : Mx} {E : Ev} {z : Option Nat} (C : Cx M E yX12_report.cls cX12_report 9 (some .int) 5 133 0 0) {post : Int32 → Gh → Prop} {G0 : Gh} {P W R lim po s q t : Nat} {A B : Nat → Nat} {Y : Nat → Str} {sure : Bool} (hs : s < 4) (hq5 : q < 5) (ht1 : 1 ≤ t) (ht2 : t ≤ 100000) (hok : ∀ k, k < 4 → okS W R (Y k))
    (kend : ∀ (G : Gh), isMd E G P W R lim (rFold (oRepVal P W R A B lim (Y s) q sure) (lN (zN (Y s) / t)) 300 P).2.length po A B Y → isRp E G (rFold (oRepVal P W R A B lim (Y s) q sure) (lN (zN (Y s) / t)) 300 P).2 → (∀ j, j ≠ 104 ∧ j ≠ 122 ∧ j ≠ 123 → G j = G0 j) → ∀ x7, V M E 9 (QE M E (fun r : Int32 => some (.int r)) z 0 0 post) z 0 0 G 100 [some (.ref (ga E 104)), some (.int (nI s)), some (.int (nI q)), some (.int (nI t)), some (.int (bI sure)), some (.int (nI (rFold (oRepVal P W R A B lim (Y s) q sure) (lN (zN (Y s) / t)) 300 P).1)), some (.int (nI P)), x7, none] []) :
    ∀ (u k : Nat), k ≤ P → P - k < u → ∀ (G : Gh), isMd E G P W R lim (rFold (oRepVal P W R A B lim (Y s) q sure) (lN (zN (Y s) / t)) 300 k).2.length po A B Y → isRp E G (rFold (oRepVal P W R A B lim (Y s) q sure) (lN (zN (Y s) / t)) 300 k).2 → (∀ j, j ≠ 104 ∧ j ≠ 122 ∧ j ≠ 123 → G j = G0 j) → ∀ x7, V M E 9 (QE M E (fun r : Int32 => some (.int r)) z 0 0 post) z 0 0 G 39 [some (.ref (ga E 104)), some (.int (nI s)), some (.int (nI q)), some (.int (nI t)), some (.int (bI sure)), some (.int (nI (rFold (oRepVal P W R A B lim (Y s) q sure) (lN (zN (Y s) / t)) 300 k).1)), some (.int (nI k)), x7, none] [] := by
  have hn9 := (hok s hs).1
  unfold N15 at hn9
  intro u
  induction u with
  | zero => intro k _ h; omega
  | succ u ih =>
    intro k hk hu G hd hrp hfr x7
    have hrg := hd.1.hl.1
    have ho := hd.1.rc
    obtain ⟨-, ⟨ft, h7, hft⟩, -⟩ := id hd
    replace hft : ∀ q, q < 4 → ft q = lN (zN (Y q)) := hft
    cases sure with
    | false =>
      have hfd := rFold_le (oRepVal P W R A B lim (Y s) q false) (lN (zN (Y s) / t)) 300 k
      refine v_iload C dX12_report_39 rfl ?_
      refine v_aload_n C dX12_report_41 rfl ?_
      refine gf_X12_87 C dX12_report_42 (by assumption) ?_
      refine v_icmpn_ge C 100 dX12_report_45 (by decide) (by omega) (by omega) (fun h45 => ?_) (fun h45 => ?_)
      · skip
        have e9 : k = P := by omega
        subst e9
        exact kend G hd hrp hfr x7
      · skip
        refine v_aload_n C dX12_report_48 rfl ?_
        refine v_iload_n C dX12_report_49 rfl ?_
        refine v_iload_n C dX12_report_50 rfl ?_
        refine v_iload C dX12_report_51 rfl ?_
        refine v_iload C dX12_report_53 rfl ?_
        first | refine v_ifb_eq C 62 dX12_report_55 (by decide) (fun h55 => ?_) (fun h55 => by exfalso; first | omega | exact absurd h55 (by decide) | (have h9 := of_decide_eq_true h55; omega) | (have h9 := of_decide_eq_false h55; omega) | contradiction | simp_all) | refine v_ifn_eq C 62 dX12_report_55 (by decide) (by omega) (fun h55 => ?_) (fun h55 => by exfalso; first | omega | exact absurd h55 (by decide) | (have h9 := of_decide_eq_true h55; omega) | (have h9 := of_decide_eq_false h55; omega) | contradiction | simp_all) | refine v_if_eq C 62 dX12_report_55 (by decide) (fun h55 => ?_) (fun h55 => by exfalso; first | omega | exact absurd h55 (by decide) | (have h9 := of_decide_eq_true h55; omega) | (have h9 := of_decide_eq_false h55; omega) | contradiction | simp_all)
        refine v_iconst (v := nI 2) C dX12_report_62 (by decide) ?_
        refine mc_X12_196 C dX12_report_63 (hd.1.rc) (c_Mo_estimated _ E z (d := 2) hs hq5 (by omega) (by omega) hok hd) rfl (fun r63 G63 hp63 => ?_)
        obtain ⟨hr63, rfl⟩ := hp63
        subst hr63
        refine v_lstore_7 C dX12_report_66 (by decide) (by first | rfl | assumption) ?_
        refine v_lload C dX12_report_68 rfl ?_
        refine v_aload_n C dX12_report_70 rfl ?_
        refine gf_X12_16 C dX12_report_71 (by assumption) ?_
        refine v_iload_n C dX12_report_74 rfl ?_
        refine v_lald C dX12_report_75 (by assumption) (by omega) (by omega) (hft s hs) ?_
        refine v_iload_n C dX12_report_76 rfl ?_
        first | refine v_i2ln C dX12_report_77 (by omega) ?_ | refine v_i2l C dX12_report_77 rfl ?_
        refine v_ldivn C dX12_report_78 (by omega) (by omega) (by omega) ?_
        refine v_lcmp_le C 94 dX12_report_79 dX12_report_80 (by decide) (fun h79 => ?_) (fun h79 => ?_)
        · skip
          first | refine v_iinc_6 C dX12_report_94 (nI_1 _) (by decide) (by first | rfl | assumption) ?_ | refine v_iinc_6 C dX12_report_94 rfl (by decide) (by first | rfl | assumption) ?_
          refine v_goto C 39 dX12_report_97 (by decide) ?_
          first
            | (have hy := rFold_yes (val := (oRepVal P W R A B lim (Y s) q false)) (room := 300) (Int64.not_le.mp h79)
               have key := ih (k + 1) (by omega) (by omega) G91 (by rw [hy.2]; exact hd.um hm9 (fun j a b => hfr9 j (by omega))) (by rw [hy.2]; exact hrp9) (fun j hj => by rw [hfr9 j (by omega)]; exact hfr j hj) (some (.long (kOne P W R A B lim (Y s) q k 2)))
               rw [hy.1] at key
               exact key)
            | (have hy := rFold_no (val := (oRepVal P W R A B lim (Y s) q false)) (room := 300) (Int64.not_lt.mpr h79)
               have key := ih (k + 1) (by omega) (by omega) _ (by rw [hy.2]; exact hd) (by rw [hy.2]; exact hrp) hfr (some (.long (kOne P W R A B lim (Y s) q k 2)))
               rw [hy.1] at key
               exact key)
        · skip
          first | refine v_iinc_5 C dX12_report_83 (nI_1 _) (by decide) (by first | rfl | assumption) ?_ | refine v_iinc_5 C dX12_report_83 rfl (by decide) (by first | rfl | assumption) ?_
          refine v_aload_n C dX12_report_86 rfl ?_
          refine v_iload C dX12_report_87 rfl ?_
          refine v_lload C dX12_report_89 rfl ?_
          refine mc_X12_203 C dX12_report_91 (hd.1.rc) (c_Mo_reports _ E z (by omega) hrp hd.1) rfl (fun r91 G91 hp91 => ?_)
          obtain ⟨hm9, hrp9, hfr9⟩ := hp91
          first | refine v_iinc_6 C dX12_report_94 (nI_1 _) (by decide) (by first | rfl | assumption) ?_ | refine v_iinc_6 C dX12_report_94 rfl (by decide) (by first | rfl | assumption) ?_
          refine v_goto C 39 dX12_report_97 (by decide) ?_
          first
            | (have hy := rFold_yes (val := (oRepVal P W R A B lim (Y s) q false)) (room := 300) (Int64.not_le.mp h79)
               have key := ih (k + 1) (by omega) (by omega) G91 (by rw [hy.2]; exact hd.um hm9 (fun j a b => hfr9 j (by omega))) (by rw [hy.2]; exact hrp9) (fun j hj => by rw [hfr9 j (by omega)]; exact hfr j hj) (some (.long (kOne P W R A B lim (Y s) q k 2)))
               rw [hy.1] at key
               exact key)
            | (have hy := rFold_no (val := (oRepVal P W R A B lim (Y s) q false)) (room := 300) (Int64.not_lt.mpr h79)
               have key := ih (k + 1) (by omega) (by omega) _ (by rw [hy.2]; exact hd) (by rw [hy.2]; exact hrp) hfr (some (.long (kOne P W R A B lim (Y s) q k 2)))
               rw [hy.1] at key
               exact key)
    | true =>
      have hfd := rFold_le (oRepVal P W R A B lim (Y s) q true) (lN (zN (Y s) / t)) 300 k
      refine v_iload C dX12_report_39 rfl ?_
      refine v_aload_n C dX12_report_41 rfl ?_
      refine gf_X12_87 C dX12_report_42 (by assumption) ?_
      refine v_icmpn_ge C 100 dX12_report_45 (by decide) (by omega) (by omega) (fun h45 => ?_) (fun h45 => ?_)
      · skip
        have e9 : k = P := by omega
        subst e9
        exact kend G hd hrp hfr x7
      · skip
        refine v_aload_n C dX12_report_48 rfl ?_
        refine v_iload_n C dX12_report_49 rfl ?_
        refine v_iload_n C dX12_report_50 rfl ?_
        refine v_iload C dX12_report_51 rfl ?_
        refine v_iload C dX12_report_53 rfl ?_
        first | refine v_ifb_eq C 62 dX12_report_55 (by decide) (fun h55 => by exfalso; first | omega | exact absurd h55 (by decide) | (have h9 := of_decide_eq_true h55; omega) | (have h9 := of_decide_eq_false h55; omega) | contradiction | simp_all) (fun h55 => ?_) | refine v_ifn_eq C 62 dX12_report_55 (by decide) (by omega) (fun h55 => by exfalso; first | omega | exact absurd h55 (by decide) | (have h9 := of_decide_eq_true h55; omega) | (have h9 := of_decide_eq_false h55; omega) | contradiction | simp_all) (fun h55 => ?_) | refine v_if_eq C 62 dX12_report_55 (by decide) (fun h55 => by exfalso; first | omega | exact absurd h55 (by decide) | (have h9 := of_decide_eq_true h55; omega) | (have h9 := of_decide_eq_false h55; omega) | contradiction | simp_all) (fun h55 => ?_)
        refine v_iconst (v := nI 1) C dX12_report_58 (by decide) ?_
        refine v_goto C 63 dX12_report_59 (by decide) ?_
        refine mc_X12_196 C dX12_report_63 (hd.1.rc) (c_Mo_estimated _ E z (d := 1) hs hq5 (by omega) (by omega) hok hd) rfl (fun r63 G63 hp63 => ?_)
        obtain ⟨hr63, rfl⟩ := hp63
        subst hr63
        refine v_lstore_7 C dX12_report_66 (by decide) (by first | rfl | assumption) ?_
        refine v_lload C dX12_report_68 rfl ?_
        refine v_aload_n C dX12_report_70 rfl ?_
        refine gf_X12_16 C dX12_report_71 (by assumption) ?_
        refine v_iload_n C dX12_report_74 rfl ?_
        refine v_lald C dX12_report_75 (by assumption) (by omega) (by omega) (hft s hs) ?_
        refine v_iload_n C dX12_report_76 rfl ?_
        first | refine v_i2ln C dX12_report_77 (by omega) ?_ | refine v_i2l C dX12_report_77 rfl ?_
        refine v_ldivn C dX12_report_78 (by omega) (by omega) (by omega) ?_
        refine v_lcmp_le C 94 dX12_report_79 dX12_report_80 (by decide) (fun h79 => ?_) (fun h79 => ?_)
        · skip
          first | refine v_iinc_6 C dX12_report_94 (nI_1 _) (by decide) (by first | rfl | assumption) ?_ | refine v_iinc_6 C dX12_report_94 rfl (by decide) (by first | rfl | assumption) ?_
          refine v_goto C 39 dX12_report_97 (by decide) ?_
          first
            | (have hy := rFold_yes (val := (oRepVal P W R A B lim (Y s) q true)) (room := 300) (Int64.not_le.mp h79)
               have key := ih (k + 1) (by omega) (by omega) G91 (by rw [hy.2]; exact hd.um hm9 (fun j a b => hfr9 j (by omega))) (by rw [hy.2]; exact hrp9) (fun j hj => by rw [hfr9 j (by omega)]; exact hfr j hj) (some (.long (kOne P W R A B lim (Y s) q k 1)))
               rw [hy.1] at key
               exact key)
            | (have hy := rFold_no (val := (oRepVal P W R A B lim (Y s) q true)) (room := 300) (Int64.not_lt.mpr h79)
               have key := ih (k + 1) (by omega) (by omega) _ (by rw [hy.2]; exact hd) (by rw [hy.2]; exact hrp) hfr (some (.long (kOne P W R A B lim (Y s) q k 1)))
               rw [hy.1] at key
               exact key)
        · skip
          first | refine v_iinc_5 C dX12_report_83 (nI_1 _) (by decide) (by first | rfl | assumption) ?_ | refine v_iinc_5 C dX12_report_83 rfl (by decide) (by first | rfl | assumption) ?_
          refine v_aload_n C dX12_report_86 rfl ?_
          refine v_iload C dX12_report_87 rfl ?_
          refine v_lload C dX12_report_89 rfl ?_
          refine mc_X12_203 C dX12_report_91 (hd.1.rc) (c_Mo_reports _ E z (by omega) hrp hd.1) rfl (fun r91 G91 hp91 => ?_)
          obtain ⟨hm9, hrp9, hfr9⟩ := hp91
          first | refine v_iinc_6 C dX12_report_94 (nI_1 _) (by decide) (by first | rfl | assumption) ?_ | refine v_iinc_6 C dX12_report_94 rfl (by decide) (by first | rfl | assumption) ?_
          refine v_goto C 39 dX12_report_97 (by decide) ?_
          first
            | (have hy := rFold_yes (val := (oRepVal P W R A B lim (Y s) q true)) (room := 300) (Int64.not_le.mp h79)
               have key := ih (k + 1) (by omega) (by omega) G91 (by rw [hy.2]; exact hd.um hm9 (fun j a b => hfr9 j (by omega))) (by rw [hy.2]; exact hrp9) (fun j hj => by rw [hfr9 j (by omega)]; exact hfr j hj) (some (.long (kOne P W R A B lim (Y s) q k 1)))
               rw [hy.1] at key
               exact key)
            | (have hy := rFold_no (val := (oRepVal P W R A B lim (Y s) q true)) (room := 300) (Int64.not_lt.mpr h79)
               have key := ih (k + 1) (by omega) (by omega) _ (by rw [hy.2]; exact hd) (by rw [hy.2]; exact hrp) hfr (some (.long (kOne P W R A B lim (Y s) q k 1)))
               rw [hy.1] at key
               exact key)
set_option maxHeartbeats 4000000 in
set_option maxRecDepth 100000 in
theorem c_Mo_report (l : Launch) (E : Ev) (z : Option Nat) {G : Gh} {P W R lim po : Nat} {A B : Nat → Nat} {Y : Nat → Str} {rl : Rnk} {x1 x2 x3 : Int32} {sure : Bool} (hok : ∀ k, k < 4 → okS W R (Y k)) (hrp : isRp E G rl) (hd : isMd E G P W R lim rl.length po A B Y) : K_X12_report l E z G [.ref (ga E 104), .int x1, .int x2, .int x3, .int (bI sure)] (fun r G2 => r = (oRepR P W R A B lim 300 Y rl x1 x2 x3 sure).1 ∧ isMd E G2 P W R lim (oRepR P W R A B lim 300 Y rl x1 x2 x3 sure).2.length po A B Y ∧ isRp E G2 (oRepR P W R A B lim 300 Y rl x1 x2 x3 sure).2 ∧ ∀ j, j ≠ 104 ∧ j ≠ 122 ∧ j ≠ 123 → G2 j = G j) := by
  refine Fc.of rfl [some (.ref (ga E 104)), some (.int x1), some (.int x2), some (.int x3), some (.int (bI sure)), none, none, none, none] 4 rfl (Nat.le_of_ble_eq_true rfl) ?_
  intro M hM0 hini C
  subst hM0
  obtain ⟨hm, ⟨ft, h7, hft⟩, ⟨fp, hp, hip⟩, ⟨fq, hq, hiq⟩, hMm, hMs, hMc⟩ := id hd
  replace hft : ∀ q, q < 4 → ft q = lN (zN (Y q)) := hft
  replace hip : ∀ q r c, q < 4 → r < R → c < W → fp (2048 * q + 256 * r + c) = lN (zP (Y q) r c) := hip
  replace hiq : ∀ q r c, q < 4 → r < R → c < W → fq (2048 * q + 256 * r + c) = lN (zC (Y q) r c) := hiq
  obtain ⟨fa, fb, ho, k5, k6, hfa, hfb, hrg, hlim, hab⟩ := id hm
  cases hi1 : iin x1 4 with
  | false =>
    refine v_iload_n C dX12_report_0 rfl ?_
    refine mc_X12_146 C dX12_report_1 (c_Mo_isStream _ E z) rfl (fun r1 G1 hp1 => ?_)
    obtain ⟨hr1, rfl⟩ := hp1
    rw [hi1] at hr1
    subst hr1
    first | refine v_ifb_eq C 26 dX12_report_4 (by decide) (fun h4 => ?_) (fun h4 => by exfalso; first | omega | exact absurd h4 (by decide) | (have h9 := of_decide_eq_true h4; omega) | (have h9 := of_decide_eq_false h4; omega) | contradiction | simp_all) | refine v_ifn_eq C 26 dX12_report_4 (by decide) (by omega) (fun h4 => ?_) (fun h4 => by exfalso; first | omega | exact absurd h4 (by decide) | (have h9 := of_decide_eq_true h4; omega) | (have h9 := of_decide_eq_false h4; omega) | contradiction | simp_all) | refine v_if_eq C 26 dX12_report_4 (by decide) (fun h4 => ?_) (fun h4 => by exfalso; first | omega | exact absurd h4 (by decide) | (have h9 := of_decide_eq_true h4; omega) | (have h9 := of_decide_eq_false h4; omega) | contradiction | simp_all)
    refine v_iconst (v := -1) C dX12_report_26 (by decide) ?_
    refine v_iret C dX12_report_27 ?_
    have e8 : oRepR P W R A B lim 300 Y rl x1 x2 x3 sure = (-1, rl) := by unfold oRepR; rw [if_neg (by unfold oRepOk; simp [hi1])]
    rw [e8]
    exact ⟨rfl, hd, hrp, fun _ _ => rfl⟩
  | true =>
    obtain ⟨s, hs, rfl⟩ := iin_of hi1 (by decide)
    have hsx : ix (nI s) = s := ix_nI (by omega)
    cases hi5 : iin x2 5 with
    | false =>
      refine v_iload_n C dX12_report_0 rfl ?_
      refine mc_X12_146 C dX12_report_1 (c_Mo_isStream _ E z) rfl (fun r1 G1 hp1 => ?_)
      obtain ⟨hr1, rfl⟩ := hp1
      rw [hi1] at hr1
      subst hr1
      first | refine v_ifb_eq C 26 dX12_report_4 (by decide) (fun h4 => by exfalso; first | omega | exact absurd h4 (by decide) | (have h9 := of_decide_eq_true h4; omega) | (have h9 := of_decide_eq_false h4; omega) | contradiction | simp_all) (fun h4 => ?_) | refine v_ifn_eq C 26 dX12_report_4 (by decide) (by omega) (fun h4 => by exfalso; first | omega | exact absurd h4 (by decide) | (have h9 := of_decide_eq_true h4; omega) | (have h9 := of_decide_eq_false h4; omega) | contradiction | simp_all) (fun h4 => ?_) | refine v_if_eq C 26 dX12_report_4 (by decide) (fun h4 => by exfalso; first | omega | exact absurd h4 (by decide) | (have h9 := of_decide_eq_true h4; omega) | (have h9 := of_decide_eq_false h4; omega) | contradiction | simp_all) (fun h4 => ?_)
      refine v_iload_n C dX12_report_7 rfl ?_
      refine v_iconst (v := nI 0) C dX12_report_8 (by decide) ?_
      refine v_iconst (v := nI 4) C dX12_report_9 (by decide) ?_
      refine mc_X12_101 C dX12_report_10 (c_Mo_in _ E z) rfl (fun r10 G10 hp10 => ?_)
      obtain ⟨hr10, rfl⟩ := hp10
      rw [inn_iin (n := 5) (by omega) (by omega), hi5] at hr10
      subst hr10
      first | refine v_ifb_eq C 26 dX12_report_13 (by decide) (fun h13 => ?_) (fun h13 => by exfalso; first | omega | exact absurd h13 (by decide) | (have h9 := of_decide_eq_true h13; omega) | (have h9 := of_decide_eq_false h13; omega) | contradiction | simp_all) | refine v_ifn_eq C 26 dX12_report_13 (by decide) (by omega) (fun h13 => ?_) (fun h13 => by exfalso; first | omega | exact absurd h13 (by decide) | (have h9 := of_decide_eq_true h13; omega) | (have h9 := of_decide_eq_false h13; omega) | contradiction | simp_all) | refine v_if_eq C 26 dX12_report_13 (by decide) (fun h13 => ?_) (fun h13 => by exfalso; first | omega | exact absurd h13 (by decide) | (have h9 := of_decide_eq_true h13; omega) | (have h9 := of_decide_eq_false h13; omega) | contradiction | simp_all)
      refine v_iconst (v := -1) C dX12_report_26 (by decide) ?_
      refine v_iret C dX12_report_27 ?_
      have e8 : oRepR P W R A B lim 300 Y rl (nI s) x2 x3 sure = (-1, rl) := by unfold oRepR; rw [if_neg (by unfold oRepOk; simp [hi1, hi5])]
      rw [e8]
      exact ⟨rfl, hd, hrp, fun _ _ => rfl⟩
    | true =>
      obtain ⟨q, hq5, rfl⟩ := iin_of hi5 (by decide)
      have hqx : ix (nI q) = q := ix_nI (by omega)
      cases hi3 : itm x3 100000 with
      | false =>
        refine v_iload_n C dX12_report_0 rfl ?_
        refine mc_X12_146 C dX12_report_1 (c_Mo_isStream _ E z) rfl (fun r1 G1 hp1 => ?_)
        obtain ⟨hr1, rfl⟩ := hp1
        rw [hi1] at hr1
        subst hr1
        first | refine v_ifb_eq C 26 dX12_report_4 (by decide) (fun h4 => by exfalso; first | omega | exact absurd h4 (by decide) | (have h9 := of_decide_eq_true h4; omega) | (have h9 := of_decide_eq_false h4; omega) | contradiction | simp_all) (fun h4 => ?_) | refine v_ifn_eq C 26 dX12_report_4 (by decide) (by omega) (fun h4 => by exfalso; first | omega | exact absurd h4 (by decide) | (have h9 := of_decide_eq_true h4; omega) | (have h9 := of_decide_eq_false h4; omega) | contradiction | simp_all) (fun h4 => ?_) | refine v_if_eq C 26 dX12_report_4 (by decide) (fun h4 => by exfalso; first | omega | exact absurd h4 (by decide) | (have h9 := of_decide_eq_true h4; omega) | (have h9 := of_decide_eq_false h4; omega) | contradiction | simp_all) (fun h4 => ?_)
        refine v_iload_n C dX12_report_7 rfl ?_
        refine v_iconst (v := nI 0) C dX12_report_8 (by decide) ?_
        refine v_iconst (v := nI 4) C dX12_report_9 (by decide) ?_
        refine mc_X12_101 C dX12_report_10 (c_Mo_in _ E z) rfl (fun r10 G10 hp10 => ?_)
        obtain ⟨hr10, rfl⟩ := hp10
        rw [inn_iin (n := 5) (by omega) (by omega), hi5] at hr10
        subst hr10
        first | refine v_ifb_eq C 26 dX12_report_13 (by decide) (fun h13 => by exfalso; first | omega | exact absurd h13 (by decide) | (have h9 := of_decide_eq_true h13; omega) | (have h9 := of_decide_eq_false h13; omega) | contradiction | simp_all) (fun h13 => ?_) | refine v_ifn_eq C 26 dX12_report_13 (by decide) (by omega) (fun h13 => by exfalso; first | omega | exact absurd h13 (by decide) | (have h9 := of_decide_eq_true h13; omega) | (have h9 := of_decide_eq_false h13; omega) | contradiction | simp_all) (fun h13 => ?_) | refine v_if_eq C 26 dX12_report_13 (by decide) (fun h13 => by exfalso; first | omega | exact absurd h13 (by decide) | (have h9 := of_decide_eq_true h13; omega) | (have h9 := of_decide_eq_false h13; omega) | contradiction | simp_all) (fun h13 => ?_)
        refine v_iload_n C dX12_report_16 rfl ?_
        refine v_iconst (v := nI 1) C dX12_report_17 (by decide) ?_
        refine v_ldc C tw826 dX12_report_18 ?_
        refine v_topi (show _ = nI 100000 by decide) ?_
        refine mc_X12_101 C dX12_report_20 (c_Mo_in _ E z) rfl (fun r20 G20 hp20 => ?_)
        obtain ⟨hr20, rfl⟩ := hp20
        rw [inn_itm (n := 100000) (by omega), hi3] at hr20
        subst hr20
        first | refine v_ifb_ne C 28 dX12_report_23 (by decide) (fun h23 => by exfalso; first | omega | exact absurd h23 (by decide) | (have h9 := of_decide_eq_true h23; omega) | (have h9 := of_decide_eq_false h23; omega) | contradiction | simp_all) (fun h23 => ?_) | refine v_ifn_ne C 28 dX12_report_23 (by decide) (by omega) (fun h23 => by exfalso; first | omega | exact absurd h23 (by decide) | (have h9 := of_decide_eq_true h23; omega) | (have h9 := of_decide_eq_false h23; omega) | contradiction | simp_all) (fun h23 => ?_) | refine v_if_ne C 28 dX12_report_23 (by decide) (fun h23 => by exfalso; first | omega | exact absurd h23 (by decide) | (have h9 := of_decide_eq_true h23; omega) | (have h9 := of_decide_eq_false h23; omega) | contradiction | simp_all) (fun h23 => ?_)
        refine v_iconst (v := -1) C dX12_report_26 (by decide) ?_
        refine v_iret C dX12_report_27 ?_
        have e8 : oRepR P W R A B lim 300 Y rl (nI s) (nI q) x3 sure = (-1, rl) := by unfold oRepR; rw [if_neg (by unfold oRepOk; simp [hi1, hi5, hi3])]
        rw [e8]
        exact ⟨rfl, hd, hrp, fun _ _ => rfl⟩
      | true =>
        obtain ⟨t, ht1, ht2, rfl⟩ := itm_of hi3 (by decide)
        have htx : ix (nI t) = t := ix_nI (by omega)
        refine v_iload_n C dX12_report_0 rfl ?_
        refine mc_X12_146 C dX12_report_1 (c_Mo_isStream _ E z) rfl (fun r1 G1 hp1 => ?_)
        obtain ⟨hr1, rfl⟩ := hp1
        rw [hi1] at hr1
        subst hr1
        first | refine v_ifb_eq C 26 dX12_report_4 (by decide) (fun h4 => by exfalso; first | omega | exact absurd h4 (by decide) | (have h9 := of_decide_eq_true h4; omega) | (have h9 := of_decide_eq_false h4; omega) | contradiction | simp_all) (fun h4 => ?_) | refine v_ifn_eq C 26 dX12_report_4 (by decide) (by omega) (fun h4 => by exfalso; first | omega | exact absurd h4 (by decide) | (have h9 := of_decide_eq_true h4; omega) | (have h9 := of_decide_eq_false h4; omega) | contradiction | simp_all) (fun h4 => ?_) | refine v_if_eq C 26 dX12_report_4 (by decide) (fun h4 => by exfalso; first | omega | exact absurd h4 (by decide) | (have h9 := of_decide_eq_true h4; omega) | (have h9 := of_decide_eq_false h4; omega) | contradiction | simp_all) (fun h4 => ?_)
        refine v_iload_n C dX12_report_7 rfl ?_
        refine v_iconst (v := nI 0) C dX12_report_8 (by decide) ?_
        refine v_iconst (v := nI 4) C dX12_report_9 (by decide) ?_
        refine mc_X12_101 C dX12_report_10 (c_Mo_in _ E z) rfl (fun r10 G10 hp10 => ?_)
        obtain ⟨hr10, rfl⟩ := hp10
        rw [inn_iin (n := 5) (by omega) (by omega), hi5] at hr10
        subst hr10
        first | refine v_ifb_eq C 26 dX12_report_13 (by decide) (fun h13 => by exfalso; first | omega | exact absurd h13 (by decide) | (have h9 := of_decide_eq_true h13; omega) | (have h9 := of_decide_eq_false h13; omega) | contradiction | simp_all) (fun h13 => ?_) | refine v_ifn_eq C 26 dX12_report_13 (by decide) (by omega) (fun h13 => by exfalso; first | omega | exact absurd h13 (by decide) | (have h9 := of_decide_eq_true h13; omega) | (have h9 := of_decide_eq_false h13; omega) | contradiction | simp_all) (fun h13 => ?_) | refine v_if_eq C 26 dX12_report_13 (by decide) (fun h13 => by exfalso; first | omega | exact absurd h13 (by decide) | (have h9 := of_decide_eq_true h13; omega) | (have h9 := of_decide_eq_false h13; omega) | contradiction | simp_all) (fun h13 => ?_)
        refine v_iload_n C dX12_report_16 rfl ?_
        refine v_iconst (v := nI 1) C dX12_report_17 (by decide) ?_
        refine v_ldc C tw826 dX12_report_18 ?_
        refine v_topi (show _ = nI 100000 by decide) ?_
        refine mc_X12_101 C dX12_report_20 (c_Mo_in _ E z) rfl (fun r20 G20 hp20 => ?_)
        obtain ⟨hr20, rfl⟩ := hp20
        rw [inn_itm (n := 100000) (by omega), hi3] at hr20
        subst hr20
        first | refine v_ifb_ne C 28 dX12_report_23 (by decide) (fun h23 => ?_) (fun h23 => by exfalso; first | omega | exact absurd h23 (by decide) | (have h9 := of_decide_eq_true h23; omega) | (have h9 := of_decide_eq_false h23; omega) | contradiction | simp_all) | refine v_ifn_ne C 28 dX12_report_23 (by decide) (by omega) (fun h23 => ?_) (fun h23 => by exfalso; first | omega | exact absurd h23 (by decide) | (have h9 := of_decide_eq_true h23; omega) | (have h9 := of_decide_eq_false h23; omega) | contradiction | simp_all) | refine v_if_ne C 28 dX12_report_23 (by decide) (fun h23 => ?_) (fun h23 => by exfalso; first | omega | exact absurd h23 (by decide) | (have h9 := of_decide_eq_true h23; omega) | (have h9 := of_decide_eq_false h23; omega) | contradiction | simp_all)
        refine v_iconst (v := nI 0) C dX12_report_28 (by decide) ?_
        refine v_istore_5 C dX12_report_29 (by decide) (by first | rfl | assumption) ?_
        refine v_aload_n C dX12_report_31 rfl ?_
        refine v_iconst (v := nI 0) C dX12_report_32 (by decide) ?_
        refine pf_X12_200 C dX12_report_33 (by assumption) (fun G hG33 hF33 => ?_)
        first | replace ho := (hF33 _ (by omega)).trans ho | replace ho := hG33 | skip
        first | replace k5 := (hF33 _ (by omega)).trans k5 | replace k5 := hG33 | skip
        first | replace k6 := (hF33 _ (by omega)).trans k6 | replace k6 := hG33 | skip
        first | replace h7 := (hF33 _ (by omega)).trans h7 | replace h7 := hG33 | skip
        first | replace hp := (hF33 _ (by omega)).trans hp | replace hp := hG33 | skip
        first | replace hq := (hF33 _ (by omega)).trans hq | replace hq := hG33 | skip
        refine v_iconst (v := nI 0) C dX12_report_36 (by decide) ?_
        refine v_istore_6 C dX12_report_37 (by decide) (by first | rfl | assumption) ?_
        have e8 : oRepR P W R A B lim 300 Y rl (nI s) (nI q) (nI t) sure = (nI (rFold (oRepVal P W R A B lim (Y s) q sure) (lN (zN (Y s) / t)) 300 P).1, (rFold (oRepVal P W R A B lim (Y s) q sure) (lN (zN (Y s) / t)) 300 P).2) := by
          unfold oRepR oRep; rw [if_pos (by unfold oRepOk; rw [hi1, hi5, hi3]; rfl), hsx, hqx, htx]
        refine mrep_loop C hs hq5 ht1 ht2 hok ?_ (P + 1) 0 (by omega) (by omega) G (hd.um (hm.um ho (hF33 _ (by omega)) (hF33 _ (by omega))) (fun j a b => hF33 j (by omega))) ?_ (fun _ _ => rfl) _
        · intro G9 hd9 hrp9 hfr x7
          refine v_iload C dX12_report_100 rfl ?_
          refine v_iret C dX12_report_102 ?_
          refine ⟨?_, ?_, ?_, fun j hj => by rw [hfr j (by omega), hF33 j (by omega)]⟩
          · rw [e8]
          · rw [e8]; exact hd9
          · rw [e8]; exact hrp9
        · obtain ⟨fk, fn, ra, rb, -⟩ := hrp
          exact ⟨fk, fn, (hF33 _ (by omega)).trans ra, (hF33 _ (by omega)).trans rb, fun i c h => by simp [rFold] at h, by simp [rFold], fun c h => by simp [rFold] at h⟩

set_option maxHeartbeats 4000000 in
set_option maxRecDepth 100000 in
theorem c_Mo_reported (l : Launch) (E : Ev) (z : Option Nat) {G : Gh} {P W R lim po : Nat} {A B : Nat → Nat} {rl : Rnk} {x1 x2 : Int32} (hrp : isRp E G rl) (hm : isMo E G P W R lim rl.length po A B) : K_X12_reported l E z G [.ref (ga E 104), .int x1, .int x2] (fun r G2 => r = rTell rl x1 x2 ∧ G = G2) := by
  refine Fc.of rfl [some (.ref (ga E 104)), some (.int x1), some (.int x2)] 0 rfl (Nat.le_of_ble_eq_true rfl) ?_
  intro M hM0 hini C
  subst hM0
  have ho := hm.rc
  obtain ⟨fk, fn, ra, rb, hrep, hll, hkp⟩ := id hrp
  cases hi8 : iin x1 rl.length with
  | false =>
    refine v_iload_n C dX12_reported_0 rfl ?_
    refine v_iconst (v := nI 0) C dX12_reported_1 (by decide) ?_
    refine v_aload_n C dX12_reported_2 rfl ?_
    refine gf_X12_200 C dX12_reported_3 (by assumption) ?_
    refine v_iconst (v := nI 1) C dX12_reported_6 (by decide) ?_
    refine v_isub C dX12_reported_7 ?_
    refine mc_X12_101 C dX12_reported_8 (c_Mo_in _ E z) rfl (fun r8 G8 hp8 => ?_)
    obtain ⟨hr8, rfl⟩ := hp8
    rw [inn_len (n := rl.length) (by omega), hi8] at hr8
    subst hr8
    first | refine v_ifb_eq C 23 dX12_reported_11 (by decide) (fun h11 => ?_) (fun h11 => by exfalso; first | omega | exact absurd h11 (by decide) | (have h9 := of_decide_eq_true h11; omega) | (have h9 := of_decide_eq_false h11; omega) | contradiction | simp_all) | refine v_ifn_eq C 23 dX12_reported_11 (by decide) (by omega) (fun h11 => ?_) (fun h11 => by exfalso; first | omega | exact absurd h11 (by decide) | (have h9 := of_decide_eq_true h11; omega) | (have h9 := of_decide_eq_false h11; omega) | contradiction | simp_all) | refine v_if_eq C 23 dX12_reported_11 (by decide) (fun h11 => ?_) (fun h11 => by exfalso; first | omega | exact absurd h11 (by decide) | (have h9 := of_decide_eq_true h11; omega) | (have h9 := of_decide_eq_false h11; omega) | contradiction | simp_all)
    refine v_ldc2 C tw824 dX12_reported_23 ?_
    refine v_lret C dX12_reported_26 ?_
    exact ⟨(rTell_out hi8).symm, rfl⟩
  | true =>
    obtain ⟨i, hi9, rfl⟩ := iin_of hi8 (by omega)
    have hci : rl[i]? = some rl[i] := List.getElem?_eq_getElem hi9
    have hck := hkp _ (List.mem_of_getElem? hci)
    cases hi7 : iin x2 2 with
    | false =>
      refine v_iload_n C dX12_reported_0 rfl ?_
      refine v_iconst (v := nI 0) C dX12_reported_1 (by decide) ?_
      refine v_aload_n C dX12_reported_2 rfl ?_
      refine gf_X12_200 C dX12_reported_3 (by assumption) ?_
      refine v_iconst (v := nI 1) C dX12_reported_6 (by decide) ?_
      refine v_isub C dX12_reported_7 ?_
      refine mc_X12_101 C dX12_reported_8 (c_Mo_in _ E z) rfl (fun r8 G8 hp8 => ?_)
      obtain ⟨hr8, rfl⟩ := hp8
      rw [inn_len (n := rl.length) (by omega), hi8] at hr8
      subst hr8
      first | refine v_ifb_eq C 23 dX12_reported_11 (by decide) (fun h11 => by exfalso; first | omega | exact absurd h11 (by decide) | (have h9 := of_decide_eq_true h11; omega) | (have h9 := of_decide_eq_false h11; omega) | contradiction | simp_all) (fun h11 => ?_) | refine v_ifn_eq C 23 dX12_reported_11 (by decide) (by omega) (fun h11 => by exfalso; first | omega | exact absurd h11 (by decide) | (have h9 := of_decide_eq_true h11; omega) | (have h9 := of_decide_eq_false h11; omega) | contradiction | simp_all) (fun h11 => ?_) | refine v_if_eq C 23 dX12_reported_11 (by decide) (fun h11 => by exfalso; first | omega | exact absurd h11 (by decide) | (have h9 := of_decide_eq_true h11; omega) | (have h9 := of_decide_eq_false h11; omega) | contradiction | simp_all) (fun h11 => ?_)
      refine v_iload_n C dX12_reported_14 rfl ?_
      refine v_iconst (v := nI 0) C dX12_reported_15 (by decide) ?_
      refine v_iconst (v := nI 1) C dX12_reported_16 (by decide) ?_
      refine mc_X12_101 C dX12_reported_17 (c_Mo_in _ E z) rfl (fun r17 G17 hp17 => ?_)
      obtain ⟨hr17, rfl⟩ := hp17
      rw [inn_iin (n := 2) (by omega) (by omega), hi7] at hr17
      subst hr17
      first | refine v_ifb_ne C 27 dX12_reported_20 (by decide) (fun h20 => by exfalso; first | omega | exact absurd h20 (by decide) | (have h9 := of_decide_eq_true h20; omega) | (have h9 := of_decide_eq_false h20; omega) | contradiction | simp_all) (fun h20 => ?_) | refine v_ifn_ne C 27 dX12_reported_20 (by decide) (by omega) (fun h20 => by exfalso; first | omega | exact absurd h20 (by decide) | (have h9 := of_decide_eq_true h20; omega) | (have h9 := of_decide_eq_false h20; omega) | contradiction | simp_all) (fun h20 => ?_) | refine v_if_ne C 27 dX12_reported_20 (by decide) (fun h20 => by exfalso; first | omega | exact absurd h20 (by decide) | (have h9 := of_decide_eq_true h20; omega) | (have h9 := of_decide_eq_false h20; omega) | contradiction | simp_all) (fun h20 => ?_)
      refine v_ldc2 C tw824 dX12_reported_23 ?_
      refine v_lret C dX12_reported_26 ?_
      exact ⟨(rTell_what ⟨iin_no hi7 (by decide) (by decide), iin_no hi7 (by decide) (by decide)⟩).symm, rfl⟩
    | true =>
      obtain ⟨d, hd7, rfl⟩ := iin_of hi7 (by decide)
      rcases (show d = 0 ∨ d = 1 by omega) with rfl | rfl
      · skip
        refine v_iload_n C dX12_reported_0 rfl ?_
        refine v_iconst (v := nI 0) C dX12_reported_1 (by decide) ?_
        refine v_aload_n C dX12_reported_2 rfl ?_
        refine gf_X12_200 C dX12_reported_3 (by assumption) ?_
        refine v_iconst (v := nI 1) C dX12_reported_6 (by decide) ?_
        refine v_isub C dX12_reported_7 ?_
        refine mc_X12_101 C dX12_reported_8 (c_Mo_in _ E z) rfl (fun r8 G8 hp8 => ?_)
        obtain ⟨hr8, rfl⟩ := hp8
        rw [inn_len (n := rl.length) (by omega), hi8] at hr8
        subst hr8
        first | refine v_ifb_eq C 23 dX12_reported_11 (by decide) (fun h11 => by exfalso; first | omega | exact absurd h11 (by decide) | (have h9 := of_decide_eq_true h11; omega) | (have h9 := of_decide_eq_false h11; omega) | contradiction | simp_all) (fun h11 => ?_) | refine v_ifn_eq C 23 dX12_reported_11 (by decide) (by omega) (fun h11 => by exfalso; first | omega | exact absurd h11 (by decide) | (have h9 := of_decide_eq_true h11; omega) | (have h9 := of_decide_eq_false h11; omega) | contradiction | simp_all) (fun h11 => ?_) | refine v_if_eq C 23 dX12_reported_11 (by decide) (fun h11 => by exfalso; first | omega | exact absurd h11 (by decide) | (have h9 := of_decide_eq_true h11; omega) | (have h9 := of_decide_eq_false h11; omega) | contradiction | simp_all) (fun h11 => ?_)
        refine v_iload_n C dX12_reported_14 rfl ?_
        refine v_iconst (v := nI 0) C dX12_reported_15 (by decide) ?_
        refine v_iconst (v := nI 1) C dX12_reported_16 (by decide) ?_
        refine mc_X12_101 C dX12_reported_17 (c_Mo_in _ E z) rfl (fun r17 G17 hp17 => ?_)
        obtain ⟨hr17, rfl⟩ := hp17
        rw [inn_iin (n := 2) (by omega) (by omega), hi7] at hr17
        subst hr17
        first | refine v_ifb_ne C 27 dX12_reported_20 (by decide) (fun h20 => ?_) (fun h20 => by exfalso; first | omega | exact absurd h20 (by decide) | (have h9 := of_decide_eq_true h20; omega) | (have h9 := of_decide_eq_false h20; omega) | contradiction | simp_all) | refine v_ifn_ne C 27 dX12_reported_20 (by decide) (by omega) (fun h20 => ?_) (fun h20 => by exfalso; first | omega | exact absurd h20 (by decide) | (have h9 := of_decide_eq_true h20; omega) | (have h9 := of_decide_eq_false h20; omega) | contradiction | simp_all) | refine v_if_ne C 27 dX12_reported_20 (by decide) (fun h20 => ?_) (fun h20 => by exfalso; first | omega | exact absurd h20 (by decide) | (have h9 := of_decide_eq_true h20; omega) | (have h9 := of_decide_eq_false h20; omega) | contradiction | simp_all)
        refine v_iload_n C dX12_reported_27 rfl ?_
        first | refine v_ifb_ne C 41 dX12_reported_28 (by decide) (fun h28 => by exfalso; first | omega | exact absurd h28 (by decide) | (have h9 := of_decide_eq_true h28; omega) | (have h9 := of_decide_eq_false h28; omega) | contradiction | simp_all) (fun h28 => ?_) | refine v_ifn_ne C 41 dX12_reported_28 (by decide) (by omega) (fun h28 => by exfalso; first | omega | exact absurd h28 (by decide) | (have h9 := of_decide_eq_true h28; omega) | (have h9 := of_decide_eq_false h28; omega) | contradiction | simp_all) (fun h28 => ?_) | refine v_if_ne C 41 dX12_reported_28 (by decide) (fun h28 => by exfalso; first | omega | exact absurd h28 (by decide) | (have h9 := of_decide_eq_true h28; omega) | (have h9 := of_decide_eq_false h28; omega) | contradiction | simp_all) (fun h28 => ?_)
        refine v_aload_n C dX12_reported_31 rfl ?_
        refine gf_X12_63 C dX12_reported_32 (by assumption) ?_
        refine v_iload_n C dX12_reported_35 rfl ?_
        refine v_iald C dX12_reported_36 (by assumption) (by omega) (by omega) (hrep i _ hci).1 ?_
        first | refine v_i2ln C dX12_reported_37 (by omega) ?_ | refine v_i2l C dX12_reported_37 rfl ?_
        refine v_goto C 47 dX12_reported_38 (by decide) ?_
        refine v_lret C dX12_reported_47 ?_
        exact ⟨(rTell_in (k := 0) hci (by omega) (by decide)).symm, rfl⟩
      · skip
        refine v_iload_n C dX12_reported_0 rfl ?_
        refine v_iconst (v := nI 0) C dX12_reported_1 (by decide) ?_
        refine v_aload_n C dX12_reported_2 rfl ?_
        refine gf_X12_200 C dX12_reported_3 (by assumption) ?_
        refine v_iconst (v := nI 1) C dX12_reported_6 (by decide) ?_
        refine v_isub C dX12_reported_7 ?_
        refine mc_X12_101 C dX12_reported_8 (c_Mo_in _ E z) rfl (fun r8 G8 hp8 => ?_)
        obtain ⟨hr8, rfl⟩ := hp8
        rw [inn_len (n := rl.length) (by omega), hi8] at hr8
        subst hr8
        first | refine v_ifb_eq C 23 dX12_reported_11 (by decide) (fun h11 => by exfalso; first | omega | exact absurd h11 (by decide) | (have h9 := of_decide_eq_true h11; omega) | (have h9 := of_decide_eq_false h11; omega) | contradiction | simp_all) (fun h11 => ?_) | refine v_ifn_eq C 23 dX12_reported_11 (by decide) (by omega) (fun h11 => by exfalso; first | omega | exact absurd h11 (by decide) | (have h9 := of_decide_eq_true h11; omega) | (have h9 := of_decide_eq_false h11; omega) | contradiction | simp_all) (fun h11 => ?_) | refine v_if_eq C 23 dX12_reported_11 (by decide) (fun h11 => by exfalso; first | omega | exact absurd h11 (by decide) | (have h9 := of_decide_eq_true h11; omega) | (have h9 := of_decide_eq_false h11; omega) | contradiction | simp_all) (fun h11 => ?_)
        refine v_iload_n C dX12_reported_14 rfl ?_
        refine v_iconst (v := nI 0) C dX12_reported_15 (by decide) ?_
        refine v_iconst (v := nI 1) C dX12_reported_16 (by decide) ?_
        refine mc_X12_101 C dX12_reported_17 (c_Mo_in _ E z) rfl (fun r17 G17 hp17 => ?_)
        obtain ⟨hr17, rfl⟩ := hp17
        rw [inn_iin (n := 2) (by omega) (by omega), hi7] at hr17
        subst hr17
        first | refine v_ifb_ne C 27 dX12_reported_20 (by decide) (fun h20 => ?_) (fun h20 => by exfalso; first | omega | exact absurd h20 (by decide) | (have h9 := of_decide_eq_true h20; omega) | (have h9 := of_decide_eq_false h20; omega) | contradiction | simp_all) | refine v_ifn_ne C 27 dX12_reported_20 (by decide) (by omega) (fun h20 => ?_) (fun h20 => by exfalso; first | omega | exact absurd h20 (by decide) | (have h9 := of_decide_eq_true h20; omega) | (have h9 := of_decide_eq_false h20; omega) | contradiction | simp_all) | refine v_if_ne C 27 dX12_reported_20 (by decide) (fun h20 => ?_) (fun h20 => by exfalso; first | omega | exact absurd h20 (by decide) | (have h9 := of_decide_eq_true h20; omega) | (have h9 := of_decide_eq_false h20; omega) | contradiction | simp_all)
        refine v_iload_n C dX12_reported_27 rfl ?_
        first | refine v_ifb_ne C 41 dX12_reported_28 (by decide) (fun h28 => ?_) (fun h28 => by exfalso; first | omega | exact absurd h28 (by decide) | (have h9 := of_decide_eq_true h28; omega) | (have h9 := of_decide_eq_false h28; omega) | contradiction | simp_all) | refine v_ifn_ne C 41 dX12_reported_28 (by decide) (by omega) (fun h28 => ?_) (fun h28 => by exfalso; first | omega | exact absurd h28 (by decide) | (have h9 := of_decide_eq_true h28; omega) | (have h9 := of_decide_eq_false h28; omega) | contradiction | simp_all) | refine v_if_ne C 41 dX12_reported_28 (by decide) (fun h28 => ?_) (fun h28 => by exfalso; first | omega | exact absurd h28 (by decide) | (have h9 := of_decide_eq_true h28; omega) | (have h9 := of_decide_eq_false h28; omega) | contradiction | simp_all)
        refine v_aload_n C dX12_reported_41 rfl ?_
        refine gf_X12_66 C dX12_reported_42 (by assumption) ?_
        refine v_iload_n C dX12_reported_45 rfl ?_
        refine v_lald C dX12_reported_46 (by assumption) (by omega) (by omega) (hrep i _ hci).2 ?_
        refine v_lret C dX12_reported_47 ?_
        exact ⟨(rTell_in (k := 1) hci (by omega) (by decide)).symm, rfl⟩

