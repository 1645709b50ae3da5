theorem sAudit_eq (P W R : Nat) (A B : Nat → Nat) (lim : Nat) (S : Str) : sAudit P W R A B lim S = if (holdsC (fun x => kLow P W R A B lim S 0 x) (fun x => kHigh P W R A B lim S 0 x) (zK S)) = false then nI 1 else if (holdsC (fun x => kLow P W R A B lim S 1 x) (fun x => kHigh P W R A B lim S 1 x) (zK S)) = false then nI 2 else if (holdsC (fun x => kLow P W R A B lim S 2 x) (fun x => kHigh P W R A B lim S 2 x) (zK S)) = false then nI 3 else if (holdsC (fun x => kLow P W R A B lim S 3 x) (fun x => kHigh P W R A B lim S 3 x) (zK S)) = false then nI 4 else if (carC (gEst P W R A B (zC S)) (gEst P W R A B (zP S)) (zK S)) = false then nI 5 else if lN (zN S) < lN ((lim + 1) * zT S) then nI 6 else if lN (cSum (zK S)) = lN (zN S) then nI 0 else nI 7 := rfl
theorem sAudit_at {P W R : Nat} {A B : Nat → Nat} {lim : Nat} {S : Str} {q : Nat} (hq : q < 4) (h : ∀ j, j < q → (holdsC (fun x => kLow P W R A B lim S j x) (fun x => kHigh P W R A B lim S j x) (zK S)) = true) (h2 : (holdsC (fun x => kLow P W R A B lim S q x) (fun x => kHigh P W R A B lim S q x) (zK S)) = false) : nI (1 + q) = sAudit P W R A B lim S := by
  rw [sAudit_eq]
  rcases (show q = 0 ∨ q = 1 ∨ q = 2 ∨ q = 3 by omega) with rfl | rfl | rfl | rfl
  · rw [if_pos h2]
  · rw [if_neg (by rw [h 0 (by decide)]; decide), if_pos h2]
  · rw [if_neg (by rw [h 0 (by decide)]; decide), if_neg (by rw [h 1 (by decide)]; decide), if_pos h2]
  · rw [if_neg (by rw [h 0 (by decide)]; decide), if_neg (by rw [h 1 (by decide)]; decide), if_neg (by rw [h 2 (by decide)]; decide), if_pos h2]
theorem sAudit_end {P W R : Nat} {A B : Nat → Nat} {lim : Nat} {S : Str} (h : ∀ j, j < 4 → (holdsC (fun x => kLow P W R A B lim S j x) (fun x => kHigh P W R A B lim S j x) (zK S)) = true) : sAudit P W R A B lim S = if (carC (gEst P W R A B (zC S)) (gEst P W R A B (zP S)) (zK S)) = false then nI 5 else if lN (zN S) < lN ((lim + 1) * zT S) then nI 6 else if lN (cSum (zK S)) = lN (zN S) then nI 0 else nI 7 := by
  rw [sAudit_eq, if_neg (by rw [h 0 (by decide)]; decide), if_neg (by rw [h 1 (by decide)]; decide), if_neg (by rw [h 2 (by decide)]; decide), if_neg (by rw [h 3 (by decide)]; decide)]

set_option maxHeartbeats 4000000 in
set_option maxRecDepth 100000 in
theorem aud2 {M : Mx} {E : Ev} {z : Option Nat} (C : Cx M E yX12_audit.cls cX12_audit 6 (some .int) 5 124 0 0) {post : Int32 → Gh → Prop} {G : Gh} {P W R lim rq po : Nat} {A B : Nat → Nat} {Y : Nat → Str} {s : Nat} (hs : s < 4) (hok : ∀ k, k < 4 → okS W R (Y k)) (hd : isMd E G P W R lim rq po A B Y) (kend : V M E 6 (QE M E (fun r : Int32 => some (.int r)) z 0 0 post) z 0 0 G 129 [some (.ref (ga E 104)), some (.int (nI s)), some (.long (lN (cSum (zK (Y s))))), none, some (.int (bI (carC (gEst P W R A B (zC (Y s))) (gEst P W R A B (zP (Y s))) (zK (Y s))))), some (.int (nI (300 * s + (zK (Y s)).length)))] []) : ∀ (t k : Nat), k ≤ (zK (Y s)).length → (zK (Y s)).length - k < t → V M E 6 (QE M E (fun r : Int32 => some (.int r)) z 0 0 post) z 0 0 G 56 [some (.ref (ga E 104)), some (.int (nI s)), some (.long (lN (cSum ((zK (Y s)).take k)))), none, some (.int (bI (carC (gEst P W R A B (zC (Y s))) (gEst P W R A B (zP (Y s))) ((zK (Y s)).take k)))), some (.int (nI (300 * s + k)))] [] := by
  obtain ⟨fcn, fcz, fck, fct, ca, cb, cc, cd, hallC⟩ := id hd.2.2.2.2.2.2
  replace hallC : ∀ q, q < 4 → moC1 fcn fcz fck fct P q (zK (Y q)) (zG (Y q)) := hallC
  have hm := hd.1
  have ho := hm.rc
  have hrg := hm.hl
  obtain ⟨a1, a2, a3, a4, a5, a6⟩ := hallC s hs
  intro t
  induction t with
  | zero => intro k _ h; omega
  | succ t ih =>
    intro k hk ht
    cases hb : (carC (gEst P W R A B (zC (Y s))) (gEst P W R A B (zP (Y s))) ((zK (Y s)).take k)) with
    | false =>
      refine v_iload C dX12_audit_56 rfl ?_
      refine v_sipush (v := nI 300) C dX12_audit_58 (by decide) ?_
      refine v_iload_n C dX12_audit_61 rfl ?_
      first | refine v_imuln C dX12_audit_62 ?_ | refine v_imul C dX12_audit_62 ?_
      refine v_aload_n C dX12_audit_63 rfl ?_
      refine gf_X12_50 C dX12_audit_64 (by assumption) ?_
      refine v_iload_n C dX12_audit_67 rfl ?_
      refine v_iald C dX12_audit_68 (by assumption) (by omega) (by omega) a1 ?_
      first | refine v_iaddn C dX12_audit_69 ?_ | refine v_iadd C dX12_audit_69 ?_
      refine v_icmpn_ge C 129 dX12_audit_70 (by decide) (by omega) (by omega) (fun h70 => ?_) (fun h70 => ?_)
      · skip
        have e9 : k = (zK (Y s)).length := by omega
        subst e9
        rw [List.take_length] at hb ⊢
        rw [hb] at kend
        exact kend
      · skip
        have hci : (zK (Y s))[k]? = some (zK (Y s))[k] := List.getElem?_eq_getElem (by omega)
        have hkb := a5 _ (List.mem_of_getElem? hci)
        have hst := carC_take (f := gEst P W R A B (zC (Y s))) (g := gEst P W R A B (zP (Y s))) hci
        rw [hb] at hst
        have hsu := cSum_take hci
        refine v_lload_n C dX12_audit_73 rfl ?_
        refine v_aload_n C dX12_audit_74 rfl ?_
        refine gf_X12_60 C dX12_audit_75 (by assumption) ?_
        refine v_iload C dX12_audit_78 rfl ?_
        refine v_lald C dX12_audit_80 (by assumption) (by omega) (by omega) (a3 k _ hci).2 ?_
        first | refine v_laddn C dX12_audit_81 ?_ | refine v_ladd C dX12_audit_81 ?_
        refine v_lstore_2 C dX12_audit_82 (by decide) (by first | rfl | assumption) ?_
        refine v_iload C dX12_audit_83 rfl ?_
        first | refine v_ifb_eq C 120 dX12_audit_85 (by decide) (fun h85 => ?_) (fun h85 => by exfalso; first | omega | exact absurd h85 (by decide) | (have h9 := of_decide_eq_true h85; omega) | (have h9 := of_decide_eq_false h85; omega) | contradiction | simp_all) | refine v_ifn_eq C 120 dX12_audit_85 (by decide) (by omega) (fun h85 => ?_) (fun h85 => by exfalso; first | omega | exact absurd h85 (by decide) | (have h9 := of_decide_eq_true h85; omega) | (have h9 := of_decide_eq_false h85; omega) | contradiction | simp_all) | refine v_if_eq C 120 dX12_audit_85 (by decide) (fun h85 => ?_) (fun h85 => by exfalso; first | omega | exact absurd h85 (by decide) | (have h9 := of_decide_eq_true h85; omega) | (have h9 := of_decide_eq_false h85; omega) | contradiction | simp_all)
        refine v_iconst (v := nI 0) C dX12_audit_120 (by decide) ?_
        refine v_istore_4 C dX12_audit_121 (by decide) (by first | rfl | assumption) ?_
        first | refine v_iinc_5 C dX12_audit_123 (nI_1 _) (by decide) (by first | rfl | assumption) ?_ | refine v_iinc_5 C dX12_audit_123 rfl (by decide) (by first | rfl | assumption) ?_
        refine v_goto C 56 dX12_audit_126 (by decide) ?_
        have key := ih (k + 1) (by omega) (by omega)
        rw [hst, hsu] at key
        exact key
    | true =>
      refine v_iload C dX12_audit_56 rfl ?_
      refine v_sipush (v := nI 300) C dX12_audit_58 (by decide) ?_
      refine v_iload_n C dX12_audit_61 rfl ?_
      first | refine v_imuln C dX12_audit_62 ?_ | refine v_imul C dX12_audit_62 ?_
      refine v_aload_n C dX12_audit_63 rfl ?_
      refine gf_X12_50 C dX12_audit_64 (by assumption) ?_
      refine v_iload_n C dX12_audit_67 rfl ?_
      refine v_iald C dX12_audit_68 (by assumption) (by omega) (by omega) a1 ?_
      first | refine v_iaddn C dX12_audit_69 ?_ | refine v_iadd C dX12_audit_69 ?_
      refine v_icmpn_ge C 129 dX12_audit_70 (by decide) (by omega) (by omega) (fun h70 => ?_) (fun h70 => ?_)
      · skip
        have e9 : k = (zK (Y s)).length := by omega
        subst e9
        rw [List.take_length] at hb ⊢
        rw [hb] at kend
        exact kend
      · skip
        have hci : (zK (Y s))[k]? = some (zK (Y s))[k] := List.getElem?_eq_getElem (by omega)
        have hkb := a5 _ (List.mem_of_getElem? hci)
        have hst := carC_take (f := gEst P W R A B (zC (Y s))) (g := gEst P W R A B (zP (Y s))) hci
        rw [hb] at hst
        have hsu := cSum_take hci
        refine v_lload_n C dX12_audit_73 rfl ?_
        refine v_aload_n C dX12_audit_74 rfl ?_
        refine gf_X12_60 C dX12_audit_75 (by assumption) ?_
        refine v_iload C dX12_audit_78 rfl ?_
        refine v_lald C dX12_audit_80 (by assumption) (by omega) (by omega) (a3 k _ hci).2 ?_
        first | refine v_laddn C dX12_audit_81 ?_ | refine v_ladd C dX12_audit_81 ?_
        refine v_lstore_2 C dX12_audit_82 (by decide) (by first | rfl | assumption) ?_
        refine v_iload C dX12_audit_83 rfl ?_
        first | refine v_ifb_eq C 120 dX12_audit_85 (by decide) (fun h85 => by exfalso; first | omega | exact absurd h85 (by decide) | (have h9 := of_decide_eq_true h85; omega) | (have h9 := of_decide_eq_false h85; omega) | contradiction | simp_all) (fun h85 => ?_) | refine v_ifn_eq C 120 dX12_audit_85 (by decide) (by omega) (fun h85 => by exfalso; first | omega | exact absurd h85 (by decide) | (have h9 := of_decide_eq_true h85; omega) | (have h9 := of_decide_eq_false h85; omega) | contradiction | simp_all) (fun h85 => ?_) | refine v_if_eq C 120 dX12_audit_85 (by decide) (fun h85 => by exfalso; first | omega | exact absurd h85 (by decide) | (have h9 := of_decide_eq_true h85; omega) | (have h9 := of_decide_eq_false h85; omega) | contradiction | simp_all) (fun h85 => ?_)
        refine v_aload_n C dX12_audit_88 rfl ?_
        refine v_iload_n C dX12_audit_89 rfl ?_
        refine v_aload_n C dX12_audit_90 rfl ?_
        refine gf_X12_57 C dX12_audit_91 (by assumption) ?_
        refine v_iload C dX12_audit_94 rfl ?_
        refine v_iald C dX12_audit_96 (by assumption) (by omega) (by omega) (a3 k _ hci).1 ?_
        refine mc_X12_114 C dX12_audit_97 (hd.1.rc) (c_Mo_leastCareful _ E z hs hkb (hok s hs).hB hm hd.2.2.2.1) rfl (fun r97 G97 hp97 => ?_)
        obtain ⟨hr97, rfl⟩ := hp97
        subst hr97
        refine v_aload_n C dX12_audit_100 rfl ?_
        refine v_iload_n C dX12_audit_101 rfl ?_
        refine v_aload_n C dX12_audit_102 rfl ?_
        refine gf_X12_57 C dX12_audit_103 (by assumption) ?_
        refine v_iload C dX12_audit_106 rfl ?_
        refine v_iald C dX12_audit_108 (by assumption) (by omega) (by omega) (a3 k _ hci).1 ?_
        refine mc_X12_187 C dX12_audit_109 (hd.1.rc) (c_Mo_leastPlain _ E z hs hkb (hok s hs).hP hm hd.2.2.1) rfl (fun r109 G109 hp109 => ?_)
        obtain ⟨hr109, rfl⟩ := hp109
        subst hr109
        refine v_lcmp_gt C 120 dX12_audit_112 dX12_audit_113 (by decide) (fun h112 => ?_) (fun h112 => ?_)
        · skip
          refine v_iconst (v := nI 0) C dX12_audit_120 (by decide) ?_
          refine v_istore_4 C dX12_audit_121 (by decide) (by first | rfl | assumption) ?_
          first | refine v_iinc_5 C dX12_audit_123 (nI_1 _) (by decide) (by first | rfl | assumption) ?_ | refine v_iinc_5 C dX12_audit_123 rfl (by decide) (by first | rfl | assumption) ?_
          refine v_goto C 56 dX12_audit_126 (by decide) ?_
          first
            | (have key := ih (k + 1) (by omega) (by omega)
               rw [hst, hsu, decide_eq_true (Int64.not_lt.mp h112)] at key
               rw [show nI 1 = bI true by decide]
               exact key)
            | (have key := ih (k + 1) (by omega) (by omega)
               rw [hst, hsu, decide_eq_false (Int64.not_le.mpr h112)] at key
               rw [show nI 0 = bI false by decide]
               exact key)
        · skip
          refine v_iconst (v := nI 1) C dX12_audit_116 (by decide) ?_
          refine v_goto C 121 dX12_audit_117 (by decide) ?_
          refine v_istore_4 C dX12_audit_121 (by decide) (by first | rfl | assumption) ?_
          first | refine v_iinc_5 C dX12_audit_123 (nI_1 _) (by decide) (by first | rfl | assumption) ?_ | refine v_iinc_5 C dX12_audit_123 rfl (by decide) (by first | rfl | assumption) ?_
          refine v_goto C 56 dX12_audit_126 (by decide) ?_
          first
            | (have key := ih (k + 1) (by omega) (by omega)
               rw [hst, hsu, decide_eq_true (Int64.not_lt.mp h112)] at key
               rw [show nI 1 = bI true by decide]
               exact key)
            | (have key := ih (k + 1) (by omega) (by omega)
               rw [hst, hsu, decide_eq_false (Int64.not_le.mpr h112)] at key
               rw [show nI 0 = bI false by decide]
               exact key)
set_option maxHeartbeats 4000000 in
set_option maxRecDepth 100000 in
theorem aud3 {M : Mx} {E : Ev} {z : Option Nat} (C : Cx M E yX12_audit.cls cX12_audit 6 (some .int) 5 124 0 0) {post : Int32 → Gh → Prop} {G : Gh} {P W R lim rq po : Nat} {A B : Nat → Nat} {Y : Nat → Str} {s : Nat} (hs : s < 4) (h4 : ∀ j, j < 4 → (holdsC (fun x => kLow P W R A B lim (Y s) j x) (fun x => kHigh P W R A B lim (Y s) j x) (zK (Y s))) = true) (hd : isMd E G P W R lim rq po A B Y) (hend : ∀ {v : Int32}, v = sAudit P W R A B lim (Y s) → post v G) : V M E 6 (QE M E (fun r : Int32 => some (.int r)) z 0 0 post) z 0 0 G 129 [some (.ref (ga E 104)), some (.int (nI s)), some (.long (lN (cSum (zK (Y s))))), none, some (.int (bI (carC (gEst P W R A B (zC (Y s))) (gEst P W R A B (zP (Y s))) (zK (Y s))))), some (.int (nI (300 * s + (zK (Y s)).length)))] [] := by
  obtain ⟨hm, ⟨ft, h7, hft⟩, -, -, hMm, -⟩ := id hd
  replace hft : ∀ q, q < 4 → ft q = lN (zN (Y q)) := hft
  obtain ⟨fms, fmk, ftk, fmn, ma, mb, mc, md, hallM⟩ := id hMm
  replace hallM : ∀ q, q < 4 → moM1 fms fmk ftk fmn lim P q (zM (Y q)) (zT (Y q)) := hallM
  have ho := hm.rc
  have hrg := hm.hl
  refine v_iload C dX12_audit_129 rfl ?_
  first | refine v_ifb_ne C 136 dX12_audit_131 (by decide) (fun h131 => ?_) (fun h131 => ?_) | refine v_ifn_ne C 136 dX12_audit_131 (by decide) (by omega) (fun h131 => ?_) (fun h131 => ?_) | refine v_if_ne C 136 dX12_audit_131 (by decide) (fun h131 => ?_) (fun h131 => ?_)
  · skip
    refine v_aload_n C dX12_audit_136 rfl ?_
    refine gf_X12_97 C dX12_audit_137 (by assumption) ?_
    first | refine v_i2ln C dX12_audit_140 (by omega) ?_ | refine v_i2l C dX12_audit_140 rfl ?_
    refine v_lconst (v := lN 1) C dX12_audit_141 (by decide) ?_
    first | refine v_laddn C dX12_audit_142 ?_ | refine v_ladd C dX12_audit_142 ?_
    refine v_aload_n C dX12_audit_143 rfl ?_
    refine gf_X12_29 C dX12_audit_144 (by assumption) ?_
    refine v_iload_n C dX12_audit_147 rfl ?_
    refine v_lald C dX12_audit_148 (by assumption) (by omega) (by omega) (hallM s hs).2.1 ?_
    first | refine v_lmuln C dX12_audit_149 ?_ | refine v_lmul C dX12_audit_149 ?_
    refine v_aload_n C dX12_audit_150 rfl ?_
    refine gf_X12_16 C dX12_audit_151 (by assumption) ?_
    refine v_iload_n C dX12_audit_154 rfl ?_
    refine v_lald C dX12_audit_155 (by assumption) (by omega) (by omega) (hft s hs) ?_
    refine v_lcmp_le C 165 dX12_audit_156 dX12_audit_157 (by decide) (fun h156 => ?_) (fun h156 => ?_)
    · skip
      refine v_lload_n C dX12_audit_165 rfl ?_
      refine v_aload_n C dX12_audit_166 rfl ?_
      refine gf_X12_16 C dX12_audit_167 (by assumption) ?_
      refine v_iload_n C dX12_audit_170 rfl ?_
      refine v_lald C dX12_audit_171 (by assumption) (by omega) (by omega) (hft s hs) ?_
      refine v_lcmp_eq C 181 dX12_audit_172 dX12_audit_173 (by decide) (fun h172 => ?_) (fun h172 => ?_)
      · skip
        refine v_iconst (v := nI 0) C dX12_audit_181 (by decide) ?_
        refine v_iret C dX12_audit_182 ?_
        refine hend ?_
        rw [sAudit_end h4, if_neg (by rw [h131]; decide)]
        first
          | (rw [if_pos (Int64.not_le.mp h156)])
          | (rw [if_neg (Int64.not_lt.mpr h156), if_pos h172])
          | (rw [if_neg (Int64.not_lt.mpr h156), if_neg h172])
      · skip
        refine v_bipush (v := nI 7) C dX12_audit_176 (by decide) ?_
        refine v_goto C 182 dX12_audit_178 (by decide) ?_
        refine v_iret C dX12_audit_182 ?_
        refine hend ?_
        rw [sAudit_end h4, if_neg (by rw [h131]; decide)]
        first
          | (rw [if_pos (Int64.not_le.mp h156)])
          | (rw [if_neg (Int64.not_lt.mpr h156), if_pos h172])
          | (rw [if_neg (Int64.not_lt.mpr h156), if_neg h172])
    · skip
      refine v_bipush (v := nI 6) C dX12_audit_160 (by decide) ?_
      refine v_goto C 182 dX12_audit_162 (by decide) ?_
      refine v_iret C dX12_audit_182 ?_
      refine hend ?_
      rw [sAudit_end h4, if_neg (by rw [h131]; decide)]
      first
        | (rw [if_pos (Int64.not_le.mp h156)])
        | (rw [if_neg (Int64.not_lt.mpr h156), if_pos h172])
        | (rw [if_neg (Int64.not_lt.mpr h156), if_neg h172])
  · skip
    refine v_iconst (v := nI 5) C dX12_audit_134 (by decide) ?_
    refine v_iret C dX12_audit_135 ?_
    refine hend ?_
    rw [sAudit_end h4, if_pos h131]
set_option maxHeartbeats 4000000 in
set_option maxRecDepth 100000 in
theorem aud1 {M : Mx} {E : Ev} {z : Option Nat} (C : Cx M E yX12_audit.cls cX12_audit 6 (some .int) 5 124 0 0) {post : Int32 → Gh → Prop} {G : Gh} {P W R lim rq po : Nat} {A B : Nat → Nat} {Y : Nat → Str} {s : Nat} (hs : s < 4) (hok : ∀ k, k < 4 → okS W R (Y k)) (hd : isMd E G P W R lim rq po A B Y) (hend : ∀ {v : Int32}, v = sAudit P W R A B lim (Y s) → post v G) : ∀ (t q : Nat), q ≤ 4 → 4 - q < t → (∀ j, j < q → (holdsC (fun x => kLow P W R A B lim (Y s) j x) (fun x => kHigh P W R A B lim (Y s) j x) (zK (Y s))) = true) → V M E 6 (QE M E (fun r : Int32 => some (.int r)) z 0 0 post) z 0 0 G 20 [some (.ref (ga E 104)), some (.int (nI s)), some (.int (nI q)), none, none, none] [] := by
  have ho := hd.1.rc
  intro t
  induction t with
  | zero => intro q _ h; omega
  | succ t ih =>
    intro q hq ht hH
    refine v_iload_n C dX12_audit_20 rfl ?_
    refine v_iconst (v := nI 4) C dX12_audit_21 (by decide) ?_
    refine v_icmpn_ge C 44 dX12_audit_22 (by decide) (by omega) (by omega) (fun h22 => ?_) (fun h22 => ?_)
    · skip
      refine v_lconst (v := lN 0) C dX12_audit_44 (by decide) ?_
      refine v_lstore_2 C dX12_audit_45 (by decide) (by first | rfl | assumption) ?_
      refine v_iconst (v := nI 1) C dX12_audit_46 (by decide) ?_
      refine v_istore_4 C dX12_audit_47 (by decide) (by first | rfl | assumption) ?_
      refine v_sipush (v := nI 300) C dX12_audit_49 (by decide) ?_
      refine v_iload_n C dX12_audit_52 rfl ?_
      first | refine v_imuln C dX12_audit_53 ?_ | refine v_imul C dX12_audit_53 ?_
      refine v_istore_5 C dX12_audit_54 (by decide) (by first | rfl | assumption) ?_
      refine aud2 C hs hok hd ?_ ((zK (Y s)).length + 1) 0 (by omega) (by omega)
      exact aud3 C hs (fun j hj => hH j (by omega)) hd hend
    · skip
      refine v_aload_n C dX12_audit_25 rfl ?_
      refine v_iload_n C dX12_audit_26 rfl ?_
      refine v_iload_n C dX12_audit_27 rfl ?_
      refine mc_X12_207 C dX12_audit_28 (hd.1.rc) (c_Mo_isWithin _ E z hs (by omega) hok hd) rfl (fun r28 G28 hp28 => ?_)
      obtain ⟨hr28, rfl⟩ := hp28
      subst hr28
      first | refine v_ifb_ne C 38 dX12_audit_31 (by decide) (fun h31 => ?_) (fun h31 => ?_) | refine v_ifn_ne C 38 dX12_audit_31 (by decide) (by omega) (fun h31 => ?_) (fun h31 => ?_) | refine v_if_ne C 38 dX12_audit_31 (by decide) (fun h31 => ?_) (fun h31 => ?_)
      · skip
        first | refine v_iinc_2 C dX12_audit_38 (nI_1 _) (by decide) (by first | rfl | assumption) ?_ | refine v_iinc_2 C dX12_audit_38 rfl (by decide) (by first | rfl | assumption) ?_
        refine v_goto C 20 dX12_audit_41 (by decide) ?_
        refine ih (q + 1) (by omega) (by omega) (fun j hj => ?_)
        by_cases q9 : j = q
        · subst q9; exact h31
        · exact hH j (by omega)
      · skip
        refine v_iconst (v := nI 1) C dX12_audit_34 (by decide) ?_
        refine v_iload_n C dX12_audit_35 rfl ?_
        first | refine v_iaddn C dX12_audit_36 ?_ | refine v_iadd C dX12_audit_36 ?_
        refine v_iret C dX12_audit_37 ?_
        exact hend (sAudit_at (by omega) hH h31)
set_option maxHeartbeats 4000000 in
set_option maxRecDepth 100000 in
theorem c_Mo_audit (l : Launch) (E : Ev) (z : Option Nat) {G : Gh} {P W R lim rq po : Nat} {A B : Nat → Nat} {Y : Nat → Str} {x1 : Int32} (hok : ∀ k, k < 4 → okS W R (Y k)) (hd : isMd E G P W R lim rq po A B Y) : K_X12_audit l E z G [.ref (ga E 104), .int x1] (fun r G2 => r = oAudit P W R A B lim Y x1 ∧ G = G2) := by
  refine Fc.of rfl [some (.ref (ga E 104)), some (.int x1), none, none, none, none] 4 rfl (Nat.le_of_ble_eq_true rfl) ?_
  intro M hM0 hini C
  subst hM0
  obtain ⟨hm, ⟨ft, h7, hft⟩, ⟨fp, hp, hip⟩, ⟨fq, hq, hiq⟩, hMm, hMs, hMc⟩ := id hd
  replace hft : ∀ q, q < 4 → ft q = lN (zN (Y q)) := hft
  replace hip : ∀ q r c, q < 4 → r < R → c < W → fp (2048 * q + 256 * r + c) = lN (zP (Y q) r c) := hip
  replace hiq : ∀ q r c, q < 4 → r < R → c < W → fq (2048 * q + 256 * r + c) = lN (zC (Y q) r c) := hiq
  obtain ⟨fa, fb, ho, k5, k6, hfa, hfb, hrg, hlim, hab⟩ := id hm
  obtain ⟨fms, fmk, ftk, fmn, ma, mb, mc, md, hallM⟩ := id hMm
  obtain ⟨fss, fsk, fsn, fse, sa, sb, sc, sd, hallS⟩ := id hMs
  obtain ⟨fcn, fcz, fck, fct, ca, cb, cc, cd, hallC⟩ := id hMc
  replace hallM : ∀ q, q < 4 → moM1 fms fmk ftk fmn lim P q (zM (Y q)) (zT (Y q)) := hallM
  replace hallS : ∀ q, q < 4 → moS1 fss fsk fsn fse lim P q (zS (Y q)) := hallS
  replace hallC : ∀ q, q < 4 → moC1 fcn fcz fck fct P q (zK (Y q)) (zG (Y q)) := hallC
  cases hi1 : iin x1 4 with
  | false =>
    refine v_iload_n C dX12_audit_0 rfl ?_
    refine mc_X12_146 C dX12_audit_1 (c_Mo_isStream _ E z) rfl (fun r1 G1 hp1 => ?_)
    obtain ⟨hr1, rfl⟩ := hp1
    rw [hi1] at hr1
    subst hr1
    first | refine v_ifb_eq C 16 dX12_audit_4 (by decide) (fun h4 => ?_) (fun h4 => by exfalso; first | omega | exact absurd h4 (by decide) | (have h9 := of_decide_eq_true h4; omega) | (have h9 := of_decide_eq_false h4; omega) | contradiction | simp_all) | refine v_ifn_eq C 16 dX12_audit_4 (by decide) (by omega) (fun h4 => ?_) (fun h4 => by exfalso; first | omega | exact absurd h4 (by decide) | (have h9 := of_decide_eq_true h4; omega) | (have h9 := of_decide_eq_false h4; omega) | contradiction | simp_all) | refine v_if_eq C 16 dX12_audit_4 (by decide) (fun h4 => ?_) (fun h4 => by exfalso; first | omega | exact absurd h4 (by decide) | (have h9 := of_decide_eq_true h4; omega) | (have h9 := of_decide_eq_false h4; omega) | contradiction | simp_all)
    refine v_iconst (v := -1) C dX12_audit_16 (by decide) ?_
    refine v_iret C dX12_audit_17 ?_
    exact ⟨by unfold oAudit; rw [if_neg (by rw [hi1]; decide)], rfl⟩
  | true =>
    obtain ⟨s, hs, rfl⟩ := iin_of hi1 (by decide)
    have hsx : ix (nI s) = s := ix_nI (by omega)
    cases hg : zG (Y s) with
    | false =>
      refine v_iload_n C dX12_audit_0 rfl ?_
      refine mc_X12_146 C dX12_audit_1 (c_Mo_isStream _ E z) rfl (fun r1 G1 hp1 => ?_)
      obtain ⟨hr1, rfl⟩ := hp1
      rw [hi1] at hr1
      subst hr1
      first | refine v_ifb_eq C 16 dX12_audit_4 (by decide) (fun h4 => by exfalso; first | omega | exact absurd h4 (by decide) | (have h9 := of_decide_eq_true h4; omega) | (have h9 := of_decide_eq_false h4; omega) | contradiction | simp_all) (fun h4 => ?_) | refine v_ifn_eq C 16 dX12_audit_4 (by decide) (by omega) (fun h4 => by exfalso; first | omega | exact absurd h4 (by decide) | (have h9 := of_decide_eq_true h4; omega) | (have h9 := of_decide_eq_false h4; omega) | contradiction | simp_all) (fun h4 => ?_) | refine v_if_eq C 16 dX12_audit_4 (by decide) (fun h4 => by exfalso; first | omega | exact absurd h4 (by decide) | (have h9 := of_decide_eq_true h4; omega) | (have h9 := of_decide_eq_false h4; omega) | contradiction | simp_all) (fun h4 => ?_)
      refine v_aload_n C dX12_audit_7 rfl ?_
      refine gf_X12_53 C dX12_audit_8 (by assumption) ?_
      refine v_iload_n C dX12_audit_11 rfl ?_
      refine v_zald C dX12_audit_12 (by assumption) (by omega) (by omega) ((hallC s hs).2.1.trans (congrArg bI hg)) ?_
      first | refine v_ifb_eq C 18 dX12_audit_13 (by decide) (fun h13 => ?_) (fun h13 => by exfalso; first | omega | exact absurd h13 (by decide) | (have h9 := of_decide_eq_true h13; omega) | (have h9 := of_decide_eq_false h13; omega) | contradiction | simp_all) | refine v_ifn_eq C 18 dX12_audit_13 (by decide) (by omega) (fun h13 => ?_) (fun h13 => by exfalso; first | omega | exact absurd h13 (by decide) | (have h9 := of_decide_eq_true h13; omega) | (have h9 := of_decide_eq_false h13; omega) | contradiction | simp_all) | refine v_if_eq C 18 dX12_audit_13 (by decide) (fun h13 => ?_) (fun h13 => by exfalso; first | omega | exact absurd h13 (by decide) | (have h9 := of_decide_eq_true h13; omega) | (have h9 := of_decide_eq_false h13; omega) | contradiction | simp_all)
      refine v_iconst (v := nI 0) C dX12_audit_18 (by decide) ?_
      refine v_istore_2 C dX12_audit_19 (by decide) (by first | rfl | assumption) ?_
      refine aud1 C hs hok hd (fun h => ⟨?_, rfl⟩) 5 0 (by omega) (by omega) (fun j hj => by omega)
      unfold oAudit
      rw [if_pos hi1, hsx, if_neg (by rw [hg]; decide)]
      exact h
    | true =>
      refine v_iload_n C dX12_audit_0 rfl ?_
      refine mc_X12_146 C dX12_audit_1 (c_Mo_isStream _ E z) rfl (fun r1 G1 hp1 => ?_)
      obtain ⟨hr1, rfl⟩ := hp1
      rw [hi1] at hr1
      subst hr1
      first | refine v_ifb_eq C 16 dX12_audit_4 (by decide) (fun h4 => by exfalso; first | omega | exact absurd h4 (by decide) | (have h9 := of_decide_eq_true h4; omega) | (have h9 := of_decide_eq_false h4; omega) | contradiction | simp_all) (fun h4 => ?_) | refine v_ifn_eq C 16 dX12_audit_4 (by decide) (by omega) (fun h4 => by exfalso; first | omega | exact absurd h4 (by decide) | (have h9 := of_decide_eq_true h4; omega) | (have h9 := of_decide_eq_false h4; omega) | contradiction | simp_all) (fun h4 => ?_) | refine v_if_eq C 16 dX12_audit_4 (by decide) (fun h4 => by exfalso; first | omega | exact absurd h4 (by decide) | (have h9 := of_decide_eq_true h4; omega) | (have h9 := of_decide_eq_false h4; omega) | contradiction | simp_all) (fun h4 => ?_)
      refine v_aload_n C dX12_audit_7 rfl ?_
      refine gf_X12_53 C dX12_audit_8 (by assumption) ?_
      refine v_iload_n C dX12_audit_11 rfl ?_
      refine v_zald C dX12_audit_12 (by assumption) (by omega) (by omega) ((hallC s hs).2.1.trans (congrArg bI hg)) ?_
      first | refine v_ifb_eq C 18 dX12_audit_13 (by decide) (fun h13 => by exfalso; first | omega | exact absurd h13 (by decide) | (have h9 := of_decide_eq_true h13; omega) | (have h9 := of_decide_eq_false h13; omega) | contradiction | simp_all) (fun h13 => ?_) | refine v_ifn_eq C 18 dX12_audit_13 (by decide) (by omega) (fun h13 => by exfalso; first | omega | exact absurd h13 (by decide) | (have h9 := of_decide_eq_true h13; omega) | (have h9 := of_decide_eq_false h13; omega) | contradiction | simp_all) (fun h13 => ?_) | refine v_if_eq C 18 dX12_audit_13 (by decide) (fun h13 => by exfalso; first | omega | exact absurd h13 (by decide) | (have h9 := of_decide_eq_true h13; omega) | (have h9 := of_decide_eq_false h13; omega) | contradiction | simp_all) (fun h13 => ?_)
      refine v_iconst (v := -1) C dX12_audit_16 (by decide) ?_
      refine v_iret C dX12_audit_17 ?_
      exact ⟨by unfold oAudit; rw [if_pos hi1]; rw [hsx]; rw [if_pos hg], rfl⟩

def sumN (f : Nat → Nat) : Nat → Nat
  | 0 => 0
  | n + 1 => sumN f n + f n
def ovI (P W x a b : Nat) (l : Cnt) : Nat := (l.map (fun c => if c.1 ≠ x ∧ hsh P W a b c.1 = hsh P W a b x then c.2 else 0)).sum
theorem ovI_take {P W x a b k : Nat} {l : Cnt} {c : Nat × Nat} (h : l[k]? = some c) : ovI P W x a b (l.take (k + 1)) = ovI P W x a b (l.take k) + if c.1 ≠ x ∧ hsh P W a b c.1 = hsh P W a b x then c.2 else 0 := by
  unfold ovI
  rw [List.take_add_one, h, List.map_append, List.sum_append]
  simp
def ovS (P W : Nat) (l : Cnt) (x : Nat) : Nat := sumN (fun a => sumN (fun b => ovI P W x (a + 1) b l) P) (P - 1)
def yOver (P W : Nat) (Y : Nat → Str) (x1 x2 : Int32) : Int64 := if iin x1 4 = true then (if iin x2 P = true then (if 131 < P then -1 else if zG (Y (ix x1)) = true then -1 else if 100000000000000 < zN (Y (ix x1)) then -1 else lN (ovS P W (zK (Y (ix x1))) (ix x2))) else -1) else -1

set_option maxHeartbeats 4000000 in
set_option maxRecDepth 100000 in
theorem ov1 {M : Mx} {E : Ev} {z : Option Nat} (C : Cx M E yX12_overcounts.cls cX12_overcounts 9 (some .long) 2 43 0 0) {post : Int64 → Gh → Prop} {G : Gh} {P W R lim rq po : Nat} {A B : Nat → Nat} {Y : Nat → Str} {s x a b T : Nat} (hs : s < 4) (hx : x < P) (ha : a < P) (hb : b < P) (hd : isMd E G P W R lim rq po A B Y) (kend : V M E 9 (QE M E (fun r : Int64 => some (.long r)) z 0 0 post) z 0 0 G 163 [some (.ref (ga E 104)), some (.int (nI s)), some (.int (nI x)), some (.long (lN (T + ovI P W x a b (zK (Y s))))), none, some (.int (nI a)), some (.int (nI b)), some (.int (nI (hsh P W a b x))), some (.int (nI (300 * s + (zK (Y s)).length)))] []) : ∀ (t k : Nat), k ≤ (zK (Y s)).length → (zK (Y s)).length - k < t → V M E 9 (QE M E (fun r : Int64 => some (.long r)) z 0 0 post) z 0 0 G 95 [some (.ref (ga E 104)), some (.int (nI s)), some (.int (nI x)), some (.long (lN (T + ovI P W x a b ((zK (Y s)).take k)))), none, some (.int (nI a)), some (.int (nI b)), some (.int (nI (hsh P W a b x))), some (.int (nI (300 * s + k)))] [] := by
  obtain ⟨fcn, fcz, fck, fct, ca, cb, cc, cd, hallC⟩ := id hd.2.2.2.2.2.2
  replace hallC : ∀ q, q < 4 → moC1 fcn fcz fck fct P q (zK (Y q)) (zG (Y q)) := hallC
  have hm := hd.1
  have ho := hm.rc
  have hrg := hm.hl
  obtain ⟨a1, a2, a3, a4, a5, a6⟩ := hallC s hs
  intro t
  induction t with
  | zero => intro k _ h; omega
  | succ t ih =>
    intro k hk ht
    refine v_iload C dX12_overcounts_95 rfl ?_
    refine v_sipush (v := nI 300) C dX12_overcounts_97 (by decide) ?_
    refine v_iload_n C dX12_overcounts_100 rfl ?_
    first | refine v_imuln C dX12_overcounts_101 ?_ | refine v_imul C dX12_overcounts_101 ?_
    refine v_aload_n C dX12_overcounts_102 rfl ?_
    refine gf_X12_50 C dX12_overcounts_103 (by assumption) ?_
    refine v_iload_n C dX12_overcounts_106 rfl ?_
    refine v_iald C dX12_overcounts_107 (by assumption) (by omega) (by omega) a1 ?_
    first | refine v_iaddn C dX12_overcounts_108 ?_ | refine v_iadd C dX12_overcounts_108 ?_
    refine v_icmpn_ge C 163 dX12_overcounts_109 (by decide) (by omega) (by omega) (fun h109 => ?_) (fun h109 => ?_)
    · skip
      have e9 : k = (zK (Y s)).length := by omega
      subst e9
      rw [List.take_length]
      exact kend
    · skip
      have hci : (zK (Y s))[k]? = some (zK (Y s))[k] := List.getElem?_eq_getElem (by omega)
      have hkb := a5 _ (List.mem_of_getElem? hci)
      have hst := ovI_take (P := P) (W := W) (x := x) (a := a) (b := b) hci
      have hh1 := hsh_lt (P := P) (a := a) (b := b) (x := x) (show 0 < W by omega)
      have hh2 := hsh_lt (P := P) (a := a) (b := b) (x := (zK (Y s))[k].1) (show 0 < W by omega)
      refine v_lload_n C dX12_overcounts_112 rfl ?_
      refine v_aload_n C dX12_overcounts_113 rfl ?_
      refine gf_X12_57 C dX12_overcounts_114 (by assumption) ?_
      refine v_iload C dX12_overcounts_117 rfl ?_
      refine v_iald C dX12_overcounts_119 (by assumption) (by omega) (by omega) (a3 k _ hci).1 ?_
      refine v_iload_n C dX12_overcounts_120 rfl ?_
      refine v_icmpn_eq C 154 dX12_overcounts_121 (by decide) (by omega) (by omega) (fun h121 => ?_) (fun h121 => ?_)
      · skip
        refine v_lconst (v := lN 0) C dX12_overcounts_154 (by decide) ?_
        first | refine v_laddn C dX12_overcounts_155 ?_ | refine v_ladd C dX12_overcounts_155 ?_
        refine v_lstore_3 C dX12_overcounts_156 (by decide) (by first | rfl | assumption) ?_
        first | refine v_iinc_8 C dX12_overcounts_157 (nI_1 _) (by decide) (by first | rfl | assumption) ?_ | refine v_iinc_8 C dX12_overcounts_157 rfl (by decide) (by first | rfl | assumption) ?_
        refine v_goto C 95 dX12_overcounts_160 (by decide) ?_
        have key := ih (k + 1) (by omega) (by omega)
        rw [hst, ← Nat.add_assoc] at key
        first
          | (rw [if_pos ⟨by omega, by omega⟩] at key; exact key)
          | (rw [if_neg (by omega)] at key; exact key)
      · skip
        refine v_aload_n C dX12_overcounts_124 rfl ?_
        refine v_iload C dX12_overcounts_125 rfl ?_
        refine v_iload C dX12_overcounts_127 rfl ?_
        refine v_aload_n C dX12_overcounts_129 rfl ?_
        refine gf_X12_57 C dX12_overcounts_130 (by assumption) ?_
        refine v_iload C dX12_overcounts_133 rfl ?_
        refine v_iald C dX12_overcounts_135 (by assumption) (by omega) (by omega) (a3 k _ hci).1 ?_
        refine mc_X12_108 C dX12_overcounts_136 (hd.1.rc) (c_Mo_hashed _ E z (by omega) (by omega) hkb hm) rfl (fun r136 G136 hp136 => ?_)
        obtain ⟨hr136, rfl⟩ := hp136
        subst hr136
        refine v_iload C dX12_overcounts_139 rfl ?_
        refine v_icmpn_ne C 154 dX12_overcounts_141 (by decide) (by omega) (by omega) (fun h141 => ?_) (fun h141 => ?_)
        · skip
          refine v_lconst (v := lN 0) C dX12_overcounts_154 (by decide) ?_
          first | refine v_laddn C dX12_overcounts_155 ?_ | refine v_ladd C dX12_overcounts_155 ?_
          refine v_lstore_3 C dX12_overcounts_156 (by decide) (by first | rfl | assumption) ?_
          first | refine v_iinc_8 C dX12_overcounts_157 (nI_1 _) (by decide) (by first | rfl | assumption) ?_ | refine v_iinc_8 C dX12_overcounts_157 rfl (by decide) (by first | rfl | assumption) ?_
          refine v_goto C 95 dX12_overcounts_160 (by decide) ?_
          have key := ih (k + 1) (by omega) (by omega)
          rw [hst, ← Nat.add_assoc] at key
          first
            | (rw [if_pos ⟨by omega, by omega⟩] at key; exact key)
            | (rw [if_neg (by omega)] at key; exact key)
        · skip
          refine v_aload_n C dX12_overcounts_144 rfl ?_
          refine gf_X12_60 C dX12_overcounts_145 (by assumption) ?_
          refine v_iload C dX12_overcounts_148 rfl ?_
          refine v_lald C dX12_overcounts_150 (by assumption) (by omega) (by omega) (a3 k _ hci).2 ?_
          refine v_goto C 155 dX12_overcounts_151 (by decide) ?_
          first | refine v_laddn C dX12_overcounts_155 ?_ | refine v_ladd C dX12_overcounts_155 ?_
          refine v_lstore_3 C dX12_overcounts_156 (by decide) (by first | rfl | assumption) ?_
          first | refine v_iinc_8 C dX12_overcounts_157 (nI_1 _) (by decide) (by first | rfl | assumption) ?_ | refine v_iinc_8 C dX12_overcounts_157 rfl (by decide) (by first | rfl | assumption) ?_
          refine v_goto C 95 dX12_overcounts_160 (by decide) ?_
          have key := ih (k + 1) (by omega) (by omega)
          rw [hst, ← Nat.add_assoc] at key
          first
            | (rw [if_pos ⟨by omega, by omega⟩] at key; exact key)
            | (rw [if_neg (by omega)] at key; exact key)
set_option maxHeartbeats 4000000 in
set_option maxRecDepth 100000 in
theorem ov2 {M : Mx} {E : Ev} {z : Option Nat} (C : Cx M E yX12_overcounts.cls cX12_overcounts 9 (some .long) 2 43 0 0) {post : Int64 → Gh → Prop} {G : Gh} {P W R lim rq po : Nat} {A B : Nat → Nat} {Y : Nat → Str} {s x a T : Nat} (hs : s < 4) (hx : x < P) (ha : a < P) (hd : isMd E G P W R lim rq po A B Y) (kend : ∀ x7 x8, V M E 9 (QE M E (fun r : Int64 => some (.long r)) z 0 0 post) z 0 0 G 169 [some (.ref (ga E 104)), some (.int (nI s)), some (.int (nI x)), some (.long (lN (T + sumN (fun b => ovI P W x a b (zK (Y s))) P))), none, some (.int (nI a)), some (.int (nI P)), x7, x8] []) : ∀ (t b : Nat), b ≤ P → P - b < t → ∀ x7 x8, V M E 9 (QE M E (fun r : Int64 => some (.long r)) z 0 0 post) z 0 0 G 68 [some (.ref (ga E 104)), some (.int (nI s)), some (.int (nI x)), some (.long (lN (T + sumN (fun b => ovI P W x a b (zK (Y s))) b))), none, some (.int (nI a)), some (.int (nI b)), x7, x8] [] := by
  have hm := hd.1
  have ho := hm.rc
  have hrg := hm.hl
  intro t
  induction t with
  | zero => intro b _ h; omega
  | succ t ih =>
    intro b hb ht x7 x8
    refine v_iload C dX12_overcounts_68 rfl ?_
    refine v_aload_n C dX12_overcounts_70 rfl ?_
    refine gf_X12_87 C dX12_overcounts_71 (by assumption) ?_
    refine v_icmpn_ge C 169 dX12_overcounts_74 (by decide) (by omega) (by omega) (fun h74 => ?_) (fun h74 => ?_)
    · skip
      have e9 : b = P := by omega
      subst e9
      exact kend x7 x8
    · skip
      have hh1 := hsh_lt (P := P) (a := a) (b := b) (x := x) (show 0 < W by omega)
      refine v_aload_n C dX12_overcounts_77 rfl ?_
      refine v_iload C dX12_overcounts_78 rfl ?_
      refine v_iload C dX12_overcounts_80 rfl ?_
      refine v_iload_n C dX12_overcounts_82 rfl ?_
      refine mc_X12_108 C dX12_overcounts_83 (hd.1.rc) (c_Mo_hashed _ E z (by omega) (by omega) hx hm) rfl (fun r83 G83 hp83 => ?_)
      obtain ⟨hr83, rfl⟩ := hp83
      subst hr83
      refine v_istore_7 C dX12_overcounts_86 (by decide) (by first | rfl | assumption) ?_
      refine v_sipush (v := nI 300) C dX12_overcounts_88 (by decide) ?_
      refine v_iload_n C dX12_overcounts_91 rfl ?_
      first | refine v_imuln C dX12_overcounts_92 ?_ | refine v_imul C dX12_overcounts_92 ?_
      refine v_istore_8 C dX12_overcounts_93 (by decide) (by first | rfl | assumption) ?_
      refine ov1 C (T := T + sumN (fun b => ovI P W x a b (zK (Y s))) b) hs hx ha (by omega) hd ?_ ((zK (Y s)).length + 1) 0 (by omega) (by omega)
      rw [Nat.add_assoc]
      first | refine v_iinc_6 C dX12_overcounts_163 (nI_1 _) (by decide) (by first | rfl | assumption) ?_ | refine v_iinc_6 C dX12_overcounts_163 rfl (by decide) (by first | rfl | assumption) ?_
      refine v_goto C 68 dX12_overcounts_166 (by decide) ?_
      exact ih (b + 1) (by omega) (by omega) _ _
set_option maxHeartbeats 4000000 in
set_option maxRecDepth 100000 in
theorem ov3 {M : Mx} {E : Ev} {z : Option Nat} (C : Cx M E yX12_overcounts.cls cX12_overcounts 9 (some .long) 2 43 0 0) {post : Int64 → Gh → Prop} {G : Gh} {P W R lim rq po : Nat} {A B : Nat → Nat} {Y : Nat → Str} {s x : Nat} (hs : s < 4) (hx : x < P) (hd : isMd E G P W R lim rq po A B Y) (hend : ∀ {v : Int64}, v = lN (ovS P W (zK (Y s)) x) → post v G) : ∀ (t a : Nat), a + 1 ≤ P → P - (a + 1) < t → ∀ x6 x7 x8, V M E 9 (QE M E (fun r : Int64 => some (.long r)) z 0 0 post) z 0 0 G 56 [some (.ref (ga E 104)), some (.int (nI s)), some (.int (nI x)), some (.long (lN (sumN (fun a => sumN (fun b => ovI P W x (a + 1) b (zK (Y s))) P) a))), none, some (.int (nI (a + 1))), x6, x7, x8] [] := by
  have hm := hd.1
  have ho := hm.rc
  have hrg := hm.hl
  intro t
  induction t with
  | zero => intro a _ h; omega
  | succ t ih =>
    intro a ha ht x6 x7 x8
    refine v_iload C dX12_overcounts_56 rfl ?_
    refine v_aload_n C dX12_overcounts_58 rfl ?_
    refine gf_X12_87 C dX12_overcounts_59 (by assumption) ?_
    refine v_icmpn_ge C 175 dX12_overcounts_62 (by decide) (by omega) (by omega) (fun h62 => ?_) (fun h62 => ?_)
    · skip
      refine v_lload_n C dX12_overcounts_175 rfl ?_
      refine v_lret C dX12_overcounts_176 ?_
      refine hend ?_
      have e9 : a = P - 1 := by omega
      rw [e9]
      rfl
    · skip
      refine v_iconst (v := nI 0) C dX12_overcounts_65 (by decide) ?_
      refine v_istore_6 C dX12_overcounts_66 (by decide) (by first | rfl | assumption) ?_
      refine ov2 C (T := sumN (fun a => sumN (fun b => ovI P W x (a + 1) b (zK (Y s))) P) a) hs hx (by omega) hd ?_ (P + 1) 0 (by omega) (by omega) _ _
      intro x7 x8
      first | refine v_iinc_5 C dX12_overcounts_169 (nI_1 _) (by decide) (by first | rfl | assumption) ?_ | refine v_iinc_5 C dX12_overcounts_169 rfl (by decide) (by first | rfl | assumption) ?_
      refine v_goto C 56 dX12_overcounts_172 (by decide) ?_
      exact ih (a + 1) (by omega) (by omega) _ _ _
set_option maxHeartbeats 4000000 in
set_option maxRecDepth 100000 in
theorem c_Mo_over (l : Launch) (E : Ev) (z : Option Nat) {G : Gh} {P W R lim rq po : Nat} {A B : Nat → Nat} {Y : Nat → Str} {x1 x2 : Int32} (hok : ∀ k, k < 4 → okS W R (Y k)) (hd : isMd E G P W R lim rq po A B Y) : K_X12_overcounts l E z G [.ref (ga E 104), .int x1, .int x2] (fun r G2 => r = yOver P W Y x1 x2 ∧ G = G2) := by
  refine Fc.of rfl [some (.ref (ga E 104)), some (.int x1), some (.int x2), none, none, none, none, none, none] 6 rfl (Nat.le_of_ble_eq_true rfl) ?_
  intro M hM0 hini C
  subst hM0
  obtain ⟨hm, ⟨ft, h7, hft⟩, ⟨fp, hp, hip⟩, ⟨fq, hq, hiq⟩, hMm, hMs, hMc⟩ := id hd
  replace hft : ∀ q, q < 4 → ft q = lN (zN (Y q)) := hft
  replace hip : ∀ q r c, q < 4 → r < R → c < W → fp (2048 * q + 256 * r + c) = lN (zP (Y q) r c) := hip
  replace hiq : ∀ q r c, q < 4 → r < R → c < W → fq (2048 * q + 256 * r + c) = lN (zC (Y q) r c) := hiq
  obtain ⟨fa, fb, ho, k5, k6, hfa, hfb, hrg, hlim, hab⟩ := id hm
  obtain ⟨fms, fmk, ftk, fmn, ma, mb, mc, md, hallM⟩ := id hMm
  obtain ⟨fss, fsk, fsn, fse, sa, sb, sc, sd, hallS⟩ := id hMs
  obtain ⟨fcn, fcz, fck, fct, ca, cb, cc, cd, hallC⟩ := id hMc
  replace hallM : ∀ q, q < 4 → moM1 fms fmk ftk fmn lim P q (zM (Y q)) (zT (Y q)) := hallM
  replace hallS : ∀ q, q < 4 → moS1 fss fsk fsn fse lim P q (zS (Y q)) := hallS
  replace hallC : ∀ q, q < 4 → moC1 fcn fcz fck fct P q (zK (Y q)) (zG (Y q)) := hallC
  cases hi1 : iin x1 4 with
  | false =>
    refine v_iload_n C dX12_overcounts_0 rfl ?_
    refine mc_X12_146 C dX12_overcounts_1 (c_Mo_isStream _ E z) rfl (fun r1 G1 hp1 => ?_)
    obtain ⟨hr1, rfl⟩ := hp1
    rw [hi1] at hr1
    subst hr1
    first | refine v_ifb_eq C 47 dX12_overcounts_4 (by decide) (fun h4 => ?_) (fun h4 => by exfalso; first | omega | exact absurd h4 (by decide) | (have h9 := of_decide_eq_true h4; omega) | (have h9 := of_decide_eq_false h4; omega) | contradiction | simp_all) | refine v_ifn_eq C 47 dX12_overcounts_4 (by decide) (by omega) (fun h4 => ?_) (fun h4 => by exfalso; first | omega | exact absurd h4 (by decide) | (have h9 := of_decide_eq_true h4; omega) | (have h9 := of_decide_eq_false h4; omega) | contradiction | simp_all) | refine v_if_eq C 47 dX12_overcounts_4 (by decide) (fun h4 => ?_) (fun h4 => by exfalso; first | omega | exact absurd h4 (by decide) | (have h9 := of_decide_eq_true h4; omega) | (have h9 := of_decide_eq_false h4; omega) | contradiction | simp_all)
    refine v_ldc2 C tw824 dX12_overcounts_47 ?_
    refine v_lret C dX12_overcounts_50 ?_
    exact ⟨by unfold yOver; rw [if_neg (by rw [hi1]; decide)], rfl⟩
  | true =>
    obtain ⟨s, hs, rfl⟩ := iin_of hi1 (by decide)
    have hsx : ix (nI s) = s := ix_nI (by omega)
    cases hi2 : iin x2 P with
    | false =>
      refine v_iload_n C dX12_overcounts_0 rfl ?_
      refine mc_X12_146 C dX12_overcounts_1 (c_Mo_isStream _ E z) rfl (fun r1 G1 hp1 => ?_)
      obtain ⟨hr1, rfl⟩ := hp1
      rw [hi1] at hr1
      subst hr1
      first | refine v_ifb_eq C 47 dX12_overcounts_4 (by decide) (fun h4 => by exfalso; first | omega | exact absurd h4 (by decide) | (have h9 := of_decide_eq_true h4; omega) | (have h9 := of_decide_eq_false h4; omega) | contradiction | simp_all) (fun h4 => ?_) | refine v_ifn_eq C 47 dX12_overcounts_4 (by decide) (by omega) (fun h4 => by exfalso; first | omega | exact absurd h4 (by decide) | (have h9 := of_decide_eq_true h4; omega) | (have h9 := of_decide_eq_false h4; omega) | contradiction | simp_all) (fun h4 => ?_) | refine v_if_eq C 47 dX12_overcounts_4 (by decide) (fun h4 => by exfalso; first | omega | exact absurd h4 (by decide) | (have h9 := of_decide_eq_true h4; omega) | (have h9 := of_decide_eq_false h4; omega) | contradiction | simp_all) (fun h4 => ?_)
      refine v_aload_n C dX12_overcounts_7 rfl ?_
      refine v_iload_n C dX12_overcounts_8 rfl ?_
      refine mc_X12_105 C dX12_overcounts_9 (by assumption) (c_Mo_isKey _ E z hm) rfl (fun r9 G9 hp9 => ?_)
      obtain ⟨hr9, rfl⟩ := hp9
      rw [hi2] at hr9
      subst hr9
      first | refine v_ifb_eq C 47 dX12_overcounts_12 (by decide) (fun h12 => ?_) (fun h12 => by exfalso; first | omega | exact absurd h12 (by decide) | (have h9 := of_decide_eq_true h12; omega) | (have h9 := of_decide_eq_false h12; omega) | contradiction | simp_all) | refine v_ifn_eq C 47 dX12_overcounts_12 (by decide) (by omega) (fun h12 => ?_) (fun h12 => by exfalso; first | omega | exact absurd h12 (by decide) | (have h9 := of_decide_eq_true h12; omega) | (have h9 := of_decide_eq_false h12; omega) | contradiction | simp_all) | refine v_if_eq C 47 dX12_overcounts_12 (by decide) (fun h12 => ?_) (fun h12 => by exfalso; first | omega | exact absurd h12 (by decide) | (have h9 := of_decide_eq_true h12; omega) | (have h9 := of_decide_eq_false h12; omega) | contradiction | simp_all)
      refine v_ldc2 C tw824 dX12_overcounts_47 ?_
      refine v_lret C dX12_overcounts_50 ?_
      exact ⟨by unfold yOver; rw [if_pos hi1]; rw [if_neg (by rw [hi2]; decide)], rfl⟩
    | true =>
      obtain ⟨x, hx, rfl⟩ := iin_of hi2 (by omega)
      have hxx : ix (nI x) = x := ix_nI (by omega)
      cases hi6 : decide (131 < P) with
      | false =>
        have h6 := of_decide_eq_false hi6
        cases hg : zG (Y s) with
        | false =>
          refine v_iload_n C dX12_overcounts_0 rfl ?_
          refine mc_X12_146 C dX12_overcounts_1 (c_Mo_isStream _ E z) rfl (fun r1 G1 hp1 => ?_)
          obtain ⟨hr1, rfl⟩ := hp1
          rw [hi1] at hr1
          subst hr1
          first | refine v_ifb_eq C 47 dX12_overcounts_4 (by decide) (fun h4 => by exfalso; first | omega | exact absurd h4 (by decide) | (have h9 := of_decide_eq_true h4; omega) | (have h9 := of_decide_eq_false h4; omega) | contradiction | simp_all) (fun h4 => ?_) | refine v_ifn_eq C 47 dX12_overcounts_4 (by decide) (by omega) (fun h4 => by exfalso; first | omega | exact absurd h4 (by decide) | (have h9 := of_decide_eq_true h4; omega) | (have h9 := of_decide_eq_false h4; omega) | contradiction | simp_all) (fun h4 => ?_) | refine v_if_eq C 47 dX12_overcounts_4 (by decide) (fun h4 => by exfalso; first | omega | exact absurd h4 (by decide) | (have h9 := of_decide_eq_true h4; omega) | (have h9 := of_decide_eq_false h4; omega) | contradiction | simp_all) (fun h4 => ?_)
          refine v_aload_n C dX12_overcounts_7 rfl ?_
          refine v_iload_n C dX12_overcounts_8 rfl ?_
          refine mc_X12_105 C dX12_overcounts_9 (by assumption) (c_Mo_isKey _ E z hm) rfl (fun r9 G9 hp9 => ?_)
          obtain ⟨hr9, rfl⟩ := hp9
          rw [hi2] at hr9
          subst hr9
          first | refine v_ifb_eq C 47 dX12_overcounts_12 (by decide) (fun h12 => by exfalso; first | omega | exact absurd h12 (by decide) | (have h9 := of_decide_eq_true h12; omega) | (have h9 := of_decide_eq_false h12; omega) | contradiction | simp_all) (fun h12 => ?_) | refine v_ifn_eq C 47 dX12_overcounts_12 (by decide) (by omega) (fun h12 => by exfalso; first | omega | exact absurd h12 (by decide) | (have h9 := of_decide_eq_true h12; omega) | (have h9 := of_decide_eq_false h12; omega) | contradiction | simp_all) (fun h12 => ?_) | refine v_if_eq C 47 dX12_overcounts_12 (by decide) (fun h12 => by exfalso; first | omega | exact absurd h12 (by decide) | (have h9 := of_decide_eq_true h12; omega) | (have h9 := of_decide_eq_false h12; omega) | contradiction | simp_all) (fun h12 => ?_)
          refine v_aload_n C dX12_overcounts_15 rfl ?_
          refine gf_X12_87 C dX12_overcounts_16 (by assumption) ?_
          refine v_sipush (v := nI 131) C dX12_overcounts_19 (by decide) ?_
          refine v_icmpn_gt C 47 dX12_overcounts_22 (by decide) (by omega) (by omega) (fun h22 => by exfalso; first | omega | exact absurd h22 (by decide) | (have h9 := of_decide_eq_true h22; omega) | (have h9 := of_decide_eq_false h22; omega) | contradiction | simp_all) (fun h22 => ?_)
          refine v_aload_n C dX12_overcounts_25 rfl ?_
          refine gf_X12_53 C dX12_overcounts_26 (by assumption) ?_
          refine v_iload_n C dX12_overcounts_29 rfl ?_
          refine v_zald C dX12_overcounts_30 (by assumption) (by omega) (by omega) ((hallC s hs).2.1.trans (congrArg bI hg)) ?_
          first | refine v_ifb_ne C 47 dX12_overcounts_31 (by decide) (fun h31 => by exfalso; first | omega | exact absurd h31 (by decide) | (have h9 := of_decide_eq_true h31; omega) | (have h9 := of_decide_eq_false h31; omega) | contradiction | simp_all) (fun h31 => ?_) | refine v_ifn_ne C 47 dX12_overcounts_31 (by decide) (by omega) (fun h31 => by exfalso; first | omega | exact absurd h31 (by decide) | (have h9 := of_decide_eq_true h31; omega) | (have h9 := of_decide_eq_false h31; omega) | contradiction | simp_all) (fun h31 => ?_) | refine v_if_ne C 47 dX12_overcounts_31 (by decide) (fun h31 => by exfalso; first | omega | exact absurd h31 (by decide) | (have h9 := of_decide_eq_true h31; omega) | (have h9 := of_decide_eq_false h31; omega) | contradiction | simp_all) (fun h31 => ?_)
          have hn9 := (hok s hs).1
          unfold N15 at hn9
          refine v_aload_n C dX12_overcounts_34 rfl ?_
          refine gf_X12_16 C dX12_overcounts_35 (by assumption) ?_
          refine v_iload_n C dX12_overcounts_38 rfl ?_
          refine v_lald C dX12_overcounts_39 (by assumption) (by omega) (by omega) (hft s hs) ?_
          refine v_ldc2 C tw827 dX12_overcounts_40 ?_
          refine v_topl (show (100000000000000 : Int64) = lN 100000000000000 by decide) ?_
          refine v_lcmpn_le C 51 dX12_overcounts_43 dX12_overcounts_44 (by decide) (by omega) (by omega) (fun h43 => ?_) (fun h43 => ?_)
          · skip
            refine v_lconst (v := lN 0) C dX12_overcounts_51 (by decide) ?_
            refine v_lstore_3 C dX12_overcounts_52 (by decide) (by first | rfl | assumption) ?_
            refine v_iconst (v := nI 1) C dX12_overcounts_53 (by decide) ?_
            refine v_istore_5 C dX12_overcounts_54 (by decide) (by first | rfl | assumption) ?_
            refine ov3 C hs hx hd (fun h => ⟨?_, rfl⟩) (P + 1) 0 (by omega) (by omega) _ _ _
            unfold yOver
            rw [if_pos hi1, if_pos hi2, if_neg h6, hsx, if_neg (by rw [hg]; decide), if_neg (by omega), hxx]
            exact h
          · skip
            refine v_ldc2 C tw824 dX12_overcounts_47 ?_
            refine v_lret C dX12_overcounts_50 ?_
            exact ⟨by unfold yOver; rw [if_pos hi1]; rw [if_pos hi2]; rw [if_neg h6]; rw [hsx]; rw [if_neg (by rw [hg]; decide)]; rw [if_pos (by omega)], rfl⟩
        | true =>
          refine v_iload_n C dX12_overcounts_0 rfl ?_
          refine mc_X12_146 C dX12_overcounts_1 (c_Mo_isStream _ E z) rfl (fun r1 G1 hp1 => ?_)
          obtain ⟨hr1, rfl⟩ := hp1
          rw [hi1] at hr1
          subst hr1
          first | refine v_ifb_eq C 47 dX12_overcounts_4 (by decide) (fun h4 => by exfalso; first | omega | exact absurd h4 (by decide) | (have h9 := of_decide_eq_true h4; omega) | (have h9 := of_decide_eq_false h4; omega) | contradiction | simp_all) (fun h4 => ?_) | refine v_ifn_eq C 47 dX12_overcounts_4 (by decide) (by omega) (fun h4 => by exfalso; first | omega | exact absurd h4 (by decide) | (have h9 := of_decide_eq_true h4; omega) | (have h9 := of_decide_eq_false h4; omega) | contradiction | simp_all) (fun h4 => ?_) | refine v_if_eq C 47 dX12_overcounts_4 (by decide) (fun h4 => by exfalso; first | omega | exact absurd h4 (by decide) | (have h9 := of_decide_eq_true h4; omega) | (have h9 := of_decide_eq_false h4; omega) | contradiction | simp_all) (fun h4 => ?_)
          refine v_aload_n C dX12_overcounts_7 rfl ?_
          refine v_iload_n C dX12_overcounts_8 rfl ?_
          refine mc_X12_105 C dX12_overcounts_9 (by assumption) (c_Mo_isKey _ E z hm) rfl (fun r9 G9 hp9 => ?_)
          obtain ⟨hr9, rfl⟩ := hp9
          rw [hi2] at hr9
          subst hr9
          first | refine v_ifb_eq C 47 dX12_overcounts_12 (by decide) (fun h12 => by exfalso; first | omega | exact absurd h12 (by decide) | (have h9 := of_decide_eq_true h12; omega) | (have h9 := of_decide_eq_false h12; omega) | contradiction | simp_all) (fun h12 => ?_) | refine v_ifn_eq C 47 dX12_overcounts_12 (by decide) (by omega) (fun h12 => by exfalso; first | omega | exact absurd h12 (by decide) | (have h9 := of_decide_eq_true h12; omega) | (have h9 := of_decide_eq_false h12; omega) | contradiction | simp_all) (fun h12 => ?_) | refine v_if_eq C 47 dX12_overcounts_12 (by decide) (fun h12 => by exfalso; first | omega | exact absurd h12 (by decide) | (have h9 := of_decide_eq_true h12; omega) | (have h9 := of_decide_eq_false h12; omega) | contradiction | simp_all) (fun h12 => ?_)
          refine v_aload_n C dX12_overcounts_15 rfl ?_
          refine gf_X12_87 C dX12_overcounts_16 (by assumption) ?_
          refine v_sipush (v := nI 131) C dX12_overcounts_19 (by decide) ?_
          refine v_icmpn_gt C 47 dX12_overcounts_22 (by decide) (by omega) (by omega) (fun h22 => by exfalso; first | omega | exact absurd h22 (by decide) | (have h9 := of_decide_eq_true h22; omega) | (have h9 := of_decide_eq_false h22; omega) | contradiction | simp_all) (fun h22 => ?_)
          refine v_aload_n C dX12_overcounts_25 rfl ?_
          refine gf_X12_53 C dX12_overcounts_26 (by assumption) ?_
          refine v_iload_n C dX12_overcounts_29 rfl ?_
          refine v_zald C dX12_overcounts_30 (by assumption) (by omega) (by omega) ((hallC s hs).2.1.trans (congrArg bI hg)) ?_
          first | refine v_ifb_ne C 47 dX12_overcounts_31 (by decide) (fun h31 => ?_) (fun h31 => by exfalso; first | omega | exact absurd h31 (by decide) | (have h9 := of_decide_eq_true h31; omega) | (have h9 := of_decide_eq_false h31; omega) | contradiction | simp_all) | refine v_ifn_ne C 47 dX12_overcounts_31 (by decide) (by omega) (fun h31 => ?_) (fun h31 => by exfalso; first | omega | exact absurd h31 (by decide) | (have h9 := of_decide_eq_true h31; omega) | (have h9 := of_decide_eq_false h31; omega) | contradiction | simp_all) | refine v_if_ne C 47 dX12_overcounts_31 (by decide) (fun h31 => ?_) (fun h31 => by exfalso; first | omega | exact absurd h31 (by decide) | (have h9 := of_decide_eq_true h31; omega) | (have h9 := of_decide_eq_false h31; omega) | contradiction | simp_all)
          refine v_ldc2 C tw824 dX12_overcounts_47 ?_
          refine v_lret C dX12_overcounts_50 ?_
          exact ⟨by unfold yOver; rw [if_pos hi1]; rw [if_pos hi2]; rw [if_neg h6]; rw [hsx]; rw [if_pos hg], rfl⟩
      | true =>
        have h6 := of_decide_eq_true hi6
        refine v_iload_n C dX12_overcounts_0 rfl ?_
        refine mc_X12_146 C dX12_overcounts_1 (c_Mo_isStream _ E z) rfl (fun r1 G1 hp1 => ?_)
        obtain ⟨hr1, rfl⟩ := hp1
        rw [hi1] at hr1
        subst hr1
        first | refine v_ifb_eq C 47 dX12_overcounts_4 (by decide) (fun h4 => by exfalso; first | omega | exact absurd h4 (by decide) | (have h9 := of_decide_eq_true h4; omega) | (have h9 := of_decide_eq_false h4; omega) | contradiction | simp_all) (fun h4 => ?_) | refine v_ifn_eq C 47 dX12_overcounts_4 (by decide) (by omega) (fun h4 => by exfalso; first | omega | exact absurd h4 (by decide) | (have h9 := of_decide_eq_true h4; omega) | (have h9 := of_decide_eq_false h4; omega) | contradiction | simp_all) (fun h4 => ?_) | refine v_if_eq C 47 dX12_overcounts_4 (by decide) (fun h4 => by exfalso; first | omega | exact absurd h4 (by decide) | (have h9 := of_decide_eq_true h4; omega) | (have h9 := of_decide_eq_false h4; omega) | contradiction | simp_all) (fun h4 => ?_)
        refine v_aload_n C dX12_overcounts_7 rfl ?_
        refine v_iload_n C dX12_overcounts_8 rfl ?_
        refine mc_X12_105 C dX12_overcounts_9 (by assumption) (c_Mo_isKey _ E z hm) rfl (fun r9 G9 hp9 => ?_)
        obtain ⟨hr9, rfl⟩ := hp9
        rw [hi2] at hr9
        subst hr9
        first | refine v_ifb_eq C 47 dX12_overcounts_12 (by decide) (fun h12 => by exfalso; first | omega | exact absurd h12 (by decide) | (have h9 := of_decide_eq_true h12; omega) | (have h9 := of_decide_eq_false h12; omega) | contradiction | simp_all) (fun h12 => ?_) | refine v_ifn_eq C 47 dX12_overcounts_12 (by decide) (by omega) (fun h12 => by exfalso; first | omega | exact absurd h12 (by decide) | (have h9 := of_decide_eq_true h12; omega) | (have h9 := of_decide_eq_false h12; omega) | contradiction | simp_all) (fun h12 => ?_) | refine v_if_eq C 47 dX12_overcounts_12 (by decide) (fun h12 => by exfalso; first | omega | exact absurd h12 (by decide) | (have h9 := of_decide_eq_true h12; omega) | (have h9 := of_decide_eq_false h12; omega) | contradiction | simp_all) (fun h12 => ?_)
        refine v_aload_n C dX12_overcounts_15 rfl ?_
        refine gf_X12_87 C dX12_overcounts_16 (by assumption) ?_
        refine v_sipush (v := nI 131) C dX12_overcounts_19 (by decide) ?_
        refine v_icmpn_gt C 47 dX12_overcounts_22 (by decide) (by omega) (by omega) (fun h22 => ?_) (fun h22 => by exfalso; first | omega | exact absurd h22 (by decide) | (have h9 := of_decide_eq_true h22; omega) | (have h9 := of_decide_eq_false h22; omega) | contradiction | simp_all)
        refine v_ldc2 C tw824 dX12_overcounts_47 ?_
        refine v_lret C dX12_overcounts_50 ?_
        exact ⟨by unfold yOver; rw [if_pos hi1]; rw [if_pos hi2]; rw [if_pos h6], rfl⟩

