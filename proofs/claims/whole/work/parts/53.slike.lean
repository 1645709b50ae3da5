def sh {α : Type} (f : Nat → α) (b : Nat) : Nat → α := fun j => f (b + j)
theorem sh_fu {α : Type} (f : Nat → α) (b t : Nat) (v : α) : sh (fu f (b + t) v) b = fu (sh f b) t v := by
  funext j
  unfold sh
  by_cases q9 : j = t
  · subst q9; rw [fu_self, fu_self]
  · rw [fu_ne _ _ (by omega), fu_ne _ _ q9]
theorem srt_ns {ms : Ctr} {i t : Nat} {c0 : Nat × Nat × Nat} (hn : nsrt ms) (hs : srt ((ms.eraseIdx i).insertIdx t c0) (i + 1)) (hi : ms[i]? = some c0) (ht : t ≤ i) : nsrt ((ms.eraseIdx i).insertIdx t c0) := by
  intro a b c d hab ha hb
  by_cases q9 : b < i + 1
  · have := hs a b c d hab q9 ha hb
    unfold cle at this
    omega
  · rw [sins_get hi ht] at ha hb
    rw [if_neg (by omega), if_neg (by omega), if_neg (by omega)] at hb
    by_cases a1 : a < t
    · rw [if_pos a1] at ha; exact hn a b c d hab ha hb
    · rw [if_neg a1] at ha
      by_cases a2 : a = t
      · rw [if_pos a2] at ha; cases ha; exact hn i b c0 d (by omega) hi hb
      · rw [if_neg a2] at ha
        by_cases a3 : a ≤ i
        · rw [if_pos a3] at ha; exact hn (a - 1) b c d (by omega) ha hb
        · rw [if_neg a3] at ha; exact hn a b c d hab ha hb

set_option maxHeartbeats 4000000 in
set_option maxRecDepth 100000 in
theorem c_Mo_least (l : Launch) (E : Ev) (z : Option Nat) {G : Gh} {P W R lim rq po : Nat} {A B : Nat → Nat} {Y : Nat → Str} {s : Nat} (hs : s < 4) (hd : isMd E G P W R lim rq po A B Y) : K_X12_least l E z G [.ref (ga E 104), .int (nI s)] (fun r G2 => r = lN (sLeast lim (zS (Y s))) ∧ G = G2) := by
  refine Fc.of rfl [some (.ref (ga E 104)), some (.int (nI s))] 0 rfl (Nat.le_of_ble_eq_true rfl) ?_
  intro M hM0 hini C
  subst hM0
  obtain ⟨fss, fsk, fsn, fse, sa, sb, sc, sd, hallS⟩ := id hd.2.2.2.2.2.1
  replace hallS : ∀ q, q < 4 → moS1 fss fsk fsn fse lim P q (zS (Y q)) := hallS
  have hm := hd.1
  have ho := hm.rc
  have hlim := hm.hl
  obtain ⟨b1, b2, b3, b4, b5⟩ := hallS s hs
  refine v_aload_n C dX12_least_0 rfl ?_
  refine gf_X12_38 C dX12_least_1 (by assumption) ?_
  refine v_iload_n C dX12_least_4 rfl ?_
  refine v_iald C dX12_least_5 (by assumption) (by omega) (by omega) b1 ?_
  refine v_aload_n C dX12_least_6 rfl ?_
  refine gf_X12_97 C dX12_least_7 (by assumption) ?_
  refine v_icmpn_ne C 25 dX12_least_10 (by decide) (by omega) (by omega) (fun h10 => ?_) (fun h10 => ?_)
  · skip
    refine v_lconst (v := lN 0) C dX12_least_25 (by decide) ?_
    refine v_lret C dX12_least_26 ?_
    refine ⟨?_, rfl⟩
    unfold sLeast
    first
      | (rw [if_pos (by omega), hci])
      | (rw [if_neg (by omega)])
  · skip
    have hci : (zS (Y s))[0]? = some (zS (Y s))[0] := List.getElem?_eq_getElem (by omega)
    refine v_aload_n C dX12_least_13 rfl ?_
    refine gf_X12_44 C dX12_least_14 (by assumption) ?_
    refine v_bipush (v := nI 64) C dX12_least_17 (by decide) ?_
    refine v_iload_n C dX12_least_19 rfl ?_
    first | refine v_imuln C dX12_least_20 ?_ | refine v_imul C dX12_least_20 ?_
    refine v_lald C dX12_least_21 (by assumption) (by omega) (by omega) (b2 0 _ hci).2.1 ?_
    refine v_goto C 26 dX12_least_22 (by decide) ?_
    refine v_lret C dX12_least_26 ?_
    refine ⟨?_, rfl⟩
    unfold sLeast
    first
      | (rw [if_pos (by omega), hci])
      | (rw [if_neg (by omega)])

set_option maxHeartbeats 4000000 in
set_option maxRecDepth 100000 in
theorem sl_in {M : Mx} {E : Ev} {z : Option Nat} (C : Cx M E yX12_sortLike.cls cX12_sortLike 9 none 1 22 0 0) {post : Unit → Gh → Prop} {G0 : Gh} {P W R lim rq po s i : Nat} {A B : Nat → Nat} {m : Ctr} {c0 : Nat × Nat × Nat} {fss gk : Nat → Int32} {gn ge : Nat → Int64} (hs : s < 4) (hml : m.length ≤ 64) (him : i < m.length) (hi : m[i]? = some c0) (hmk : ∀ c ∈ m, c.1 < 65536) (hmn : ∀ c ∈ m, c.2.1 < 2 ^ 62) (hns : nsrt m) (hms : srt m i)
    (kend : ∀ t, t ≤ i → ∀ (G : Gh) (fk : Nat → Int32) (fn fe : Nat → Int64), isMo E G P W R lim rq po A B → G 114 = cI E 4 fss → G 115 = cI E 256 fk → G 116 = cJ E 256 fn → G 117 = cJ E 256 fe → midr m i t (sh fk (64 * s)) (sh fn (64 * s)) (sh fe (64 * s)) → (∀ q, (q < 64 * s ∨ 64 * s + 64 ≤ q) → fk q = gk q ∧ fn q = gn q ∧ fe q = ge q) → (∀ j c, t ≤ j → j < i → m[j]? = some c → cle c0 c) → (∀ j, (j < 115 ∨ 118 ≤ j) → G j = G0 j) → (∀ j c, j < t → m[j]? = some c → cle c c0) → V M E 9 (QE M E (fun _ : Unit => none) z 0 0 post) z 0 0 G 101 [some (.ref (ga E 104)), some (.int (nI s)), some (.int (nI (64 * s + i))), some (.int (nI c0.1)), some (.long (lN c0.2.1)), none, some (.long (lN c0.2.2)), none, some (.int (nI (64 * s + t)))] []) :
    ∀ (u t : Nat), t ≤ i → t < u → ∀ (G : Gh) (fk : Nat → Int32) (fn fe : Nat → Int64), isMo E G P W R lim rq po A B → G 114 = cI E 4 fss → G 115 = cI E 256 fk → G 116 = cJ E 256 fn → G 117 = cJ E 256 fe → midr m i t (sh fk (64 * s)) (sh fn (64 * s)) (sh fe (64 * s)) → (∀ q, (q < 64 * s ∨ 64 * s + 64 ≤ q) → fk q = gk q ∧ fn q = gn q ∧ fe q = ge q) → (∀ j c, t ≤ j → j < i → m[j]? = some c → cle c0 c) → (∀ j, (j < 115 ∨ 118 ≤ j) → G j = G0 j) → V M E 9 (QE M E (fun _ : Unit => none) z 0 0 post) z 0 0 G 48 [some (.ref (ga E 104)), some (.int (nI s)), some (.int (nI (64 * s + i))), some (.int (nI c0.1)), some (.long (lN c0.2.1)), none, some (.long (lN c0.2.2)), none, some (.int (nI (64 * s + t)))] [] := by
  have hkc := hmk _ (List.mem_of_getElem? hi)
  have hnc := hmn _ (List.mem_of_getElem? hi)
  intro u
  induction u with
  | zero => intro t _ h; omega
  | succ u ih =>
    intro t hti hu G fk fn fe hm sa sb sc sd hmid hoth hup hfr
    have ho := hm.rc
    refine v_iload C dX12_sortLike_48 rfl ?_
    refine v_bipush (v := nI 64) C dX12_sortLike_50 (by decide) ?_
    refine v_iload_n C dX12_sortLike_52 rfl ?_
    first | refine v_imuln C dX12_sortLike_53 ?_ | refine v_imul C dX12_sortLike_53 ?_
    refine v_icmpn_le C 101 dX12_sortLike_54 (by decide) (by omega) (by omega) (fun h54 => ?_) (fun h54 => ?_)
    · skip
      refine kend t (by omega) G _ _ _ hm sa sb sc sd hmid hoth hup hfr (fun j c hj hjc => ?_)
      first
        | omega
        | (have h9 : cle m[t - 1] c0 := by
             have q8 := hns (t - 1) i _ _ (by omega) hmt hi
             unfold cle
             omega
           rcases Nat.lt_or_ge j (t - 1) with q | q
           · exact (hms j (t - 1) c _ q (by omega) hjc hmt).trans h9
           · have q7 : j = t - 1 := by omega
             subst q7; rw [hmt] at hjc; cases hjc; exact h9)
    · skip
      have hmt : m[t - 1]? = some m[t - 1] := List.getElem?_eq_getElem (by omega)
      have hm1 := hmid.1 (t - 1) _ (by omega) hmt
      unfold rp sh at hm1
      rw [show 64 * s + (t - 1) = 64 * s + t - 1 by omega] at hm1
      have hkt := hmk _ (List.mem_of_getElem? hmt)
      have hnt := hmn _ (List.mem_of_getElem? hmt)
      refine v_aload_n C dX12_sortLike_57 rfl ?_
      refine gf_X12_44 C dX12_sortLike_58 (by assumption) ?_
      refine v_iload C dX12_sortLike_61 rfl ?_
      refine v_iconst (v := nI 1) C dX12_sortLike_63 (by decide) ?_
      first | refine v_isubn C dX12_sortLike_64 (by omega) ?_ | refine v_isub C dX12_sortLike_64 ?_
      refine v_lald C dX12_sortLike_65 (by assumption) (by omega) (by omega) hm1.2.1 ?_
      refine v_lload C dX12_sortLike_66 rfl ?_
      refine v_lcmpn_ne C 101 dX12_sortLike_68 dX12_sortLike_69 (by decide) (by omega) (by omega) (fun h68 => ?_) (fun h68 => ?_)
      · skip
        refine kend t (by omega) G _ _ _ hm sa sb sc sd hmid hoth hup hfr (fun j c hj hjc => ?_)
        first
          | omega
          | (have h9 : cle m[t - 1] c0 := by
               have q8 := hns (t - 1) i _ _ (by omega) hmt hi
               unfold cle
               omega
             rcases Nat.lt_or_ge j (t - 1) with q | q
             · exact (hms j (t - 1) c _ q (by omega) hjc hmt).trans h9
             · have q7 : j = t - 1 := by omega
               subst q7; rw [hmt] at hjc; cases hjc; exact h9)
      · skip
        refine v_aload_n C dX12_sortLike_72 rfl ?_
        refine gf_X12_41 C dX12_sortLike_73 (by assumption) ?_
        refine v_iload C dX12_sortLike_76 rfl ?_
        refine v_iconst (v := nI 1) C dX12_sortLike_78 (by decide) ?_
        first | refine v_isubn C dX12_sortLike_79 (by omega) ?_ | refine v_isub C dX12_sortLike_79 ?_
        refine v_iald C dX12_sortLike_80 (by assumption) (by omega) (by omega) hm1.1 ?_
        refine v_iload_n C dX12_sortLike_81 rfl ?_
        refine v_icmpn_le C 101 dX12_sortLike_82 (by decide) (by omega) (by omega) (fun h82 => ?_) (fun h82 => ?_)
        · skip
          refine kend t (by omega) G _ _ _ hm sa sb sc sd hmid hoth hup hfr (fun j c hj hjc => ?_)
          first
            | omega
            | (have h9 : cle m[t - 1] c0 := by
                 have q8 := hns (t - 1) i _ _ (by omega) hmt hi
                 unfold cle
                 omega
               rcases Nat.lt_or_ge j (t - 1) with q | q
               · exact (hms j (t - 1) c _ q (by omega) hjc hmt).trans h9
               · have q7 : j = t - 1 := by omega
                 subst q7; rw [hmt] at hjc; cases hjc; exact h9)
        · skip
          refine v_aload_n C dX12_sortLike_85 rfl ?_
          refine v_iload C dX12_sortLike_86 rfl ?_
          refine v_iconst (v := nI 1) C dX12_sortLike_88 (by decide) ?_
          first | refine v_isubn C dX12_sortLike_89 (by omega) ?_ | refine v_isub C dX12_sortLike_89 ?_
          refine v_iload C dX12_sortLike_90 rfl ?_
          refine mc_X12_140 C dX12_sortLike_92 (by assumption) (c_Mo_move _ E z (i := 64 * s + t - 1) (j := 64 * s + t) (by omega) (by omega) hm sb sc sd) rfl (fun r92 G92 hp92 => ?_)
          obtain ⟨sb9, sc9, sd9, hfr92⟩ := hp92
          first | refine v_iinc_8 C dX12_sortLike_95 (nI_dec (by omega)) (by decide) (by first | rfl | assumption) ?_ | refine v_iinc_8 C dX12_sortLike_95 rfl (by decide) (by first | rfl | assumption) ?_
          refine v_goto C 48 dX12_sortLike_98 (by decide) ?_
          rw [show 64 * s + t - 1 = 64 * s + (t - 1) by omega] at sb9 sc9 sd9 ⊢
          refine ih (t - 1) (by omega) (by omega) G92 _ _ _ (hm.keep (fun j a b => hfr92 j (by omega))) ((hfr92 _ (by omega)).trans sa) sb9 sc9 sd9 ?_ (fun q hq => ?_) (fun j c hj1 hj2 hjc => ?_) (fun j hj => by rw [hfr92 j hj]; exact hfr j hj)
          · rw [sh_fu, sh_fu, sh_fu]
            exact midr_step hmid (by omega) hti
          · rw [fu_ne _ _ (by omega), fu_ne _ _ (by omega), fu_ne _ _ (by omega)]
            exact hoth q hq
          · rcases Nat.lt_or_ge j t with q9 | q9
            · have q8 : j = t - 1 := by omega
              subst q8
              rw [hmt] at hjc
              cases hjc
              unfold cle
              omega
            · exact hup j c q9 hj2 hjc
set_option maxHeartbeats 4000000 in
set_option maxRecDepth 100000 in
theorem sl_out {M : Mx} {E : Ev} {z : Option Nat} (C : Cx M E yX12_sortLike.cls cX12_sortLike 9 none 1 22 0 0) {post : Unit → Gh → Prop} {G0 : Gh} {P W R lim rq po s : Nat} {A B : Nat → Nat} {m : Ctr} {fss gk : Nat → Int32} {gn ge : Nat → Int64} (hs : s < 4) (hml : m.length ≤ 64) (hmk : ∀ c ∈ m, c.1 < 65536) (hmn : ∀ c ∈ m, c.2.1 < 2 ^ 62) (hfs : fss s = nI m.length)
    (hend : ∀ ms : Ctr, ms.Perm m → srt ms ms.length → ∀ (G : Gh) (fk : Nat → Int32) (fn fe : Nat → Int64), isMo E G P W R lim rq po A B → G 114 = cI E 4 fss → G 115 = cI E 256 fk → G 116 = cJ E 256 fn → G 117 = cJ E 256 fe → rep ms (sh fk (64 * s)) (sh fn (64 * s)) (sh fe (64 * s)) → (∀ q, (q < 64 * s ∨ 64 * s + 64 ≤ q) → fk q = gk q ∧ fn q = gn q ∧ fe q = ge q) → (∀ j, (j < 115 ∨ 118 ≤ j) → G j = G0 j) → post () G) :
    ∀ (u i : Nat), (1 ≤ i ∧ i ≤ 65) → 65 - i < u → ∀ ms : Ctr, ms.Perm m → srt ms i → nsrt ms → ∀ (G : Gh) (fk : Nat → Int32) (fn fe : Nat → Int64), isMo E G P W R lim rq po A B → G 114 = cI E 4 fss → G 115 = cI E 256 fk → G 116 = cJ E 256 fn → G 117 = cJ E 256 fe → rep ms (sh fk (64 * s)) (sh fn (64 * s)) (sh fe (64 * s)) → (∀ q, (q < 64 * s ∨ 64 * s + 64 ≤ q) → fk q = gk q ∧ fn q = gn q ∧ fe q = ge q) → (∀ j, (j < 115 ∨ 118 ≤ j) → G j = G0 j) → ∀ (x3 x4 x5 x6 x7 x8 : Option Value), lo_c x3 = true → lo_c x5 = true → lo_c x7 = true → V M E 9 (QE M E (fun _ : Unit => none) z 0 0 post) z 0 0 G 7 [some (.ref (ga E 104)), some (.int (nI s)), some (.int (nI (64 * s + i))), x3, x4, x5, x6, x7, x8] [] := by
  intro u
  induction u with
  | zero => intro i _ h; omega
  | succ u ih =>
    intro i hi1 hu ms hpm hms hns G fk fn fe hm sa sb sc sd hrep hoth hfr x3 x4 x5 x6 x7 x8 hx3 hx5 hx7
    have ho := hm.rc
    have hln := hpm.length_eq
    refine v_iload_n C dX12_sortLike_7 rfl ?_
    refine v_bipush (v := nI 64) C dX12_sortLike_8 (by decide) ?_
    refine v_iload_n C dX12_sortLike_10 rfl ?_
    first | refine v_imuln C dX12_sortLike_11 ?_ | refine v_imul C dX12_sortLike_11 ?_
    refine v_aload_n C dX12_sortLike_12 rfl ?_
    refine gf_X12_38 C dX12_sortLike_13 (by assumption) ?_
    refine v_iload_n C dX12_sortLike_16 rfl ?_
    refine v_iald C dX12_sortLike_17 (by assumption) (by omega) (by omega) hfs ?_
    first | refine v_iaddn C dX12_sortLike_18 ?_ | refine v_iadd C dX12_sortLike_18 ?_
    refine v_icmpn_ge C 133 dX12_sortLike_19 (by decide) (by omega) (by omega) (fun h19 => ?_) (fun h19 => ?_)
    · skip
      refine v_vret C dX12_sortLike_133 ?_
      exact hend ms hpm (fun a b c d q1 q2 q3 q4 => hms a b c d q1 (by omega) q3 q4) G fk fn fe hm sa sb sc sd hrep hoth hfr
    · skip
      have hci : ms[i]? = some ms[i] := List.getElem?_eq_getElem (by omega)
      have hr9 := hrep i _ hci
      unfold sh at hr9
      refine v_aload_n C dX12_sortLike_22 rfl ?_
      refine gf_X12_41 C dX12_sortLike_23 (by assumption) ?_
      refine v_iload_n C dX12_sortLike_26 rfl ?_
      refine v_iald C dX12_sortLike_27 (by assumption) (by omega) (by omega) hr9.1 ?_
      refine v_istore_3 C dX12_sortLike_28 (by decide) (by first | rfl | assumption) ?_
      refine v_aload_n C dX12_sortLike_29 rfl ?_
      refine gf_X12_44 C dX12_sortLike_30 (by assumption) ?_
      refine v_iload_n C dX12_sortLike_33 rfl ?_
      refine v_lald C dX12_sortLike_34 (by assumption) (by omega) (by omega) hr9.2.1 ?_
      refine v_lstore_4 C dX12_sortLike_35 (by decide) (by first | rfl | assumption) ?_
      refine v_aload_n C dX12_sortLike_37 rfl ?_
      refine gf_X12_47 C dX12_sortLike_38 (by assumption) ?_
      refine v_iload_n C dX12_sortLike_41 rfl ?_
      refine v_lald C dX12_sortLike_42 (by assumption) (by omega) (by omega) hr9.2.2 ?_
      refine v_lstore_6 C dX12_sortLike_43 (by decide) (by first | rfl | assumption) ?_
      refine v_iload_n C dX12_sortLike_45 rfl ?_
      refine v_istore_8 C dX12_sortLike_46 (by decide) (by first | rfl | assumption) ?_
      refine sl_in C hs (by omega) (by omega) hci (fun c hc9 => hmk c (hpm.mem_iff.mp hc9)) (fun c hc9 => hmn c (hpm.mem_iff.mp hc9)) hns hms ?_ (i + 1) i (by omega) (by omega) G fk fn fe hm sa sb sc sd (midr_of hrep) hoth (fun j c a b _ => by omega) hfr
      clear sa sb sc sd
      intro t hti G fk fn fe hm9 sa sb sc sd hmid hoth9 hup hfr9 hlow
      have ho := hm9.rc
      refine v_aload_n C dX12_sortLike_101 rfl ?_
      refine gf_X12_41 C dX12_sortLike_102 (by assumption) ?_
      refine v_iload C dX12_sortLike_105 rfl ?_
      refine v_iload_n C dX12_sortLike_107 rfl ?_
      refine v_iast C dX12_sortLike_108 (by assumption) (by omega) (by omega) (fun G hG108 hF108 => ?_)
      first | replace ho := (hF108 _ (by omega)).trans ho | replace ho := hG108 | skip
      first | replace sa := (hF108 _ (by omega)).trans sa | replace sa := hG108 | skip
      first | replace sb := (hF108 _ (by omega)).trans sb | replace sb := hG108 | skip
      first | replace sc := (hF108 _ (by omega)).trans sc | replace sc := hG108 | skip
      first | replace sd := (hF108 _ (by omega)).trans sd | replace sd := hG108 | skip
      refine v_aload_n C dX12_sortLike_109 rfl ?_
      refine gf_X12_44 C dX12_sortLike_110 (by assumption) ?_
      refine v_iload C dX12_sortLike_113 rfl ?_
      refine v_lload C dX12_sortLike_115 rfl ?_
      refine v_last C dX12_sortLike_117 (by assumption) (by omega) (by omega) (fun G hG117 hF117 => ?_)
      first | replace ho := (hF117 _ (by omega)).trans ho | replace ho := hG117 | skip
      first | replace sa := (hF117 _ (by omega)).trans sa | replace sa := hG117 | skip
      first | replace sb := (hF117 _ (by omega)).trans sb | replace sb := hG117 | skip
      first | replace sc := (hF117 _ (by omega)).trans sc | replace sc := hG117 | skip
      first | replace sd := (hF117 _ (by omega)).trans sd | replace sd := hG117 | skip
      refine v_aload_n C dX12_sortLike_118 rfl ?_
      refine gf_X12_47 C dX12_sortLike_119 (by assumption) ?_
      refine v_iload C dX12_sortLike_122 rfl ?_
      refine v_lload C dX12_sortLike_124 rfl ?_
      refine v_last C dX12_sortLike_126 (by assumption) (by omega) (by omega) (fun G hG126 hF126 => ?_)
      first | replace ho := (hF126 _ (by omega)).trans ho | replace ho := hG126 | skip
      first | replace sa := (hF126 _ (by omega)).trans sa | replace sa := hG126 | skip
      first | replace sb := (hF126 _ (by omega)).trans sb | replace sb := hG126 | skip
      first | replace sc := (hF126 _ (by omega)).trans sc | replace sc := hG126 | skip
      first | replace sd := (hF126 _ (by omega)).trans sd | replace sd := hG126 | skip
      first | refine v_iinc_2 C dX12_sortLike_127 (nI_1 _) (by decide) (by first | rfl | assumption) ?_ | refine v_iinc_2 C dX12_sortLike_127 rfl (by decide) (by first | rfl | assumption) ?_
      refine v_goto C 7 dX12_sortLike_130 (by decide) ?_
      have hsi := srt_ins hms hci hti hlow hup
      exact ih (i + 1) (by omega) (by omega) _ ((sins_perm hci hti).trans hpm) hsi (srt_ns hns hsi hci hti) G _ _ _ (hm9.keep (fun j a b => by rw [hF126 j (by omega), hF117 j (by omega), hF108 j (by omega)])) sa sb sc sd (by rw [sh_fu, sh_fu, sh_fu]; exact midr_end hmid hci hti) (fun q hq => by rw [fu_ne _ _ (by omega), fu_ne _ _ (by omega), fu_ne _ _ (by omega)]; exact hoth9 q hq) (fun j hj => by rw [hF126 j (by omega), hF117 j (by omega), hF108 j (by omega)]; exact hfr9 j hj) _ _ _ _ _ _ rfl rfl rfl
set_option maxHeartbeats 4000000 in
set_option maxRecDepth 100000 in
theorem c_Mo_sortLike (l : Launch) (E : Ev) (z : Option Nat) {G : Gh} {P W R lim rq po : Nat} {A B : Nat → Nat} {s : Nat} {m : Ctr} {fss fk : Nat → Int32} {fn fe : Nat → Int64} (hs : s < 4) (hml : m.length ≤ 64) (hmk : ∀ c ∈ m, c.1 < 65536) (hmn : ∀ c ∈ m, c.2.1 < 2 ^ 62) (hfs : fss s = nI m.length) (hns : nsrt m) (sa : G 114 = cI E 4 fss) (sb : G 115 = cI E 256 fk) (sc : G 116 = cJ E 256 fn) (sd : G 117 = cJ E 256 fe) (hrep : rep m (sh fk (64 * s)) (sh fn (64 * s)) (sh fe (64 * s))) (hm : isMo E G P W R lim rq po A B) : K_X12_sortLike l E z G [.ref (ga E 104), .int (nI s)] (fun _ G2 => ∃ (ms : Ctr) (hk9 : Nat → Int32) (hn9 he9 : Nat → Int64), ms.Perm m ∧ srt ms ms.length ∧ isMo E G2 P W R lim rq po A B ∧ G2 114 = cI E 4 fss ∧ G2 115 = cI E 256 hk9 ∧ G2 116 = cJ E 256 hn9 ∧ G2 117 = cJ E 256 he9 ∧ rep ms (sh hk9 (64 * s)) (sh hn9 (64 * s)) (sh he9 (64 * s)) ∧ (∀ q, (q < 64 * s ∨ 64 * s + 64 ≤ q) → hk9 q = fk q ∧ hn9 q = fn q ∧ he9 q = fe q) ∧ ∀ j, (j < 115 ∨ 118 ≤ j) → G2 j = G j) := by
  refine Fc.of rfl [some (.ref (ga E 104)), some (.int (nI s)), none, none, none, none, none, none, none] 7 rfl (Nat.le_of_ble_eq_true rfl) ?_
  intro M hM0 hini C
  subst hM0
  refine v_bipush (v := nI 64) C dX12_sortLike_0 (by decide) ?_
  refine v_iload_n C dX12_sortLike_2 rfl ?_
  first | refine v_imuln C dX12_sortLike_3 ?_ | refine v_imul C dX12_sortLike_3 ?_
  refine v_iconst (v := nI 1) C dX12_sortLike_4 (by decide) ?_
  first | refine v_iaddn C dX12_sortLike_5 ?_ | refine v_iadd C dX12_sortLike_5 ?_
  refine v_istore_2 C dX12_sortLike_6 (by decide) (by first | rfl | assumption) ?_
  refine sl_out C hs hml hmk hmn hfs (fun ms a b G fk fn fe c d e f g h i j => ⟨ms, fk, fn, fe, a, b, c, d, e, f, g, h, i, j⟩) 65 1 (by omega) (by omega) m (List.Perm.refl _) (fun a b c d q1 q2 => by omega) hns G fk fn fe hm sa sb sc sd hrep (fun _ _ => ⟨rfl, rfl, rfl⟩) (fun _ _ => rfl) _ _ _ _ _ _ rfl rfl rfl

