theorem moS_pack {E : Ev} {G : Gh} {lim P s : Nat} {Ss : Nat → Ctr} {l2 : Ctr} {fss gss gk fk : Nat → Int32} {gn ge fn fe : Nat → Int64} (hall : ∀ q, q < 4 → moS1 gss gk gn ge lim P q (Ss q)) (hs : s < 4) (h0 : G 114 = cI E 4 fss) (h1 : G 115 = cI E 256 fk) (h2 : G 116 = cJ E 256 fn) (h3 : G 117 = cJ E 256 fe) (hss : ∀ q, q ≠ s → fss q = gss q) (hs1 : fss s = nI l2.length) (hrep : ∀ (i : Nat) (c : Nat × Nat × Nat), l2[i]? = some c → rp fk fn fe (64 * s + i) c) (hoth : ∀ q, (q < 64 * s ∨ 64 * s + 64 ≤ q) → fk q = gk q ∧ fn q = gn q ∧ fe q = ge q) (hl : l2.length ≤ lim) (hlim : lim ≤ 64) (hw : cwf l2 P lim) : moS E G lim P (fu Ss s l2) := by
  refine ⟨fss, fk, fn, fe, h0, h1, h2, h3, fun q hq => ?_⟩
  by_cases q9 : q = s
  · subst q9
    rw [fu_self]
    exact ⟨hs1, hrep, hl, hw.2.1, hw.2.2⟩
  · rw [fu_ne _ _ q9]
    obtain ⟨g1, g2, g3, g4, g5⟩ := hall q hq
    refine ⟨by rw [hss q q9]; exact g1, fun i c hic => ?_, g3, g4, g5⟩
    have hil := (List.getElem?_eq_some_iff.mp hic).1
    have hold := hoth (64 * q + i) (by omega)
    unfold rp
    rw [hold.1, hold.2.1, hold.2.2]
    exact g2 i c hic
theorem nsrt_del {l : Ctr} (h : nsrt l) (i : Nat) : nsrt (l.eraseIdx i) := by
  intro a b c d hab ha hb
  rw [List.getElem?_eraseIdx] at ha hb
  split at ha <;> split at hb
  · exact h a b c d hab ha hb
  · exact h a (b + 1) c d (by omega) ha hb
  · omega
  · exact h (a + 1) (b + 1) c d (by omega) ha hb
theorem sIns_len (l : Ctr) (x n e : Nat) : (sIns l x n e).length = l.length + 1 := by unfold sIns; rw [List.length_insertIdx_of_le_length (sPb_le _ _)]
theorem hol_del {l : Ctr} {i s : Nat} {fk : Nat → Int32} {fn fe : Nat → Int64} (h : ∀ (j : Nat) (c : Nat × Nat × Nat), l[j]? = some c → rp fk fn fe (64 * s + j) c) : hol (l.eraseIdx i) i s fk fk fn fe fn fe := by
  refine ⟨fun j c hj => ?_, fun _ _ => ⟨rfl, rfl, rfl⟩⟩
  rw [List.getElem?_eraseIdx] at hj
  by_cases q1 : j < i
  · rw [if_pos q1] at hj ⊢; exact h j c hj
  · rw [if_neg q1] at hj ⊢; exact h (j + 1) c hj
theorem hol_end {l : Ctr} {s : Nat} {fk : Nat → Int32} {fn fe : Nat → Int64} (h : ∀ (j : Nat) (c : Nat × Nat × Nat), l[j]? = some c → rp fk fn fe (64 * s + j) c) : hol l l.length s fk fk fn fe fn fe := by
  refine ⟨fun j c hj => ?_, fun _ _ => ⟨rfl, rfl, rfl⟩⟩
  rw [if_pos (List.getElem?_eq_some_iff.mp hj).1]
  exact h j c hj

set_option maxHeartbeats 4000000 in
set_option maxRecDepth 100000 in
theorem c_Mo_comesSaving (l : Launch) (E : Ev) (z : Option Nat) {G : Gh} {P W R lim rq po : Nat} {A B : Nat → Nat} {Ss : Nat → Ctr} {s x : Nat} (hs : s < 4) (hx : x < P) (hn0 : ∀ c ∈ Ss s, c.2.1 < 2 ^ 61) (hsr : nsrt (Ss s)) (hm : isMo E G P W R lim rq po A B) (hS : moS E G lim P Ss) : K_X12_comesSaving l E z G [.ref (ga E 104), .int (nI s), .int (nI x)] (fun _ G2 => moS E G2 lim P (fu Ss s (sTake lim (Ss s) x 1)) ∧ ∀ j, (j < 114 ∨ 118 ≤ j) → G2 j = G j) := by
  refine Fc.of rfl [some (.ref (ga E 104)), some (.int (nI s)), some (.int (nI x)), none, none, none, none, none, none] 6 rfl (Nat.le_of_ble_eq_true rfl) ?_
  intro M hM0 hini C
  subst hM0
  obtain ⟨fa, fb, ho, h5, h6, hfa, hfb, hrg, hlim, hab⟩ := id hm
  obtain ⟨fss, fsk, fsn, fse, ha, hb, hc, hd, hall⟩ := id hS
  obtain ⟨hfs, hfe, hfl, hfk, hfn⟩ := id (hall s hs)
  have hwf9 : cwf (Ss s) P lim := ⟨⟨hlim.1, hlim.2, by omega, by omega⟩, hfk, hfn⟩
  refine v_aload_n C dX12_comesSaving_0 rfl ?_
  refine v_iload_n C dX12_comesSaving_1 rfl ?_
  refine v_iload_n C dX12_comesSaving_2 rfl ?_
  refine mc_X12_137 C dX12_comesSaving_3 (by assumption) (c_Mo_savingAt _ E z hs (by omega) ha hb (by rw [ckeys_len]; exact hfs) (fun i y hiy => by obtain ⟨c, h1, h2⟩ := ckeys_get hiy; rw [← h2]; exact (hfe i c h1).1) (by rw [ckeys_len]; omega) (fun y hy => by obtain ⟨c, h1, h2⟩ := List.mem_map.mp hy; rw [← h2]; have := hfk c h1; omega) hfn hm) rfl (fun r3 G3 hp3 => ?_)
  obtain ⟨hr3, rfl⟩ := hp3
  rcases kJ_cases hr3 with ⟨hk, rfl⟩ | ⟨i, c, hk, rfl, hci, hcx, hil⟩
  · skip
    refine v_istore_3 C dX12_comesSaving_6 (by decide) (by first | rfl | assumption) ?_
    refine v_lconst (v := lN 1) C dX12_comesSaving_7 (by decide) ?_
    refine v_lstore_4 C dX12_comesSaving_8 (by decide) (by first | rfl | assumption) ?_
    refine v_lconst (v := lN 0) C dX12_comesSaving_10 (by decide) ?_
    refine v_lstore_6 C dX12_comesSaving_11 (by decide) (by first | rfl | assumption) ?_
    refine v_iload_n C dX12_comesSaving_13 rfl ?_
    refine v_if_ge C 55 dX12_comesSaving_14 (by decide) (fun h14 => by exfalso; first | omega | exact absurd h14 (by decide) | (have h9 := of_decide_eq_true h14; omega) | (have h9 := of_decide_eq_false h14; omega) | contradiction | simp_all) (fun h14 => ?_)
    refine v_aload_n C dX12_comesSaving_17 rfl ?_
    refine gf_X12_38 C dX12_comesSaving_18 (by assumption) ?_
    refine v_iload_n C dX12_comesSaving_21 rfl ?_
    refine v_iald C dX12_comesSaving_22 (by assumption) (by omega) (by omega) hfs ?_
    refine v_aload_n C dX12_comesSaving_23 rfl ?_
    refine gf_X12_97 C dX12_comesSaving_24 (by assumption) ?_
    refine v_icmpn_ge C 55 dX12_comesSaving_27 (by decide) (by omega) (by omega) (fun h27 => ?_) (fun h27 => ?_)
    · skip
      have hfull : lim ≤ (Ss s).length := by omega
      have hc0 : (Ss s)[0]? = some (Ss s)[0] := List.getElem?_eq_getElem (by omega)
      have hr0 := hfe 0 _ hc0
      rw [Nat.add_zero] at hr0
      have hc9 := hn0 _ (List.mem_of_getElem? hc0)
      have hdl : ((Ss s).eraseIdx 0).length = (Ss s).length - 1 := List.length_eraseIdx_of_lt (by omega)
      have hls : sLeast lim (Ss s) = (Ss s)[0].2.1 := by unfold sLeast; rw [if_pos hfull, hc0]
      refine v_iload_n C dX12_comesSaving_55 rfl ?_
      refine v_if_ge C 85 dX12_comesSaving_56 (by decide) (fun h56 => by exfalso; first | omega | exact absurd h56 (by decide) | (have h9 := of_decide_eq_true h56; omega) | (have h9 := of_decide_eq_false h56; omega) | contradiction | simp_all) (fun h56 => ?_)
      refine v_bipush (v := nI 64) C dX12_comesSaving_59 (by decide) ?_
      refine v_iload_n C dX12_comesSaving_61 rfl ?_
      first | refine v_imuln C dX12_comesSaving_62 ?_ | refine v_imul C dX12_comesSaving_62 ?_
      refine v_istore_3 C dX12_comesSaving_63 (by decide) (by first | rfl | assumption) ?_
      refine v_aload_n C dX12_comesSaving_64 rfl ?_
      refine gf_X12_44 C dX12_comesSaving_65 (by assumption) ?_
      refine v_iload_n C dX12_comesSaving_68 rfl ?_
      refine v_lald C dX12_comesSaving_69 (by assumption) (by omega) (by omega) hr0.2.1 ?_
      refine v_lstore_6 C dX12_comesSaving_70 (by decide) (by first | rfl | assumption) ?_
      refine v_aload_n C dX12_comesSaving_72 rfl ?_
      refine gf_X12_44 C dX12_comesSaving_73 (by assumption) ?_
      refine v_iload_n C dX12_comesSaving_76 rfl ?_
      refine v_lald C dX12_comesSaving_77 (by assumption) (by omega) (by omega) hr0.2.1 ?_
      refine v_lconst (v := lN 1) C dX12_comesSaving_78 (by decide) ?_
      first | refine v_laddn C dX12_comesSaving_79 ?_ | refine v_ladd C dX12_comesSaving_79 ?_
      refine v_lstore_4 C dX12_comesSaving_80 (by decide) (by first | rfl | assumption) ?_
      refine v_goto C 103 dX12_comesSaving_82 (by decide) ?_
      refine v_iload_n C dX12_comesSaving_103 rfl ?_
      refine v_istore_8 C dX12_comesSaving_104 (by decide) (by first | rfl | assumption) ?_
      first
        | (have e9 : sTake lim (Ss s) x 1 = sIns (Ss s) x 1 0 := by
             have hls : sLeast lim (Ss s) = 0 := by unfold sLeast; rw [if_neg (by omega)]
             unfold sTake; rw [hk]; simp only []; rw [if_neg (by omega), hls]
           rw [e9]
           have hwn : cwf (sIns (Ss s) x 1 0) P lim := cwf_ins hwf9 (sPb_le _ _) (by omega) hx (fun d hd9 => kix_none hk d hd9)
           exact cs_loop1 C hs hx (by decide) (by omega) (fun d hd9 => by have := hn0 d hd9; omega) (fu_self _ _ _) hsr (fun G fk fn fe g1 g2 g3 g4 g5 g6 g7 => ⟨moS_pack hall hs g1 g2 g3 g4 (fun q hq => fu_ne _ _ hq) (by rw [sIns_len]; first | exact hfs1 | exact fu_self _ _ _) g5 g6 (by rw [sIns_len]; omega) hlim.2 hwn, g7⟩) ((Ss s).length + 1) (Ss s).length (by omega) (by omega) G fsk fsn fse (hm.keep (fun j a b => hF51 j (by omega))) ha hb hc hd (hol_end hfe) (fun j hj => hF51 j (by omega)))
        | (have e9 : sTake lim (Ss s) x 1 = sIns ((Ss s).eraseIdx 0) x ((Ss s)[0].2.1 + 1) (Ss s)[0].2.1 := by unfold sTake; rw [hk]; simp only []; rw [if_pos hfull, hls]
           rw [e9]
           have hfs1 : fss s = nI (((Ss s).eraseIdx 0).length + 1) := by rw [hfs]; congr 1; omega
           have hwn : cwf (sIns ((Ss s).eraseIdx 0) x ((Ss s)[0].2.1 + 1) (Ss s)[0].2.1) P lim := cwf_ins (cwf_del hwf9) (sPb_le _ _) (by omega) hx (fun d hd9 => kix_none hk d (mem_del hd9))
           exact cs_loop1 C hs hx (by omega) (by omega) (fun d hd9 => by have := hn0 d (mem_del hd9); omega) hfs1 (nsrt_del hsr 0) (fun G fk fn fe g1 g2 g3 g4 g5 g6 g7 => ⟨moS_pack hall hs g1 g2 g3 g4 (fun _ _ => rfl) (by rw [sIns_len]; first | exact hfs1 | exact fu_self _ _ _) g5 g6 (by rw [sIns_len]; omega) hlim.2 hwn, g7⟩) ((Ss s).length + 1) 0 (by omega) (by omega) G fsk fsn fse hm ha hb hc hd (hol_del hfe) (fun _ _ => rfl))
    · skip
      
      refine v_bipush (v := nI 64) C dX12_comesSaving_30 (by decide) ?_
      refine v_iload_n C dX12_comesSaving_32 rfl ?_
      first | refine v_imuln C dX12_comesSaving_33 ?_ | refine v_imul C dX12_comesSaving_33 ?_
      refine v_aload_n C dX12_comesSaving_34 rfl ?_
      refine gf_X12_38 C dX12_comesSaving_35 (by assumption) ?_
      refine v_iload_n C dX12_comesSaving_38 rfl ?_
      refine v_iald C dX12_comesSaving_39 (by assumption) (by omega) (by omega) hfs ?_
      first | refine v_iaddn C dX12_comesSaving_40 ?_ | refine v_iadd C dX12_comesSaving_40 ?_
      refine v_istore_3 C dX12_comesSaving_41 (by decide) (by first | rfl | assumption) ?_
      refine v_aload_n C dX12_comesSaving_42 rfl ?_
      refine gf_X12_38 C dX12_comesSaving_43 (by assumption) ?_
      refine v_iload_n C dX12_comesSaving_46 rfl ?_
      refine v_dup2 C dX12_comesSaving_47 rfl rfl ?_
      refine v_iald C dX12_comesSaving_48 (by assumption) (by omega) (by omega) hfs ?_
      refine v_iconst (v := nI 1) C dX12_comesSaving_49 (by decide) ?_
      first | refine v_iaddn C dX12_comesSaving_50 ?_ | refine v_iadd C dX12_comesSaving_50 ?_
      refine v_iast C dX12_comesSaving_51 (by assumption) (by omega) (by omega) (fun G hG51 hF51 => ?_)
      first | replace ho := (hF51 _ (by omega)).trans ho | replace ho := hG51 | skip
      first | replace h5 := (hF51 _ (by omega)).trans h5 | replace h5 := hG51 | skip
      first | replace h6 := (hF51 _ (by omega)).trans h6 | replace h6 := hG51 | skip
      first | replace ha := (hF51 _ (by omega)).trans ha | replace ha := hG51 | skip
      first | replace hb := (hF51 _ (by omega)).trans hb | replace hb := hG51 | skip
      first | replace hc := (hF51 _ (by omega)).trans hc | replace hc := hG51 | skip
      first | replace hd := (hF51 _ (by omega)).trans hd | replace hd := hG51 | skip
      refine v_goto C 103 dX12_comesSaving_52 (by decide) ?_
      refine v_iload_n C dX12_comesSaving_103 rfl ?_
      refine v_istore_8 C dX12_comesSaving_104 (by decide) (by first | rfl | assumption) ?_
      first
        | (have e9 : sTake lim (Ss s) x 1 = sIns (Ss s) x 1 0 := by
             have hls : sLeast lim (Ss s) = 0 := by unfold sLeast; rw [if_neg (by omega)]
             unfold sTake; rw [hk]; simp only []; rw [if_neg (by omega), hls]
           rw [e9]
           have hwn : cwf (sIns (Ss s) x 1 0) P lim := cwf_ins hwf9 (sPb_le _ _) (by omega) hx (fun d hd9 => kix_none hk d hd9)
           exact cs_loop1 C hs hx (by decide) (by omega) (fun d hd9 => by have := hn0 d hd9; omega) (fu_self _ _ _) hsr (fun G fk fn fe g1 g2 g3 g4 g5 g6 g7 => ⟨moS_pack hall hs g1 g2 g3 g4 (fun q hq => fu_ne _ _ hq) (by rw [sIns_len]; first | exact hfs1 | exact fu_self _ _ _) g5 g6 (by rw [sIns_len]; omega) hlim.2 hwn, g7⟩) ((Ss s).length + 1) (Ss s).length (by omega) (by omega) G fsk fsn fse (hm.keep (fun j a b => hF51 j (by omega))) ha hb hc hd (hol_end hfe) (fun j hj => hF51 j (by omega)))
        | (have e9 : sTake lim (Ss s) x 1 = sIns ((Ss s).eraseIdx 0) x ((Ss s)[0].2.1 + 1) (Ss s)[0].2.1 := by unfold sTake; rw [hk]; simp only []; rw [if_pos hfull, hls]
           rw [e9]
           have hfs1 : fss s = nI (((Ss s).eraseIdx 0).length + 1) := by rw [hfs]; congr 1; omega
           have hwn : cwf (sIns ((Ss s).eraseIdx 0) x ((Ss s)[0].2.1 + 1) (Ss s)[0].2.1) P lim := cwf_ins (cwf_del hwf9) (sPb_le _ _) (by omega) hx (fun d hd9 => kix_none hk d (mem_del hd9))
           exact cs_loop1 C hs hx (by omega) (by omega) (fun d hd9 => by have := hn0 d (mem_del hd9); omega) hfs1 (nsrt_del hsr 0) (fun G fk fn fe g1 g2 g3 g4 g5 g6 g7 => ⟨moS_pack hall hs g1 g2 g3 g4 (fun _ _ => rfl) (by rw [sIns_len]; first | exact hfs1 | exact fu_self _ _ _) g5 g6 (by rw [sIns_len]; omega) hlim.2 hwn, g7⟩) ((Ss s).length + 1) 0 (by omega) (by omega) G fsk fsn fse hm ha hb hc hd (hol_del hfe) (fun _ _ => rfl))
  · skip
    refine v_istore_3 C dX12_comesSaving_6 (by decide) (by first | rfl | assumption) ?_
    refine v_lconst (v := lN 1) C dX12_comesSaving_7 (by decide) ?_
    refine v_lstore_4 C dX12_comesSaving_8 (by decide) (by first | rfl | assumption) ?_
    refine v_lconst (v := lN 0) C dX12_comesSaving_10 (by decide) ?_
    refine v_lstore_6 C dX12_comesSaving_11 (by decide) (by first | rfl | assumption) ?_
    have hc9 := hn0 _ (List.mem_of_getElem? hci)
    have hdl : ((Ss s).eraseIdx i).length = (Ss s).length - 1 := List.length_eraseIdx_of_lt hil
    refine v_iload_n C dX12_comesSaving_13 rfl ?_
    first | refine v_ifn_ge C 55 dX12_comesSaving_14 (by decide) (by omega) (fun h14 => ?_) (fun h14 => by exfalso; first | omega | exact absurd h14 (by decide) | (have h9 := of_decide_eq_true h14; omega) | (have h9 := of_decide_eq_false h14; omega) | contradiction | simp_all) | refine v_if_ge C 55 dX12_comesSaving_14 (by decide) (fun h14 => ?_) (fun h14 => by exfalso; first | omega | exact absurd h14 (by decide) | (have h9 := of_decide_eq_true h14; omega) | (have h9 := of_decide_eq_false h14; omega) | contradiction | simp_all)
    refine v_iload_n C dX12_comesSaving_55 rfl ?_
    first | refine v_ifn_ge C 85 dX12_comesSaving_56 (by decide) (by omega) (fun h56 => ?_) (fun h56 => by exfalso; first | omega | exact absurd h56 (by decide) | (have h9 := of_decide_eq_true h56; omega) | (have h9 := of_decide_eq_false h56; omega) | contradiction | simp_all) | refine v_if_ge C 85 dX12_comesSaving_56 (by decide) (fun h56 => ?_) (fun h56 => by exfalso; first | omega | exact absurd h56 (by decide) | (have h9 := of_decide_eq_true h56; omega) | (have h9 := of_decide_eq_false h56; omega) | contradiction | simp_all)
    refine v_aload_n C dX12_comesSaving_85 rfl ?_
    refine gf_X12_47 C dX12_comesSaving_86 (by assumption) ?_
    refine v_iload_n C dX12_comesSaving_89 rfl ?_
    refine v_lald C dX12_comesSaving_90 (by assumption) (by omega) (by omega) (hfe i c hci).2.2 ?_
    refine v_lstore_6 C dX12_comesSaving_91 (by decide) (by first | rfl | assumption) ?_
    refine v_aload_n C dX12_comesSaving_93 rfl ?_
    refine gf_X12_44 C dX12_comesSaving_94 (by assumption) ?_
    refine v_iload_n C dX12_comesSaving_97 rfl ?_
    refine v_lald C dX12_comesSaving_98 (by assumption) (by omega) (by omega) (hfe i c hci).2.1 ?_
    refine v_lconst (v := lN 1) C dX12_comesSaving_99 (by decide) ?_
    first | refine v_laddn C dX12_comesSaving_100 ?_ | refine v_ladd C dX12_comesSaving_100 ?_
    refine v_lstore_4 C dX12_comesSaving_101 (by decide) (by first | rfl | assumption) ?_
    refine v_iload_n C dX12_comesSaving_103 rfl ?_
    refine v_istore_8 C dX12_comesSaving_104 (by decide) (by first | rfl | assumption) ?_
    have e9 : sTake lim (Ss s) x 1 = sIns ((Ss s).eraseIdx i) x (c.2.1 + 1) c.2.2 := by unfold sTake; rw [hk]; simp only []; rw [sEst_some hk hci, sErr_some hk hci]
    rw [e9]
    have hfs1 : fss s = nI (((Ss s).eraseIdx i).length + 1) := by rw [hfs]; congr 1; omega
    have hwn : cwf (sIns ((Ss s).eraseIdx i) x (c.2.1 + 1) c.2.2) P lim := cwf_ins (cwf_del hwf9) (sPb_le _ _) (by omega) hx (fun d hd9 => by rw [← hcx]; exact del_notin hfn hci d hd9)
    exact cs_loop1 C hs hx (by omega) (by omega) (fun d hd9 => by have := hn0 d (mem_del hd9); omega) hfs1 (nsrt_del hsr i) (fun G fk fn fe g1 g2 g3 g4 g5 g6 g7 => ⟨moS_pack hall hs g1 g2 g3 g4 (fun _ _ => rfl) (by rw [sIns_len]; first | exact hfs1 | exact fu_self _ _ _) g5 g6 (by rw [sIns_len]; omega) hlim.2 hwn, g7⟩) ((Ss s).length + 1) i (by omega) (by omega) G fsk fsn fse hm ha hb hc hd (hol_del hfe) (fun _ _ => rfl)

