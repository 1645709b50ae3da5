theorem c_Md_savingAt (la : Launch) (E : Ev) (z : Option Nat) {G : Gh} {P W R lim rq po : Nat} {A B : Nat → Nat} {Y : Nat → Str} {s x : Nat} (hs : s < 4) (hx : x < 2 ^ 31) (hd : isMd E G P W R lim rq po A B Y) : K_X12_savingAt la E z G [.ref (ga E 104), .int (nI s), .int (nI x)] (fun r G2 => r = kJ (64 * s) (lix (ckeys (zS (Y s))) x) ∧ G = G2) := by
  obtain ⟨fss, fsk, fsn, fse, sa, sb, sc, sd, hallS⟩ := id hd.2.2.2.2.2.1
  obtain ⟨b1, b2, b3, b4, b5⟩ := hallS s hs
  have hlim := hd.1.hl
  exact c_Mo_savingAt _ E z hs hx sa sb (by rw [ckeys_len]; exact b1) (fun i y hiy => by obtain ⟨c, h1, h2⟩ := ckeys_get hiy; rw [← h2]; exact (b2 i c h1).1) (by rw [ckeys_len]; exact Nat.le_trans b3 hlim.2.2) (fun y hy => by obtain ⟨c, h1, h2⟩ := List.mem_map.mp hy; rw [← h2]; have := b4 c h1; omega) b5 hd.1
theorem c_Md_misraAt (la : Launch) (E : Ev) (z : Option Nat) {G : Gh} {P W R lim rq po : Nat} {A B : Nat → Nat} {Y : Nat → Str} {s x : Nat} (hs : s < 4) (hx : x < 2 ^ 31) (hd : isMd E G P W R lim rq po A B Y) : K_X12_misraAt la E z G [.ref (ga E 104), .int (nI s), .int (nI x)] (fun r G2 => r = kJ (64 * s) (lix (ckeys (zM (Y s))) x) ∧ G = G2) := by
  obtain ⟨fss, fsk, fsn, fse, sa, sb, sc, sd, hallS⟩ := id hd.2.2.2.2.1
  obtain ⟨b1, b0, b2, b3, b4, b5⟩ := hallS s hs
  have hlim := hd.1.hl
  exact c_Mo_misraAt _ E z hs hx sa sc (by rw [ckeys_len]; exact b1) (fun i y hiy => by obtain ⟨c, h1, h2⟩ := ckeys_get hiy; rw [← h2]; exact (b2 i c h1).1) (by rw [ckeys_len]; exact Nat.le_trans b3 hlim.2.2) (fun y hy => by obtain ⟨c, h1, h2⟩ := List.mem_map.mp hy; rw [← h2]; have := b4 c h1; omega) b5 hd.1
theorem c_Md_keyAt (la : Launch) (E : Ev) (z : Option Nat) {G : Gh} {P W R lim rq po : Nat} {A B : Nat → Nat} {Y : Nat → Str} {s x : Nat} (hs : s < 4) (hx : x < 2 ^ 31) (hd : isMd E G P W R lim rq po A B Y) : K_X12_keyAt la E z G [.ref (ga E 104), .int (nI s), .int (nI x)] (fun r G2 => r = kJ (300 * s) (lix (nkeys (zK (Y s))) x) ∧ G = G2) := by
  obtain ⟨fss, fsk, fsn, fse, sa, sb, sc, sd, hallS⟩ := id hd.2.2.2.2.2.2
  obtain ⟨b1, b0, b2, b3, b4, b5⟩ := hallS s hs
  have hlim := hd.1.hl
  exact c_Mo_keyAt _ E z hs hx sa sc (by rw [nkeys_len]; exact b1) (fun i y hiy => by obtain ⟨c, h1, h2⟩ := nkeys_get hiy; rw [← h2]; exact (b2 i c h1).1) (by rw [nkeys_len]; exact b3) (fun y hy => by obtain ⟨c, h1, h2⟩ := List.mem_map.mp hy; rw [← h2]; have := b4 c h1; omega) b5 hd.1
theorem pPut_none {u : Ctr} {x n e : Nat} (h : kix u x = none) : pPut u x n e = u ++ [(x, n, e)] := by unfold pPut; rw [h]
theorem pF_step {lim : Nat} {l l2 : Ctr} {k n e : Nat} {c : Nat × Nat × Nat} (h : l[k]? = some c) (hnd : (ckeys l).Nodup) (hn : n = c.2.1 + sEst lim l2 c.1) (he : e = c.2.2 + sErr lim l2 c.1) : pPut ((l.take k).map (sF lim l2)) c.1 n e = (l.take (k + 1)).map (sF lim l2) := by
  have hk : kix ((l.take k).map (sF lim l2)) c.1 = none := kix_no (fun d hd9 h9 => by
    obtain ⟨a, h1, h2⟩ := List.mem_map.mp hd9
    obtain ⟨j, hj⟩ := List.getElem?_of_mem h1
    have hjl := (List.getElem?_eq_some_iff.mp hj).1
    rw [List.length_take] at hjl
    rw [List.getElem?_take_of_lt (by omega)] at hj
    have := ckeys_inj hnd hj h (by rw [← h9, ← h2]; rfl)
    omega)
  rw [pPut_none hk, List.take_add_one, h, List.map_append, hn, he]
  rfl
theorem pG_step {lim : Nat} {l l2 : Ctr} {k n e : Nat} {c : Nat × Nat × Nat} (h : l2[k]? = some c) (hnd : (ckeys l2).Nodup) (hk : kix l c.1 = none) (hn : n = c.2.1 + sLeast lim l) (he : e = c.2.2 + sLeast lim l) : pPut (sU lim l l2 k) c.1 n e = sU lim l l2 (k + 1) := by
  have h0 : c.1 ∉ ckeys l := fun hm => by
    obtain ⟨d, h1, h2⟩ := List.mem_map.mp hm
    exact kix_none hk d h1 h2
  have h1 : kix (sU lim l l2 k) c.1 = none := kix_no (fun d hd9 h9 => h0 ((sU_key hnd h).mp ⟨d, hd9, h9⟩))
  rw [pPut_none h1, sU_step_out h h0, hn, he]
  rfl
theorem sU_in {lim : Nat} {l l2 : Ctr} {k i x : Nat} {c : Nat × Nat × Nat} (h : l2[k]? = some c) (hk : kix l x = some i) (hx : x = c.1) : sU lim l l2 (k + 1) = sU lim l l2 k := by
  subst hx
  obtain ⟨d, h1, h2, h3⟩ := kix_some hk
  exact sU_step_in h (by rw [← h2]; exact List.mem_map_of_mem (List.mem_of_getElem? h1))

set_option maxHeartbeats 4000000 in
set_option maxRecDepth 100000 in
theorem js1 {M : Mx} {E : Ev} {z : Option Nat} (C : Cx M E yX12_joinSaving.cls cX12_joinSaving 7 none 2 50 0 0) {post : Unit → Gh → Prop} {G0 : Gh} {P W R lim rq s s2 : Nat} {A B : Nat → Nat} {Y : Nat → Str} (hs : s < 4) (hs2 : s2 < 4)
    (kend : ∀ (G : Gh), isMd E G P W R lim rq ((zS (Y s)).map (sF lim (zS (Y s2)))).length A B Y → isPl E G ((zS (Y s)).map (sF lim (zS (Y s2)))) → (∀ j, j ≠ 104 ∧ (j < 124 ∨ 127 ≤ j) → G j = G0 j) → ∀ x4, lo_c x4 = true → V M E 7 (QE M E (fun _ : Unit => none) z 0 0 post) z 0 0 G 108 [some (.ref (ga E 104)), some (.int (nI s)), some (.int (nI s2)), some (.int (nI (64 * s + (zS (Y s)).length))), x4, none, none] []) :
    ∀ (u k : Nat), k ≤ (zS (Y s)).length → (zS (Y s)).length - k < u → ∀ (G : Gh), isMd E G P W R lim rq (((zS (Y s)).take k).map (sF lim (zS (Y s2)))).length A B Y → isPl E G (((zS (Y s)).take k).map (sF lim (zS (Y s2)))) → (∀ j, j ≠ 104 ∧ (j < 124 ∨ 127 ≤ j) → G j = G0 j) → ∀ x4, lo_c x4 = true → V M E 7 (QE M E (fun _ : Unit => none) z 0 0 post) z 0 0 G 10 [some (.ref (ga E 104)), some (.int (nI s)), some (.int (nI s2)), some (.int (nI (64 * s + k))), x4, none, none] [] := by
  intro u
  induction u with
  | zero => intro k _ h; omega
  | succ u ih =>
    intro k hk hu G hd hpl hfr x4 hx4
    obtain ⟨fss, fsk, fsn, fse, sa, sb, sc, sd, hallS⟩ := id hd.2.2.2.2.2.1
    replace hallS : ∀ q, q < 4 → moS1 fss fsk fsn fse lim P q (zS (Y q)) := hallS
    have hm := hd.1
    have ho := hm.rc
    have hlim := hm.hl
    obtain ⟨b1, b2, b3, b4, b5⟩ := hallS s hs
    obtain ⟨e1, e2, e3, e4, e5⟩ := hallS s2 hs2
    refine v_iload_n C dX12_joinSaving_10 rfl ?_
    refine v_bipush (v := nI 64) C dX12_joinSaving_11 (by decide) ?_
    refine v_iload_n C dX12_joinSaving_13 rfl ?_
    first | refine v_imuln C dX12_joinSaving_14 ?_ | refine v_imul C dX12_joinSaving_14 ?_
    refine v_aload_n C dX12_joinSaving_15 rfl ?_
    refine gf_X12_38 C dX12_joinSaving_16 (by assumption) ?_
    refine v_iload_n C dX12_joinSaving_19 rfl ?_
    refine v_iald C dX12_joinSaving_20 (by assumption) (by omega) (by omega) b1 ?_
    first | refine v_iaddn C dX12_joinSaving_21 ?_ | refine v_iadd C dX12_joinSaving_21 ?_
    refine v_icmpn_ge C 108 dX12_joinSaving_22 (by decide) (by omega) (by omega) (fun h22 => ?_) (fun h22 => ?_)
    · skip
      have e9 : k = (zS (Y s)).length := by omega
      subst e9
      rw [List.take_length] at hd hpl
      exact kend G hd hpl hfr x4 hx4
    · skip
      have hci : (zS (Y s))[k]? = some (zS (Y s))[k] := List.getElem?_eq_getElem (by omega)
      have hkb := b4 _ (List.mem_of_getElem? hci)
      refine v_aload_n C dX12_joinSaving_25 rfl ?_
      refine v_iload_n C dX12_joinSaving_26 rfl ?_
      refine v_aload_n C dX12_joinSaving_27 rfl ?_
      refine gf_X12_41 C dX12_joinSaving_28 (by assumption) ?_
      refine v_iload_n C dX12_joinSaving_31 rfl ?_
      refine v_iald C dX12_joinSaving_32 (by assumption) (by omega) (by omega) (b2 k _ hci).1 ?_
      refine mc_X12_137 C dX12_joinSaving_33 (hd.1.rc) (c_Md_savingAt _ E z hs2 (by omega) hd) rfl (fun r33 G33 hp33 => ?_)
      obtain ⟨hr33, rfl⟩ := hp33
      rcases kJ_cases hr33 with ⟨hk, rfl⟩ | ⟨i, c, hk, rfl, hc9, hcx, hil⟩
      · skip
        refine v_istore_4 C dX12_joinSaving_36 (by decide) (by first | rfl | assumption) ?_
        refine v_aload_n C dX12_joinSaving_38 rfl ?_
        refine v_aload_n C dX12_joinSaving_39 rfl ?_
        refine gf_X12_41 C dX12_joinSaving_40 (by assumption) ?_
        refine v_iload_n C dX12_joinSaving_43 rfl ?_
        refine v_iald C dX12_joinSaving_44 (by assumption) (by omega) (by omega) (b2 k _ hci).1 ?_
        refine v_aload_n C dX12_joinSaving_45 rfl ?_
        refine gf_X12_44 C dX12_joinSaving_46 (by assumption) ?_
        refine v_iload_n C dX12_joinSaving_49 rfl ?_
        refine v_lald C dX12_joinSaving_50 (by assumption) (by omega) (by omega) (b2 k _ hci).2.1 ?_
        refine v_iload C dX12_joinSaving_51 rfl ?_
        refine v_if_ge C 64 dX12_joinSaving_53 (by decide) (fun h53 => by exfalso; first | omega | exact absurd h53 (by decide) | (have h9 := of_decide_eq_true h53; omega) | (have h9 := of_decide_eq_false h53; omega) | contradiction | simp_all) (fun h53 => ?_)
        refine v_aload_n C dX12_joinSaving_56 rfl ?_
        refine v_iload_n C dX12_joinSaving_57 rfl ?_
        refine mc_X12_180 C dX12_joinSaving_58 (hd.1.rc) (c_Mo_least _ E z hs2 hd) rfl (fun r58 G58 hp58 => ?_)
        obtain ⟨hr58, rfl⟩ := hp58
        subst hr58
        refine v_goto C 71 dX12_joinSaving_61 (by decide) ?_
        first | refine v_laddn C dX12_joinSaving_71 ?_ | refine v_ladd C dX12_joinSaving_71 ?_
        refine v_aload_n C dX12_joinSaving_72 rfl ?_
        refine gf_X12_47 C dX12_joinSaving_73 (by assumption) ?_
        refine v_iload_n C dX12_joinSaving_76 rfl ?_
        refine v_lald C dX12_joinSaving_77 (by assumption) (by omega) (by omega) (b2 k _ hci).2.2 ?_
        refine v_iload C dX12_joinSaving_78 rfl ?_
        refine v_if_ge C 91 dX12_joinSaving_80 (by decide) (fun h80 => by exfalso; first | omega | exact absurd h80 (by decide) | (have h9 := of_decide_eq_true h80; omega) | (have h9 := of_decide_eq_false h80; omega) | contradiction | simp_all) (fun h80 => ?_)
        refine v_aload_n C dX12_joinSaving_83 rfl ?_
        refine v_iload_n C dX12_joinSaving_84 rfl ?_
        refine mc_X12_180 C dX12_joinSaving_85 (hd.1.rc) (c_Mo_least _ E z hs2 hd) rfl (fun r85 G85 hp85 => ?_)
        obtain ⟨hr85, rfl⟩ := hp85
        subst hr85
        refine v_goto C 98 dX12_joinSaving_88 (by decide) ?_
        first | refine v_laddn C dX12_joinSaving_98 ?_ | refine v_ladd C dX12_joinSaving_98 ?_
        refine mc_X12_172 C dX12_joinSaving_99 (hd.1.rc) (c_Mo_pools _ E z (by omega) (by rw [List.length_map, List.length_take]; omega) hm hpl) rfl (fun r99 G99 hp99 => ?_)
        obtain ⟨hm9, hpl9, hfr9⟩ := hp99
        rw [pF_step hci b5 (by rw [sEst_none hk]) (by rw [sErr_none hk])] at hm9 hpl9
        first | refine v_iinc_3 C dX12_joinSaving_102 (nI_1 _) (by decide) (by first | rfl | assumption) ?_ | refine v_iinc_3 C dX12_joinSaving_102 rfl (by decide) (by first | rfl | assumption) ?_
        refine v_goto C 10 dX12_joinSaving_105 (by decide) ?_
        exact ih (k + 1) (by omega) (by omega) G99 (hd.upo hm9 (fun j a b => hfr9 j (by omega))) hpl9 (fun j hj => by rw [hfr9 j (by omega)]; exact hfr j hj) _ rfl
      · skip
        refine v_istore_4 C dX12_joinSaving_36 (by decide) (by first | rfl | assumption) ?_
        refine v_aload_n C dX12_joinSaving_38 rfl ?_
        refine v_aload_n C dX12_joinSaving_39 rfl ?_
        refine gf_X12_41 C dX12_joinSaving_40 (by assumption) ?_
        refine v_iload_n C dX12_joinSaving_43 rfl ?_
        refine v_iald C dX12_joinSaving_44 (by assumption) (by omega) (by omega) (b2 k _ hci).1 ?_
        refine v_aload_n C dX12_joinSaving_45 rfl ?_
        refine gf_X12_44 C dX12_joinSaving_46 (by assumption) ?_
        refine v_iload_n C dX12_joinSaving_49 rfl ?_
        refine v_lald C dX12_joinSaving_50 (by assumption) (by omega) (by omega) (b2 k _ hci).2.1 ?_
        refine v_iload C dX12_joinSaving_51 rfl ?_
        first | refine v_ifn_ge C 64 dX12_joinSaving_53 (by decide) (by omega) (fun h53 => ?_) (fun h53 => by exfalso; first | omega | exact absurd h53 (by decide) | (have h9 := of_decide_eq_true h53; omega) | (have h9 := of_decide_eq_false h53; omega) | contradiction | simp_all) | refine v_if_ge C 64 dX12_joinSaving_53 (by decide) (fun h53 => ?_) (fun h53 => by exfalso; first | omega | exact absurd h53 (by decide) | (have h9 := of_decide_eq_true h53; omega) | (have h9 := of_decide_eq_false h53; omega) | contradiction | simp_all)
        refine v_aload_n C dX12_joinSaving_64 rfl ?_
        refine gf_X12_44 C dX12_joinSaving_65 (by assumption) ?_
        refine v_iload C dX12_joinSaving_68 rfl ?_
        refine v_lald C dX12_joinSaving_70 (by assumption) (by omega) (by omega) (e2 i c hc9).2.1 ?_
        first | refine v_laddn C dX12_joinSaving_71 ?_ | refine v_ladd C dX12_joinSaving_71 ?_
        refine v_aload_n C dX12_joinSaving_72 rfl ?_
        refine gf_X12_47 C dX12_joinSaving_73 (by assumption) ?_
        refine v_iload_n C dX12_joinSaving_76 rfl ?_
        refine v_lald C dX12_joinSaving_77 (by assumption) (by omega) (by omega) (b2 k _ hci).2.2 ?_
        refine v_iload C dX12_joinSaving_78 rfl ?_
        first | refine v_ifn_ge C 91 dX12_joinSaving_80 (by decide) (by omega) (fun h80 => ?_) (fun h80 => by exfalso; first | omega | exact absurd h80 (by decide) | (have h9 := of_decide_eq_true h80; omega) | (have h9 := of_decide_eq_false h80; omega) | contradiction | simp_all) | refine v_if_ge C 91 dX12_joinSaving_80 (by decide) (fun h80 => ?_) (fun h80 => by exfalso; first | omega | exact absurd h80 (by decide) | (have h9 := of_decide_eq_true h80; omega) | (have h9 := of_decide_eq_false h80; omega) | contradiction | simp_all)
        refine v_aload_n C dX12_joinSaving_91 rfl ?_
        refine gf_X12_47 C dX12_joinSaving_92 (by assumption) ?_
        refine v_iload C dX12_joinSaving_95 rfl ?_
        refine v_lald C dX12_joinSaving_97 (by assumption) (by omega) (by omega) (e2 i c hc9).2.2 ?_
        first | refine v_laddn C dX12_joinSaving_98 ?_ | refine v_ladd C dX12_joinSaving_98 ?_
        refine mc_X12_172 C dX12_joinSaving_99 (hd.1.rc) (c_Mo_pools _ E z (by omega) (by rw [List.length_map, List.length_take]; omega) hm hpl) rfl (fun r99 G99 hp99 => ?_)
        obtain ⟨hm9, hpl9, hfr9⟩ := hp99
        rw [pF_step hci b5 (by rw [sEst_some hk hc9]) (by rw [sErr_some hk hc9])] at hm9 hpl9
        first | refine v_iinc_3 C dX12_joinSaving_102 (nI_1 _) (by decide) (by first | rfl | assumption) ?_ | refine v_iinc_3 C dX12_joinSaving_102 rfl (by decide) (by first | rfl | assumption) ?_
        refine v_goto C 10 dX12_joinSaving_105 (by decide) ?_
        exact ih (k + 1) (by omega) (by omega) G99 (hd.upo hm9 (fun j a b => hfr9 j (by omega))) hpl9 (fun j hj => by rw [hfr9 j (by omega)]; exact hfr j hj) _ rfl
set_option maxHeartbeats 4000000 in
set_option maxRecDepth 100000 in
theorem js2 {M : Mx} {E : Ev} {z : Option Nat} (C : Cx M E yX12_joinSaving.cls cX12_joinSaving 7 none 2 50 0 0) {post : Unit → Gh → Prop} {G0 : Gh} {P W R lim rq s s2 : Nat} {A B : Nat → Nat} {Y : Nat → Str} {x4 : Option Value} (hx4 : lo_c x4 = true) (hs : s < 4) (hs2 : s2 < 4)
    (kend : ∀ (G : Gh), isMd E G P W R lim rq (sU lim (zS (Y s)) (zS (Y s2)) (zS (Y s2)).length).length A B Y → isPl E G (sU lim (zS (Y s)) (zS (Y s2)) (zS (Y s2)).length) → (∀ j, j ≠ 104 ∧ (j < 124 ∨ 127 ≤ j) → G j = G0 j) → V M E 7 (QE M E (fun _ : Unit => none) z 0 0 post) z 0 0 G 182 [some (.ref (ga E 104)), some (.int (nI s)), some (.int (nI s2)), some (.int (nI (64 * s2 + (zS (Y s2)).length))), x4, none, none] []) :
    ∀ (u k : Nat), k ≤ (zS (Y s2)).length → (zS (Y s2)).length - k < u → ∀ (G : Gh), isMd E G P W R lim rq (sU lim (zS (Y s)) (zS (Y s2)) k).length A B Y → isPl E G (sU lim (zS (Y s)) (zS (Y s2)) k) → (∀ j, j ≠ 104 ∧ (j < 124 ∨ 127 ≤ j) → G j = G0 j) → V M E 7 (QE M E (fun _ : Unit => none) z 0 0 post) z 0 0 G 113 [some (.ref (ga E 104)), some (.int (nI s)), some (.int (nI s2)), some (.int (nI (64 * s2 + k))), x4, none, none] [] := by
  intro u
  induction u with
  | zero => intro k _ h; omega
  | succ u ih =>
    intro k hk hu G hd hpl hfr
    obtain ⟨fss, fsk, fsn, fse, sa, sb, sc, sd, hallS⟩ := id hd.2.2.2.2.2.1
    replace hallS : ∀ q, q < 4 → moS1 fss fsk fsn fse lim P q (zS (Y q)) := hallS
    have hm := hd.1
    have ho := hm.rc
    have hlim := hm.hl
    obtain ⟨b1, b2, b3, b4, b5⟩ := hallS s hs
    obtain ⟨e1, e2, e3, e4, e5⟩ := hallS s2 hs2
    refine v_iload_n C dX12_joinSaving_113 rfl ?_
    refine v_bipush (v := nI 64) C dX12_joinSaving_114 (by decide) ?_
    refine v_iload_n C dX12_joinSaving_116 rfl ?_
    first | refine v_imuln C dX12_joinSaving_117 ?_ | refine v_imul C dX12_joinSaving_117 ?_
    refine v_aload_n C dX12_joinSaving_118 rfl ?_
    refine gf_X12_38 C dX12_joinSaving_119 (by assumption) ?_
    refine v_iload_n C dX12_joinSaving_122 rfl ?_
    refine v_iald C dX12_joinSaving_123 (by assumption) (by omega) (by omega) e1 ?_
    first | refine v_iaddn C dX12_joinSaving_124 ?_ | refine v_iadd C dX12_joinSaving_124 ?_
    refine v_icmpn_ge C 182 dX12_joinSaving_125 (by decide) (by omega) (by omega) (fun h125 => ?_) (fun h125 => ?_)
    · skip
      have e9 : k = (zS (Y s2)).length := by omega
      subst e9
      exact kend G hd hpl hfr
    · skip
      have hci : (zS (Y s2))[k]? = some (zS (Y s2))[k] := List.getElem?_eq_getElem (by omega)
      have hkb := e4 _ (List.mem_of_getElem? hci)
      have hlp := sU_len lim (zS (Y s)) (zS (Y s2)) k
      refine v_aload_n C dX12_joinSaving_128 rfl ?_
      refine v_iload_n C dX12_joinSaving_129 rfl ?_
      refine v_aload_n C dX12_joinSaving_130 rfl ?_
      refine gf_X12_41 C dX12_joinSaving_131 (by assumption) ?_
      refine v_iload_n C dX12_joinSaving_134 rfl ?_
      refine v_iald C dX12_joinSaving_135 (by assumption) (by omega) (by omega) (e2 k _ hci).1 ?_
      refine mc_X12_137 C dX12_joinSaving_136 (hd.1.rc) (c_Md_savingAt _ E z hs (by omega) hd) rfl (fun r136 G136 hp136 => ?_)
      obtain ⟨hr136, rfl⟩ := hp136
      rcases kJ_cases hr136 with ⟨hk9, rfl⟩ | ⟨i, c, hk9, rfl, hc9, hcx, hil⟩
      · skip
        refine v_if_ge C 176 dX12_joinSaving_139 (by decide) (fun h139 => by exfalso; first | omega | exact absurd h139 (by decide) | (have h9 := of_decide_eq_true h139; omega) | (have h9 := of_decide_eq_false h139; omega) | contradiction | simp_all) (fun h139 => ?_)
        refine v_aload_n C dX12_joinSaving_142 rfl ?_
        refine v_aload_n C dX12_joinSaving_143 rfl ?_
        refine gf_X12_41 C dX12_joinSaving_144 (by assumption) ?_
        refine v_iload_n C dX12_joinSaving_147 rfl ?_
        refine v_iald C dX12_joinSaving_148 (by assumption) (by omega) (by omega) (e2 k _ hci).1 ?_
        refine v_aload_n C dX12_joinSaving_149 rfl ?_
        refine gf_X12_44 C dX12_joinSaving_150 (by assumption) ?_
        refine v_iload_n C dX12_joinSaving_153 rfl ?_
        refine v_lald C dX12_joinSaving_154 (by assumption) (by omega) (by omega) (e2 k _ hci).2.1 ?_
        refine v_aload_n C dX12_joinSaving_155 rfl ?_
        refine v_iload_n C dX12_joinSaving_156 rfl ?_
        refine mc_X12_180 C dX12_joinSaving_157 (hd.1.rc) (c_Mo_least _ E z hs hd) rfl (fun r157 G157 hp157 => ?_)
        obtain ⟨hr157, rfl⟩ := hp157
        subst hr157
        first | refine v_laddn C dX12_joinSaving_160 ?_ | refine v_ladd C dX12_joinSaving_160 ?_
        refine v_aload_n C dX12_joinSaving_161 rfl ?_
        refine gf_X12_47 C dX12_joinSaving_162 (by assumption) ?_
        refine v_iload_n C dX12_joinSaving_165 rfl ?_
        refine v_lald C dX12_joinSaving_166 (by assumption) (by omega) (by omega) (e2 k _ hci).2.2 ?_
        refine v_aload_n C dX12_joinSaving_167 rfl ?_
        refine v_iload_n C dX12_joinSaving_168 rfl ?_
        refine mc_X12_180 C dX12_joinSaving_169 (hd.1.rc) (c_Mo_least _ E z hs hd) rfl (fun r169 G169 hp169 => ?_)
        obtain ⟨hr169, rfl⟩ := hp169
        subst hr169
        first | refine v_laddn C dX12_joinSaving_172 ?_ | refine v_ladd C dX12_joinSaving_172 ?_
        refine mc_X12_172 C dX12_joinSaving_173 (hd.1.rc) (c_Mo_pools _ E z (by omega) (by omega) hm hpl) rfl (fun r173 G173 hp173 => ?_)
        obtain ⟨hm9, hpl9, hfr9⟩ := hp173
        rw [pG_step hci e5 hk9 rfl rfl] at hm9 hpl9
        first | refine v_iinc_3 C dX12_joinSaving_176 (nI_1 _) (by decide) (by first | rfl | assumption) ?_ | refine v_iinc_3 C dX12_joinSaving_176 rfl (by decide) (by first | rfl | assumption) ?_
        refine v_goto C 113 dX12_joinSaving_179 (by decide) ?_
        exact ih (k + 1) (by omega) (by omega) G173 (hd.upo hm9 (fun j a b => hfr9 j (by omega))) hpl9 (fun j hj => by rw [hfr9 j (by omega)]; exact hfr j hj)
      · skip
        first | refine v_ifn_ge C 176 dX12_joinSaving_139 (by decide) (by omega) (fun h139 => ?_) (fun h139 => by exfalso; first | omega | exact absurd h139 (by decide) | (have h9 := of_decide_eq_true h139; omega) | (have h9 := of_decide_eq_false h139; omega) | contradiction | simp_all) | refine v_if_ge C 176 dX12_joinSaving_139 (by decide) (fun h139 => ?_) (fun h139 => by exfalso; first | omega | exact absurd h139 (by decide) | (have h9 := of_decide_eq_true h139; omega) | (have h9 := of_decide_eq_false h139; omega) | contradiction | simp_all)
        first | refine v_iinc_3 C dX12_joinSaving_176 (nI_1 _) (by decide) (by first | rfl | assumption) ?_ | refine v_iinc_3 C dX12_joinSaving_176 rfl (by decide) (by first | rfl | assumption) ?_
        refine v_goto C 113 dX12_joinSaving_179 (by decide) ?_
        rw [← sU_in hci hk9 rfl] at hd hpl
        exact ih (k + 1) (by omega) (by omega) _ hd hpl hfr
