def nkeys (l : Cnt) : List Nat := l.map (fun c => c.1)
def moC1 (fcn fcz fck : Nat → Int32) (fct : Nat → Int64) (P s : Nat) (l : Cnt) (g : Bool) : Prop := fcn s = nI l.length ∧ fcz s = bI g ∧ (∀ (i : Nat) (c : Nat × Nat), l[i]? = some c → fck (300 * s + i) = nI c.1 ∧ fct (300 * s + i) = lN c.2) ∧ l.length ≤ 300 ∧ (∀ c ∈ l, c.1 < P) ∧ (nkeys l).Nodup
def moC (E : Ev) (G : Gh) (P : Nat) (Ks : Nat → Cnt) (Gn : Nat → Bool) : Prop := ∃ (fcn fcz fck : Nat → Int32) (fct : Nat → Int64), G 118 = cI E 4 fcn ∧ G 119 = cZ E 4 fcz ∧ G 120 = cI E 1200 fck ∧ G 121 = cJ E 1200 fct ∧ ∀ s, s < 4 → moC1 fcn fcz fck fct P s (Ks s) (Gn s)
theorem moC.keep {E : Ev} {G G2 : Gh} {P : Nat} {Ks : Nat → Cnt} {Gn : Nat → Bool} (h : moC E G P Ks Gn) (hf : ∀ j, 118 ≤ j → j < 122 → G2 j = G j) : moC E G2 P Ks Gn := by
  obtain ⟨a, b, c, d, h0, h1, h2, h3, h4⟩ := h
  exact ⟨a, b, c, d, (hf _ (by omega) (by omega)).trans h0, (hf _ (by omega) (by omega)).trans h1, (hf _ (by omega) (by omega)).trans h2, (hf _ (by omega) (by omega)).trans h3, h4⟩
theorem nkeys_len (l : Cnt) : (nkeys l).length = l.length := by unfold nkeys; exact List.length_map _
theorem nkeys_app (l : Cnt) (c : Nat × Nat) : nkeys (l ++ [c]) = nkeys l ++ [c.1] := by unfold nkeys; rw [List.map_append]; rfl
theorem nkeys_get {l : Cnt} {i y : Nat} (h : (nkeys l)[i]? = some y) : ∃ c, l[i]? = some c ∧ c.1 = y := by
  unfold nkeys at h
  rw [List.getElem?_map] at h
  cases hc9 : l[i]? with
  | none => rw [hc9] at h; cases h
  | some c => rw [hc9] at h; cases h; exact ⟨c, rfl, rfl⟩
theorem nkeys_set {l : Cnt} {i v : Nat} {c : Nat × Nat} (h : l[i]? = some c) : nkeys (l.set i (c.1, v)) = nkeys l := by
  unfold nkeys
  rw [List.map_set]
  apply List.ext_getElem?
  intro j
  rw [List.getElem?_set]
  by_cases q9 : i = j
  · subst q9
    have hil := (List.getElem?_eq_some_iff.mp h).1
    rw [if_pos rfl, if_pos (by rw [List.length_map]; exact hil), List.getElem?_map, h]
    rfl
  · rw [if_neg q9]
theorem lix_some {ks : List Nat} {x i : Nat} (h : lix ks x = some i) : ks[i]? = some x ∧ i < ks.length := by
  unfold lix at h
  rw [List.findIdx?_eq_some_iff_getElem] at h
  obtain ⟨h1, h2, -⟩ := h
  exact ⟨by rw [List.getElem?_eq_getElem h1]; simpa using h2, h1⟩
theorem lix_none {ks : List Nat} {x : Nat} (h : lix ks x = none) : x ∉ ks := by
  unfold lix at h
  rw [List.findIdx?_eq_none_iff] at h
  intro hm
  have := h x hm
  simp at this
theorem nJ_cases {l : Cnt} {x b : Nat} {r : Int32} (h : r = kJ b (lix (nkeys l) x)) : (lix (nkeys l) x = none ∧ r = -1) ∨ ∃ i c, lix (nkeys l) x = some i ∧ r = nI (b + i) ∧ l[i]? = some c ∧ c.1 = x ∧ i < l.length := by
  cases hk : lix (nkeys l) x with
  | none => rw [hk] at h; exact Or.inl ⟨rfl, h⟩
  | some i =>
    rw [hk] at h
    obtain ⟨h1, h2⟩ := lix_some hk
    obtain ⟨c, h3, h4⟩ := nkeys_get h1
    rw [nkeys_len] at h2
    exact Or.inr ⟨i, c, rfl, h, h3, h4, h2⟩
def cStep (s : Cnt × Bool) (x t : Nat) : Cnt × Bool := if s.2 = true then s else match lix (nkeys s.1) x with
  | some i => (match s.1[i]? with
    | some c => (s.1.set i (c.1, c.2 + t), false)
    | none => s)
  | none => if s.1.length = 300 then (s.1, true) else (s.1 ++ [(x, t)], false)
theorem moC_pack {E : Ev} {G : Gh} {P s : Nat} {Ks : Nat → Cnt} {Gn : Nat → Bool} {l2 : Cnt} {g2 : Bool} {fcn gcn fcz gcz gk fk : Nat → Int32} {gt ft : Nat → Int64} (hall : ∀ q, q < 4 → moC1 gcn gcz gk gt P q (Ks q) (Gn q)) (hs : s < 4) (h0 : G 118 = cI E 4 fcn) (h1 : G 119 = cZ E 4 fcz) (h2 : G 120 = cI E 1200 fk) (h3 : G 121 = cJ E 1200 ft) (hss : ∀ q, q ≠ s → fcn q = gcn q ∧ fcz q = gcz q) (hoth : ∀ q, (q < 300 * s ∨ 300 * s + 300 ≤ q) → fk q = gk q ∧ ft q = gt q) (hme : moC1 fcn fcz fk ft P s l2 g2) : moC E G P (fu Ks s l2) (fu Gn s g2) := by
  refine ⟨fcn, fcz, fk, ft, h0, h1, h2, h3, fun q hq => ?_⟩
  by_cases q9 : q = s
  · subst q9
    rw [fu_self, fu_self]
    exact hme
  · rw [fu_ne _ _ q9, fu_ne _ _ q9]
    obtain ⟨g1, g2, g3, g4, g5⟩ := hall q hq
    refine ⟨by rw [(hss q q9).1]; exact g1, by rw [(hss q q9).2]; exact g2, fun i c hic => ?_, g4, g5⟩
    have hil := (List.getElem?_eq_some_iff.mp hic).1
    have hold := hoth (300 * q + i) (by omega)
    rw [hold.1, hold.2]
    exact g3 i c hic
theorem fu_same {α : Type} (f : Nat → α) (k : Nat) : fu f k (f k) = f := by
  funext j
  by_cases q9 : j = k
  · subst q9; exact fu_self _ _ _
  · exact fu_ne _ _ q9

set_option maxHeartbeats 4000000 in
set_option maxRecDepth 100000 in
theorem c_Mo_comesCounts (l : Launch) (E : Ev) (z : Option Nat) {G : Gh} {P W R lim rq po : Nat} {A B : Nat → Nat} {Ks : Nat → Cnt} {Gn : Nat → Bool} {s x n : Nat} (hs : s < 4) (hx : x < P) (hm : isMo E G P W R lim rq po A B) (hC : moC E G P Ks Gn) : K_X12_comesCounts l E z G [.ref (ga E 104), .int (nI s), .int (nI x), .long (lN n)] (fun _ G2 => moC E G2 P (fu Ks s (cStep (Ks s, Gn s) x n).1) (fu Gn s (cStep (Ks s, Gn s) x n).2) ∧ ∀ j, (j < 118 ∨ 122 ≤ j) → G2 j = G j) := by
  refine Fc.of rfl [some (.ref (ga E 104)), some (.int (nI s)), some (.int (nI x)), some (.long (lN n)), none, none] 1 rfl (Nat.le_of_ble_eq_true rfl) ?_
  intro M hM0 hini C
  subst hM0
  obtain ⟨fa, fb, ho, k5, k6, hfa, hfb, hrg, hlim, hab⟩ := id hm
  obtain ⟨fcn, fcz, fck, fct, ha, hb, hc, hd, hall⟩ := id hC
  obtain ⟨hfs, hfz, hfe, hfl, hfk, hfn⟩ := id (hall s hs)
  refine v_aload_n C dX12_comesCounts_0 rfl ?_
  refine gf_X12_53 C dX12_comesCounts_1 (by assumption) ?_
  refine v_iload_n C dX12_comesCounts_4 rfl ?_
  refine v_zald C dX12_comesCounts_5 (by assumption) (by omega) (by omega) hfz ?_
  first | refine v_ifb_eq C 10 dX12_comesCounts_6 (by decide) (fun h6 => ?_) (fun h6 => ?_) | refine v_ifn_eq C 10 dX12_comesCounts_6 (by decide) (by omega) (fun h6 => ?_) (fun h6 => ?_) | refine v_if_eq C 10 dX12_comesCounts_6 (by decide) (fun h6 => ?_) (fun h6 => ?_)
  · skip
    refine v_aload_n C dX12_comesCounts_10 rfl ?_
    refine v_iload_n C dX12_comesCounts_11 rfl ?_
    refine v_iload_n C dX12_comesCounts_12 rfl ?_
    refine mc_X12_143 C dX12_comesCounts_13 (by assumption) (c_Mo_keyAt _ E z hs (by omega) ha hc (by rw [nkeys_len]; exact hfs) (fun i y hiy => by obtain ⟨c, h1, h2⟩ := nkeys_get hiy; rw [← h2]; exact (hfe i c h1).1) (by rw [nkeys_len]; omega) (fun y hy => by obtain ⟨c, h1, h2⟩ := List.mem_map.mp hy; rw [← h2]; have := hfk c h1; omega) hfn hm) rfl (fun r13 G13 hp13 => ?_)
    obtain ⟨hr13, rfl⟩ := hp13
    rcases nJ_cases hr13 with ⟨hk, rfl⟩ | ⟨i, c, hk, rfl, hci, hcx, hil⟩
    · skip
      refine v_istore_5 C dX12_comesCounts_16 (by decide) (by first | rfl | assumption) ?_
      refine v_iload C dX12_comesCounts_18 rfl ?_
      refine v_if_lt C 37 dX12_comesCounts_20 (by decide) (fun h20 => ?_) (fun h20 => by exfalso; first | omega | exact absurd h20 (by decide) | (have h9 := of_decide_eq_true h20; omega) | (have h9 := of_decide_eq_false h20; omega) | contradiction | simp_all)
      refine v_aload_n C dX12_comesCounts_37 rfl ?_
      refine gf_X12_50 C dX12_comesCounts_38 (by assumption) ?_
      refine v_iload_n C dX12_comesCounts_41 rfl ?_
      refine v_iald C dX12_comesCounts_42 (by assumption) (by omega) (by omega) hfs ?_
      refine v_sipush (v := nI 300) C dX12_comesCounts_43 (by decide) ?_
      refine v_icmpn_ne C 59 dX12_comesCounts_46 (by decide) (by omega) (by omega) (fun h46 => ?_) (fun h46 => ?_)
      · skip
        refine v_aload_n C dX12_comesCounts_59 rfl ?_
        refine gf_X12_57 C dX12_comesCounts_60 (by assumption) ?_
        refine v_sipush (v := nI 300) C dX12_comesCounts_63 (by decide) ?_
        refine v_iload_n C dX12_comesCounts_66 rfl ?_
        first | refine v_imuln C dX12_comesCounts_67 ?_ | refine v_imul C dX12_comesCounts_67 ?_
        refine v_aload_n C dX12_comesCounts_68 rfl ?_
        refine gf_X12_50 C dX12_comesCounts_69 (by assumption) ?_
        refine v_iload_n C dX12_comesCounts_72 rfl ?_
        refine v_iald C dX12_comesCounts_73 (by assumption) (by omega) (by omega) hfs ?_
        first | refine v_iaddn C dX12_comesCounts_74 ?_ | refine v_iadd C dX12_comesCounts_74 ?_
        refine v_iload_n C dX12_comesCounts_75 rfl ?_
        refine v_iast C dX12_comesCounts_76 (by assumption) (by omega) (by omega) (fun G hG76 hF76 => ?_)
        first | replace ho := (hF76 _ (by omega)).trans ho | replace ho := hG76 | skip
        first | replace k5 := (hF76 _ (by omega)).trans k5 | replace k5 := hG76 | skip
        first | replace k6 := (hF76 _ (by omega)).trans k6 | replace k6 := hG76 | skip
        first | replace ha := (hF76 _ (by omega)).trans ha | replace ha := hG76 | skip
        first | replace hb := (hF76 _ (by omega)).trans hb | replace hb := hG76 | skip
        first | replace hc := (hF76 _ (by omega)).trans hc | replace hc := hG76 | skip
        first | replace hd := (hF76 _ (by omega)).trans hd | replace hd := hG76 | skip
        refine v_aload_n C dX12_comesCounts_77 rfl ?_
        refine gf_X12_60 C dX12_comesCounts_78 (by assumption) ?_
        refine v_sipush (v := nI 300) C dX12_comesCounts_81 (by decide) ?_
        refine v_iload_n C dX12_comesCounts_84 rfl ?_
        first | refine v_imuln C dX12_comesCounts_85 ?_ | refine v_imul C dX12_comesCounts_85 ?_
        refine v_aload_n C dX12_comesCounts_86 rfl ?_
        refine gf_X12_50 C dX12_comesCounts_87 (by assumption) ?_
        refine v_iload_n C dX12_comesCounts_90 rfl ?_
        refine v_iald C dX12_comesCounts_91 (by assumption) (by omega) (by omega) hfs ?_
        first | refine v_iaddn C dX12_comesCounts_92 ?_ | refine v_iadd C dX12_comesCounts_92 ?_
        refine v_lload_n C dX12_comesCounts_93 rfl ?_
        refine v_last C dX12_comesCounts_94 (by assumption) (by omega) (by omega) (fun G hG94 hF94 => ?_)
        first | replace ho := (hF94 _ (by omega)).trans ho | replace ho := hG94 | skip
        first | replace k5 := (hF94 _ (by omega)).trans k5 | replace k5 := hG94 | skip
        first | replace k6 := (hF94 _ (by omega)).trans k6 | replace k6 := hG94 | skip
        first | replace ha := (hF94 _ (by omega)).trans ha | replace ha := hG94 | skip
        first | replace hb := (hF94 _ (by omega)).trans hb | replace hb := hG94 | skip
        first | replace hc := (hF94 _ (by omega)).trans hc | replace hc := hG94 | skip
        first | replace hd := (hF94 _ (by omega)).trans hd | replace hd := hG94 | skip
        refine v_aload_n C dX12_comesCounts_95 rfl ?_
        refine gf_X12_50 C dX12_comesCounts_96 (by assumption) ?_
        refine v_iload_n C dX12_comesCounts_99 rfl ?_
        refine v_dup2 C dX12_comesCounts_100 rfl rfl ?_
        refine v_iald C dX12_comesCounts_101 (by assumption) (by omega) (by omega) hfs ?_
        refine v_iconst (v := nI 1) C dX12_comesCounts_102 (by decide) ?_
        first | refine v_iaddn C dX12_comesCounts_103 ?_ | refine v_iadd C dX12_comesCounts_103 ?_
        refine v_iast C dX12_comesCounts_104 (by assumption) (by omega) (by omega) (fun G hG104 hF104 => ?_)
        first | replace ho := (hF104 _ (by omega)).trans ho | replace ho := hG104 | skip
        first | replace k5 := (hF104 _ (by omega)).trans k5 | replace k5 := hG104 | skip
        first | replace k6 := (hF104 _ (by omega)).trans k6 | replace k6 := hG104 | skip
        first | replace ha := (hF104 _ (by omega)).trans ha | replace ha := hG104 | skip
        first | replace hb := (hF104 _ (by omega)).trans hb | replace hb := hG104 | skip
        first | replace hc := (hF104 _ (by omega)).trans hc | replace hc := hG104 | skip
        first | replace hd := (hF104 _ (by omega)).trans hd | replace hd := hG104 | skip
        refine v_vret C dX12_comesCounts_105 ?_
        first
          | (have e9 : cStep (Ks s, Gn s) x n = (Ks s, true) := by unfold cStep; rw [if_neg (by simp [h6]), hk]; simp only []; rw [if_pos h46]
             rw [e9]
             exact ⟨moC_pack hall hs ha hb hc hd (fun q hq => ⟨rfl, fu_ne _ _ hq⟩) (fun q hq => ⟨rfl, rfl⟩) ⟨hfs, fu_self _ _ _, hfe, hfl, hfk, hfn⟩, fun j hj => hF55 j (by omega)⟩)
          | (have e9 : cStep (Ks s, Gn s) x n = (Ks s ++ [(x, n)], false) := by unfold cStep; rw [if_neg (by simp [h6]), hk]; simp only []; rw [if_neg h46]
             rw [e9]
             refine ⟨moC_pack hall hs ha hb hc hd (fun q hq => ⟨fu_ne _ _ hq, rfl⟩) (fun q hq => ⟨fu_ne _ _ (by omega), fu_ne _ _ (by omega)⟩) ⟨by rw [fu_self, List.length_append]; rfl, by rw [hfz, h6], fun j d hj => ?_, by rw [List.length_append, List.length_singleton]; omega, fun d hd9 => ?_, ?_⟩, fun j hj => by rw [hF104 j (by omega), hF94 j (by omega), hF76 j (by omega)]⟩
             · by_cases q8 : j = (Ks s).length
               · subst q8
                 rw [List.getElem?_append_right (Nat.le_refl _), Nat.sub_self] at hj
                 cases hj
                 exact ⟨fu_self _ _ _, fu_self _ _ _⟩
               · have hjl := (List.getElem?_eq_some_iff.mp hj).1
                 rw [List.length_append, List.length_singleton] at hjl
                 rw [List.getElem?_append_left (by omega)] at hj
                 rw [fu_ne _ _ (by omega), fu_ne _ _ (by omega)]
                 exact hfe j d hj
             · rcases List.mem_append.mp hd9 with q7 | q7
               · exact hfk d q7
               · rw [List.mem_singleton.mp q7]; exact hx
             · rw [nkeys_app]
               exact nodup_app hfn (lix_none hk))
      · skip
        refine v_aload_n C dX12_comesCounts_49 rfl ?_
        refine gf_X12_53 C dX12_comesCounts_50 (by assumption) ?_
        refine v_iload_n C dX12_comesCounts_53 rfl ?_
        refine v_iconst (v := nI 1) C dX12_comesCounts_54 (by decide) ?_
        refine v_zast C dX12_comesCounts_55 (by assumption) (by omega) (by omega) (by first | exact Or.inl rfl | exact Or.inr rfl) (fun G hG55 hF55 => ?_)
        first | replace ho := (hF55 _ (by omega)).trans ho | replace ho := hG55 | skip
        first | replace k5 := (hF55 _ (by omega)).trans k5 | replace k5 := hG55 | skip
        first | replace k6 := (hF55 _ (by omega)).trans k6 | replace k6 := hG55 | skip
        first | replace ha := (hF55 _ (by omega)).trans ha | replace ha := hG55 | skip
        first | replace hb := (hF55 _ (by omega)).trans hb | replace hb := hG55 | skip
        first | replace hc := (hF55 _ (by omega)).trans hc | replace hc := hG55 | skip
        first | replace hd := (hF55 _ (by omega)).trans hd | replace hd := hG55 | skip
        refine v_goto C 105 dX12_comesCounts_56 (by decide) ?_
        refine v_vret C dX12_comesCounts_105 ?_
        first
          | (have e9 : cStep (Ks s, Gn s) x n = (Ks s, true) := by unfold cStep; rw [if_neg (by simp [h6]), hk]; simp only []; rw [if_pos h46]
             rw [e9]
             exact ⟨moC_pack hall hs ha hb hc hd (fun q hq => ⟨rfl, fu_ne _ _ hq⟩) (fun q hq => ⟨rfl, rfl⟩) ⟨hfs, fu_self _ _ _, hfe, hfl, hfk, hfn⟩, fun j hj => hF55 j (by omega)⟩)
          | (have e9 : cStep (Ks s, Gn s) x n = (Ks s ++ [(x, n)], false) := by unfold cStep; rw [if_neg (by simp [h6]), hk]; simp only []; rw [if_neg h46]
             rw [e9]
             refine ⟨moC_pack hall hs ha hb hc hd (fun q hq => ⟨fu_ne _ _ hq, rfl⟩) (fun q hq => ⟨fu_ne _ _ (by omega), fu_ne _ _ (by omega)⟩) ⟨by rw [fu_self, List.length_append]; rfl, by rw [hfz, h6], fun j d hj => ?_, by rw [List.length_append, List.length_singleton]; omega, fun d hd9 => ?_, ?_⟩, fun j hj => by rw [hF104 j (by omega), hF94 j (by omega), hF76 j (by omega)]⟩
             · by_cases q8 : j = (Ks s).length
               · subst q8
                 rw [List.getElem?_append_right (Nat.le_refl _), Nat.sub_self] at hj
                 cases hj
                 exact ⟨fu_self _ _ _, fu_self _ _ _⟩
               · have hjl := (List.getElem?_eq_some_iff.mp hj).1
                 rw [List.length_append, List.length_singleton] at hjl
                 rw [List.getElem?_append_left (by omega)] at hj
                 rw [fu_ne _ _ (by omega), fu_ne _ _ (by omega)]
                 exact hfe j d hj
             · rcases List.mem_append.mp hd9 with q7 | q7
               · exact hfk d q7
               · rw [List.mem_singleton.mp q7]; exact hx
             · rw [nkeys_app]
               exact nodup_app hfn (lix_none hk))
    · skip
      refine v_istore_5 C dX12_comesCounts_16 (by decide) (by first | rfl | assumption) ?_
      refine v_iload C dX12_comesCounts_18 rfl ?_
      first | refine v_ifn_lt C 37 dX12_comesCounts_20 (by decide) (by omega) (fun h20 => by exfalso; first | omega | exact absurd h20 (by decide) | (have h9 := of_decide_eq_true h20; omega) | (have h9 := of_decide_eq_false h20; omega) | contradiction | simp_all) (fun h20 => ?_) | refine v_if_lt C 37 dX12_comesCounts_20 (by decide) (fun h20 => by exfalso; first | omega | exact absurd h20 (by decide) | (have h9 := of_decide_eq_true h20; omega) | (have h9 := of_decide_eq_false h20; omega) | contradiction | simp_all) (fun h20 => ?_)
      refine v_aload_n C dX12_comesCounts_23 rfl ?_
      refine gf_X12_60 C dX12_comesCounts_24 (by assumption) ?_
      refine v_iload C dX12_comesCounts_27 rfl ?_
      refine v_dup2 C dX12_comesCounts_29 rfl rfl ?_
      refine v_lald C dX12_comesCounts_30 (by assumption) (by omega) (by omega) (hfe i c hci).2 ?_
      refine v_lload_n C dX12_comesCounts_31 rfl ?_
      first | refine v_laddn C dX12_comesCounts_32 ?_ | refine v_ladd C dX12_comesCounts_32 ?_
      refine v_last C dX12_comesCounts_33 (by assumption) (by omega) (by omega) (fun G hG33 hF33 => ?_)
      first | replace ho := (hF33 _ (by omega)).trans ho | replace ho := hG33 | skip
      first | replace k5 := (hF33 _ (by omega)).trans k5 | replace k5 := hG33 | skip
      first | replace k6 := (hF33 _ (by omega)).trans k6 | replace k6 := hG33 | skip
      first | replace ha := (hF33 _ (by omega)).trans ha | replace ha := hG33 | skip
      first | replace hb := (hF33 _ (by omega)).trans hb | replace hb := hG33 | skip
      first | replace hc := (hF33 _ (by omega)).trans hc | replace hc := hG33 | skip
      first | replace hd := (hF33 _ (by omega)).trans hd | replace hd := hG33 | skip
      refine v_goto C 105 dX12_comesCounts_34 (by decide) ?_
      refine v_vret C dX12_comesCounts_105 ?_
      have e9 : cStep (Ks s, Gn s) x n = ((Ks s).set i (c.1, c.2 + n), false) := by unfold cStep; rw [if_neg (by simp [h6]), hk]; simp only []; rw [hci]
      rw [e9]
      refine ⟨moC_pack hall hs ha hb hc hd (fun _ _ => ⟨rfl, rfl⟩) (fun q hq => ⟨rfl, fu_ne _ _ (by omega)⟩) ⟨by rw [List.length_set]; exact hfs, by rw [hfz, h6], fun j d hj => ?_, by rw [List.length_set]; exact hfl, fun d hd9 => ?_, by rw [nkeys_set hci]; exact hfn⟩, fun j hj => hF33 j (by omega)⟩
      · by_cases q8 : j = i
        · subst q8
          rw [List.getElem?_set_self hil] at hj
          cases hj
          exact ⟨(hfe j c hci).1, fu_self _ _ _⟩
        · rw [List.getElem?_set_ne (Ne.symm q8)] at hj
          rw [fu_ne _ _ (by omega)]
          exact hfe j d hj
      · rcases List.mem_or_eq_of_mem_set hd9 with q7 | q7
        · exact hfk d q7
        · rw [q7]; exact hfk c (List.mem_of_getElem? hci)
  · skip
    refine v_vret C dX12_comesCounts_9 ?_
    have e9 : cStep (Ks s, Gn s) x n = (Ks s, Gn s) := by unfold cStep; rw [if_pos h6]
    rw [e9]
    refine ⟨?_, fun _ _ => rfl⟩
    rw [fu_same, fu_same]
    exact hC

