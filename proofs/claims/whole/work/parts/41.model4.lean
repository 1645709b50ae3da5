def mStep (lim : Nat) (l : Ctr) (tk x : Nat) : Ctr × Nat := match kix l x with
  | some i => (nset l i (numOf l x + 1), tk)
  | none => if l.length < lim then (l ++ [(x, 1, 0)], tk) else (mSub l 1, tk + 1)
theorem kJ_cases {l : Ctr} {x b : Nat} {r : Int32} (h : r = kJ b (lix (ckeys l) x)) : (kix l x = none ∧ r = -1) ∨ ∃ i c, kix l x = some i ∧ r = nI (b + i) ∧ l[i]? = some c ∧ c.1 = x ∧ i < l.length := by
  rw [lix_kix] at h
  cases hk : kix l x with
  | none => rw [hk] at h; exact Or.inl ⟨rfl, h⟩
  | some i =>
    rw [hk] at h
    obtain ⟨c, h1, h2, h3⟩ := kix_some hk
    exact Or.inr ⟨i, c, rfl, h, h1, h2, h3⟩
theorem ckeys_get {l : Ctr} {i y : Nat} (h : (ckeys l)[i]? = some y) : ∃ c, l[i]? = some c ∧ c.1 = y := by
  unfold ckeys at h
  rw [List.getElem?_map] at h
  cases hc9 : l[i]? with
  | none => rw [hc9] at h; cases h
  | some c => rw [hc9] at h; cases h; exact ⟨c, rfl, rfl⟩
theorem ckeys_len (l : Ctr) : (ckeys l).length = l.length := by unfold ckeys; exact List.length_map _
theorem ckeys_app (l : Ctr) (c : Nat × Nat × Nat) : ckeys (l ++ [c]) = ckeys l ++ [c.1] := by unfold ckeys; rw [List.map_append]; rfl
theorem nodup_app {ks : List Nat} {x : Nat} (h : ks.Nodup) (hn : x ∉ ks) : (ks ++ [x]).Nodup := by
  rw [List.nodup_append]
  refine ⟨h, by simp, fun a ha b hb => ?_⟩
  rw [List.mem_singleton.mp hb]
  exact fun e9 => hn (e9 ▸ ha)

set_option maxHeartbeats 4000000 in
set_option maxRecDepth 100000 in
theorem c_Mo_comesMisra (l : Launch) (E : Ev) (z : Option Nat) {G : Gh} {P W R lim rp po : Nat} {A B : Nat → Nat} {Ms : Nat → Ctr} {T : Nat → Nat} {s x : Nat} (hs : s < 4) (hx : x < P) (hn0 : ∀ c ∈ Ms s, c.2.1 < 2 ^ 62) (hm : isMo E G P W R lim rp po A B) (hM : moM E G lim P Ms T) : K_X12_comesMisra l E z G [.ref (ga E 104), .int (nI s), .int (nI x)] (fun _ G2 => moM E G2 lim P (fu Ms s (mStep lim (Ms s) (T s) x).1) (fu T s (mStep lim (Ms s) (T s) x).2) ∧ ∀ j, (j < 110 ∨ 114 ≤ j) → G2 j = G j) := by
  refine Fc.of rfl [some (.ref (ga E 104)), some (.int (nI s)), some (.int (nI x)), none] 1 rfl (Nat.le_of_ble_eq_true rfl) ?_
  intro M hM0 hini C
  subst hM0
  obtain ⟨fa, fb, ho, h5, h6, hfa, hfb, hrg, hlim, hab⟩ := id hm
  obtain ⟨fms, fmk, ftk, fmn, ha, hb, hc, hd, hall⟩ := id hM
  obtain ⟨hfs, hft, hfe, hfl, hfk, hfn⟩ := id (hall s hs)
  refine v_aload_n C dX12_comesMisra_0 rfl ?_
  refine v_iload_n C dX12_comesMisra_1 rfl ?_
  refine v_iload_n C dX12_comesMisra_2 rfl ?_
  refine mc_X12_129 C dX12_comesMisra_3 (by assumption) (c_Mo_misraAt _ E z hs (by omega) ha hc (by rw [ckeys_len]; exact hfs) (fun i y hiy => by obtain ⟨c, h1, h2⟩ := ckeys_get hiy; rw [← h2]; exact (hfe i c h1).1) (by rw [ckeys_len]; omega) (fun y hy => by obtain ⟨c, h1, h2⟩ := List.mem_map.mp hy; rw [← h2]; have := hfk c h1; omega) hfn hm) rfl (fun r3 G3 hp3 => ?_)
  obtain ⟨hr3, rfl⟩ := hp3
  rcases kJ_cases hr3 with ⟨hk, rfl⟩ | ⟨i, c, hk, rfl, hci, hcx, hil⟩
  · skip
    refine v_istore_3 C dX12_comesMisra_6 (by decide) (by first | rfl | assumption) ?_
    refine v_iload_n C dX12_comesMisra_7 rfl ?_
    refine v_if_lt C 22 dX12_comesMisra_8 (by decide) (fun h8 => ?_) (fun h8 => by exfalso; first | omega | exact absurd h8 (by decide) | (have h9 := of_decide_eq_true h8; omega) | (have h9 := of_decide_eq_false h8; omega) | contradiction | simp_all)
    refine v_aload_n C dX12_comesMisra_22 rfl ?_
    refine gf_X12_26 C dX12_comesMisra_23 (by assumption) ?_
    refine v_iload_n C dX12_comesMisra_26 rfl ?_
    refine v_iald C dX12_comesMisra_27 (by assumption) (by omega) (by omega) hfs ?_
    refine v_aload_n C dX12_comesMisra_28 rfl ?_
    refine gf_X12_97 C dX12_comesMisra_29 (by assumption) ?_
    refine v_icmpn_ge C 80 dX12_comesMisra_32 (by decide) (by omega) (by omega) (fun h32 => ?_) (fun h32 => ?_)
    · skip
      refine v_aload_n C dX12_comesMisra_80 rfl ?_
      refine v_iload_n C dX12_comesMisra_81 rfl ?_
      refine v_lconst (v := lN 1) C dX12_comesMisra_82 (by decide) ?_
      refine mc_X12_133 C dX12_comesMisra_83 (by assumption) (c_Mo_takes _ E z hs (by decide) hn0 hm hM) rfl (fun r83 G83 hp83 => ?_)
      obtain ⟨hM83, hfr83⟩ := hp83
      refine v_vret C dX12_comesMisra_86 ?_
      have e9 : mStep lim (Ms s) (T s) x = (mSub (Ms s) 1, T s + 1) := by unfold mStep; rw [hk]; simp only []; rw [if_neg (by omega)]
      rw [e9]
      exact ⟨hM83, hfr83⟩
    · skip
      refine v_aload_n C dX12_comesMisra_35 rfl ?_
      refine gf_X12_32 C dX12_comesMisra_36 (by assumption) ?_
      refine v_bipush (v := nI 64) C dX12_comesMisra_39 (by decide) ?_
      refine v_iload_n C dX12_comesMisra_41 rfl ?_
      first | refine v_imuln C dX12_comesMisra_42 ?_ | refine v_imul C dX12_comesMisra_42 ?_
      refine v_aload_n C dX12_comesMisra_43 rfl ?_
      refine gf_X12_26 C dX12_comesMisra_44 (by assumption) ?_
      refine v_iload_n C dX12_comesMisra_47 rfl ?_
      refine v_iald C dX12_comesMisra_48 (by assumption) (by omega) (by omega) hfs ?_
      first | refine v_iaddn C dX12_comesMisra_49 ?_ | refine v_iadd C dX12_comesMisra_49 ?_
      refine v_iload_n C dX12_comesMisra_50 rfl ?_
      refine v_iast C dX12_comesMisra_51 (by assumption) (by omega) (by omega) (fun G hG51 hF51 => ?_)
      first | replace ho := (hF51 _ (by omega)).trans ho | replace ho := hG51 | skip
      first | replace h5 := (hF51 _ (by omega)).trans h5 | replace h5 := hG51 | skip
      first | replace h6 := (hF51 _ (by omega)).trans h6 | replace h6 := hG51 | skip
      first | replace ha := (hF51 _ (by omega)).trans ha | replace ha := hG51 | skip
      first | replace hb := (hF51 _ (by omega)).trans hb | replace hb := hG51 | skip
      first | replace hc := (hF51 _ (by omega)).trans hc | replace hc := hG51 | skip
      first | replace hd := (hF51 _ (by omega)).trans hd | replace hd := hG51 | skip
      refine v_aload_n C dX12_comesMisra_52 rfl ?_
      refine gf_X12_35 C dX12_comesMisra_53 (by assumption) ?_
      refine v_bipush (v := nI 64) C dX12_comesMisra_56 (by decide) ?_
      refine v_iload_n C dX12_comesMisra_58 rfl ?_
      first | refine v_imuln C dX12_comesMisra_59 ?_ | refine v_imul C dX12_comesMisra_59 ?_
      refine v_aload_n C dX12_comesMisra_60 rfl ?_
      refine gf_X12_26 C dX12_comesMisra_61 (by assumption) ?_
      refine v_iload_n C dX12_comesMisra_64 rfl ?_
      refine v_iald C dX12_comesMisra_65 (by assumption) (by omega) (by omega) hfs ?_
      first | refine v_iaddn C dX12_comesMisra_66 ?_ | refine v_iadd C dX12_comesMisra_66 ?_
      refine v_lconst (v := lN 1) C dX12_comesMisra_67 (by decide) ?_
      refine v_last C dX12_comesMisra_68 (by assumption) (by omega) (by omega) (fun G hG68 hF68 => ?_)
      first | replace ho := (hF68 _ (by omega)).trans ho | replace ho := hG68 | skip
      first | replace h5 := (hF68 _ (by omega)).trans h5 | replace h5 := hG68 | skip
      first | replace h6 := (hF68 _ (by omega)).trans h6 | replace h6 := hG68 | skip
      first | replace ha := (hF68 _ (by omega)).trans ha | replace ha := hG68 | skip
      first | replace hb := (hF68 _ (by omega)).trans hb | replace hb := hG68 | skip
      first | replace hc := (hF68 _ (by omega)).trans hc | replace hc := hG68 | skip
      first | replace hd := (hF68 _ (by omega)).trans hd | replace hd := hG68 | skip
      refine v_aload_n C dX12_comesMisra_69 rfl ?_
      refine gf_X12_26 C dX12_comesMisra_70 (by assumption) ?_
      refine v_iload_n C dX12_comesMisra_73 rfl ?_
      refine v_dup2 C dX12_comesMisra_74 rfl rfl ?_
      refine v_iald C dX12_comesMisra_75 (by assumption) (by omega) (by omega) hfs ?_
      refine v_iconst (v := nI 1) C dX12_comesMisra_76 (by decide) ?_
      first | refine v_iaddn C dX12_comesMisra_77 ?_ | refine v_iadd C dX12_comesMisra_77 ?_
      refine v_iast C dX12_comesMisra_78 (by assumption) (by omega) (by omega) (fun G hG78 hF78 => ?_)
      first | replace ho := (hF78 _ (by omega)).trans ho | replace ho := hG78 | skip
      first | replace h5 := (hF78 _ (by omega)).trans h5 | replace h5 := hG78 | skip
      first | replace h6 := (hF78 _ (by omega)).trans h6 | replace h6 := hG78 | skip
      first | replace ha := (hF78 _ (by omega)).trans ha | replace ha := hG78 | skip
      first | replace hb := (hF78 _ (by omega)).trans hb | replace hb := hG78 | skip
      first | replace hc := (hF78 _ (by omega)).trans hc | replace hc := hG78 | skip
      first | replace hd := (hF78 _ (by omega)).trans hd | replace hd := hG78 | skip
      refine v_vret C dX12_comesMisra_79 ?_
      have e9 : mStep lim (Ms s) (T s) x = (Ms s ++ [(x, 1, 0)], T s) := by unfold mStep; rw [hk]; simp only []; rw [if_pos h32]
      rw [e9]
      refine ⟨⟨_, _, ftk, _, ha, hb, hc, hd, fun q hq => ?_⟩, fun j hj => by rw [hF78 j (by omega), hF68 j (by omega), hF51 j (by omega)]⟩
      by_cases q9 : q = s
      · subst q9
        rw [fu_self, fu_self]
        refine ⟨by rw [fu_self, List.length_append]; rfl, hft, fun j d hj => ?_, by rw [List.length_append, List.length_singleton]; omega, fun d hd9 => ?_, ?_⟩
        · by_cases q8 : j = (Ms q).length
          · subst q8
            rw [List.getElem?_append_right (Nat.le_refl _), Nat.sub_self] at hj
            cases hj
            exact ⟨fu_self _ _ _, fu_self _ _ _⟩
          · have hjl := (List.getElem?_eq_some_iff.mp hj).1
            rw [List.length_append, List.length_singleton] at hjl
            rw [List.getElem?_append_left (by omega)] at hj
            rw [fu_ne _ _ (by omega), fu_ne _ _ (by omega)]
            exact hfe j d hj
        · rcases List.mem_append.mp hd9 with q7 | q7
          · exact hfk d q7
          · rw [List.mem_singleton.mp q7]; exact hx
        · rw [ckeys_app]
          refine nodup_app hfn (fun hm9 => ?_)
          obtain ⟨d2, h1, h2⟩ := List.mem_map.mp hm9
          exact kix_none hk d2 h1 h2
      · rw [fu_ne _ _ q9, fu_ne _ _ q9]
        obtain ⟨g1, g2, g3, g4, g5, g6⟩ := hall q hq
        refine ⟨by rw [fu_ne _ _ q9]; exact g1, g2, fun j d hj => ?_, g4, g5, g6⟩
        have hjl := (List.getElem?_eq_some_iff.mp hj).1
        rw [fu_ne _ _ (by omega), fu_ne _ _ (by omega)]
        exact g3 j d hj
  · skip
    refine v_istore_3 C dX12_comesMisra_6 (by decide) (by first | rfl | assumption) ?_
    refine v_iload_n C dX12_comesMisra_7 rfl ?_
    first | refine v_ifn_lt C 22 dX12_comesMisra_8 (by decide) (by omega) (fun h8 => by exfalso; first | omega | exact absurd h8 (by decide) | (have h9 := of_decide_eq_true h8; omega) | (have h9 := of_decide_eq_false h8; omega) | contradiction | simp_all) (fun h8 => ?_) | refine v_if_lt C 22 dX12_comesMisra_8 (by decide) (fun h8 => by exfalso; first | omega | exact absurd h8 (by decide) | (have h9 := of_decide_eq_true h8; omega) | (have h9 := of_decide_eq_false h8; omega) | contradiction | simp_all) (fun h8 => ?_)
    refine v_aload_n C dX12_comesMisra_11 rfl ?_
    refine gf_X12_35 C dX12_comesMisra_12 (by assumption) ?_
    refine v_iload_n C dX12_comesMisra_15 rfl ?_
    refine v_dup2 C dX12_comesMisra_16 rfl rfl ?_
    refine v_lald C dX12_comesMisra_17 (by assumption) (by omega) (by omega) (hfe i c hci).2 ?_
    refine v_lconst (v := lN 1) C dX12_comesMisra_18 (by decide) ?_
    first | refine v_laddn C dX12_comesMisra_19 ?_ | refine v_ladd C dX12_comesMisra_19 ?_
    refine v_last C dX12_comesMisra_20 (by assumption) (by omega) (by omega) (fun G hG20 hF20 => ?_)
    first | replace ho := (hF20 _ (by omega)).trans ho | replace ho := hG20 | skip
    first | replace h5 := (hF20 _ (by omega)).trans h5 | replace h5 := hG20 | skip
    first | replace h6 := (hF20 _ (by omega)).trans h6 | replace h6 := hG20 | skip
    first | replace ha := (hF20 _ (by omega)).trans ha | replace ha := hG20 | skip
    first | replace hb := (hF20 _ (by omega)).trans hb | replace hb := hG20 | skip
    first | replace hc := (hF20 _ (by omega)).trans hc | replace hc := hG20 | skip
    first | replace hd := (hF20 _ (by omega)).trans hd | replace hd := hG20 | skip
    refine v_vret C dX12_comesMisra_21 ?_
    have e9 : mStep lim (Ms s) (T s) x = (nset (Ms s) i (c.2.1 + 1), T s) := by unfold mStep; rw [hk]; simp only []; rw [numOf_some hk hci]
    rw [e9]
    refine ⟨⟨fms, fmk, ftk, _, ha, hb, hc, hd, fun q hq => ?_⟩, fun j hj => hF20 j (by omega)⟩
    by_cases q9 : q = s
    · subst q9
      rw [fu_self, fu_self]
      refine ⟨by rw [nset_len]; exact hfs, hft, fun j d hj => ?_, by rw [nset_len]; exact hfl, fun d hd9 => ?_, by rw [nset_keys]; exact hfn⟩
      · rw [nset_get] at hj
        by_cases q8 : j = i
        · subst q8
          rw [if_pos rfl, hci] at hj
          cases hj
          exact ⟨(hfe j c hci).1, fu_self _ _ _⟩
        · rw [if_neg q8] at hj
          have hjl := (List.getElem?_eq_some_iff.mp hj).1
          rw [fu_ne _ _ (by omega)]
          exact hfe j d hj
      · have hm9 : d.1 ∈ ckeys (nset (Ms q) i (c.2.1 + 1)) := List.mem_map.mpr ⟨d, hd9, rfl⟩
        rw [nset_keys] at hm9
        obtain ⟨d2, h1, h2⟩ := List.mem_map.mp hm9
        rw [← h2]; exact hfk d2 h1
    · rw [fu_ne _ _ q9, fu_ne _ _ q9]
      obtain ⟨g1, g2, g3, g4, g5, g6⟩ := hall q hq
      refine ⟨g1, g2, fun j d hj => ?_, g4, g5, g6⟩
      have hjl := (List.getElem?_eq_some_iff.mp hj).1
      rw [fu_ne _ _ (by omega)]
      exact g3 j d hj

