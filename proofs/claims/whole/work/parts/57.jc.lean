def cC (l : Cnt) : Ctr := l.map (fun c => (c.1, c.2, 0))
def cD (l : Ctr) : Cnt := l.map (fun c => (c.1, c.2.1))
theorem cC_len (l : Cnt) : (cC l).length = l.length := List.length_map _
theorem cC_keys (l : Cnt) : ckeys (cC l) = nkeys l := by unfold ckeys cC nkeys; rw [List.map_map]; rfl
theorem cD_keys (l : Ctr) : nkeys (cD l) = ckeys l := by unfold ckeys cD nkeys; rw [List.map_map]; rfl
theorem cC_get {l : Cnt} {i : Nat} {c : Nat × Nat} (h : l[i]? = some c) : (cC l)[i]? = some (c.1, c.2, 0) := by unfold cC; rw [List.getElem?_map, h]; rfl
theorem cD_get {l : Ctr} {i : Nat} {d : Nat × Nat} (h : (cD l)[i]? = some d) : ∃ c, l[i]? = some c ∧ d = (c.1, c.2.1) := by
  unfold cD at h
  rw [List.getElem?_map] at h
  cases hc9 : l[i]? with
  | none => rw [hc9] at h; cases h
  | some c => rw [hc9] at h; cases h; exact ⟨c, rfl, rfl⟩
theorem cC_mem {l : Cnt} {d : Nat × Nat × Nat} (h : d ∈ cC l) : ∃ c ∈ l, d = (c.1, c.2, 0) := by
  obtain ⟨c, h1, h2⟩ := List.mem_map.mp h
  exact ⟨c, h1, h2.symm⟩
theorem cC_self {l : Cnt} (h : (nkeys l).Nodup) : mAdd [] (cC l) = cC l := mAdd_nil (cC l) [] (by rw [List.nil_append, cC_keys]; exact h) (fun c hc9 => by obtain ⟨d, q1, q2⟩ := cC_mem hc9; rw [q2])
def yK (l : Cnt) (g : Bool) (l2 : Cnt) (g2 : Bool) : Cnt × Bool := if g = true ∨ g2 = true then (l, true) else if 300 < (mAdd (cC l) (cC l2)).length then (l, true) else (cD (mAdd (cC l) (cC l2)), false)
def setK (S : Str) (p : Cnt × Bool) : Str := (zN S, zP S, zC S, zM S, zT S, zS S, p.1, p.2)
theorem isMd_setK {E : Ev} {G G2 : Gh} {P W R lim rq po po2 : Nat} {A B : Nat → Nat} {Y : Nat → Str} {s : Nat} {p : Cnt × Bool} (h : isMd E G P W R lim rq po A B Y) (h0 : isMo E G2 P W R lim rq po2 A B) (hK : moC E G2 P (fu (fun q => zK (Y q)) s p.1) (fu (fun q => zG (Y q)) s p.2)) (hf : ∀ j, 107 ≤ j → j < 118 → G2 j = G j) : isMd E G2 P W R lim rq po2 A B (fu Y s (setK (Y s) p)) := by
  obtain ⟨-, h1, h2, h3, h4, h5, h6⟩ := h
  have f1 : ∀ {α : Type} (g : Str → α), g (setK (Y s) p) = g (Y s) → (fun q => g (fu Y s (setK (Y s) p) q)) = fun q => g (Y q) := by
    intro α g hg
    rw [fu_map, hg, fu_same (fun q => g (Y q))]
  unfold isMd
  rw [f1 zN rfl, f1 zP rfl, f1 zC rfl, f1 zM rfl, f1 zT rfl, f1 zS rfl, fu_map zK, fu_map zG]
  exact ⟨h0, h1.keep (hf _ (by omega) (by omega)), h2.keep (hf _ (by omega) (by omega)), h3.keep (hf _ (by omega) (by omega)), h4.keep (fun j a b => hf j (by omega) (by omega)), h5.keep (fun j a b => hf j (by omega) (by omega)), hK⟩

set_option maxHeartbeats 4000000 in
set_option maxRecDepth 100000 in
theorem mjc1 {M : Mx} {E : Ev} {z : Option Nat} (C : Cx M E yX12_joinCounts.cls cX12_joinCounts 4 none 2 49 0 0) {post : Unit → Gh → Prop} {G0 : Gh} {P W R lim rq s s2 : Nat} {A B : Nat → Nat} {Y : Nat → Str} {l0 : Ctr} (hs : s < 4) (hs2 : s2 < 4) (hl0 : l0.length ≤ 300)
    (kend : ∀ (G : Gh), isMd E G P W R lim rq (mAdd l0 (cC (zK (Y s)))).length A B Y → isPl E G (mAdd l0 (cC (zK (Y s)))) → (∀ j, j ≠ 104 ∧ (j < 124 ∨ 127 ≤ j) → G j = G0 j) → V M E 4 (QE M E (fun _ : Unit => none) z 0 0 post) z 0 0 G 76 [some (.ref (ga E 104)), some (.int (nI s)), some (.int (nI s2)), some (.int (nI (300 * s + (zK (Y s)).length)))] []) :
    ∀ (u k : Nat), k ≤ (cC (zK (Y s))).length → (cC (zK (Y s))).length - k < u → ∀ (G : Gh), isMd E G P W R lim rq (mAdd l0 ((cC (zK (Y s))).take k)).length A B Y → isPl E G (mAdd l0 ((cC (zK (Y s))).take k)) → (∀ j, j ≠ 104 ∧ (j < 124 ∨ 127 ≤ j) → G j = G0 j) → V M E 4 (QE M E (fun _ : Unit => none) z 0 0 post) z 0 0 G 37 [some (.ref (ga E 104)), some (.int (nI s)), some (.int (nI s2)), some (.int (nI (300 * s + k)))] [] := by
  intro u
  induction u with
  | zero => intro k _ h; omega
  | succ u ih =>
    intro k hk hu G hd hpl hfr
    obtain ⟨fcn, fcz, fck, fct, ca, cb, cc, cd, hallC⟩ := id hd.2.2.2.2.2.2
    replace hallC : ∀ q, q < 4 → moC1 fcn fcz fck fct P q (zK (Y q)) (zG (Y q)) := hallC
    have hm := hd.1
    have ho := hm.rc
    have hlim := hm.hl
    obtain ⟨a1, a2, a3, a4, a5, a6⟩ := hallC s hs
    rw [cC_len] at hk hu
    refine v_iload_n C dX12_joinCounts_37 rfl ?_
    refine v_sipush (v := nI 300) C dX12_joinCounts_38 (by decide) ?_
    refine v_iload_n C dX12_joinCounts_41 rfl ?_
    first | refine v_imuln C dX12_joinCounts_42 ?_ | refine v_imul C dX12_joinCounts_42 ?_
    refine v_aload_n C dX12_joinCounts_43 rfl ?_
    refine gf_X12_50 C dX12_joinCounts_44 (by assumption) ?_
    refine v_iload_n C dX12_joinCounts_47 rfl ?_
    refine v_iald C dX12_joinCounts_48 (by assumption) (by omega) (by omega) a1 ?_
    first | refine v_iaddn C dX12_joinCounts_49 ?_ | refine v_iadd C dX12_joinCounts_49 ?_
    refine v_icmpn_ge C 76 dX12_joinCounts_50 (by decide) (by omega) (by omega) (fun h50 => ?_) (fun h50 => ?_)
    · skip
      have e9 : k = (cC (zK (Y s))).length := by rw [cC_len]; omega
      rw [e9, List.take_length] at hd hpl
      rw [cC_len] at e9
      rw [e9]
      exact kend G hd hpl hfr
    · skip
      have hci : (zK (Y s))[k]? = some (zK (Y s))[k] := List.getElem?_eq_getElem (by omega)
      have hkb := a5 _ (List.mem_of_getElem? hci)
      have hlp := mAdd_len (l := l0) ((cC (zK (Y s))).take k)
      rw [List.length_take] at hlp
      refine v_aload_n C dX12_joinCounts_53 rfl ?_
      refine v_aload_n C dX12_joinCounts_54 rfl ?_
      refine gf_X12_57 C dX12_joinCounts_55 (by assumption) ?_
      refine v_iload_n C dX12_joinCounts_58 rfl ?_
      refine v_iald C dX12_joinCounts_59 (by assumption) (by omega) (by omega) (a3 k _ hci).1 ?_
      refine v_aload_n C dX12_joinCounts_60 rfl ?_
      refine gf_X12_60 C dX12_joinCounts_61 (by assumption) ?_
      refine v_iload_n C dX12_joinCounts_64 rfl ?_
      refine v_lald C dX12_joinCounts_65 (by assumption) (by omega) (by omega) (a3 k _ hci).2 ?_
      refine v_lconst (v := lN 0) C dX12_joinCounts_66 (by decide) ?_
      refine mc_X12_172 C dX12_joinCounts_67 (by assumption) (c_Mo_pools _ E z (e9e := 0) (by omega) (by omega) hm hpl) rfl (fun r67 G67 hp67 => ?_)
      obtain ⟨hm9, hpl9, hfr9⟩ := hp67
      have e8 := pPut_mAdd1 (mAdd l0 ((cC (zK (Y s))).take k)) ((zK (Y s))[k].1, (zK (Y s))[k].2, 0)
      simp only [] at e8
      rw [e8, ← mAdd_step (cC_get hci)] at hm9 hpl9
      first | refine v_iinc_3 C dX12_joinCounts_70 (nI_1 _) (by decide) (by first | rfl | assumption) ?_ | refine v_iinc_3 C dX12_joinCounts_70 rfl (by decide) (by first | rfl | assumption) ?_
      refine v_goto C 37 dX12_joinCounts_73 (by decide) ?_
      exact ih (k + 1) (by rw [cC_len]; omega) (by rw [cC_len]; omega) G67 (hd.upo hm9 (fun j a b => hfr9 j (by omega))) hpl9 (fun j hj => by rw [hfr9 j (by omega)]; exact hfr j hj)
set_option maxHeartbeats 4000000 in
set_option maxRecDepth 100000 in
theorem mjc2 {M : Mx} {E : Ev} {z : Option Nat} (C : Cx M E yX12_joinCounts.cls cX12_joinCounts 4 none 2 49 0 0) {post : Unit → Gh → Prop} {G0 : Gh} {P W R lim rq s s2 : Nat} {A B : Nat → Nat} {Y : Nat → Str} {l0 : Ctr} (hs : s < 4) (hs2 : s2 < 4) (hl0 : l0.length ≤ 300)
    (kend : ∀ (G : Gh), isMd E G P W R lim rq (mAdd l0 (cC (zK (Y s2)))).length A B Y → isPl E G (mAdd l0 (cC (zK (Y s2)))) → (∀ j, j ≠ 104 ∧ (j < 124 ∨ 127 ≤ j) → G j = G0 j) → V M E 4 (QE M E (fun _ : Unit => none) z 0 0 post) z 0 0 G 121 [some (.ref (ga E 104)), some (.int (nI s)), some (.int (nI s2)), some (.int (nI (300 * s2 + (zK (Y s2)).length)))] []) :
    ∀ (u k : Nat), k ≤ (cC (zK (Y s2))).length → (cC (zK (Y s2))).length - k < u → ∀ (G : Gh), isMd E G P W R lim rq (mAdd l0 ((cC (zK (Y s2))).take k)).length A B Y → isPl E G (mAdd l0 ((cC (zK (Y s2))).take k)) → (∀ j, j ≠ 104 ∧ (j < 124 ∨ 127 ≤ j) → G j = G0 j) → V M E 4 (QE M E (fun _ : Unit => none) z 0 0 post) z 0 0 G 82 [some (.ref (ga E 104)), some (.int (nI s)), some (.int (nI s2)), some (.int (nI (300 * s2 + k)))] [] := by
  intro u
  induction u with
  | zero => intro k _ h; omega
  | succ u ih =>
    intro k hk hu G hd hpl hfr
    obtain ⟨fcn, fcz, fck, fct, ca, cb, cc, cd, hallC⟩ := id hd.2.2.2.2.2.2
    replace hallC : ∀ q, q < 4 → moC1 fcn fcz fck fct P q (zK (Y q)) (zG (Y q)) := hallC
    have hm := hd.1
    have ho := hm.rc
    have hlim := hm.hl
    obtain ⟨a1, a2, a3, a4, a5, a6⟩ := hallC s2 hs2
    rw [cC_len] at hk hu
    refine v_iload_n C dX12_joinCounts_82 rfl ?_
    refine v_sipush (v := nI 300) C dX12_joinCounts_83 (by decide) ?_
    refine v_iload_n C dX12_joinCounts_86 rfl ?_
    first | refine v_imuln C dX12_joinCounts_87 ?_ | refine v_imul C dX12_joinCounts_87 ?_
    refine v_aload_n C dX12_joinCounts_88 rfl ?_
    refine gf_X12_50 C dX12_joinCounts_89 (by assumption) ?_
    refine v_iload_n C dX12_joinCounts_92 rfl ?_
    refine v_iald C dX12_joinCounts_93 (by assumption) (by omega) (by omega) a1 ?_
    first | refine v_iaddn C dX12_joinCounts_94 ?_ | refine v_iadd C dX12_joinCounts_94 ?_
    refine v_icmpn_ge C 121 dX12_joinCounts_95 (by decide) (by omega) (by omega) (fun h95 => ?_) (fun h95 => ?_)
    · skip
      have e9 : k = (cC (zK (Y s2))).length := by rw [cC_len]; omega
      rw [e9, List.take_length] at hd hpl
      rw [cC_len] at e9
      rw [e9]
      exact kend G hd hpl hfr
    · skip
      have hci : (zK (Y s2))[k]? = some (zK (Y s2))[k] := List.getElem?_eq_getElem (by omega)
      have hkb := a5 _ (List.mem_of_getElem? hci)
      have hlp := mAdd_len (l := l0) ((cC (zK (Y s2))).take k)
      rw [List.length_take] at hlp
      refine v_aload_n C dX12_joinCounts_98 rfl ?_
      refine v_aload_n C dX12_joinCounts_99 rfl ?_
      refine gf_X12_57 C dX12_joinCounts_100 (by assumption) ?_
      refine v_iload_n C dX12_joinCounts_103 rfl ?_
      refine v_iald C dX12_joinCounts_104 (by assumption) (by omega) (by omega) (a3 k _ hci).1 ?_
      refine v_aload_n C dX12_joinCounts_105 rfl ?_
      refine gf_X12_60 C dX12_joinCounts_106 (by assumption) ?_
      refine v_iload_n C dX12_joinCounts_109 rfl ?_
      refine v_lald C dX12_joinCounts_110 (by assumption) (by omega) (by omega) (a3 k _ hci).2 ?_
      refine v_lconst (v := lN 0) C dX12_joinCounts_111 (by decide) ?_
      refine mc_X12_172 C dX12_joinCounts_112 (by assumption) (c_Mo_pools _ E z (e9e := 0) (by omega) (by omega) hm hpl) rfl (fun r112 G112 hp112 => ?_)
      obtain ⟨hm9, hpl9, hfr9⟩ := hp112
      have e8 := pPut_mAdd1 (mAdd l0 ((cC (zK (Y s2))).take k)) ((zK (Y s2))[k].1, (zK (Y s2))[k].2, 0)
      simp only [] at e8
      rw [e8, ← mAdd_step (cC_get hci)] at hm9 hpl9
      first | refine v_iinc_3 C dX12_joinCounts_115 (nI_1 _) (by decide) (by first | rfl | assumption) ?_ | refine v_iinc_3 C dX12_joinCounts_115 rfl (by decide) (by first | rfl | assumption) ?_
      refine v_goto C 82 dX12_joinCounts_118 (by decide) ?_
      exact ih (k + 1) (by rw [cC_len]; omega) (by rw [cC_len]; omega) G112 (hd.upo hm9 (fun j a b => hfr9 j (by omega))) hpl9 (fun j hj => by rw [hfr9 j (by omega)]; exact hfr j hj)
set_option maxHeartbeats 4000000 in
set_option maxRecDepth 100000 in
theorem mjc3 {M : Mx} {E : Ev} {z : Option Nat} (C : Cx M E yX12_joinCounts.cls cX12_joinCounts 4 none 2 49 0 0) {post : Unit → Gh → Prop} {G0 : Gh} {P W R lim rq s s2 : Nat} {u0 : Ctr} {gk pk : Nat → Int32} {gn pn pe : Nat → Int64} (hs : s < 4) (hs2 : s2 < 4) (hrep : rep u0 pk pn pe) (hu3 : u0.length ≤ 300)
    (kend : ∀ (G : Gh) (fk : Nat → Int32) (fn : Nat → Int64), G 104 = moO E P W R lim rq u0.length → G 120 = cI E 1200 fk → G 121 = cJ E 1200 fn → G 124 = cI E 600 pk → G 125 = cJ E 600 pn → (∀ (j : Nat) (c : Nat × Nat × Nat), j < u0.length → u0[j]? = some c → fk (300 * s + j) = nI c.1 ∧ fn (300 * s + j) = lN c.2.1) → (∀ q, (q < 300 * s ∨ 300 * s + 300 ≤ q) → fk q = gk q ∧ fn q = gn q) → (∀ j, j ≠ 120 ∧ j ≠ 121 → G j = G0 j) → post () G) :
    ∀ (u k : Nat), k ≤ u0.length → u0.length - k < u → ∀ (G : Gh) (fk : Nat → Int32) (fn : Nat → Int64), G 104 = moO E P W R lim rq u0.length → G 120 = cI E 1200 fk → G 121 = cJ E 1200 fn → G 124 = cI E 600 pk → G 125 = cJ E 600 pn → (∀ (j : Nat) (c : Nat × Nat × Nat), j < k → u0[j]? = some c → fk (300 * s + j) = nI c.1 ∧ fn (300 * s + j) = lN c.2.1) → (∀ q, (q < 300 * s ∨ 300 * s + 300 ≤ q) → fk q = gk q ∧ fn q = gn q) → (∀ j, j ≠ 120 ∧ j ≠ 121 → G j = G0 j) → V M E 4 (QE M E (fun _ : Unit => none) z 0 0 post) z 0 0 G 151 [some (.ref (ga E 104)), some (.int (nI s)), some (.int (nI s2)), some (.int (nI k))] [] := by
  intro u
  induction u with
  | zero => intro k _ h; omega
  | succ u ih =>
    intro k hk hu G fk fn ho cc cd pa pb hcp hoth hfr
    refine v_iload_n C dX12_joinCounts_151 rfl ?_
    refine v_aload_n C dX12_joinCounts_152 rfl ?_
    refine gf_X12_156 C dX12_joinCounts_153 (by assumption) ?_
    refine v_icmpn_ge C 201 dX12_joinCounts_156 (by decide) (by omega) (by omega) (fun h156 => ?_) (fun h156 => ?_)
    · skip
      refine v_vret C dX12_joinCounts_201 ?_
      have e9 : k = u0.length := by omega
      subst e9
      exact kend G fk fn ho cc cd pa pb hcp hoth hfr
    · skip
      have hci : u0[k]? = some u0[k] := List.getElem?_eq_getElem h156
      refine v_aload_n C dX12_joinCounts_159 rfl ?_
      refine gf_X12_57 C dX12_joinCounts_160 (by assumption) ?_
      refine v_sipush (v := nI 300) C dX12_joinCounts_163 (by decide) ?_
      refine v_iload_n C dX12_joinCounts_166 rfl ?_
      first | refine v_imuln C dX12_joinCounts_167 ?_ | refine v_imul C dX12_joinCounts_167 ?_
      refine v_iload_n C dX12_joinCounts_168 rfl ?_
      first | refine v_iaddn C dX12_joinCounts_169 ?_ | refine v_iadd C dX12_joinCounts_169 ?_
      refine v_aload_n C dX12_joinCounts_170 rfl ?_
      refine gf_X12_69 C dX12_joinCounts_171 (by assumption) ?_
      refine v_iload_n C dX12_joinCounts_174 rfl ?_
      refine v_iald C dX12_joinCounts_175 (by assumption) (by omega) (by omega) (hrep k _ hci).1 ?_
      refine v_iast C dX12_joinCounts_176 (by assumption) (by omega) (by omega) (fun G hG176 hF176 => ?_)
      first | replace ho := (hF176 _ (by omega)).trans ho | replace ho := hG176 | skip
      first | replace cc := (hF176 _ (by omega)).trans cc | replace cc := hG176 | skip
      first | replace cd := (hF176 _ (by omega)).trans cd | replace cd := hG176 | skip
      first | replace pa := (hF176 _ (by omega)).trans pa | replace pa := hG176 | skip
      first | replace pb := (hF176 _ (by omega)).trans pb | replace pb := hG176 | skip
      refine v_aload_n C dX12_joinCounts_177 rfl ?_
      refine gf_X12_60 C dX12_joinCounts_178 (by assumption) ?_
      refine v_sipush (v := nI 300) C dX12_joinCounts_181 (by decide) ?_
      refine v_iload_n C dX12_joinCounts_184 rfl ?_
      first | refine v_imuln C dX12_joinCounts_185 ?_ | refine v_imul C dX12_joinCounts_185 ?_
      refine v_iload_n C dX12_joinCounts_186 rfl ?_
      first | refine v_iaddn C dX12_joinCounts_187 ?_ | refine v_iadd C dX12_joinCounts_187 ?_
      refine v_aload_n C dX12_joinCounts_188 rfl ?_
      refine gf_X12_72 C dX12_joinCounts_189 (by assumption) ?_
      refine v_iload_n C dX12_joinCounts_192 rfl ?_
      refine v_lald C dX12_joinCounts_193 (by assumption) (by omega) (by omega) (hrep k _ hci).2.1 ?_
      refine v_last C dX12_joinCounts_194 (by assumption) (by omega) (by omega) (fun G hG194 hF194 => ?_)
      first | replace ho := (hF194 _ (by omega)).trans ho | replace ho := hG194 | skip
      first | replace cc := (hF194 _ (by omega)).trans cc | replace cc := hG194 | skip
      first | replace cd := (hF194 _ (by omega)).trans cd | replace cd := hG194 | skip
      first | replace pa := (hF194 _ (by omega)).trans pa | replace pa := hG194 | skip
      first | replace pb := (hF194 _ (by omega)).trans pb | replace pb := hG194 | skip
      first | refine v_iinc_3 C dX12_joinCounts_195 (nI_1 _) (by decide) (by first | rfl | assumption) ?_ | refine v_iinc_3 C dX12_joinCounts_195 rfl (by decide) (by first | rfl | assumption) ?_
      refine v_goto C 151 dX12_joinCounts_198 (by decide) ?_
      refine ih (k + 1) (by omega) (by omega) G _ _ ho cc cd pa pb (fun j c hj hjc => ?_) (fun q hq => by rw [fu_ne _ _ (by omega), fu_ne _ _ (by omega)]; exact hoth q hq) (fun j hj => by rw [hF194 j (by omega), hF176 j (by omega)]; exact hfr j hj)
      by_cases q9 : j = k
      · subst q9; rw [hci] at hjc; cases hjc; rw [fu_self, fu_self]; exact ⟨rfl, rfl⟩
      · rw [fu_ne _ _ (by omega), fu_ne _ _ (by omega)]; exact hcp j c (by omega) hjc
set_option maxHeartbeats 4000000 in
set_option maxRecDepth 100000 in
theorem c_Mo_joinCounts (l : Launch) (E : Ev) (z : Option Nat) {G : Gh} {P W R lim rq po : Nat} {A B : Nat → Nat} {Y : Nat → Str} {s s2 : Nat} (hs : s < 4) (hs2 : s2 < 4) (hpa : isPA E G) (hd : isMd E G P W R lim rq po A B Y) : K_X12_joinCounts l E z G [.ref (ga E 104), .int (nI s), .int (nI s2)] (fun _ G2 => ∃ po2, isMd E G2 P W R lim rq po2 A B (fu Y s (setK (Y s) (yK (zK (Y s)) (zG (Y s)) (zK (Y s2)) (zG (Y s2))))) ∧ isPA E G2 ∧ ∀ j, j ≠ 104 ∧ (j < 118 ∨ 122 ≤ j) ∧ (j < 124 ∨ 127 ≤ j) → G2 j = G j) := by
  refine Fc.of rfl [some (.ref (ga E 104)), some (.int (nI s)), some (.int (nI s2)), none] 1 rfl (Nat.le_of_ble_eq_true rfl) ?_
  intro M hM0 hini C
  subst hM0
  obtain ⟨fcn, fcz, fck, fct, ca, cb, cc, cd, hallC⟩ := id hd.2.2.2.2.2.2
  replace hallC : ∀ q, q < 4 → moC1 fcn fcz fck fct P q (zK (Y q)) (zG (Y q)) := hallC
  have hm := hd.1
  have ho := hm.rc
  have hlim := hm.hl
  obtain ⟨a1, a2, a3, a4, a5, a6⟩ := hallC s hs
  obtain ⟨d1, d2, d3, d4, d5, d6⟩ := hallC s2 hs2
  rcases Bool.eq_false_or_eq_true (zG (Y s)) with hg1 | hg1
  · skip
    refine v_aload_n C dX12_joinCounts_0 rfl ?_
    refine gf_X12_53 C dX12_joinCounts_1 (by assumption) ?_
    refine v_iload_n C dX12_joinCounts_4 rfl ?_
    refine v_zald C dX12_joinCounts_5 (by assumption) (by omega) (by omega) (a2.trans (congrArg bI hg1)) ?_
    first | refine v_ifb_ne C 18 dX12_joinCounts_6 (by decide) (fun h6 => ?_) (fun h6 => by exfalso; first | omega | exact absurd h6 (by decide) | (have h9 := of_decide_eq_true h6; omega) | (have h9 := of_decide_eq_false h6; omega) | contradiction | simp_all) | refine v_ifn_ne C 18 dX12_joinCounts_6 (by decide) (by omega) (fun h6 => ?_) (fun h6 => by exfalso; first | omega | exact absurd h6 (by decide) | (have h9 := of_decide_eq_true h6; omega) | (have h9 := of_decide_eq_false h6; omega) | contradiction | simp_all) | refine v_if_ne C 18 dX12_joinCounts_6 (by decide) (fun h6 => ?_) (fun h6 => by exfalso; first | omega | exact absurd h6 (by decide) | (have h9 := of_decide_eq_true h6; omega) | (have h9 := of_decide_eq_false h6; omega) | contradiction | simp_all)
    refine v_aload_n C dX12_joinCounts_18 rfl ?_
    refine gf_X12_53 C dX12_joinCounts_19 (by assumption) ?_
    refine v_iload_n C dX12_joinCounts_22 rfl ?_
    refine v_iconst (v := nI 1) C dX12_joinCounts_23 (by decide) ?_
    refine v_zast C dX12_joinCounts_24 (by assumption) (by omega) (by omega) (by first | exact Or.inl rfl | exact Or.inr rfl) (fun G hG24 hF24 => ?_)
    first | replace ho := (hF24 _ (by omega)).trans ho | replace ho := hG24 | skip
    first | replace ca := (hF24 _ (by omega)).trans ca | replace ca := hG24 | skip
    first | replace cb := (hF24 _ (by omega)).trans cb | replace cb := hG24 | skip
    first | replace cc := (hF24 _ (by omega)).trans cc | replace cc := hG24 | skip
    first | replace cd := (hF24 _ (by omega)).trans cd | replace cd := hG24 | skip
    refine v_vret C dX12_joinCounts_25 ?_
    have hm0 : isMo E G P W R lim rq po A B := hm.keep (fun j a b => hF24 j (by omega))
    refine ⟨po, isMd_setK (p := yK (zK (Y s)) (zG (Y s)) (zK (Y s2)) (zG (Y s2))) hd hm0 ?_ (fun j a b => hF24 j (by omega)), hpa.keep (fun j a b => hF24 j (by omega)), fun j hj => hF24 j (by omega)⟩
    rw [show yK (zK (Y s)) (zG (Y s)) (zK (Y s2)) (zG (Y s2)) = (zK (Y s), true) by unfold yK; rw [if_pos (by exact Or.inl hg1)]]
    exact moC_pack hallC hs ca cb cc cd (fun q hq => ⟨rfl, fu_ne _ _ hq⟩) (fun _ _ => ⟨rfl, rfl⟩) ⟨a1, fu_self _ _ _, a3, a4, a5, a6⟩
  · skip
    rcases Bool.eq_false_or_eq_true (zG (Y s2)) with hg2 | hg2
    · skip
      refine v_aload_n C dX12_joinCounts_0 rfl ?_
      refine gf_X12_53 C dX12_joinCounts_1 (by assumption) ?_
      refine v_iload_n C dX12_joinCounts_4 rfl ?_
      refine v_zald C dX12_joinCounts_5 (by assumption) (by omega) (by omega) (a2.trans (congrArg bI hg1)) ?_
      first | refine v_ifb_ne C 18 dX12_joinCounts_6 (by decide) (fun h6 => by exfalso; first | omega | exact absurd h6 (by decide) | (have h9 := of_decide_eq_true h6; omega) | (have h9 := of_decide_eq_false h6; omega) | contradiction | simp_all) (fun h6 => ?_) | refine v_ifn_ne C 18 dX12_joinCounts_6 (by decide) (by omega) (fun h6 => by exfalso; first | omega | exact absurd h6 (by decide) | (have h9 := of_decide_eq_true h6; omega) | (have h9 := of_decide_eq_false h6; omega) | contradiction | simp_all) (fun h6 => ?_) | refine v_if_ne C 18 dX12_joinCounts_6 (by decide) (fun h6 => by exfalso; first | omega | exact absurd h6 (by decide) | (have h9 := of_decide_eq_true h6; omega) | (have h9 := of_decide_eq_false h6; omega) | contradiction | simp_all) (fun h6 => ?_)
      refine v_aload_n C dX12_joinCounts_9 rfl ?_
      refine gf_X12_53 C dX12_joinCounts_10 (by assumption) ?_
      refine v_iload_n C dX12_joinCounts_13 rfl ?_
      refine v_zald C dX12_joinCounts_14 (by assumption) (by omega) (by omega) (d2.trans (congrArg bI hg2)) ?_
      first | refine v_ifb_eq C 26 dX12_joinCounts_15 (by decide) (fun h15 => by exfalso; first | omega | exact absurd h15 (by decide) | (have h9 := of_decide_eq_true h15; omega) | (have h9 := of_decide_eq_false h15; omega) | contradiction | simp_all) (fun h15 => ?_) | refine v_ifn_eq C 26 dX12_joinCounts_15 (by decide) (by omega) (fun h15 => by exfalso; first | omega | exact absurd h15 (by decide) | (have h9 := of_decide_eq_true h15; omega) | (have h9 := of_decide_eq_false h15; omega) | contradiction | simp_all) (fun h15 => ?_) | refine v_if_eq C 26 dX12_joinCounts_15 (by decide) (fun h15 => by exfalso; first | omega | exact absurd h15 (by decide) | (have h9 := of_decide_eq_true h15; omega) | (have h9 := of_decide_eq_false h15; omega) | contradiction | simp_all) (fun h15 => ?_)
      refine v_aload_n C dX12_joinCounts_18 rfl ?_
      refine gf_X12_53 C dX12_joinCounts_19 (by assumption) ?_
      refine v_iload_n C dX12_joinCounts_22 rfl ?_
      refine v_iconst (v := nI 1) C dX12_joinCounts_23 (by decide) ?_
      refine v_zast C dX12_joinCounts_24 (by assumption) (by omega) (by omega) (by first | exact Or.inl rfl | exact Or.inr rfl) (fun G hG24 hF24 => ?_)
      first | replace ho := (hF24 _ (by omega)).trans ho | replace ho := hG24 | skip
      first | replace ca := (hF24 _ (by omega)).trans ca | replace ca := hG24 | skip
      first | replace cb := (hF24 _ (by omega)).trans cb | replace cb := hG24 | skip
      first | replace cc := (hF24 _ (by omega)).trans cc | replace cc := hG24 | skip
      first | replace cd := (hF24 _ (by omega)).trans cd | replace cd := hG24 | skip
      refine v_vret C dX12_joinCounts_25 ?_
      have hm0 : isMo E G P W R lim rq po A B := hm.keep (fun j a b => hF24 j (by omega))
      refine ⟨po, isMd_setK (p := yK (zK (Y s)) (zG (Y s)) (zK (Y s2)) (zG (Y s2))) hd hm0 ?_ (fun j a b => hF24 j (by omega)), hpa.keep (fun j a b => hF24 j (by omega)), fun j hj => hF24 j (by omega)⟩
      rw [show yK (zK (Y s)) (zG (Y s)) (zK (Y s2)) (zG (Y s2)) = (zK (Y s), true) by unfold yK; rw [if_pos (by exact Or.inr hg2)]]
      exact moC_pack hallC hs ca cb cc cd (fun q hq => ⟨rfl, fu_ne _ _ hq⟩) (fun _ _ => ⟨rfl, rfl⟩) ⟨a1, fu_self _ _ _, a3, a4, a5, a6⟩
    · skip
      refine v_aload_n C dX12_joinCounts_0 rfl ?_
      refine gf_X12_53 C dX12_joinCounts_1 (by assumption) ?_
      refine v_iload_n C dX12_joinCounts_4 rfl ?_
      refine v_zald C dX12_joinCounts_5 (by assumption) (by omega) (by omega) (a2.trans (congrArg bI hg1)) ?_
      first | refine v_ifb_ne C 18 dX12_joinCounts_6 (by decide) (fun h6 => by exfalso; first | omega | exact absurd h6 (by decide) | (have h9 := of_decide_eq_true h6; omega) | (have h9 := of_decide_eq_false h6; omega) | contradiction | simp_all) (fun h6 => ?_) | refine v_ifn_ne C 18 dX12_joinCounts_6 (by decide) (by omega) (fun h6 => by exfalso; first | omega | exact absurd h6 (by decide) | (have h9 := of_decide_eq_true h6; omega) | (have h9 := of_decide_eq_false h6; omega) | contradiction | simp_all) (fun h6 => ?_) | refine v_if_ne C 18 dX12_joinCounts_6 (by decide) (fun h6 => by exfalso; first | omega | exact absurd h6 (by decide) | (have h9 := of_decide_eq_true h6; omega) | (have h9 := of_decide_eq_false h6; omega) | contradiction | simp_all) (fun h6 => ?_)
      refine v_aload_n C dX12_joinCounts_9 rfl ?_
      refine gf_X12_53 C dX12_joinCounts_10 (by assumption) ?_
      refine v_iload_n C dX12_joinCounts_13 rfl ?_
      refine v_zald C dX12_joinCounts_14 (by assumption) (by omega) (by omega) (d2.trans (congrArg bI hg2)) ?_
      first | refine v_ifb_eq C 26 dX12_joinCounts_15 (by decide) (fun h15 => ?_) (fun h15 => by exfalso; first | omega | exact absurd h15 (by decide) | (have h9 := of_decide_eq_true h15; omega) | (have h9 := of_decide_eq_false h15; omega) | contradiction | simp_all) | refine v_ifn_eq C 26 dX12_joinCounts_15 (by decide) (by omega) (fun h15 => ?_) (fun h15 => by exfalso; first | omega | exact absurd h15 (by decide) | (have h9 := of_decide_eq_true h15; omega) | (have h9 := of_decide_eq_false h15; omega) | contradiction | simp_all) | refine v_if_eq C 26 dX12_joinCounts_15 (by decide) (fun h15 => ?_) (fun h15 => by exfalso; first | omega | exact absurd h15 (by decide) | (have h9 := of_decide_eq_true h15; omega) | (have h9 := of_decide_eq_false h15; omega) | contradiction | simp_all)
      refine v_aload_n C dX12_joinCounts_26 rfl ?_
      refine v_iconst (v := nI 0) C dX12_joinCounts_27 (by decide) ?_
      refine pf_X12_156 C dX12_joinCounts_28 (by assumption) (fun G hG28 hF28 => ?_)
      first | replace ho := (hF28 _ (by omega)).trans ho | replace ho := hG28 | skip
      first | replace cb := (hF28 _ (by omega)).trans cb | replace cb := hG28 | skip
      refine v_sipush (v := nI 300) C dX12_joinCounts_31 (by decide) ?_
      refine v_iload_n C dX12_joinCounts_34 rfl ?_
      first | refine v_imuln C dX12_joinCounts_35 ?_ | refine v_imul C dX12_joinCounts_35 ?_
      refine v_istore_3 C dX12_joinCounts_36 (by decide) (by first | rfl | assumption) ?_
      have hd1 : isMd E G P W R lim rq 0 A B Y := hd.upo (hm.upo hG28 (hF28 _ (by omega)) (hF28 _ (by omega))) (fun j a b => hF28 j (by omega))
      replace cb := (hF28 119 (by omega)).symm.trans cb
      rename_i G0
      refine mjc1 C (Y := Y) (l0 := []) hs hs2 (by simp) ?_ ((cC (zK (Y s))).length + 1) 0 (by omega) (by omega) G hd1 (hpa.keep (fun j a b => hF28 j (by omega))).nil (fun _ _ => rfl)
      intro G3 hd3 hpl3 hfr3
      rw [cC_self a6] at hd3 hpl3
      have ho := hd3.1.rc
      refine v_sipush (v := nI 300) C dX12_joinCounts_76 (by decide) ?_
      refine v_iload_n C dX12_joinCounts_79 rfl ?_
      first | refine v_imuln C dX12_joinCounts_80 ?_ | refine v_imul C dX12_joinCounts_80 ?_
      refine v_istore_3 C dX12_joinCounts_81 (by decide) (by first | rfl | assumption) ?_
      refine mjc2 C (Y := Y) (l0 := cC (zK (Y s))) hs hs2 (by rw [cC_len]; exact a4) ?_ ((cC (zK (Y s2))).length + 1) 0 (by omega) (by omega) G3 hd3 hpl3 (fun _ _ => rfl)
      intro G4 hd4 hpl4 hfr4
      have hm := hd4.1
      have ho := hm.rc
      have hfrA : ∀ j, j ≠ 104 ∧ (j < 124 ∨ 127 ≤ j) → G4 j = G0 j := fun j hj => by rw [hfr4 j (by omega), hfr3 j (by omega), hF28 j (by omega)]
      replace ca := (hfrA _ (by omega)).trans ca
      replace cb := (hfrA _ (by omega)).trans cb
      replace cc := (hfrA _ (by omega)).trans cc
      replace cd := (hfrA _ (by omega)).trans cd
      obtain ⟨pk, pn, pe, pa, pb, pc9, hrep, hu6, hlk, hnd⟩ := id hpl4
      have hlt1 : ∀ c ∈ cC (zK (Y s)), c.1 < P := fun c hc9 => by obtain ⟨d, q1, q2⟩ := cC_mem hc9; rw [q2]; exact a5 d q1
      have hlt2 : ∀ c ∈ cC (zK (Y s2)), c.1 < P := fun c hc9 => by obtain ⟨d, q1, q2⟩ := cC_mem hc9; rw [q2]; exact d5 d q1
      refine v_aload_n C dX12_joinCounts_121 rfl ?_
      refine gf_X12_156 C dX12_joinCounts_122 (by assumption) ?_
      refine v_sipush (v := nI 300) C dX12_joinCounts_125 (by decide) ?_
      refine v_icmpn_le C 139 dX12_joinCounts_128 (by decide) (by omega) (by omega) (fun h128 => ?_) (fun h128 => ?_)
      · skip
        refine v_aload_n C dX12_joinCounts_139 rfl ?_
        refine gf_X12_50 C dX12_joinCounts_140 (by assumption) ?_
        refine v_iload_n C dX12_joinCounts_143 rfl ?_
        refine v_aload_n C dX12_joinCounts_144 rfl ?_
        refine gf_X12_156 C dX12_joinCounts_145 (by assumption) ?_
        refine v_iast C dX12_joinCounts_148 (by assumption) (by omega) (by omega) (fun G hG148 hF148 => ?_)
        first | replace ho := (hF148 _ (by omega)).trans ho | replace ho := hG148 | skip
        first | replace ca := (hF148 _ (by omega)).trans ca | replace ca := hG148 | skip
        first | replace cb := (hF148 _ (by omega)).trans cb | replace cb := hG148 | skip
        first | replace cc := (hF148 _ (by omega)).trans cc | replace cc := hG148 | skip
        first | replace cd := (hF148 _ (by omega)).trans cd | replace cd := hG148 | skip
        first | replace pa := (hF148 _ (by omega)).trans pa | replace pa := hG148 | skip
        first | replace pb := (hF148 _ (by omega)).trans pb | replace pb := hG148 | skip
        refine v_iconst (v := nI 0) C dX12_joinCounts_149 (by decide) ?_
        refine v_istore_3 C dX12_joinCounts_150 (by decide) (by first | rfl | assumption) ?_
        refine mjc3 C hs hs2 hrep (by omega) ?_ ((mAdd (cC (zK (Y s))) (cC (zK (Y s2)))).length + 1) 0 (by omega) (by omega) G fck fct ho cc cd pa pb (fun j c h => by omega) (fun _ _ => ⟨rfl, rfl⟩) (fun _ _ => rfl)
        clear ho cc cd pa pb
        intro G5 fk fn ho cc cd pa pb hcp hoth hfr5
        have hfrB : ∀ j, j ≠ 118 ∧ j ≠ 120 ∧ j ≠ 121 → G5 j = G4 j := fun j hj => by rw [hfr5 j (by omega), hF148 j (by omega)]
        refine ⟨_, isMd_setK (p := yK (zK (Y s)) (zG (Y s)) (zK (Y s2)) (zG (Y s2))) hd (hm.keep (fun j a b => hfrB j (by omega))) ?_ (fun j a b => by rw [hfrB j (by omega)]; exact hfrA j (by omega)), hpl4.pa.keep (fun j a b => hfrB j (by omega)), fun j hj => by rw [hfrB j (by omega)]; exact hfrA j (by omega)⟩
        rw [show yK (zK (Y s)) (zG (Y s)) (zK (Y s2)) (zG (Y s2)) = (cD (mAdd (cC (zK (Y s))) (cC (zK (Y s2)))), false) by unfold yK; rw [if_neg (by simp [hg1, hg2]), if_neg (by omega)]]
        have hcl : (cD (mAdd (cC (zK (Y s))) (cC (zK (Y s2))))).length = (mAdd (cC (zK (Y s))) (cC (zK (Y s2)))).length := List.length_map _
        refine moC_pack hallC hs ((hfr5 _ (by omega)).trans ca) ((hfr5 _ (by omega)).trans cb) cc cd (fun q hq => ⟨fu_ne _ _ hq, rfl⟩) hoth ⟨?_, a2.trans (congrArg bI hg1), fun i c hic => ?_, by show (cD (mAdd (cC (zK (Y s))) (cC (zK (Y s2))))).length ≤ 300; omega, fun c hc9 => ?_, by rw [cD_keys]; exact hnd⟩
        · rw [fu_self, hcl]
        · obtain ⟨d, q1, q2⟩ := cD_get hic
          have := (List.getElem?_eq_some_iff.mp q1).1
          rw [q2]
          exact hcp i d this q1
        · obtain ⟨d, q1, q2⟩ := List.mem_map.mp hc9
          rw [← q2]
          exact mAdd_lt _ _ hlt1 hlt2 d q1
      · skip
        refine v_aload_n C dX12_joinCounts_131 rfl ?_
        refine gf_X12_53 C dX12_joinCounts_132 (by assumption) ?_
        refine v_iload_n C dX12_joinCounts_135 rfl ?_
        refine v_iconst (v := nI 1) C dX12_joinCounts_136 (by decide) ?_
        refine v_zast C dX12_joinCounts_137 (by assumption) (by omega) (by omega) (by first | exact Or.inl rfl | exact Or.inr rfl) (fun G hG137 hF137 => ?_)
        first | replace ho := (hF137 _ (by omega)).trans ho | replace ho := hG137 | skip
        first | replace ca := (hF137 _ (by omega)).trans ca | replace ca := hG137 | skip
        first | replace cb := (hF137 _ (by omega)).trans cb | replace cb := hG137 | skip
        first | replace cc := (hF137 _ (by omega)).trans cc | replace cc := hG137 | skip
        first | replace cd := (hF137 _ (by omega)).trans cd | replace cd := hG137 | skip
        first | replace pa := (hF137 _ (by omega)).trans pa | replace pa := hG137 | skip
        first | replace pb := (hF137 _ (by omega)).trans pb | replace pb := hG137 | skip
        refine v_vret C dX12_joinCounts_138 ?_
        refine ⟨_, isMd_setK (p := yK (zK (Y s)) (zG (Y s)) (zK (Y s2)) (zG (Y s2))) hd (hm.keep (fun j a b => hF137 j (by omega))) ?_ (fun j a b => by rw [hF137 j (by omega)]; exact hfrA j (by omega)), hpl4.pa.keep (fun j a b => hF137 j (by omega)), fun j hj => by rw [hF137 j (by omega)]; exact hfrA j (by omega)⟩
        rw [show yK (zK (Y s)) (zG (Y s)) (zK (Y s2)) (zG (Y s2)) = ((zK (Y s)), true) by unfold yK; rw [if_neg (by simp [hg1, hg2]), if_pos (by omega)]]
        exact moC_pack hallC hs ca cb cc cd (fun q hq => ⟨rfl, fu_ne _ _ hq⟩) (fun _ _ => ⟨rfl, rfl⟩) ⟨a1, fu_self _ _ _, a3, a4, a5, a6⟩

