theorem sU_lt {P lim k : Nat} {l l2 : Ctr} (h : ∀ c ∈ l, c.1 < P) (h2 : ∀ c ∈ l2, c.1 < P) : ∀ c ∈ sU lim l l2 k, c.1 < P := by
  intro c hc9
  unfold sU at hc9
  rcases List.mem_append.mp hc9 with q9 | q9
  · obtain ⟨d, q1, q2⟩ := List.mem_map.mp q9
    rw [← q2]; exact h d q1
  · obtain ⟨d, q1, q2⟩ := List.mem_map.mp q9
    rw [← q2]; exact h2 d (List.mem_of_mem_take (List.mem_filter.mp q1).1)
theorem sv_keys {lim : Nat} {u m : Ctr} (h : svSpec lim u m) (hnd : (ckeys u).Nodup) : (ckeys m).Nodup ∧ ∀ c ∈ m, c ∈ u := by
  obtain ⟨rem, h1, -⟩ := h
  refine ⟨?_, fun c hc9 => h1.mem_iff.mp (List.mem_append_left _ hc9)⟩
  have h2 : (ckeys (m ++ rem)).Nodup := ((h1.map (fun c : Nat × Nat × Nat => c.1)).nodup_iff).mpr hnd
  unfold ckeys at h2
  rw [List.map_append] at h2
  exact (List.nodup_append.mp h2).1
def setS (S : Str) (sv : Ctr) : Str := (zN S, zP S, zC S, zM S, zT S, sv, zK S, zG S)
theorem isMd_setS {E : Ev} {G G2 : Gh} {P W R lim rq po po2 : Nat} {A B : Nat → Nat} {Y : Nat → Str} {s : Nat} {sv : Ctr} (h : isMd E G P W R lim rq po A B Y) (h0 : isMo E G2 P W R lim rq po2 A B) (hS : moS E G2 lim P (fu (fun q => zS (Y q)) s sv)) (hf : ∀ j, 107 ≤ j → j < 122 → (j < 114 ∨ 118 ≤ j) → G2 j = G j) : isMd E G2 P W R lim rq po2 A B (fu Y s (setS (Y s) sv)) := by
  obtain ⟨-, h1, h2, h3, h4, h5, h6⟩ := h
  have f1 : ∀ {α : Type} (g : Str → α), g (setS (Y s) sv) = g (Y s) → (fun q => g (fu Y s (setS (Y s) sv) q)) = fun q => g (Y q) := by
    intro α g hg
    rw [fu_map, hg, fu_same (fun q => g (Y q))]
  unfold isMd
  rw [f1 zN rfl, f1 zP rfl, f1 zC rfl, f1 zM rfl, f1 zT rfl, f1 zK rfl, f1 zG rfl, fu_map zS]
  exact ⟨h0, h1.keep (hf _ (by omega) (by omega) (by omega)), h2.keep (hf _ (by omega) (by omega) (by omega)), h3.keep (hf _ (by omega) (by omega) (by omega)), h4.keep (fun j a b => hf j (by omega) (by omega) (by omega)), hS, h6.keep (fun j a b => hf j (by omega) b (by omega))⟩
theorem pnI_zero {u0 : Ctr} {pk : Nat → Int32} {pn pe : Nat → Int64} (h : rep u0 pk pn pe) : pnI u0 (u0.map some) pn := by
  intro i
  rw [List.getElem?_map]
  cases hc9 : u0[i]? with
  | none => exact ⟨fun c h9 => (by cases h9), fun h9 => (by cases h9)⟩
  | some d => exact ⟨fun c h9 => (by cases h9; exact (h i d hc9).2.1), fun h9 => (by cases h9)⟩

set_option maxHeartbeats 4000000 in
set_option maxRecDepth 100000 in
theorem js_tail {M : Mx} {E : Ev} {z : Option Nat} (C : Cx M E yX12_joinSaving.cls cX12_joinSaving 7 none 2 50 0 0) {post : Unit → Gh → Prop} {G : Gh} {P W R lim rq s s2 st : Nat} {A B : Nat → Nat} {Y : Nat → Str} {u0 : Ctr} {x4 : Option Value} (hs : s < 4) (hs2 : s2 < 4) (hx4 : lo_c x4 = true) (hst : st = min lim u0.length) (hbn : ∀ c ∈ u0, c.2.1 < 2 ^ 62) (hkp : ∀ c ∈ u0, c.1 < P)
    (hd : isMd E G P W R lim rq u0.length A B Y) (hpl : isPl E G u0) (hend : ∀ (G2 : Gh) (sv : Ctr), svSpec lim u0 sv → isMo E G2 P W R lim rq u0.length A B → moS E G2 lim P (fu (fun q => zS (Y q)) s sv) → isPA E G2 → (∀ j, (j < 114 ∨ 118 ≤ j) ∧ j ≠ 125 → G2 j = G j) → post () G2) :
    V M E 7 (QE M E (fun _ : Unit => none) z 0 0 post) z 0 0 G 204 [some (.ref (ga E 104)), some (.int (nI s)), some (.int (nI s2)), some (.int (nI (64 * s2 + (zS (Y s2)).length))), x4, none, none] [.int (nI st)] := by
  obtain ⟨fss, fsk, fsn, fse, sa, sb, sc, sd, hallS⟩ := id hd.2.2.2.2.2.1
  replace hallS : ∀ q, q < 4 → moS1 fss fsk fsn fse lim P q (zS (Y q)) := hallS
  have hm := hd.1
  have hlim := hm.hl
  have ho := hm.rc
  obtain ⟨pk, pn, pe, pa, pb, pc9, hrep, hu6, hlk, hnd⟩ := id hpl
  refine v_istore_3 C dX12_joinSaving_204 (by decide) (by first | rfl | assumption) ?_
  refine v_aload_n C dX12_joinSaving_205 rfl ?_
  refine gf_X12_38 C dX12_joinSaving_206 (by assumption) ?_
  refine v_iload_n C dX12_joinSaving_209 rfl ?_
  refine v_iload_n C dX12_joinSaving_210 rfl ?_
  refine v_iast C dX12_joinSaving_211 (by assumption) (by omega) (by omega) (fun G hG211 hF211 => ?_)
  first | replace ho := (hF211 _ (by omega)).trans ho | replace ho := hG211 | skip
  first | replace sa := (hF211 _ (by omega)).trans sa | replace sa := hG211 | skip
  first | replace sb := (hF211 _ (by omega)).trans sb | replace sb := hG211 | skip
  first | replace sc := (hF211 _ (by omega)).trans sc | replace sc := hG211 | skip
  first | replace sd := (hF211 _ (by omega)).trans sd | replace sd := hG211 | skip
  first | replace pa := (hF211 _ (by omega)).trans pa | replace pa := hG211 | skip
  first | replace pb := (hF211 _ (by omega)).trans pb | replace pb := hG211 | skip
  first | replace pc9 := (hF211 _ (by omega)).trans pc9 | replace pc9 := hG211 | skip
  refine v_iconst (v := nI 0) C dX12_joinSaving_212 (by decide) ?_
  refine v_istore_4 C dX12_joinSaving_213 (by decide) (by first | rfl | assumption) ?_
  refine js_out C hs (by omega) (by omega) hrep hu6 hlk hbn hnd ?_ (st + 1) (u0.map some) [] (by simp) (by simp) G fsk fsn fse pn ho sb sc sd pa pb pc9 (jsI_zero u0) (pnI_zero hrep) (fun j c h => by simp at h) (fun _ _ => ⟨rfl, rfl, rfl⟩) (fun _ _ => rfl) _ _ rfl rfl
  rename_i G1
  clear ho sb sc sd pa pb pc9
  intro q sel hsl hI G fk fn fe pn ho sb sc sd pa pb pc9 hsv hoth9 hfr9 x5 x6
  replace sa := (hfr9 _ (by omega)).trans sa
  have hmem : ∀ c ∈ sel, c ∈ u0 := fun c hc9 => hI.2.2.1.mem_iff.mp (List.mem_append_left _ hc9)
  have hm9 : isMo E G P W R lim rq u0.length A B := hm.upo ho ((hfr9 _ (by omega)).trans (hF211 _ (by omega))) ((hfr9 _ (by omega)).trans (hF211 _ (by omega)))
  refine v_aload_n C dX12_joinSaving_401 rfl ?_
  refine v_iload_n C dX12_joinSaving_402 rfl ?_
  refine mc_X12_183 C dX12_joinSaving_403 (hm9.rc) (c_Mo_sortLike _ E z (m := sel) hs (by omega) (fun c hc9 => hlk c (hmem c hc9)) (fun c hc9 => hbn c (hmem c hc9)) (by rw [fu_self, hsl]) (jsI_ns hI) sa sb sc sd (fun j c hjc => by have := hsv j c hjc; rw [show 64 * s + st - st = 64 * s by omega] at this; exact this) hm9) rfl (fun r403 G403 hp403 => ?_)
  obtain ⟨ms, k9, n9, e9, hpm, hsrt, hm8, sa8, sb8, sc8, sd8, hrep8, hoth8, hfr8⟩ := hp403
  refine v_vret C dX12_joinSaving_406 ?_
  have hsv9 := jsI_sv hI (by rw [hsl, hst]) hpm hsrt
  obtain ⟨hk1, hk2⟩ := sv_keys hsv9 hnd
  have hln := hpm.length_eq
  have hfr7 : ∀ j, j ≠ 114 ∧ (j < 115 ∨ 118 ≤ j) ∧ j ≠ 125 → G403 j = G1 j := fun j hj => by rw [hfr8 j (by omega), hfr9 j (by omega), hF211 j (by omega)]
  exact hend G403 ms hsv9 hm8 (moS_pack hallS hs sa8 sb8 sc8 sd8 (fun q hq => fu_ne _ _ hq) (by rw [fu_self, hln, hsl]) (fun i c hic => hrep8 i c hic) (fun q hq => by have h1 := hoth8 q hq; have h2 := hoth9 q hq; exact ⟨h1.1.trans h2.1, h1.2.1.trans h2.2.1, h1.2.2.trans h2.2.2⟩) (by omega) hlim.2.2 ⟨⟨hlim.2.1, hlim.2.2, by omega, hlim.1.2.1⟩, fun c hc9 => hkp c (hk2 c hc9), hk1⟩) ⟨_, _, _, (hfr8 _ (by omega)).trans pa, (hfr8 _ (by omega)).trans pb, (hfr8 _ (by omega)).trans pc9⟩ (fun j hj => hfr7 j (by omega))
set_option maxHeartbeats 4000000 in
set_option maxRecDepth 100000 in
theorem c_Mo_joinSaving (l : Launch) (E : Ev) (z : Option Nat) {G : Gh} {P W R lim rq po : Nat} {A B : Nat → Nat} {Y : Nat → Str} {s s2 : Nat} (hs : s < 4) (hs2 : s2 < 4) (hb : ∀ c ∈ sU lim (zS (Y s)) (zS (Y s2)) (zS (Y s2)).length, c.2.1 < 2 ^ 62) (hpa : isPA E G) (hd : isMd E G P W R lim rq po A B Y) : K_X12_joinSaving l E z G [.ref (ga E 104), .int (nI s), .int (nI s2)] (fun _ G2 => ∃ po2 sv, svSpec lim (sU lim (zS (Y s)) (zS (Y s2)) (zS (Y s2)).length) sv ∧ isMd E G2 P W R lim rq po2 A B (fu Y s (setS (Y s) sv)) ∧ isPA E G2 ∧ ∀ j, j ≠ 104 ∧ (j < 114 ∨ 118 ≤ j) ∧ (j < 124 ∨ 127 ≤ j) → G2 j = G j) := by
  refine Fc.of rfl [some (.ref (ga E 104)), some (.int (nI s)), some (.int (nI s2)), none, none, none, none] 4 rfl (Nat.le_of_ble_eq_true rfl) ?_
  intro M hM0 hini C
  subst hM0
  have hm := hd.1
  have ho := hm.rc
  have hlim := hm.hl
  obtain ⟨fss, fsk, fsn, fse, -, -, -, -, hallS⟩ := id hd.2.2.2.2.2.1
  replace hallS : ∀ q, q < 4 → moS1 fss fsk fsn fse lim P q (zS (Y q)) := hallS
  obtain ⟨b1, b2, b3, b4, b5⟩ := hallS s hs
  obtain ⟨e1, e2, e3, e4, e5⟩ := hallS s2 hs2
  clear hallS
  refine v_aload_n C dX12_joinSaving_0 rfl ?_
  refine v_iconst (v := nI 0) C dX12_joinSaving_1 (by decide) ?_
  refine pf_X12_156 C dX12_joinSaving_2 (by assumption) (fun G hG2 hF2 => ?_)
  first | replace ho := (hF2 _ (by omega)).trans ho | replace ho := hG2 | skip
  refine v_bipush (v := nI 64) C dX12_joinSaving_5 (by decide) ?_
  refine v_iload_n C dX12_joinSaving_7 rfl ?_
  first | refine v_imuln C dX12_joinSaving_8 ?_ | refine v_imul C dX12_joinSaving_8 ?_
  refine v_istore_3 C dX12_joinSaving_9 (by decide) (by first | rfl | assumption) ?_
  have hd1 : isMd E G P W R lim rq 0 A B Y := hd.upo (hm.upo hG2 (hF2 _ (by omega)) (hF2 _ (by omega))) (fun j a b => hF2 j (by omega))
  refine js1 C hs hs2 ?_ ((zS (Y s)).length + 1) 0 (by omega) (by omega) G hd1 (hpa.keep (fun j a b => hF2 j (by omega))).nil (fun _ _ => rfl) _ rfl
  intro G3 hd3 hpl3 hfr3 x4 hx4
  have ho := hd3.1.rc
  refine v_bipush (v := nI 64) C dX12_joinSaving_108 (by decide) ?_
  refine v_iload_n C dX12_joinSaving_110 rfl ?_
  first | refine v_imuln C dX12_joinSaving_111 ?_ | refine v_imul C dX12_joinSaving_111 ?_
  refine v_istore_3 C dX12_joinSaving_112 (by decide) (by first | rfl | assumption) ?_
  refine js2 C (Y := Y) hx4 hs hs2 ?_ ((zS (Y s2)).length + 1) 0 (by omega) (by omega) G3 (by rw [sU_zero]; exact hd3) (by rw [sU_zero]; exact hpl3) (fun _ _ => rfl)
  intro G4 hd4 hpl4 hfr4
  have hm := hd4.1
  have ho := hm.rc
  have hul := sU_len lim (zS (Y s)) (zS (Y s2)) (zS (Y s2)).length
  refine v_aload_n C dX12_joinSaving_182 rfl ?_
  refine gf_X12_156 C dX12_joinSaving_183 (by assumption) ?_
  refine v_aload_n C dX12_joinSaving_186 rfl ?_
  refine gf_X12_97 C dX12_joinSaving_187 (by assumption) ?_
  refine v_icmpn_ge C 200 dX12_joinSaving_190 (by decide) (by omega) (by omega) (fun h190 => ?_) (fun h190 => ?_)
  · skip
    refine v_aload_n C dX12_joinSaving_200 rfl ?_
    refine gf_X12_97 C dX12_joinSaving_201 (by assumption) ?_
    first
      | (refine js_tail C hs hs2 hx4 (show lim = _ by omega) hb (sU_lt b4 e4) hd4 hpl4 ?_
         intro G5 sv h1 h2 h3 h4 h5
         exact ⟨_, sv, h1, isMd_setS hd h2 h3 (fun j a b hj => by rw [h5 j (by omega), hfr4 j (by omega), hfr3 j (by omega), hF2 j (by omega)]), h4, fun j hj => by rw [h5 j (by omega), hfr4 j (by omega), hfr3 j (by omega), hF2 j (by omega)]⟩)
      | (refine js_tail C hs hs2 hx4 (by omega) hb (sU_lt b4 e4) hd4 hpl4 ?_
         intro G5 sv h1 h2 h3 h4 h5
         exact ⟨_, sv, h1, isMd_setS hd h2 h3 (fun j a b hj => by rw [h5 j (by omega), hfr4 j (by omega), hfr3 j (by omega), hF2 j (by omega)]), h4, fun j hj => by rw [h5 j (by omega), hfr4 j (by omega), hfr3 j (by omega), hF2 j (by omega)]⟩)
  · skip
    refine v_aload_n C dX12_joinSaving_193 rfl ?_
    refine gf_X12_156 C dX12_joinSaving_194 (by assumption) ?_
    refine v_goto C 204 dX12_joinSaving_197 (by decide) ?_
    first
      | (refine js_tail C hs hs2 hx4 (show lim = _ by omega) hb (sU_lt b4 e4) hd4 hpl4 ?_
         intro G5 sv h1 h2 h3 h4 h5
         exact ⟨_, sv, h1, isMd_setS hd h2 h3 (fun j a b hj => by rw [h5 j (by omega), hfr4 j (by omega), hfr3 j (by omega), hF2 j (by omega)]), h4, fun j hj => by rw [h5 j (by omega), hfr4 j (by omega), hfr3 j (by omega), hF2 j (by omega)]⟩)
      | (refine js_tail C hs hs2 hx4 (by omega) hb (sU_lt b4 e4) hd4 hpl4 ?_
         intro G5 sv h1 h2 h3 h4 h5
         exact ⟨_, sv, h1, isMd_setS hd h2 h3 (fun j a b hj => by rw [h5 j (by omega), hfr4 j (by omega), hfr3 j (by omega), hF2 j (by omega)]), h4, fun j hj => by rw [h5 j (by omega), hfr4 j (by omega), hfr3 j (by omega), hF2 j (by omega)]⟩)

