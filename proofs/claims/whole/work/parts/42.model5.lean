def moS1 (fss fsk : Nat → Int32) (fsn fse : Nat → Int64) (lim P s : Nat) (l : Ctr) : Prop := fss s = nI l.length ∧ (∀ (i : Nat) (c : Nat × Nat × Nat), l[i]? = some c → rp fsk fsn fse (64 * s + i) c) ∧ l.length ≤ lim ∧ (∀ c ∈ l, c.1 < P) ∧ (ckeys l).Nodup
def moS (E : Ev) (G : Gh) (lim P : Nat) (Ss : Nat → Ctr) : Prop := ∃ (fss fsk : Nat → Int32) (fsn fse : Nat → Int64), G 114 = cI E 4 fss ∧ G 115 = cI E 256 fsk ∧ G 116 = cJ E 256 fsn ∧ G 117 = cJ E 256 fse ∧ ∀ s, s < 4 → moS1 fss fsk fsn fse lim P s (Ss s)
theorem moS.keep {E : Ev} {G G2 : Gh} {lim P : Nat} {Ss : Nat → Ctr} (h : moS E G lim P Ss) (hf : ∀ j, 114 ≤ j → j < 118 → G2 j = G j) : moS E G2 lim P Ss := by
  obtain ⟨a, b, c, d, h0, h1, h2, h3, h4⟩ := h
  exact ⟨a, b, c, d, (hf _ (by omega) (by omega)).trans h0, (hf _ (by omega) (by omega)).trans h1, (hf _ (by omega) (by omega)).trans h2, (hf _ (by omega) (by omega)).trans h3, h4⟩

set_option maxHeartbeats 4000000 in
set_option maxRecDepth 100000 in
theorem c_Mo_move (l : Launch) (E : Ev) (z : Option Nat) {G : Gh} {P W R lim rp po : Nat} {A B : Nat → Nat} {i j : Nat} {fk : Nat → Int32} {fn fe : Nat → Int64} (hi : i < 256) (hj : j < 256) (hm : isMo E G P W R lim rp po A B) (hb : G 115 = cI E 256 fk) (hc : G 116 = cJ E 256 fn) (hd : G 117 = cJ E 256 fe) : K_X12_moveSaving l E z G [.ref (ga E 104), .int (nI i), .int (nI j)] (fun _ G2 => G2 115 = cI E 256 (fu fk j (fk i)) ∧ G2 116 = cJ E 256 (fu fn j (fn i)) ∧ G2 117 = cJ E 256 (fu fe j (fe i)) ∧ ∀ q, (q < 115 ∨ 118 ≤ q) → G2 q = G q) := by
  refine Fc.of rfl [some (.ref (ga E 104)), some (.int (nI i)), some (.int (nI j))] 0 rfl (Nat.le_of_ble_eq_true rfl) ?_
  intro M hM0 hini C
  subst hM0
  obtain ⟨fa, fb, ho, h5, h6, hfa, hfb, hrg, hlim, hab⟩ := id hm
  refine v_aload_n C dX12_moveSaving_0 rfl ?_
  refine gf_X12_41 C dX12_moveSaving_1 (by assumption) ?_
  refine v_iload_n C dX12_moveSaving_4 rfl ?_
  refine v_aload_n C dX12_moveSaving_5 rfl ?_
  refine gf_X12_41 C dX12_moveSaving_6 (by assumption) ?_
  refine v_iload_n C dX12_moveSaving_9 rfl ?_
  refine v_iald C dX12_moveSaving_10 (by assumption) (by omega) (by omega) rfl ?_
  refine v_iast C dX12_moveSaving_11 (by assumption) (by omega) (by omega) (fun G hG11 hF11 => ?_)
  first | replace ho := (hF11 _ (by omega)).trans ho | replace ho := hG11 | skip
  first | replace h5 := (hF11 _ (by omega)).trans h5 | replace h5 := hG11 | skip
  first | replace h6 := (hF11 _ (by omega)).trans h6 | replace h6 := hG11 | skip
  first | replace hb := (hF11 _ (by omega)).trans hb | replace hb := hG11 | skip
  first | replace hc := (hF11 _ (by omega)).trans hc | replace hc := hG11 | skip
  first | replace hd := (hF11 _ (by omega)).trans hd | replace hd := hG11 | skip
  refine v_aload_n C dX12_moveSaving_12 rfl ?_
  refine gf_X12_44 C dX12_moveSaving_13 (by assumption) ?_
  refine v_iload_n C dX12_moveSaving_16 rfl ?_
  refine v_aload_n C dX12_moveSaving_17 rfl ?_
  refine gf_X12_44 C dX12_moveSaving_18 (by assumption) ?_
  refine v_iload_n C dX12_moveSaving_21 rfl ?_
  refine v_lald C dX12_moveSaving_22 (by assumption) (by omega) (by omega) rfl ?_
  refine v_last C dX12_moveSaving_23 (by assumption) (by omega) (by omega) (fun G hG23 hF23 => ?_)
  first | replace ho := (hF23 _ (by omega)).trans ho | replace ho := hG23 | skip
  first | replace h5 := (hF23 _ (by omega)).trans h5 | replace h5 := hG23 | skip
  first | replace h6 := (hF23 _ (by omega)).trans h6 | replace h6 := hG23 | skip
  first | replace hb := (hF23 _ (by omega)).trans hb | replace hb := hG23 | skip
  first | replace hc := (hF23 _ (by omega)).trans hc | replace hc := hG23 | skip
  first | replace hd := (hF23 _ (by omega)).trans hd | replace hd := hG23 | skip
  refine v_aload_n C dX12_moveSaving_24 rfl ?_
  refine gf_X12_47 C dX12_moveSaving_25 (by assumption) ?_
  refine v_iload_n C dX12_moveSaving_28 rfl ?_
  refine v_aload_n C dX12_moveSaving_29 rfl ?_
  refine gf_X12_47 C dX12_moveSaving_30 (by assumption) ?_
  refine v_iload_n C dX12_moveSaving_33 rfl ?_
  refine v_lald C dX12_moveSaving_34 (by assumption) (by omega) (by omega) rfl ?_
  refine v_last C dX12_moveSaving_35 (by assumption) (by omega) (by omega) (fun G hG35 hF35 => ?_)
  first | replace ho := (hF35 _ (by omega)).trans ho | replace ho := hG35 | skip
  first | replace h5 := (hF35 _ (by omega)).trans h5 | replace h5 := hG35 | skip
  first | replace h6 := (hF35 _ (by omega)).trans h6 | replace h6 := hG35 | skip
  first | replace hb := (hF35 _ (by omega)).trans hb | replace hb := hG35 | skip
  first | replace hc := (hF35 _ (by omega)).trans hc | replace hc := hG35 | skip
  first | replace hd := (hF35 _ (by omega)).trans hd | replace hd := hG35 | skip
  refine v_vret C dX12_moveSaving_36 ?_
  exact ⟨hb, hc, hd, fun j hj => by rw [hF35 j (by omega), hF23 j (by omega), hF11 j (by omega)]⟩

def hol (l : Ctr) (k s : Nat) (gk fk : Nat → Int32) (gn ge fn fe : Nat → Int64) : Prop := (∀ (j : Nat) (c : Nat × Nat × Nat), l[j]? = some c → rp fk fn fe (64 * s + (if j < k then j else j + 1)) c) ∧ ∀ q, (q < 64 * s ∨ 64 * s + 64 ≤ q) → fk q = gk q ∧ fn q = gn q ∧ fe q = ge q
theorem hol_up {l : Ctr} {k s : Nat} {gk fk : Nat → Int32} {gn ge fn fe : Nat → Int64} (h : hol l k s gk fk gn ge fn fe) (hk : k < l.length) (hl : l.length ≤ 63) : hol l (k + 1) s gk (fu fk (64 * s + k) (fk (64 * s + k + 1))) gn ge (fu fn (64 * s + k) (fn (64 * s + k + 1))) (fu fe (64 * s + k) (fe (64 * s + k + 1))) := by
  obtain ⟨h1, h2⟩ := h
  refine ⟨fun j c hj => ?_, fun q hq => ?_⟩
  · have hjl := (List.getElem?_eq_some_iff.mp hj).1
    have h3 := h1 j c hj
    by_cases q1 : j < k
    · rw [if_pos q1] at h3
      rw [if_pos (by omega)]
      unfold rp; rw [fu_ne _ _ (by omega), fu_ne _ _ (by omega), fu_ne _ _ (by omega)]; exact h3
    · rw [if_neg q1] at h3
      by_cases q2 : j = k
      · subst q2
        rw [if_pos (by omega)]
        unfold rp; rw [fu_self, fu_self, fu_self]; exact h3
      · rw [if_neg (by omega)]
        unfold rp; rw [fu_ne _ _ (by omega), fu_ne _ _ (by omega), fu_ne _ _ (by omega)]; exact h3
  · rw [fu_ne _ _ (by omega), fu_ne _ _ (by omega), fu_ne _ _ (by omega)]; exact h2 q hq
theorem hol_dn {l : Ctr} {k s : Nat} {gk fk : Nat → Int32} {gn ge fn fe : Nat → Int64} (h : hol l k s gk fk gn ge fn fe) (hk : 0 < k) (hk2 : k ≤ l.length) (hl : l.length ≤ 63) : hol l (k - 1) s gk (fu fk (64 * s + k) (fk (64 * s + k - 1))) gn ge (fu fn (64 * s + k) (fn (64 * s + k - 1))) (fu fe (64 * s + k) (fe (64 * s + k - 1))) := by
  obtain ⟨h1, h2⟩ := h
  refine ⟨fun j c hj => ?_, fun q hq => ?_⟩
  · have hjl := (List.getElem?_eq_some_iff.mp hj).1
    have h3 := h1 j c hj
    by_cases q1 : j < k - 1
    · rw [if_pos (by omega)] at h3
      rw [if_pos q1]
      unfold rp; rw [fu_ne _ _ (by omega), fu_ne _ _ (by omega), fu_ne _ _ (by omega)]; exact h3
    · rw [if_neg q1]
      by_cases q2 : j = k - 1
      · rw [if_pos (by omega)] at h3
        rw [show 64 * s + (j + 1) = 64 * s + k by omega]
        rw [show 64 * s + j = 64 * s + k - 1 by omega] at h3
        unfold rp; rw [fu_self, fu_self, fu_self]; exact h3
      · rw [if_neg (by omega)] at h3
        unfold rp; rw [fu_ne _ _ (by omega), fu_ne _ _ (by omega), fu_ne _ _ (by omega)]; exact h3
  · rw [fu_ne _ _ (by omega), fu_ne _ _ (by omega), fu_ne _ _ (by omega)]; exact h2 q hq
def nsrt (l : Ctr) : Prop := ∀ (i j : Nat) (c d : Nat × Nat × Nat), i < j → l[i]? = some c → l[j]? = some d → c.2.1 ≤ d.2.1
theorem sPb_is {l : Ctr} (hs : nsrt l) {k n : Nat} (hk : k ≤ l.length) (h1 : ∀ c, l[k]? = some c → n < c.2.1) (h2 : k = 0 ∨ ∃ c, l[k - 1]? = some c ∧ c.2.1 ≤ n) : sPb l n = k := by
  have hlow : ∀ (j : Nat) (c : Nat × Nat × Nat), j < k → l[j]? = some c → c.2.1 ≤ n := by
    intro j c hj hc
    rcases h2 with q | ⟨d, q1, q2⟩
    · omega
    · rcases Nat.lt_or_ge j (k - 1) with q3 | q3
      · exact Nat.le_trans (hs j (k - 1) c d q3 hc q1) q2
      · have e9 : j = k - 1 := by omega
        rw [e9, q1] at hc
        cases hc
        exact q2
  unfold sPb
  rcases Nat.lt_or_ge k l.length with q | q
  · rw [List.findIdx_eq q]
    refine ⟨by simpa using h1 _ (List.getElem?_eq_getElem q), fun j hj => ?_⟩
    have := hlow j _ hj (List.getElem?_eq_getElem (by omega))
    simpa using this
  · have e9 : k = l.length := by omega
    subst e9
    rw [List.findIdx_eq_length]
    intro c hc
    obtain ⟨j, hj⟩ := List.getElem?_of_mem hc
    have := hlow j c (List.getElem?_eq_some_iff.mp hj).1 hj
    simpa using this

set_option maxHeartbeats 4000000 in
set_option maxRecDepth 100000 in
theorem cs_loop2 {M : Mx} {E : Ev} {z : Option Nat} (C : Cx M E yX12_comesSaving.cls cX12_comesSaving 9 none 1 24 0 0) {post : Unit → Gh → Prop} {G0 : Gh} {P W R lim rq po s x n e0 : Nat} {A B : Nat → Nat} {l : Ctr} {fss gk : Nat → Int32} {gn ge : Nat → Int64} {x3 : Option Value} (hs : s < 4) (hx : x < P) (hn62 : n < 2 ^ 62) (hll : l.length + 1 ≤ 64) (hn0 : ∀ c ∈ l, c.2.1 < 2 ^ 62) (hfs : fss s = nI (l.length + 1)) (hsr : nsrt l) (hend : ∀ (G : Gh) (fk : Nat → Int32) (fn fe : Nat → Int64), G 114 = cI E 4 fss → G 115 = cI E 256 fk → G 116 = cJ E 256 fn → G 117 = cJ E 256 fe → (∀ (i : Nat) (c : Nat × Nat × Nat), (sIns l x n e0)[i]? = some c → rp fk fn fe (64 * s + i) c) → (∀ q, (q < 64 * s ∨ 64 * s + 64 ≤ q) → fk q = gk q ∧ fn q = gn q ∧ fe q = ge q) → (∀ j, (j < 114 ∨ 118 ≤ j) → G j = G0 j) → post () G) : ∀ (t k : Nat), k ≤ l.length → k < t → (∀ c, l[k]? = some c → n < c.2.1) → ∀ (G : Gh) (fk : Nat → Int32) (fn fe : Nat → Int64), isMo E G P W R lim rq po A B → G 114 = cI E 4 fss → G 115 = cI E 256 fk → G 116 = cJ E 256 fn → G 117 = cJ E 256 fe → hol l k s gk fk gn ge fn fe → (∀ j, (j < 114 ∨ 118 ≤ j) → G j = G0 j) → V M E 9 (QE M E (fun _ : Unit => none) z 0 0 post) z 0 0 G 155 [some (.ref (ga E 104)), some (.int (nI s)), some (.int (nI x)), x3, some (.long (lN n)), none, some (.long (lN e0)), none, some (.int (nI (64 * s + k)))] [] := by
  intro t
  induction t with
  | zero => intro k _ h; omega
  | succ t ih =>
    intro k hkl ht hgt G fk fn fe hm ha hb hc hd hh hfr
    obtain ⟨fa, fb, ho, h5, h6, hfa, hfb, hrg, hlim, hab⟩ := id hm
    refine v_iload C dX12_comesSaving_155 rfl ?_
    refine v_bipush (v := nI 64) C dX12_comesSaving_157 (by decide) ?_
    refine v_iload_n C dX12_comesSaving_159 rfl ?_
    first | refine v_imuln C dX12_comesSaving_160 ?_ | refine v_imul C dX12_comesSaving_160 ?_
    refine v_icmpn_le C 195 dX12_comesSaving_161 (by decide) (by omega) (by omega) (fun h161 => ?_) (fun h161 => ?_)
    · skip
      have hpb : sPb l n = k := by
        refine sPb_is hsr hkl hgt ?_
        first
          | exact Or.inl (by omega)
          | exact Or.inr ⟨_, hck, by omega⟩
      refine v_aload_n C dX12_comesSaving_195 rfl ?_
      refine gf_X12_41 C dX12_comesSaving_196 (by assumption) ?_
      refine v_iload C dX12_comesSaving_199 rfl ?_
      refine v_iload_n C dX12_comesSaving_201 rfl ?_
      refine v_iast C dX12_comesSaving_202 (by assumption) (by omega) (by omega) (fun G hG202 hF202 => ?_)
      first | replace ho := (hF202 _ (by omega)).trans ho | replace ho := hG202 | skip
      first | replace h5 := (hF202 _ (by omega)).trans h5 | replace h5 := hG202 | skip
      first | replace h6 := (hF202 _ (by omega)).trans h6 | replace h6 := hG202 | skip
      first | replace ha := (hF202 _ (by omega)).trans ha | replace ha := hG202 | skip
      first | replace hb := (hF202 _ (by omega)).trans hb | replace hb := hG202 | skip
      first | replace hc := (hF202 _ (by omega)).trans hc | replace hc := hG202 | skip
      first | replace hd := (hF202 _ (by omega)).trans hd | replace hd := hG202 | skip
      refine v_aload_n C dX12_comesSaving_203 rfl ?_
      refine gf_X12_44 C dX12_comesSaving_204 (by assumption) ?_
      refine v_iload C dX12_comesSaving_207 rfl ?_
      refine v_lload C dX12_comesSaving_209 rfl ?_
      refine v_last C dX12_comesSaving_211 (by assumption) (by omega) (by omega) (fun G hG211 hF211 => ?_)
      first | replace ho := (hF211 _ (by omega)).trans ho | replace ho := hG211 | skip
      first | replace h5 := (hF211 _ (by omega)).trans h5 | replace h5 := hG211 | skip
      first | replace h6 := (hF211 _ (by omega)).trans h6 | replace h6 := hG211 | skip
      first | replace ha := (hF211 _ (by omega)).trans ha | replace ha := hG211 | skip
      first | replace hb := (hF211 _ (by omega)).trans hb | replace hb := hG211 | skip
      first | replace hc := (hF211 _ (by omega)).trans hc | replace hc := hG211 | skip
      first | replace hd := (hF211 _ (by omega)).trans hd | replace hd := hG211 | skip
      refine v_aload_n C dX12_comesSaving_212 rfl ?_
      refine gf_X12_47 C dX12_comesSaving_213 (by assumption) ?_
      refine v_iload C dX12_comesSaving_216 rfl ?_
      refine v_lload C dX12_comesSaving_218 rfl ?_
      refine v_last C dX12_comesSaving_220 (by assumption) (by omega) (by omega) (fun G hG220 hF220 => ?_)
      first | replace ho := (hF220 _ (by omega)).trans ho | replace ho := hG220 | skip
      first | replace h5 := (hF220 _ (by omega)).trans h5 | replace h5 := hG220 | skip
      first | replace h6 := (hF220 _ (by omega)).trans h6 | replace h6 := hG220 | skip
      first | replace ha := (hF220 _ (by omega)).trans ha | replace ha := hG220 | skip
      first | replace hb := (hF220 _ (by omega)).trans hb | replace hb := hG220 | skip
      first | replace hc := (hF220 _ (by omega)).trans hc | replace hc := hG220 | skip
      first | replace hd := (hF220 _ (by omega)).trans hd | replace hd := hG220 | skip
      refine v_vret C dX12_comesSaving_221 ?_
      refine hend G _ _ _ ha hb hc hd (fun i c hic => ?_) (fun q hq => ?_) (fun j hj => by rw [hF220 j (by omega), hF211 j (by omega), hF202 j (by omega)]; exact hfr j hj)
      · unfold sIns at hic
        rw [hpb, List.getElem?_insertIdx] at hic
        by_cases q1 : i < k
        · rw [if_pos q1] at hic
          have h3 := hh.1 i c hic
          rw [if_pos q1] at h3
          unfold rp; rw [fu_ne _ _ (by omega), fu_ne _ _ (by omega), fu_ne _ _ (by omega)]; exact h3
        · rw [if_neg q1] at hic
          by_cases q2 : i = k
          · subst q2
            rw [if_pos rfl, if_pos hkl] at hic
            cases hic
            unfold rp; rw [fu_self, fu_self, fu_self]; exact ⟨rfl, rfl, rfl⟩
          · rw [if_neg q2] at hic
            have hil := (List.getElem?_eq_some_iff.mp hic).1
            have h3 := hh.1 (i - 1) c hic
            rw [if_neg (by omega), show i - 1 + 1 = i by omega] at h3
            unfold rp; rw [fu_ne _ _ (by omega), fu_ne _ _ (by omega), fu_ne _ _ (by omega)]; exact h3
      · rw [fu_ne _ _ (by omega), fu_ne _ _ (by omega), fu_ne _ _ (by omega)]; exact hh.2 q hq
    · skip
      have hck : l[k - 1]? = some l[k - 1] := List.getElem?_eq_getElem (by omega)
      have hrk := hh.1 (k - 1) _ hck
      rw [if_pos (by omega), show 64 * s + (k - 1) = 64 * s + k - 1 by omega] at hrk
      have hnk := hn0 _ (List.mem_of_getElem? hck)
      refine v_aload_n C dX12_comesSaving_164 rfl ?_
      refine gf_X12_44 C dX12_comesSaving_165 (by assumption) ?_
      refine v_iload C dX12_comesSaving_168 rfl ?_
      refine v_iconst (v := nI 1) C dX12_comesSaving_170 (by decide) ?_
      first | refine v_isubn C dX12_comesSaving_171 (by omega) ?_ | refine v_isub C dX12_comesSaving_171 ?_
      refine v_lald C dX12_comesSaving_172 (by assumption) (by omega) (by omega) hrk.2.1 ?_
      refine v_lload C dX12_comesSaving_173 rfl ?_
      refine v_lcmpn_le C 195 dX12_comesSaving_175 dX12_comesSaving_176 (by decide) (by omega) (by omega) (fun h175 => ?_) (fun h175 => ?_)
      · skip
        have hpb : sPb l n = k := by
          refine sPb_is hsr hkl hgt ?_
          first
            | exact Or.inl (by omega)
            | exact Or.inr ⟨_, hck, by omega⟩
        refine v_aload_n C dX12_comesSaving_195 rfl ?_
        refine gf_X12_41 C dX12_comesSaving_196 (by assumption) ?_
        refine v_iload C dX12_comesSaving_199 rfl ?_
        refine v_iload_n C dX12_comesSaving_201 rfl ?_
        refine v_iast C dX12_comesSaving_202 (by assumption) (by omega) (by omega) (fun G hG202 hF202 => ?_)
        first | replace ho := (hF202 _ (by omega)).trans ho | replace ho := hG202 | skip
        first | replace h5 := (hF202 _ (by omega)).trans h5 | replace h5 := hG202 | skip
        first | replace h6 := (hF202 _ (by omega)).trans h6 | replace h6 := hG202 | skip
        first | replace ha := (hF202 _ (by omega)).trans ha | replace ha := hG202 | skip
        first | replace hb := (hF202 _ (by omega)).trans hb | replace hb := hG202 | skip
        first | replace hc := (hF202 _ (by omega)).trans hc | replace hc := hG202 | skip
        first | replace hd := (hF202 _ (by omega)).trans hd | replace hd := hG202 | skip
        refine v_aload_n C dX12_comesSaving_203 rfl ?_
        refine gf_X12_44 C dX12_comesSaving_204 (by assumption) ?_
        refine v_iload C dX12_comesSaving_207 rfl ?_
        refine v_lload C dX12_comesSaving_209 rfl ?_
        refine v_last C dX12_comesSaving_211 (by assumption) (by omega) (by omega) (fun G hG211 hF211 => ?_)
        first | replace ho := (hF211 _ (by omega)).trans ho | replace ho := hG211 | skip
        first | replace h5 := (hF211 _ (by omega)).trans h5 | replace h5 := hG211 | skip
        first | replace h6 := (hF211 _ (by omega)).trans h6 | replace h6 := hG211 | skip
        first | replace ha := (hF211 _ (by omega)).trans ha | replace ha := hG211 | skip
        first | replace hb := (hF211 _ (by omega)).trans hb | replace hb := hG211 | skip
        first | replace hc := (hF211 _ (by omega)).trans hc | replace hc := hG211 | skip
        first | replace hd := (hF211 _ (by omega)).trans hd | replace hd := hG211 | skip
        refine v_aload_n C dX12_comesSaving_212 rfl ?_
        refine gf_X12_47 C dX12_comesSaving_213 (by assumption) ?_
        refine v_iload C dX12_comesSaving_216 rfl ?_
        refine v_lload C dX12_comesSaving_218 rfl ?_
        refine v_last C dX12_comesSaving_220 (by assumption) (by omega) (by omega) (fun G hG220 hF220 => ?_)
        first | replace ho := (hF220 _ (by omega)).trans ho | replace ho := hG220 | skip
        first | replace h5 := (hF220 _ (by omega)).trans h5 | replace h5 := hG220 | skip
        first | replace h6 := (hF220 _ (by omega)).trans h6 | replace h6 := hG220 | skip
        first | replace ha := (hF220 _ (by omega)).trans ha | replace ha := hG220 | skip
        first | replace hb := (hF220 _ (by omega)).trans hb | replace hb := hG220 | skip
        first | replace hc := (hF220 _ (by omega)).trans hc | replace hc := hG220 | skip
        first | replace hd := (hF220 _ (by omega)).trans hd | replace hd := hG220 | skip
        refine v_vret C dX12_comesSaving_221 ?_
        refine hend G _ _ _ ha hb hc hd (fun i c hic => ?_) (fun q hq => ?_) (fun j hj => by rw [hF220 j (by omega), hF211 j (by omega), hF202 j (by omega)]; exact hfr j hj)
        · unfold sIns at hic
          rw [hpb, List.getElem?_insertIdx] at hic
          by_cases q1 : i < k
          · rw [if_pos q1] at hic
            have h3 := hh.1 i c hic
            rw [if_pos q1] at h3
            unfold rp; rw [fu_ne _ _ (by omega), fu_ne _ _ (by omega), fu_ne _ _ (by omega)]; exact h3
          · rw [if_neg q1] at hic
            by_cases q2 : i = k
            · subst q2
              rw [if_pos rfl, if_pos hkl] at hic
              cases hic
              unfold rp; rw [fu_self, fu_self, fu_self]; exact ⟨rfl, rfl, rfl⟩
            · rw [if_neg q2] at hic
              have hil := (List.getElem?_eq_some_iff.mp hic).1
              have h3 := hh.1 (i - 1) c hic
              rw [if_neg (by omega), show i - 1 + 1 = i by omega] at h3
              unfold rp; rw [fu_ne _ _ (by omega), fu_ne _ _ (by omega), fu_ne _ _ (by omega)]; exact h3
        · rw [fu_ne _ _ (by omega), fu_ne _ _ (by omega), fu_ne _ _ (by omega)]; exact hh.2 q hq
      · skip
        refine v_aload_n C dX12_comesSaving_179 rfl ?_
        refine v_iload C dX12_comesSaving_180 rfl ?_
        refine v_iconst (v := nI 1) C dX12_comesSaving_182 (by decide) ?_
        first | refine v_isubn C dX12_comesSaving_183 (by omega) ?_ | refine v_isub C dX12_comesSaving_183 ?_
        refine v_iload C dX12_comesSaving_184 rfl ?_
        refine mc_X12_140 C dX12_comesSaving_186 (by assumption) (c_Mo_move _ E z (i := 64 * s + k - 1) (j := 64 * s + k) (by omega) (by omega) hm hb hc hd) rfl (fun r186 G186 hp186 => ?_)
        obtain ⟨hb, hc, hd, hfr186⟩ := hp186
        have ha := (hfr186 _ (by omega)).trans ha
        first | refine v_iinc_8 C dX12_comesSaving_189 (nI_dec (by omega)) (by decide) (by first | rfl | assumption) ?_ | refine v_iinc_8 C dX12_comesSaving_189 rfl (by decide) (by first | rfl | assumption) ?_
        refine v_goto C 155 dX12_comesSaving_192 (by decide) ?_
        have key := ih (k - 1) (by omega) (by omega) (fun c hcc => by rw [hck] at hcc; cases hcc; omega) G186 _ _ _ (hm.keep (fun j a b => hfr186 j (by omega))) ha hb hc hd (hol_dn hh (by omega) hkl (by omega)) (fun j hj => by rw [hfr186 j (by omega)]; exact hfr j hj)
        rw [show 64 * s + (k - 1) = 64 * s + k - 1 by omega] at key
        exact key
set_option maxHeartbeats 4000000 in
set_option maxRecDepth 100000 in
theorem cs_loop1 {M : Mx} {E : Ev} {z : Option Nat} (C : Cx M E yX12_comesSaving.cls cX12_comesSaving 9 none 1 24 0 0) {post : Unit → Gh → Prop} {G0 : Gh} {P W R lim rq po s x n e0 : Nat} {A B : Nat → Nat} {l : Ctr} {fss gk : Nat → Int32} {gn ge : Nat → Int64} {x3 : Option Value} (hs : s < 4) (hx : x < P) (hn62 : n < 2 ^ 62) (hll : l.length + 1 ≤ 64) (hn0 : ∀ c ∈ l, c.2.1 < 2 ^ 62) (hfs : fss s = nI (l.length + 1)) (hsr : nsrt l) (hend : ∀ (G : Gh) (fk : Nat → Int32) (fn fe : Nat → Int64), G 114 = cI E 4 fss → G 115 = cI E 256 fk → G 116 = cJ E 256 fn → G 117 = cJ E 256 fe → (∀ (i : Nat) (c : Nat × Nat × Nat), (sIns l x n e0)[i]? = some c → rp fk fn fe (64 * s + i) c) → (∀ q, (q < 64 * s ∨ 64 * s + 64 ≤ q) → fk q = gk q ∧ fn q = gn q ∧ fe q = ge q) → (∀ j, (j < 114 ∨ 118 ≤ j) → G j = G0 j) → post () G) : ∀ (t k : Nat), k ≤ l.length → l.length - k < t → ∀ (G : Gh) (fk : Nat → Int32) (fn fe : Nat → Int64), isMo E G P W R lim rq po A B → G 114 = cI E 4 fss → G 115 = cI E 256 fk → G 116 = cJ E 256 fn → G 117 = cJ E 256 fe → hol l k s gk fk gn ge fn fe → (∀ j, (j < 114 ∨ 118 ≤ j) → G j = G0 j) → V M E 9 (QE M E (fun _ : Unit => none) z 0 0 post) z 0 0 G 106 [some (.ref (ga E 104)), some (.int (nI s)), some (.int (nI x)), x3, some (.long (lN n)), none, some (.long (lN e0)), none, some (.int (nI (64 * s + k)))] [] := by
  intro t
  induction t with
  | zero => intro k _ h; omega
  | succ t ih =>
    intro k hkl ht G fk fn fe hm ha hb hc hd hh hfr
    obtain ⟨fa, fb, ho, h5, h6, hfa, hfb, hrg, hlim, hab⟩ := id hm
    refine v_iload C dX12_comesSaving_106 rfl ?_
    refine v_iconst (v := nI 1) C dX12_comesSaving_108 (by decide) ?_
    first | refine v_iaddn C dX12_comesSaving_109 ?_ | refine v_iadd C dX12_comesSaving_109 ?_
    refine v_bipush (v := nI 64) C dX12_comesSaving_110 (by decide) ?_
    refine v_iload_n C dX12_comesSaving_112 rfl ?_
    first | refine v_imuln C dX12_comesSaving_113 ?_ | refine v_imul C dX12_comesSaving_113 ?_
    refine v_aload_n C dX12_comesSaving_114 rfl ?_
    refine gf_X12_38 C dX12_comesSaving_115 (by assumption) ?_
    refine v_iload_n C dX12_comesSaving_118 rfl ?_
    refine v_iald C dX12_comesSaving_119 (by assumption) (by omega) (by omega) hfs ?_
    first | refine v_iaddn C dX12_comesSaving_120 ?_ | refine v_iadd C dX12_comesSaving_120 ?_
    refine v_icmpn_ge C 155 dX12_comesSaving_121 (by decide) (by omega) (by omega) (fun h121 => ?_) (fun h121 => ?_)
    · skip
      refine cs_loop2 C hs hx hn62 hll hn0 hfs hsr hend (k + 1) k hkl (by omega) (fun c hcc => ?_) G fk fn fe hm ha hb hc hd hh hfr
      have hcl := (List.getElem?_eq_some_iff.mp hcc).1
      first
        | omega
        | (rw [hck] at hcc; cases hcc; omega)
    · skip
      have hck : l[k]? = some l[k] := List.getElem?_eq_getElem (by omega)
      have hrk := hh.1 k _ hck
      rw [if_neg (Nat.lt_irrefl k), show 64 * s + (k + 1) = 64 * s + k + 1 by omega] at hrk
      have hnk := hn0 _ (List.mem_of_getElem? hck)
      refine v_aload_n C dX12_comesSaving_124 rfl ?_
      refine gf_X12_44 C dX12_comesSaving_125 (by assumption) ?_
      refine v_iload C dX12_comesSaving_128 rfl ?_
      refine v_iconst (v := nI 1) C dX12_comesSaving_130 (by decide) ?_
      first | refine v_iaddn C dX12_comesSaving_131 ?_ | refine v_iadd C dX12_comesSaving_131 ?_
      refine v_lald C dX12_comesSaving_132 (by assumption) (by omega) (by omega) hrk.2.1 ?_
      refine v_lload C dX12_comesSaving_133 rfl ?_
      refine v_lcmpn_gt C 155 dX12_comesSaving_135 dX12_comesSaving_136 (by decide) (by omega) (by omega) (fun h135 => ?_) (fun h135 => ?_)
      · skip
        refine cs_loop2 C hs hx hn62 hll hn0 hfs hsr hend (k + 1) k hkl (by omega) (fun c hcc => ?_) G fk fn fe hm ha hb hc hd hh hfr
        have hcl := (List.getElem?_eq_some_iff.mp hcc).1
        first
          | omega
          | (rw [hck] at hcc; cases hcc; omega)
      · skip
        refine v_aload_n C dX12_comesSaving_139 rfl ?_
        refine v_iload C dX12_comesSaving_140 rfl ?_
        refine v_iconst (v := nI 1) C dX12_comesSaving_142 (by decide) ?_
        first | refine v_iaddn C dX12_comesSaving_143 ?_ | refine v_iadd C dX12_comesSaving_143 ?_
        refine v_iload C dX12_comesSaving_144 rfl ?_
        refine mc_X12_140 C dX12_comesSaving_146 (by assumption) (c_Mo_move _ E z (i := 64 * s + k + 1) (j := 64 * s + k) (by omega) (by omega) hm hb hc hd) rfl (fun r146 G146 hp146 => ?_)
        obtain ⟨hb, hc, hd, hfr146⟩ := hp146
        have ha := (hfr146 _ (by omega)).trans ha
        first | refine v_iinc_8 C dX12_comesSaving_149 (nI_1 _) (by decide) (by first | rfl | assumption) ?_ | refine v_iinc_8 C dX12_comesSaving_149 rfl (by decide) (by first | rfl | assumption) ?_
        refine v_goto C 106 dX12_comesSaving_152 (by decide) ?_
        have key := ih (k + 1) (by omega) (by omega) G146 _ _ _ (hm.keep (fun j a b => hfr146 j (by omega))) ha hb hc hd (hol_up hh (by omega) (by omega)) (fun j hj => by rw [hfr146 j (by omega)]; exact hfr j hj)
        rw [show 64 * s + (k + 1) = 64 * s + k + 1 by omega] at key
        exact key
