def LI (E : Ev) (G : Gh) (P W R lim : Nat) (A B : Nat → Nat) (Y Z : Nat → Str) (rk : Rnk) (po : Nat) : Prop := isFS E G P W R lim A B Z rk ∧ isMd E G P W R lim rk.length po A B Y ∧ isRp E G rk ∧ isPA E G ∧ RelY Y Z ∧ (∀ k, k < 4 → okY W R (Y k)) ∧ prm P
theorem LI.mk {E : Ev} {G : Gh} {P W R lim : Nat} {A B : Nat → Nat} {Y Z : Nat → Str} {rk : Rnk} {po : Nat} (h1 : isFS E G P W R lim A B Z rk) (h2 : isMd E G P W R lim rk.length po A B Y) (h3 : isRp E G rk) (h4 : isPA E G) (h5 : RelY Y Z) (h6 : ∀ k, k < 4 → okY W R (Y k)) (h7 : prm P) : LI E G P W R lim A B Y Z rk po := ⟨h1, h2, h3, h4, h5, h6, h7⟩
theorem nI_5 (x : Nat) : nI x + Int32.ofInt 5 = nI (x + 5) := by
  rw [← nI_add]
  rfl
theorem lw_gt {L i : Nat} (hL : L < 2 ^ 26) (hi : i < 2 ^ 26) : (nI L - nI 5 < nI i) ↔ L < i + 5 := by
  rw [Int32.lt_iff_toInt_lt, Int32.toInt_sub, nI_toInt (by omega), nI_toInt (by omega), nI_toInt (by omega)]
  rw [Int.bmod_eq_of_le (by omega) (by omega)]
  omega
theorem joinOk_of {Y : Nat → Str} {x1 x2 : Int32} (h : oJoinOk Y x1 x2 = true) : ix x1 < 4 ∧ ix x2 < 4 ∧ zN (Y (ix x1)) + zN (Y (ix x2)) ≤ N15 := by
  unfold oJoinOk at h
  simp only [Bool.and_eq_true, decide_eq_true_eq] at h
  exact ⟨iin_ix h.1.1 (by decide), iin_ix h.1.2 (by decide), h.2⟩
theorem bj_Z {W R lim P : Nat} {A B : Nat → Nat} {Y Z : Nat → Str} (hr : RelY Y Z) (ho : ∀ k, k < 4 → okY W R (Y k)) (hw : ∀ k, k < 4 → wfS lim P (Y k)) (hlim : 1 ≤ lim) (hW : 0 < W) (hR : 0 < R) : ∀ k k2, k < 4 → k2 < 4 → zN (Z k) + zN (Z k2) ≤ N15 → (∀ c ∈ mAdd (zM (Z k)) (zM (Z k2)), c.2.1 < 2 ^ 62) ∧ ∀ c ∈ sU lim (zS (Z k)) (zS (Z k2)) (zS (Z k2)).length, c.2.1 < 2 ^ 62 := by
  intro k k2 hk hk2 hn
  obtain ⟨r1, r2, r3, r4, r5, r6, -⟩ := hr k hk
  obtain ⟨s1, s2, s3, s4, s5, s6, -⟩ := hr k2 hk2
  rw [← r1, ← s1] at hn
  have h := okY_bj (A := A) (B := B) (ho k hk) (ho k2 hk2) (hw k2 hk2) hlim hW hR hn
  rw [r4, s4, r6, s6] at h
  exact ⟨h.1, h.2.2.1⟩

set_option maxHeartbeats 8000000 in
set_option maxRecDepth 100000 in
theorem law_loop {M : Mx} {E : Ev} {rt : Option FieldType} {Q : State → Prop} {b L : Nat} {xs : Nat → Int32} (C : Cx M E RL cL_law 4 rt 10 356 600000 7302249) (X : scX M E b L xs) (hL : L < 2 ^ 25) {P W R lim : Nat} (kend : ∀ (G : Gh) (lo : List (Option Value)), V M E 4 Q none 127 53384 G 809 lo []) : ∀ (t i : Nat), i ≤ L + 5 → L + 5 - i < t → ∀ (G : Gh) (A B : Nat → Nat) (Y Z : Nat → Str) (rk : Rnk) (po : Nat), LI E G P W R lim A B Y Z rk po → V M E 4 Q none 127 53384 G 58 [some (.ref b), some (.ref (ga E 0)), some (.ref (ga E 104)), some (.int (nI i))] [] := by
  intro t
  induction t with
  | zero => intro i _ h; omega
  | succ t ih =>
    intro i hi ht G A B Y Z rk po hLI
    obtain ⟨hfs, hd, hrp, hpa, hrel, hok, hpr⟩ := id hLI
    refine v_iload_n C dL_law_58 rfl ?_
    refine v_aload_n C dL_law_59 rfl ?_
    refine v_slen C X dL_law_60 ?_
    refine v_iconst (v := nI 5) C dL_law_61 (by decide) ?_
    refine v_isub C dL_law_62 ?_
    refine v_icmp_gt C 809 dL_law_63 (by decide) (fun h63 => ?_) (fun h63 => ?_)
    · skip
      exact kend G _
    · skip
      have hin : i + 5 ≤ L := by
        rcases Nat.lt_or_ge L (i + 5) with q9 | q9
        · exact absurd ((lw_gt (by omega) (by omega)).mpr q9) h63
        · exact q9
      have hw := hd.wf
      have hz := hfs.wf
      have hbn := fun k hk => relS_bd (hrel k hk) (hok k hk) (hw k hk)
      have hbd : ∀ k, k < 4 → bdS R W lim (Z k) := fun k hk => (hbn k hk).1
      have hn15 : ∀ k, k < 4 → zN (Z k) ≤ N15 := fun k hk => (hbn k hk).2
      have hokS : ∀ k, k < 4 → okS W R (Y k) := fun k hk => (hok k hk).1
      have hrg := hd.1.hl
      refine v_aload_n C dL_law_66 rfl ?_
      refine v_iload_n C dL_law_67 rfl ?_
      refine v_sld C X (by omega) dL_law_68 ?_
      refine v_bipush (v := nI 31) C dL_law_69 (by decide) ?_
      refine v_iand C dL_law_71 ?_
      refine v_tsw17 C 156 179 222 255 299 322 355 389 413 467 501 555 609 643 712 746 780 803 dL_law_72 (by decide) (by decide) (by decide) (by decide) (by decide) (by decide) (by decide) (by decide) (by decide) (by decide) (by decide) (by decide) (by decide) (by decide) (by decide) (by decide) (by decide) (by decide) (fun h72 => ?_) (fun h72 => ?_) (fun h72 => ?_) (fun h72 => ?_) (fun h72 => ?_) (fun h72 => ?_) (fun h72 => ?_) (fun h72 => ?_) (fun h72 => ?_) (fun h72 => ?_) (fun h72 => ?_) (fun h72 => ?_) (fun h72 => ?_) (fun h72 => ?_) (fun h72 => ?_) (fun h72 => ?_) (fun h72 => ?_) (fun h72 => ?_)
      · skip
        refine v_aload_n C dL_law_156 rfl ?_
        refine v_aload_n C dL_law_157 rfl ?_
        refine v_iload_n C dL_law_158 rfl ?_
        refine v_iconst (v := nI 1) C dL_law_159 (by decide) ?_
        first | refine v_iaddn C dL_law_160 ?_ | refine v_iadd C dL_law_160 ?_
        refine v_sld C X (by omega) dL_law_161 ?_
        refine mc_L_21 C dL_law_162 (hfs.1) (c_FS_size _ E none hfs) rfl (fun r162 G162 hp162 => ?_)
        obtain ⟨hr162, rfl⟩ := hp162
        subst hr162
        refine v_aload_n C dL_law_165 rfl ?_
        refine v_aload_n C dL_law_166 rfl ?_
        refine v_iload_n C dL_law_167 rfl ?_
        refine v_iconst (v := nI 1) C dL_law_168 (by decide) ?_
        first | refine v_iaddn C dL_law_169 ?_ | refine v_iadd C dL_law_169 ?_
        refine v_sld C X (by omega) dL_law_170 ?_
        refine mc_L_25 C dL_law_171 (hd.1.rc) (c_Mo_size _ E none hd.1) rfl (fun r171 G171 hp171 => ?_)
        obtain ⟨hr171, rfl⟩ := hp171
        subst hr171
        refine v_icmp_eq C 803 dL_law_174 (by decide) (fun h174 => ?_) (fun h174 => by exfalso; first | omega | exact h174 rfl | exact absurd h174 (by decide) | (have h9 := of_decide_eq_true h174; omega) | (have h9 := of_decide_eq_false h174; omega) | contradiction | simp_all)
        refine v_iinc_3 C dL_law_803 (nI_5 i) (by decide) rfl ?_
        refine v_goto C 58 dL_law_806 (by decide) ?_
        exact ih (i + 5) (by omega) (by omega) _ _ _ _ _ _ _ hLI
      · skip
        refine v_aload_n C dL_law_179 rfl ?_
        refine v_aload_n C dL_law_180 rfl ?_
        refine v_iload_n C dL_law_181 rfl ?_
        refine v_iconst (v := nI 1) C dL_law_182 (by decide) ?_
        first | refine v_iaddn C dL_law_183 ?_ | refine v_iadd C dL_law_183 ?_
        refine v_sld C X (by omega) dL_law_184 ?_
        refine v_aload_n C dL_law_185 rfl ?_
        refine v_iload_n C dL_law_186 rfl ?_
        refine v_iconst (v := nI 2) C dL_law_187 (by decide) ?_
        first | refine v_iaddn C dL_law_188 ?_ | refine v_iadd C dL_law_188 ?_
        refine v_sld C X (by omega) dL_law_189 ?_
        refine v_aload_n C dL_law_190 rfl ?_
        refine v_iload_n C dL_law_191 rfl ?_
        refine v_iconst (v := nI 3) C dL_law_192 (by decide) ?_
        first | refine v_iaddn C dL_law_193 ?_ | refine v_iadd C dL_law_193 ?_
        refine v_sld C X (by omega) dL_law_194 ?_
        refine mc_L_26 C dL_law_195 (hfs.1) (c_FS_pair _ E none hn15 hfs) rfl (fun r195 G195 hp195 => ?_)
        obtain ⟨hr195, hfs2, hf195⟩ := hp195
        rw [t_pair hrel] at hr195
        rw [t_pairA hrel, t_pairA hrel] at hfs2
        subst hr195
        replace hd := hd.keep (fun j q1 q2 => hf195 j q1)
        replace hrp := hrp.keep (fun j q1 q2 => hf195 j (by omega))
        replace hpa := hpa.keep (fun j q1 q2 => hf195 j (by omega))
        refine v_aload_n C dL_law_198 rfl ?_
        refine v_aload_n C dL_law_199 rfl ?_
        refine v_iload_n C dL_law_200 rfl ?_
        refine v_iconst (v := nI 1) C dL_law_201 (by decide) ?_
        first | refine v_iaddn C dL_law_202 ?_ | refine v_iadd C dL_law_202 ?_
        refine v_sld C X (by omega) dL_law_203 ?_
        refine v_aload_n C dL_law_204 rfl ?_
        refine v_iload_n C dL_law_205 rfl ?_
        refine v_iconst (v := nI 2) C dL_law_206 (by decide) ?_
        first | refine v_iaddn C dL_law_207 ?_ | refine v_iadd C dL_law_207 ?_
        refine v_sld C X (by omega) dL_law_208 ?_
        refine v_aload_n C dL_law_209 rfl ?_
        refine v_iload_n C dL_law_210 rfl ?_
        refine v_iconst (v := nI 3) C dL_law_211 (by decide) ?_
        first | refine v_iaddn C dL_law_212 ?_ | refine v_iadd C dL_law_212 ?_
        refine v_sld C X (by omega) dL_law_213 ?_
        refine mc_L_30 C dL_law_214 (hd.1.rc) (c_Mo_pair _ E none hokS hd) rfl (fun r214 G214 hp214 => ?_)
        obtain ⟨hr214, hd2, hf214⟩ := hp214
        subst hr214
        have hLI := LI.mk (hfs2.keep (fun j q1 => hf214 j (by omega))) hd2 (hrp.keep (fun j q1 q2 => hf214 j (by omega))) (hpa.keep (fun j q1 q2 => hf214 j (by omega))) hrel hok hpr
        refine v_icmp_eq C 803 dL_law_217 (by decide) (fun h217 => ?_) (fun h217 => by exfalso; first | omega | exact h217 rfl | exact absurd h217 (by decide) | (have h9 := of_decide_eq_true h217; omega) | (have h9 := of_decide_eq_false h217; omega) | contradiction | simp_all)
        refine v_iinc_3 C dL_law_803 (nI_5 i) (by decide) rfl ?_
        refine v_goto C 58 dL_law_806 (by decide) ?_
        exact ih (i + 5) (by omega) (by omega) _ _ _ _ _ _ _ hLI
      · skip
        refine v_aload_n C dL_law_222 rfl ?_
        refine v_aload_n C dL_law_223 rfl ?_
        refine v_iload_n C dL_law_224 rfl ?_
        refine v_iconst (v := nI 1) C dL_law_225 (by decide) ?_
        first | refine v_iaddn C dL_law_226 ?_ | refine v_iadd C dL_law_226 ?_
        refine v_sld C X (by omega) dL_law_227 ?_
        refine v_aload_n C dL_law_228 rfl ?_
        refine v_iload_n C dL_law_229 rfl ?_
        refine v_iconst (v := nI 2) C dL_law_230 (by decide) ?_
        first | refine v_iaddn C dL_law_231 ?_ | refine v_iadd C dL_law_231 ?_
        refine v_sld C X (by omega) dL_law_232 ?_
        refine mc_L_31 C dL_law_233 (hfs.1) (c_FS_hash _ E none hfs) rfl (fun r233 G233 hp233 => ?_)
        obtain ⟨hr233, rfl⟩ := hp233
        subst hr233
        refine v_aload_n C dL_law_236 rfl ?_
        refine v_aload_n C dL_law_237 rfl ?_
        refine v_iload_n C dL_law_238 rfl ?_
        refine v_iconst (v := nI 1) C dL_law_239 (by decide) ?_
        first | refine v_iaddn C dL_law_240 ?_ | refine v_iadd C dL_law_240 ?_
        refine v_sld C X (by omega) dL_law_241 ?_
        refine v_aload_n C dL_law_242 rfl ?_
        refine v_iload_n C dL_law_243 rfl ?_
        refine v_iconst (v := nI 2) C dL_law_244 (by decide) ?_
        first | refine v_iaddn C dL_law_245 ?_ | refine v_iadd C dL_law_245 ?_
        refine v_sld C X (by omega) dL_law_246 ?_
        refine mc_L_35 C dL_law_247 (hd.1.rc) (c_Mo_hash _ E none hd.1) rfl (fun r247 G247 hp247 => ?_)
        obtain ⟨hr247, rfl⟩ := hp247
        subst hr247
        refine v_icmp_eq C 803 dL_law_250 (by decide) (fun h250 => ?_) (fun h250 => by exfalso; first | omega | exact h250 rfl | exact absurd h250 (by decide) | (have h9 := of_decide_eq_true h250; omega) | (have h9 := of_decide_eq_false h250; omega) | contradiction | simp_all)
        refine v_iinc_3 C dL_law_803 (nI_5 i) (by decide) rfl ?_
        refine v_goto C 58 dL_law_806 (by decide) ?_
        exact ih (i + 5) (by omega) (by omega) _ _ _ _ _ _ _ hLI
      · skip
        refine v_aload_n C dL_law_255 rfl ?_
        refine v_aload_n C dL_law_256 rfl ?_
        refine v_iload_n C dL_law_257 rfl ?_
        refine v_iconst (v := nI 1) C dL_law_258 (by decide) ?_
        first | refine v_iaddn C dL_law_259 ?_ | refine v_iadd C dL_law_259 ?_
        refine v_sld C X (by omega) dL_law_260 ?_
        refine v_aload_n C dL_law_261 rfl ?_
        refine v_iload_n C dL_law_262 rfl ?_
        refine v_iconst (v := nI 2) C dL_law_263 (by decide) ?_
        first | refine v_iaddn C dL_law_264 ?_ | refine v_iadd C dL_law_264 ?_
        refine v_sld C X (by omega) dL_law_265 ?_
        refine v_aload_n C dL_law_266 rfl ?_
        refine v_iload_n C dL_law_267 rfl ?_
        refine v_iconst (v := nI 3) C dL_law_268 (by decide) ?_
        first | refine v_iaddn C dL_law_269 ?_ | refine v_iadd C dL_law_269 ?_
        refine v_sld C X (by omega) dL_law_270 ?_
        refine mc_L_36 C dL_law_271 (hfs.1) (c_FS_add _ E hbd hn15 hfs) rfl (fun r271 G271 hp271 => ?_)
        obtain ⟨hr271, hfs2, hf271⟩ := hp271
        have ht := t_add (A := A) (B := B) hrel hok hw hrg.2.1 (by omega) (by omega) (by omega) hz (xs (i + 1)) (xs (i + 2)) (xs (i + 3))
        rw [ht.1] at hr271
        subst hr271
        replace hd := hd.keep (fun j q1 q2 => hf271 j q1)
        replace hrp := hrp.keep (fun j q1 q2 => hf271 j (by omega))
        replace hpa := hpa.keep (fun j q1 q2 => hf271 j (by omega))
        refine v_aload_n C dL_law_274 rfl ?_
        refine v_aload_n C dL_law_275 rfl ?_
        refine v_iload_n C dL_law_276 rfl ?_
        refine v_iconst (v := nI 1) C dL_law_277 (by decide) ?_
        first | refine v_iaddn C dL_law_278 ?_ | refine v_iadd C dL_law_278 ?_
        refine v_sld C X (by omega) dL_law_279 ?_
        refine v_aload_n C dL_law_280 rfl ?_
        refine v_iload_n C dL_law_281 rfl ?_
        refine v_iconst (v := nI 2) C dL_law_282 (by decide) ?_
        first | refine v_iaddn C dL_law_283 ?_ | refine v_iadd C dL_law_283 ?_
        refine v_sld C X (by omega) dL_law_284 ?_
        refine v_aload_n C dL_law_285 rfl ?_
        refine v_iload_n C dL_law_286 rfl ?_
        refine v_iconst (v := nI 3) C dL_law_287 (by decide) ?_
        first | refine v_iaddn C dL_law_288 ?_ | refine v_iadd C dL_law_288 ?_
        refine v_sld C X (by omega) dL_law_289 ?_
        refine mc_L_40 C dL_law_290 (hd.1.rc) (c_Mo_add _ E none hokS hd) rfl (fun r290 G290 hp290 => ?_)
        obtain ⟨hr290, hd2, hf290⟩ := hp290
        subst hr290
        have hLI := LI.mk (hfs2.keep (fun j q1 => hf290 j (by omega))) hd2 (hrp.keep (fun j q1 q2 => hf290 j (by omega))) (hpa.keep (fun j q1 q2 => hf290 j (by omega))) ht.2.1 ht.2.2 hpr
        refine v_lcmp_eq C 803 dL_law_293 dL_law_294 (by decide) (fun h293 => ?_) (fun h293 => by exfalso; first | omega | exact h293 rfl | exact absurd h293 (by decide) | (have h9 := of_decide_eq_true h293; omega) | (have h9 := of_decide_eq_false h293; omega) | contradiction | simp_all)
        refine v_iinc_3 C dL_law_803 (nI_5 i) (by decide) rfl ?_
        refine v_goto C 58 dL_law_806 (by decide) ?_
        exact ih (i + 5) (by omega) (by omega) _ _ _ _ _ _ _ hLI
      · skip
        refine v_aload_n C dL_law_299 rfl ?_
        refine v_aload_n C dL_law_300 rfl ?_
        refine v_iload_n C dL_law_301 rfl ?_
        refine v_iconst (v := nI 1) C dL_law_302 (by decide) ?_
        first | refine v_iaddn C dL_law_303 ?_ | refine v_iadd C dL_law_303 ?_
        refine v_sld C X (by omega) dL_law_304 ?_
        refine mc_L_41 C dL_law_305 (hfs.1) (c_FS_clear _ E none hfs) rfl (fun r305 G305 hp305 => ?_)
        obtain ⟨hr305, hfs2, hf305⟩ := hp305
        have ht := t_clear hrel hok (xs (i + 1))
        rw [ht.1] at hr305
        subst hr305
        replace hd := hd.keep (fun j q1 q2 => hf305 j q1)
        replace hrp := hrp.keep (fun j q1 q2 => hf305 j (by omega))
        replace hpa := hpa.keep (fun j q1 q2 => hf305 j (by omega))
        refine v_aload_n C dL_law_308 rfl ?_
        refine v_aload_n C dL_law_309 rfl ?_
        refine v_iload_n C dL_law_310 rfl ?_
        refine v_iconst (v := nI 1) C dL_law_311 (by decide) ?_
        first | refine v_iaddn C dL_law_312 ?_ | refine v_iadd C dL_law_312 ?_
        refine v_sld C X (by omega) dL_law_313 ?_
        refine mc_L_45 C dL_law_314 (hd.1.rc) (c_Mo_clear _ E none hd) rfl (fun r314 G314 hp314 => ?_)
        obtain ⟨hr314, hd2, hf314⟩ := hp314
        subst hr314
        have hLI := LI.mk (hfs2.keep (fun j q1 => hf314 j (by omega))) hd2 (hrp.keep (fun j q1 q2 => hf314 j (by omega))) (hpa.keep (fun j q1 q2 => hf314 j (by omega))) ht.2.1 ht.2.2 hpr
        refine v_icmp_eq C 803 dL_law_317 (by decide) (fun h317 => ?_) (fun h317 => by exfalso; first | omega | exact h317 rfl | exact absurd h317 (by decide) | (have h9 := of_decide_eq_true h317; omega) | (have h9 := of_decide_eq_false h317; omega) | contradiction | simp_all)
        refine v_iinc_3 C dL_law_803 (nI_5 i) (by decide) rfl ?_
        refine v_goto C 58 dL_law_806 (by decide) ?_
        exact ih (i + 5) (by omega) (by omega) _ _ _ _ _ _ _ hLI
      · skip
        refine v_aload_n C dL_law_322 rfl ?_
        refine v_aload_n C dL_law_323 rfl ?_
        refine v_iload_n C dL_law_324 rfl ?_
        refine v_iconst (v := nI 1) C dL_law_325 (by decide) ?_
        first | refine v_iaddn C dL_law_326 ?_ | refine v_iadd C dL_law_326 ?_
        refine v_sld C X (by omega) dL_law_327 ?_
        refine v_aload_n C dL_law_328 rfl ?_
        refine v_iload_n C dL_law_329 rfl ?_
        refine v_iconst (v := nI 2) C dL_law_330 (by decide) ?_
        first | refine v_iaddn C dL_law_331 ?_ | refine v_iadd C dL_law_331 ?_
        refine v_sld C X (by omega) dL_law_332 ?_
        refine mc_L_46 C dL_law_333 (hfs.1) (c_FS_copy _ E hfs) rfl (fun r333 G333 hp333 => ?_)
        obtain ⟨hr333, hfs2, hf333⟩ := hp333
        have ht := t_copy hrel hok (xs (i + 1)) (xs (i + 2))
        rw [ht.1] at hr333
        subst hr333
        replace hd := hd.keep (fun j q1 q2 => hf333 j q1)
        replace hrp := hrp.keep (fun j q1 q2 => hf333 j (by omega))
        replace hpa := hpa.keep (fun j q1 q2 => hf333 j (by omega))
        refine v_aload_n C dL_law_336 rfl ?_
        refine v_aload_n C dL_law_337 rfl ?_
        refine v_iload_n C dL_law_338 rfl ?_
        refine v_iconst (v := nI 1) C dL_law_339 (by decide) ?_
        first | refine v_iaddn C dL_law_340 ?_ | refine v_iadd C dL_law_340 ?_
        refine v_sld C X (by omega) dL_law_341 ?_
        refine v_aload_n C dL_law_342 rfl ?_
        refine v_iload_n C dL_law_343 rfl ?_
        refine v_iconst (v := nI 2) C dL_law_344 (by decide) ?_
        first | refine v_iaddn C dL_law_345 ?_ | refine v_iadd C dL_law_345 ?_
        refine v_sld C X (by omega) dL_law_346 ?_
        refine mc_L_50 C dL_law_347 (hd.1.rc) (c_Mo_copy _ E none hd) rfl (fun r347 G347 hp347 => ?_)
        obtain ⟨hr347, hd2, hf347⟩ := hp347
        subst hr347
        have hLI := LI.mk (hfs2.keep (fun j q1 => hf347 j (by omega))) hd2 (hrp.keep (fun j q1 q2 => hf347 j (by omega))) (hpa.keep (fun j q1 q2 => hf347 j (by omega))) ht.2.1 ht.2.2 hpr
        refine v_icmp_eq C 803 dL_law_350 (by decide) (fun h350 => ?_) (fun h350 => by exfalso; first | omega | exact h350 rfl | exact absurd h350 (by decide) | (have h9 := of_decide_eq_true h350; omega) | (have h9 := of_decide_eq_false h350; omega) | contradiction | simp_all)
        refine v_iinc_3 C dL_law_803 (nI_5 i) (by decide) rfl ?_
        refine v_goto C 58 dL_law_806 (by decide) ?_
        exact ih (i + 5) (by omega) (by omega) _ _ _ _ _ _ _ hLI
      · skip
        refine v_aload_n C dL_law_355 rfl ?_
        refine v_aload_n C dL_law_356 rfl ?_
        refine v_iload_n C dL_law_357 rfl ?_
        refine v_iconst (v := nI 1) C dL_law_358 (by decide) ?_
        first | refine v_iaddn C dL_law_359 ?_ | refine v_iadd C dL_law_359 ?_
        refine v_sld C X (by omega) dL_law_360 ?_
        refine v_aload_n C dL_law_361 rfl ?_
        refine v_iload_n C dL_law_362 rfl ?_
        refine v_iconst (v := nI 2) C dL_law_363 (by decide) ?_
        first | refine v_iaddn C dL_law_364 ?_ | refine v_iadd C dL_law_364 ?_
        refine v_sld C X (by omega) dL_law_365 ?_
        refine mc_L_51 C dL_law_366 (hfs.1) (c_FS_join _ E hbd hn15 (bj_Z (A := A) (B := B) hrel hok hw hrg.2.1 (by omega) (by omega)) hfs) rfl (fun r366 G366 hp366 => ?_)
        obtain ⟨hq366, hf366⟩ := hp366
        rw [t_joinOk hrel] at hq366
        replace hd := hd.keep (fun j q1 q2 => hf366 j q1)
        replace hrp := hrp.keep (fun j q1 q2 => hf366 j (by omega))
        replace hpa := hpa.keep (fun j q1 q2 => hf366 j (by omega))
        by_cases hj : oJoinOk Y (xs (i + 1)) (xs (i + 2)) = true
        · skip
          rw [if_pos hj] at hq366
          have hj3 := joinOk_of hj
          obtain ⟨hr366, sv1, hsv1, hfs2⟩ := hq366
          rw [← (hrel _ hj3.1).1, ← (hrel _ hj3.2.1).1] at hr366
          subst hr366
          refine v_aload_n C dL_law_369 rfl ?_
          refine v_aload_n C dL_law_370 rfl ?_
          refine v_iload_n C dL_law_371 rfl ?_
          refine v_iconst (v := nI 1) C dL_law_372 (by decide) ?_
          first | refine v_iaddn C dL_law_373 ?_ | refine v_iadd C dL_law_373 ?_
          refine v_sld C X (by omega) dL_law_374 ?_
          refine v_aload_n C dL_law_375 rfl ?_
          refine v_iload_n C dL_law_376 rfl ?_
          refine v_iconst (v := nI 2) C dL_law_377 (by decide) ?_
          first | refine v_iaddn C dL_law_378 ?_ | refine v_iadd C dL_law_378 ?_
          refine v_sld C X (by omega) dL_law_379 ?_
          refine mc_L_55 C dL_law_380 (hd.1.rc) (c_Mo_join _ E none hokS (fun k k2 hk hk2 hn => okY_bj (A := A) (B := B) (hok k hk) (hok k2 hk2) (hw k2 hk2) hrg.2.1 (by omega) (by omega) hn) hpa hd) rfl (fun r380 G380 hp380 => ?_)
          obtain ⟨hq380, hf380⟩ := hp380
          rw [if_pos hj] at hq380
          obtain ⟨hr380, po2, sv2, hsv2, hd2, hpa2⟩ := hq380
          subst hr380
          have hLI := LI.mk (hfs2.keep (fun j q1 => hf380 j (by omega))) hd2 (hrp.keep (fun j q1 q2 => hf380 j (by omega))) hpa2 (RelY_fu hrel (relS_join (W := W) (R := R) (hrel _ hj3.1) (hrel _ hj3.2.1) (hw _ hj3.1) (hw _ hj3.2.1) (hz _ hj3.1) hsv2 hsv1)) (okY_fu hok (okY_join (A := A) (B := B) (hok _ hj3.1) (hok _ hj3.2.1) (hw _ hj3.1) (hw _ hj3.2.1) hrg.2.1 (by omega) (by omega) hj3.2.2 hsv2)) hpr
          refine v_lcmp_eq C 803 dL_law_383 dL_law_384 (by decide) (fun h383 => ?_) (fun h383 => by exfalso; first | omega | exact h383 rfl | exact absurd h383 (by decide) | (have h9 := of_decide_eq_true h383; omega) | (have h9 := of_decide_eq_false h383; omega) | contradiction | simp_all)
          refine v_iinc_3 C dL_law_803 (nI_5 i) (by decide) rfl ?_
          refine v_goto C 58 dL_law_806 (by decide) ?_
          exact ih (i + 5) (by omega) (by omega) _ _ _ _ _ _ _ hLI
        · skip
          rw [if_neg hj] at hq366
          obtain ⟨hr366, hfs2⟩ := hq366
          subst hr366
          refine v_aload_n C dL_law_369 rfl ?_
          refine v_aload_n C dL_law_370 rfl ?_
          refine v_iload_n C dL_law_371 rfl ?_
          refine v_iconst (v := nI 1) C dL_law_372 (by decide) ?_
          first | refine v_iaddn C dL_law_373 ?_ | refine v_iadd C dL_law_373 ?_
          refine v_sld C X (by omega) dL_law_374 ?_
          refine v_aload_n C dL_law_375 rfl ?_
          refine v_iload_n C dL_law_376 rfl ?_
          refine v_iconst (v := nI 2) C dL_law_377 (by decide) ?_
          first | refine v_iaddn C dL_law_378 ?_ | refine v_iadd C dL_law_378 ?_
          refine v_sld C X (by omega) dL_law_379 ?_
          refine mc_L_55 C dL_law_380 (hd.1.rc) (c_Mo_join _ E none hokS (fun k k2 hk hk2 hn => okY_bj (A := A) (B := B) (hok k hk) (hok k2 hk2) (hw k2 hk2) hrg.2.1 (by omega) (by omega) hn) hpa hd) rfl (fun r380 G380 hp380 => ?_)
          obtain ⟨hq380, hf380⟩ := hp380
          rw [if_neg hj] at hq380
          obtain ⟨hr380, po2, hd2, hpa2⟩ := hq380
          subst hr380
          have hLI := LI.mk (hfs2.keep (fun j q1 => hf380 j (by omega))) hd2 (hrp.keep (fun j q1 q2 => hf380 j (by omega))) hpa2 hrel hok hpr
          refine v_lcmp_eq C 803 dL_law_383 dL_law_384 (by decide) (fun h383 => ?_) (fun h383 => by exfalso; first | omega | exact h383 rfl | exact absurd h383 (by decide) | (have h9 := of_decide_eq_true h383; omega) | (have h9 := of_decide_eq_false h383; omega) | contradiction | simp_all)
          refine v_iinc_3 C dL_law_803 (nI_5 i) (by decide) rfl ?_
          refine v_goto C 58 dL_law_806 (by decide) ?_
          exact ih (i + 5) (by omega) (by omega) _ _ _ _ _ _ _ hLI
      · skip
        refine v_aload_n C dL_law_389 rfl ?_
        refine v_aload_n C dL_law_390 rfl ?_
        refine v_iload_n C dL_law_391 rfl ?_
        refine v_iconst (v := nI 1) C dL_law_392 (by decide) ?_
        first | refine v_iaddn C dL_law_393 ?_ | refine v_iadd C dL_law_393 ?_
        refine v_sld C X (by omega) dL_law_394 ?_
        refine mc_L_56 C dL_law_395 (hfs.1) (c_FS_total _ E none hfs) rfl (fun r395 G395 hp395 => ?_)
        obtain ⟨hr395, rfl⟩ := hp395
        rw [t_total hrel] at hr395
        subst hr395
        refine v_aload_n C dL_law_398 rfl ?_
        refine v_aload_n C dL_law_399 rfl ?_
        refine v_iload_n C dL_law_400 rfl ?_
        refine v_iconst (v := nI 1) C dL_law_401 (by decide) ?_
        first | refine v_iaddn C dL_law_402 ?_ | refine v_iadd C dL_law_402 ?_
        refine v_sld C X (by omega) dL_law_403 ?_
        refine mc_L_60 C dL_law_404 (hd.1.rc) (c_Mo_total _ E none hd) rfl (fun r404 G404 hp404 => ?_)
        obtain ⟨hr404, rfl⟩ := hp404
        subst hr404
        refine v_lcmp_eq C 803 dL_law_407 dL_law_408 (by decide) (fun h407 => ?_) (fun h407 => by exfalso; first | omega | exact h407 rfl | exact absurd h407 (by decide) | (have h9 := of_decide_eq_true h407; omega) | (have h9 := of_decide_eq_false h407; omega) | contradiction | simp_all)
        refine v_iinc_3 C dL_law_803 (nI_5 i) (by decide) rfl ?_
        refine v_goto C 58 dL_law_806 (by decide) ?_
        exact ih (i + 5) (by omega) (by omega) _ _ _ _ _ _ _ hLI
      · skip
        refine v_aload_n C dL_law_413 rfl ?_
        refine v_aload_n C dL_law_414 rfl ?_
        refine v_iload_n C dL_law_415 rfl ?_
        refine v_iconst (v := nI 1) C dL_law_416 (by decide) ?_
        first | refine v_iaddn C dL_law_417 ?_ | refine v_iadd C dL_law_417 ?_
        refine v_sld C X (by omega) dL_law_418 ?_
        refine v_aload_n C dL_law_419 rfl ?_
        refine v_iload_n C dL_law_420 rfl ?_
        refine v_iconst (v := nI 2) C dL_law_421 (by decide) ?_
        first | refine v_iaddn C dL_law_422 ?_ | refine v_iadd C dL_law_422 ?_
        refine v_sld C X (by omega) dL_law_423 ?_
        refine v_aload_n C dL_law_424 rfl ?_
        refine v_iload_n C dL_law_425 rfl ?_
        refine v_iconst (v := nI 3) C dL_law_426 (by decide) ?_
        first | refine v_iaddn C dL_law_427 ?_ | refine v_iadd C dL_law_427 ?_
        refine v_sld C X (by omega) dL_law_428 ?_
        refine v_aload_n C dL_law_429 rfl ?_
        refine v_iload_n C dL_law_430 rfl ?_
        refine v_iconst (v := nI 4) C dL_law_431 (by decide) ?_
        first | refine v_iaddn C dL_law_432 ?_ | refine v_iadd C dL_law_432 ?_
        refine v_sld C X (by omega) dL_law_433 ?_
        refine mc_L_61 C dL_law_434 (hfs.1) (c_FS_estimate _ E none hbd hfs) rfl (fun r434 G434 hp434 => ?_)
        obtain ⟨hr434, rfl⟩ := hp434
        rw [t_est hrel] at hr434
        subst hr434
        refine v_aload_n C dL_law_437 rfl ?_
        refine v_aload_n C dL_law_438 rfl ?_
        refine v_iload_n C dL_law_439 rfl ?_
        refine v_iconst (v := nI 1) C dL_law_440 (by decide) ?_
        first | refine v_iaddn C dL_law_441 ?_ | refine v_iadd C dL_law_441 ?_
        refine v_sld C X (by omega) dL_law_442 ?_
        refine v_aload_n C dL_law_443 rfl ?_
        refine v_iload_n C dL_law_444 rfl ?_
        refine v_iconst (v := nI 2) C dL_law_445 (by decide) ?_
        first | refine v_iaddn C dL_law_446 ?_ | refine v_iadd C dL_law_446 ?_
        refine v_sld C X (by omega) dL_law_447 ?_
        refine v_aload_n C dL_law_448 rfl ?_
        refine v_iload_n C dL_law_449 rfl ?_
        refine v_iconst (v := nI 3) C dL_law_450 (by decide) ?_
        first | refine v_iaddn C dL_law_451 ?_ | refine v_iadd C dL_law_451 ?_
        refine v_sld C X (by omega) dL_law_452 ?_
        refine v_aload_n C dL_law_453 rfl ?_
        refine v_iload_n C dL_law_454 rfl ?_
        refine v_iconst (v := nI 4) C dL_law_455 (by decide) ?_
        first | refine v_iaddn C dL_law_456 ?_ | refine v_iadd C dL_law_456 ?_
        refine v_sld C X (by omega) dL_law_457 ?_
        refine mc_L_65 C dL_law_458 (hd.1.rc) (c_Mo_estimate _ E none hokS hd) rfl (fun r458 G458 hp458 => ?_)
        obtain ⟨hr458, rfl⟩ := hp458
        subst hr458
        refine v_lcmp_eq C 803 dL_law_461 dL_law_462 (by decide) (fun h461 => ?_) (fun h461 => by exfalso; first | omega | exact h461 rfl | exact absurd h461 (by decide) | (have h9 := of_decide_eq_true h461; omega) | (have h9 := of_decide_eq_false h461; omega) | contradiction | simp_all)
        refine v_iinc_3 C dL_law_803 (nI_5 i) (by decide) rfl ?_
        refine v_goto C 58 dL_law_806 (by decide) ?_
        exact ih (i + 5) (by omega) (by omega) _ _ _ _ _ _ _ hLI
      · skip
        refine v_aload_n C dL_law_467 rfl ?_
        refine v_aload_n C dL_law_468 rfl ?_
        refine v_iload_n C dL_law_469 rfl ?_
        refine v_iconst (v := nI 1) C dL_law_470 (by decide) ?_
        first | refine v_iaddn C dL_law_471 ?_ | refine v_iadd C dL_law_471 ?_
        refine v_sld C X (by omega) dL_law_472 ?_
        refine v_aload_n C dL_law_473 rfl ?_
        refine v_iload_n C dL_law_474 rfl ?_
        refine v_iconst (v := nI 2) C dL_law_475 (by decide) ?_
        first | refine v_iaddn C dL_law_476 ?_ | refine v_iadd C dL_law_476 ?_
        refine v_sld C X (by omega) dL_law_477 ?_
        refine mc_L_66 C dL_law_478 (hfs.1) (c_FS_count _ E none hfs) rfl (fun r478 G478 hp478 => ?_)
        obtain ⟨hr478, rfl⟩ := hp478
        rw [t_count hrel hw hz] at hr478
        subst hr478
        refine v_aload_n C dL_law_481 rfl ?_
        refine v_aload_n C dL_law_482 rfl ?_
        refine v_iload_n C dL_law_483 rfl ?_
        refine v_iconst (v := nI 1) C dL_law_484 (by decide) ?_
        first | refine v_iaddn C dL_law_485 ?_ | refine v_iadd C dL_law_485 ?_
        refine v_sld C X (by omega) dL_law_486 ?_
        refine v_aload_n C dL_law_487 rfl ?_
        refine v_iload_n C dL_law_488 rfl ?_
        refine v_iconst (v := nI 2) C dL_law_489 (by decide) ?_
        first | refine v_iaddn C dL_law_490 ?_ | refine v_iadd C dL_law_490 ?_
        refine v_sld C X (by omega) dL_law_491 ?_
        refine mc_L_69 C dL_law_492 (hd.1.rc) (c_Mo_count _ E none hd) rfl (fun r492 G492 hp492 => ?_)
        obtain ⟨hr492, rfl⟩ := hp492
        subst hr492
        refine v_lcmp_eq C 803 dL_law_495 dL_law_496 (by decide) (fun h495 => ?_) (fun h495 => by exfalso; first | omega | exact h495 rfl | exact absurd h495 (by decide) | (have h9 := of_decide_eq_true h495; omega) | (have h9 := of_decide_eq_false h495; omega) | contradiction | simp_all)
        refine v_iinc_3 C dL_law_803 (nI_5 i) (by decide) rfl ?_
        refine v_goto C 58 dL_law_806 (by decide) ?_
        exact ih (i + 5) (by omega) (by omega) _ _ _ _ _ _ _ hLI
      · skip
        refine v_aload_n C dL_law_501 rfl ?_
        refine v_aload_n C dL_law_502 rfl ?_
        refine v_iload_n C dL_law_503 rfl ?_
        refine v_iconst (v := nI 1) C dL_law_504 (by decide) ?_
        first | refine v_iaddn C dL_law_505 ?_ | refine v_iadd C dL_law_505 ?_
        refine v_sld C X (by omega) dL_law_506 ?_
        refine v_aload_n C dL_law_507 rfl ?_
        refine v_iload_n C dL_law_508 rfl ?_
        refine v_iconst (v := nI 2) C dL_law_509 (by decide) ?_
        first | refine v_iaddn C dL_law_510 ?_ | refine v_iadd C dL_law_510 ?_
        refine v_sld C X (by omega) dL_law_511 ?_
        refine v_aload_n C dL_law_512 rfl ?_
        refine v_iload_n C dL_law_513 rfl ?_
        refine v_iconst (v := nI 3) C dL_law_514 (by decide) ?_
        first | refine v_iaddn C dL_law_515 ?_ | refine v_iadd C dL_law_515 ?_
        refine v_sld C X (by omega) dL_law_516 ?_
        refine v_aload_n C dL_law_517 rfl ?_
        refine v_iload_n C dL_law_518 rfl ?_
        refine v_iconst (v := nI 4) C dL_law_519 (by decide) ?_
        first | refine v_iaddn C dL_law_520 ?_ | refine v_iadd C dL_law_520 ?_
        refine v_sld C X (by omega) dL_law_521 ?_
        refine mc_L_70 C dL_law_522 (hfs.1) (c_FS_cell _ E none hfs) rfl (fun r522 G522 hp522 => ?_)
        obtain ⟨hr522, rfl⟩ := hp522
        rw [t_cell hrel] at hr522
        subst hr522
        refine v_aload_n C dL_law_525 rfl ?_
        refine v_aload_n C dL_law_526 rfl ?_
        refine v_iload_n C dL_law_527 rfl ?_
        refine v_iconst (v := nI 1) C dL_law_528 (by decide) ?_
        first | refine v_iaddn C dL_law_529 ?_ | refine v_iadd C dL_law_529 ?_
        refine v_sld C X (by omega) dL_law_530 ?_
        refine v_aload_n C dL_law_531 rfl ?_
        refine v_iload_n C dL_law_532 rfl ?_
        refine v_iconst (v := nI 2) C dL_law_533 (by decide) ?_
        first | refine v_iaddn C dL_law_534 ?_ | refine v_iadd C dL_law_534 ?_
        refine v_sld C X (by omega) dL_law_535 ?_
        refine v_aload_n C dL_law_536 rfl ?_
        refine v_iload_n C dL_law_537 rfl ?_
        refine v_iconst (v := nI 3) C dL_law_538 (by decide) ?_
        first | refine v_iaddn C dL_law_539 ?_ | refine v_iadd C dL_law_539 ?_
        refine v_sld C X (by omega) dL_law_540 ?_
        refine v_aload_n C dL_law_541 rfl ?_
        refine v_iload_n C dL_law_542 rfl ?_
        refine v_iconst (v := nI 4) C dL_law_543 (by decide) ?_
        first | refine v_iaddn C dL_law_544 ?_ | refine v_iadd C dL_law_544 ?_
        refine v_sld C X (by omega) dL_law_545 ?_
        refine mc_L_72 C dL_law_546 (hd.1.rc) (c_Mo_cell _ E none hd) rfl (fun r546 G546 hp546 => ?_)
        obtain ⟨hr546, rfl⟩ := hp546
        subst hr546
        refine v_lcmp_eq C 803 dL_law_549 dL_law_550 (by decide) (fun h549 => ?_) (fun h549 => by exfalso; first | omega | exact h549 rfl | exact absurd h549 (by decide) | (have h9 := of_decide_eq_true h549; omega) | (have h9 := of_decide_eq_false h549; omega) | contradiction | simp_all)
        refine v_iinc_3 C dL_law_803 (nI_5 i) (by decide) rfl ?_
        refine v_goto C 58 dL_law_806 (by decide) ?_
        exact ih (i + 5) (by omega) (by omega) _ _ _ _ _ _ _ hLI
      · skip
        refine v_aload_n C dL_law_555 rfl ?_
        refine v_aload_n C dL_law_556 rfl ?_
        refine v_iload_n C dL_law_557 rfl ?_
        refine v_iconst (v := nI 1) C dL_law_558 (by decide) ?_
        first | refine v_iaddn C dL_law_559 ?_ | refine v_iadd C dL_law_559 ?_
        refine v_sld C X (by omega) dL_law_560 ?_
        refine v_aload_n C dL_law_561 rfl ?_
        refine v_iload_n C dL_law_562 rfl ?_
        refine v_iconst (v := nI 2) C dL_law_563 (by decide) ?_
        first | refine v_iaddn C dL_law_564 ?_ | refine v_iadd C dL_law_564 ?_
        refine v_sld C X (by omega) dL_law_565 ?_
        refine v_aload_n C dL_law_566 rfl ?_
        refine v_iload_n C dL_law_567 rfl ?_
        refine v_iconst (v := nI 3) C dL_law_568 (by decide) ?_
        first | refine v_iaddn C dL_law_569 ?_ | refine v_iadd C dL_law_569 ?_
        refine v_sld C X (by omega) dL_law_570 ?_
        refine v_aload_n C dL_law_571 rfl ?_
        refine v_iload_n C dL_law_572 rfl ?_
        refine v_iconst (v := nI 4) C dL_law_573 (by decide) ?_
        first | refine v_iaddn C dL_law_574 ?_ | refine v_iadd C dL_law_574 ?_
        refine v_sld C X (by omega) dL_law_575 ?_
        refine mc_L_73 C dL_law_576 (hfs.1) (c_FS_counter _ E none hfs) rfl (fun r576 G576 hp576 => ?_)
        obtain ⟨hr576, rfl⟩ := hp576
        rw [t_counter hrel] at hr576
        subst hr576
        refine v_aload_n C dL_law_579 rfl ?_
        refine v_aload_n C dL_law_580 rfl ?_
        refine v_iload_n C dL_law_581 rfl ?_
        refine v_iconst (v := nI 1) C dL_law_582 (by decide) ?_
        first | refine v_iaddn C dL_law_583 ?_ | refine v_iadd C dL_law_583 ?_
        refine v_sld C X (by omega) dL_law_584 ?_
        refine v_aload_n C dL_law_585 rfl ?_
        refine v_iload_n C dL_law_586 rfl ?_
        refine v_iconst (v := nI 2) C dL_law_587 (by decide) ?_
        first | refine v_iaddn C dL_law_588 ?_ | refine v_iadd C dL_law_588 ?_
        refine v_sld C X (by omega) dL_law_589 ?_
        refine v_aload_n C dL_law_590 rfl ?_
        refine v_iload_n C dL_law_591 rfl ?_
        refine v_iconst (v := nI 3) C dL_law_592 (by decide) ?_
        first | refine v_iaddn C dL_law_593 ?_ | refine v_iadd C dL_law_593 ?_
        refine v_sld C X (by omega) dL_law_594 ?_
        refine v_aload_n C dL_law_595 rfl ?_
        refine v_iload_n C dL_law_596 rfl ?_
        refine v_iconst (v := nI 4) C dL_law_597 (by decide) ?_
        first | refine v_iaddn C dL_law_598 ?_ | refine v_iadd C dL_law_598 ?_
        refine v_sld C X (by omega) dL_law_599 ?_
        refine mc_L_76 C dL_law_600 (hd.1.rc) (c_Mo_counter _ E none hokS hd) rfl (fun r600 G600 hp600 => ?_)
        obtain ⟨hr600, rfl⟩ := hp600
        subst hr600
        refine v_lcmp_eq C 803 dL_law_603 dL_law_604 (by decide) (fun h603 => ?_) (fun h603 => by exfalso; first | omega | exact h603 rfl | exact absurd h603 (by decide) | (have h9 := of_decide_eq_true h603; omega) | (have h9 := of_decide_eq_false h603; omega) | contradiction | simp_all)
        refine v_iinc_3 C dL_law_803 (nI_5 i) (by decide) rfl ?_
        refine v_goto C 58 dL_law_806 (by decide) ?_
        exact ih (i + 5) (by omega) (by omega) _ _ _ _ _ _ _ hLI
      · skip
        refine v_aload_n C dL_law_609 rfl ?_
        refine v_aload_n C dL_law_610 rfl ?_
        refine v_iload_n C dL_law_611 rfl ?_
        refine v_iconst (v := nI 1) C dL_law_612 (by decide) ?_
        first | refine v_iaddn C dL_law_613 ?_ | refine v_iadd C dL_law_613 ?_
        refine v_sld C X (by omega) dL_law_614 ?_
        refine v_aload_n C dL_law_615 rfl ?_
        refine v_iload_n C dL_law_616 rfl ?_
        refine v_iconst (v := nI 2) C dL_law_617 (by decide) ?_
        first | refine v_iaddn C dL_law_618 ?_ | refine v_iadd C dL_law_618 ?_
        refine v_sld C X (by omega) dL_law_619 ?_
        refine mc_L_77 C dL_law_620 (hfs.1) (c_FS_state _ E none hfs) rfl (fun r620 G620 hp620 => ?_)
        obtain ⟨hr620, rfl⟩ := hp620
        rw [t_state hrel] at hr620
        subst hr620
        refine v_aload_n C dL_law_623 rfl ?_
        refine v_aload_n C dL_law_624 rfl ?_
        refine v_iload_n C dL_law_625 rfl ?_
        refine v_iconst (v := nI 1) C dL_law_626 (by decide) ?_
        first | refine v_iaddn C dL_law_627 ?_ | refine v_iadd C dL_law_627 ?_
        refine v_sld C X (by omega) dL_law_628 ?_
        refine v_aload_n C dL_law_629 rfl ?_
        refine v_iload_n C dL_law_630 rfl ?_
        refine v_iconst (v := nI 2) C dL_law_631 (by decide) ?_
        first | refine v_iaddn C dL_law_632 ?_ | refine v_iadd C dL_law_632 ?_
        refine v_sld C X (by omega) dL_law_633 ?_
        refine mc_L_80 C dL_law_634 (hd.1.rc) (c_Mo_state _ E none hd) rfl (fun r634 G634 hp634 => ?_)
        obtain ⟨hr634, rfl⟩ := hp634
        subst hr634
        refine v_lcmp_eq C 803 dL_law_637 dL_law_638 (by decide) (fun h637 => ?_) (fun h637 => by exfalso; first | omega | exact h637 rfl | exact absurd h637 (by decide) | (have h9 := of_decide_eq_true h637; omega) | (have h9 := of_decide_eq_false h637; omega) | contradiction | simp_all)
        refine v_iinc_3 C dL_law_803 (nI_5 i) (by decide) rfl ?_
        refine v_goto C 58 dL_law_806 (by decide) ?_
        exact ih (i + 5) (by omega) (by omega) _ _ _ _ _ _ _ hLI
      · skip
        refine v_aload_n C dL_law_643 rfl ?_
        refine v_aload_n C dL_law_644 rfl ?_
        refine v_iload_n C dL_law_645 rfl ?_
        refine v_iconst (v := nI 1) C dL_law_646 (by decide) ?_
        first | refine v_iaddn C dL_law_647 ?_ | refine v_iadd C dL_law_647 ?_
        refine v_sld C X (by omega) dL_law_648 ?_
        refine v_aload_n C dL_law_649 rfl ?_
        refine v_iload_n C dL_law_650 rfl ?_
        refine v_iconst (v := nI 2) C dL_law_651 (by decide) ?_
        first | refine v_iaddn C dL_law_652 ?_ | refine v_iadd C dL_law_652 ?_
        refine v_sld C X (by omega) dL_law_653 ?_
        refine v_aload_n C dL_law_654 rfl ?_
        refine v_iload_n C dL_law_655 rfl ?_
        refine v_iconst (v := nI 3) C dL_law_656 (by decide) ?_
        first | refine v_iaddn C dL_law_657 ?_ | refine v_iadd C dL_law_657 ?_
        refine v_sld C X (by omega) dL_law_658 ?_
        refine v_aload_n C dL_law_659 rfl ?_
        refine v_iload_n C dL_law_660 rfl ?_
        refine v_iconst (v := nI 4) C dL_law_661 (by decide) ?_
        first | refine v_iaddn C dL_law_662 ?_ | refine v_iadd C dL_law_662 ?_
        refine v_sld C X (by omega) dL_law_663 ?_
        by_cases hx4 : xs (i + 4) = 0
        · skip
          refine v_if_eq C 671 dL_law_664 (by decide) (fun h664 => ?_) (fun h664 => by exfalso; first | omega | exact h664 rfl | exact absurd h664 (by decide) | (have h9 := of_decide_eq_true h664; omega) | (have h9 := of_decide_eq_false h664; omega) | contradiction | simp_all)
          refine v_iconst (v := bI false) C dL_law_671 (by decide) ?_
          refine mc_L_81 C dL_law_672 (hfs.1) (c_FS_report _ E none (sure := false) hbd hn15 hfs) rfl (fun r672 G672 hp672 => ?_)
          obtain ⟨hr672, hfs2, hf672⟩ := hp672
          rw [t_report hrel] at hr672 hfs2
          subst hr672
          replace hd := hd.keep (fun j q1 q2 => hf672 j q1)
          replace hrp := hrp.keep (fun j q1 q2 => hf672 j (by omega))
          replace hpa := hpa.keep (fun j q1 q2 => hf672 j (by omega))
          refine v_aload_n C dL_law_675 rfl ?_
          refine v_aload_n C dL_law_676 rfl ?_
          refine v_iload_n C dL_law_677 rfl ?_
          refine v_iconst (v := nI 1) C dL_law_678 (by decide) ?_
          first | refine v_iaddn C dL_law_679 ?_ | refine v_iadd C dL_law_679 ?_
          refine v_sld C X (by omega) dL_law_680 ?_
          refine v_aload_n C dL_law_681 rfl ?_
          refine v_iload_n C dL_law_682 rfl ?_
          refine v_iconst (v := nI 2) C dL_law_683 (by decide) ?_
          first | refine v_iaddn C dL_law_684 ?_ | refine v_iadd C dL_law_684 ?_
          refine v_sld C X (by omega) dL_law_685 ?_
          refine v_aload_n C dL_law_686 rfl ?_
          refine v_iload_n C dL_law_687 rfl ?_
          refine v_iconst (v := nI 3) C dL_law_688 (by decide) ?_
          first | refine v_iaddn C dL_law_689 ?_ | refine v_iadd C dL_law_689 ?_
          refine v_sld C X (by omega) dL_law_690 ?_
          refine v_aload_n C dL_law_691 rfl ?_
          refine v_iload_n C dL_law_692 rfl ?_
          refine v_iconst (v := nI 4) C dL_law_693 (by decide) ?_
          first | refine v_iaddn C dL_law_694 ?_ | refine v_iadd C dL_law_694 ?_
          refine v_sld C X (by omega) dL_law_695 ?_
          refine v_if_eq C 703 dL_law_696 (by decide) (fun h696 => ?_) (fun h696 => by exfalso; first | omega | exact h696 rfl | exact absurd h696 (by decide) | (have h9 := of_decide_eq_true h696; omega) | (have h9 := of_decide_eq_false h696; omega) | contradiction | simp_all)
          refine v_iconst (v := bI false) C dL_law_703 (by decide) ?_
          refine mc_L_85 C dL_law_704 (hd.1.rc) (c_Mo_report _ E none (sure := false) hokS hrp hd) rfl (fun r704 G704 hp704 => ?_)
          obtain ⟨hr704, hd2, hrp2, hf704⟩ := hp704
          subst hr704
          have hLI := LI.mk (hfs2.keep (fun j q1 => hf704 j (by omega))) hd2 hrp2 (hpa.keep (fun j q1 q2 => hf704 j (by omega))) hrel hok hpr
          refine v_icmp_eq C 803 dL_law_707 (by decide) (fun h707 => ?_) (fun h707 => by exfalso; first | omega | exact h707 rfl | exact absurd h707 (by decide) | (have h9 := of_decide_eq_true h707; omega) | (have h9 := of_decide_eq_false h707; omega) | contradiction | simp_all)
          refine v_iinc_3 C dL_law_803 (nI_5 i) (by decide) rfl ?_
          refine v_goto C 58 dL_law_806 (by decide) ?_
          exact ih (i + 5) (by omega) (by omega) _ _ _ _ _ _ _ hLI
        · skip
          refine v_if_eq C 671 dL_law_664 (by decide) (fun h664 => by exfalso; first | omega | exact h664 rfl | exact absurd h664 (by decide) | (have h9 := of_decide_eq_true h664; omega) | (have h9 := of_decide_eq_false h664; omega) | contradiction | simp_all) (fun h664 => ?_)
          refine v_iconst (v := bI true) C dL_law_667 (by decide) ?_
          refine v_goto C 672 dL_law_668 (by decide) ?_
          refine mc_L_81 C dL_law_672 (hfs.1) (c_FS_report _ E none (sure := true) hbd hn15 hfs) rfl (fun r672 G672 hp672 => ?_)
          obtain ⟨hr672, hfs2, hf672⟩ := hp672
          rw [t_report hrel] at hr672 hfs2
          subst hr672
          replace hd := hd.keep (fun j q1 q2 => hf672 j q1)
          replace hrp := hrp.keep (fun j q1 q2 => hf672 j (by omega))
          replace hpa := hpa.keep (fun j q1 q2 => hf672 j (by omega))
          refine v_aload_n C dL_law_675 rfl ?_
          refine v_aload_n C dL_law_676 rfl ?_
          refine v_iload_n C dL_law_677 rfl ?_
          refine v_iconst (v := nI 1) C dL_law_678 (by decide) ?_
          first | refine v_iaddn C dL_law_679 ?_ | refine v_iadd C dL_law_679 ?_
          refine v_sld C X (by omega) dL_law_680 ?_
          refine v_aload_n C dL_law_681 rfl ?_
          refine v_iload_n C dL_law_682 rfl ?_
          refine v_iconst (v := nI 2) C dL_law_683 (by decide) ?_
          first | refine v_iaddn C dL_law_684 ?_ | refine v_iadd C dL_law_684 ?_
          refine v_sld C X (by omega) dL_law_685 ?_
          refine v_aload_n C dL_law_686 rfl ?_
          refine v_iload_n C dL_law_687 rfl ?_
          refine v_iconst (v := nI 3) C dL_law_688 (by decide) ?_
          first | refine v_iaddn C dL_law_689 ?_ | refine v_iadd C dL_law_689 ?_
          refine v_sld C X (by omega) dL_law_690 ?_
          refine v_aload_n C dL_law_691 rfl ?_
          refine v_iload_n C dL_law_692 rfl ?_
          refine v_iconst (v := nI 4) C dL_law_693 (by decide) ?_
          first | refine v_iaddn C dL_law_694 ?_ | refine v_iadd C dL_law_694 ?_
          refine v_sld C X (by omega) dL_law_695 ?_
          refine v_if_eq C 703 dL_law_696 (by decide) (fun h696 => by exfalso; first | omega | exact h696 rfl | exact absurd h696 (by decide) | (have h9 := of_decide_eq_true h696; omega) | (have h9 := of_decide_eq_false h696; omega) | contradiction | simp_all) (fun h696 => ?_)
          refine v_iconst (v := bI true) C dL_law_699 (by decide) ?_
          refine v_goto C 704 dL_law_700 (by decide) ?_
          refine mc_L_85 C dL_law_704 (hd.1.rc) (c_Mo_report _ E none (sure := true) hokS hrp hd) rfl (fun r704 G704 hp704 => ?_)
          obtain ⟨hr704, hd2, hrp2, hf704⟩ := hp704
          subst hr704
          have hLI := LI.mk (hfs2.keep (fun j q1 => hf704 j (by omega))) hd2 hrp2 (hpa.keep (fun j q1 q2 => hf704 j (by omega))) hrel hok hpr
          refine v_icmp_eq C 803 dL_law_707 (by decide) (fun h707 => ?_) (fun h707 => by exfalso; first | omega | exact h707 rfl | exact absurd h707 (by decide) | (have h9 := of_decide_eq_true h707; omega) | (have h9 := of_decide_eq_false h707; omega) | contradiction | simp_all)
          refine v_iinc_3 C dL_law_803 (nI_5 i) (by decide) rfl ?_
          refine v_goto C 58 dL_law_806 (by decide) ?_
          exact ih (i + 5) (by omega) (by omega) _ _ _ _ _ _ _ hLI
      · skip
        refine v_aload_n C dL_law_712 rfl ?_
        refine v_aload_n C dL_law_713 rfl ?_
        refine v_iload_n C dL_law_714 rfl ?_
        refine v_iconst (v := nI 1) C dL_law_715 (by decide) ?_
        first | refine v_iaddn C dL_law_716 ?_ | refine v_iadd C dL_law_716 ?_
        refine v_sld C X (by omega) dL_law_717 ?_
        refine v_aload_n C dL_law_718 rfl ?_
        refine v_iload_n C dL_law_719 rfl ?_
        refine v_iconst (v := nI 2) C dL_law_720 (by decide) ?_
        first | refine v_iaddn C dL_law_721 ?_ | refine v_iadd C dL_law_721 ?_
        refine v_sld C X (by omega) dL_law_722 ?_
        refine mc_L_86 C dL_law_723 (hfs.1) (c_FS_reported _ E none hfs) rfl (fun r723 G723 hp723 => ?_)
        obtain ⟨hr723, rfl⟩ := hp723
        subst hr723
        refine v_aload_n C dL_law_726 rfl ?_
        refine v_aload_n C dL_law_727 rfl ?_
        refine v_iload_n C dL_law_728 rfl ?_
        refine v_iconst (v := nI 1) C dL_law_729 (by decide) ?_
        first | refine v_iaddn C dL_law_730 ?_ | refine v_iadd C dL_law_730 ?_
        refine v_sld C X (by omega) dL_law_731 ?_
        refine v_aload_n C dL_law_732 rfl ?_
        refine v_iload_n C dL_law_733 rfl ?_
        refine v_iconst (v := nI 2) C dL_law_734 (by decide) ?_
        first | refine v_iaddn C dL_law_735 ?_ | refine v_iadd C dL_law_735 ?_
        refine v_sld C X (by omega) dL_law_736 ?_
        refine mc_L_89 C dL_law_737 (hd.1.rc) (c_Mo_reported _ E none hrp hd.1) rfl (fun r737 G737 hp737 => ?_)
        obtain ⟨hr737, rfl⟩ := hp737
        subst hr737
        refine v_lcmp_eq C 803 dL_law_740 dL_law_741 (by decide) (fun h740 => ?_) (fun h740 => by exfalso; first | omega | exact h740 rfl | exact absurd h740 (by decide) | (have h9 := of_decide_eq_true h740; omega) | (have h9 := of_decide_eq_false h740; omega) | contradiction | simp_all)
        refine v_iinc_3 C dL_law_803 (nI_5 i) (by decide) rfl ?_
        refine v_goto C 58 dL_law_806 (by decide) ?_
        exact ih (i + 5) (by omega) (by omega) _ _ _ _ _ _ _ hLI
      · skip
        refine v_aload_n C dL_law_746 rfl ?_
        refine v_aload_n C dL_law_747 rfl ?_
        refine v_iload_n C dL_law_748 rfl ?_
        refine v_iconst (v := nI 1) C dL_law_749 (by decide) ?_
        first | refine v_iaddn C dL_law_750 ?_ | refine v_iadd C dL_law_750 ?_
        refine v_sld C X (by omega) dL_law_751 ?_
        refine v_aload_n C dL_law_752 rfl ?_
        refine v_iload_n C dL_law_753 rfl ?_
        refine v_iconst (v := nI 2) C dL_law_754 (by decide) ?_
        first | refine v_iaddn C dL_law_755 ?_ | refine v_iadd C dL_law_755 ?_
        refine v_sld C X (by omega) dL_law_756 ?_
        refine mc_L_90 C dL_law_757 (hfs.1) (c_FS_over _ E none hfs) rfl (fun r757 G757 hp757 => ?_)
        obtain ⟨hr757, rfl⟩ := hp757
        rw [t_over hrel hok hw hz hpr (by omega) (by omega)] at hr757
        subst hr757
        refine v_aload_n C dL_law_760 rfl ?_
        refine v_aload_n C dL_law_761 rfl ?_
        refine v_iload_n C dL_law_762 rfl ?_
        refine v_iconst (v := nI 1) C dL_law_763 (by decide) ?_
        first | refine v_iaddn C dL_law_764 ?_ | refine v_iadd C dL_law_764 ?_
        refine v_sld C X (by omega) dL_law_765 ?_
        refine v_aload_n C dL_law_766 rfl ?_
        refine v_iload_n C dL_law_767 rfl ?_
        refine v_iconst (v := nI 2) C dL_law_768 (by decide) ?_
        first | refine v_iaddn C dL_law_769 ?_ | refine v_iadd C dL_law_769 ?_
        refine v_sld C X (by omega) dL_law_770 ?_
        refine mc_L_93 C dL_law_771 (hd.1.rc) (c_Mo_over _ E none hokS hd) rfl (fun r771 G771 hp771 => ?_)
        obtain ⟨hr771, rfl⟩ := hp771
        subst hr771
        refine v_lcmp_eq C 803 dL_law_774 dL_law_775 (by decide) (fun h774 => ?_) (fun h774 => by exfalso; first | omega | exact h774 rfl | exact absurd h774 (by decide) | (have h9 := of_decide_eq_true h774; omega) | (have h9 := of_decide_eq_false h774; omega) | contradiction | simp_all)
        refine v_iinc_3 C dL_law_803 (nI_5 i) (by decide) rfl ?_
        refine v_goto C 58 dL_law_806 (by decide) ?_
        exact ih (i + 5) (by omega) (by omega) _ _ _ _ _ _ _ hLI
      · skip
        refine v_aload_n C dL_law_780 rfl ?_
        refine v_aload_n C dL_law_781 rfl ?_
        refine v_iload_n C dL_law_782 rfl ?_
        refine v_iconst (v := nI 1) C dL_law_783 (by decide) ?_
        first | refine v_iaddn C dL_law_784 ?_ | refine v_iadd C dL_law_784 ?_
        refine v_sld C X (by omega) dL_law_785 ?_
        refine mc_L_94 C dL_law_786 (hfs.1) (c_FS_audit _ E none hbd hfs) rfl (fun r786 G786 hp786 => ?_)
        obtain ⟨hr786, rfl⟩ := hp786
        rw [t_audit hrel] at hr786
        subst hr786
        refine v_aload_n C dL_law_789 rfl ?_
        refine v_aload_n C dL_law_790 rfl ?_
        refine v_iload_n C dL_law_791 rfl ?_
        refine v_iconst (v := nI 1) C dL_law_792 (by decide) ?_
        first | refine v_iaddn C dL_law_793 ?_ | refine v_iadd C dL_law_793 ?_
        refine v_sld C X (by omega) dL_law_794 ?_
        refine mc_L_97 C dL_law_795 (hd.1.rc) (c_Mo_audit _ E none hokS hd) rfl (fun r795 G795 hp795 => ?_)
        obtain ⟨hr795, rfl⟩ := hp795
        subst hr795
        refine v_icmp_eq C 803 dL_law_798 (by decide) (fun h798 => ?_) (fun h798 => by exfalso; first | omega | exact h798 rfl | exact absurd h798 (by decide) | (have h9 := of_decide_eq_true h798; omega) | (have h9 := of_decide_eq_false h798; omega) | contradiction | simp_all)
        refine v_iinc_3 C dL_law_803 (nI_5 i) (by decide) rfl ?_
        refine v_goto C 58 dL_law_806 (by decide) ?_
        exact ih (i + 5) (by omega) (by omega) _ _ _ _ _ _ _ hLI
      · skip
        refine v_iinc_3 C dL_law_803 (nI_5 i) (by decide) rfl ?_
        refine v_goto C 58 dL_law_806 (by decide) ?_
        exact ih (i + 5) (by omega) (by omega) _ _ _ _ _ _ _ hLI
