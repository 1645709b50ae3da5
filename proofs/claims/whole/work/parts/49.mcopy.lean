set_option maxHeartbeats 4000000 in
set_option maxRecDepth 100000 in
theorem mcopy1 {M : Mx} {E : Ev} {z : Option Nat} (C : Cx M E yX12_copy.cls cX12_copy 4 (some .boolean) 2 42 0 0) {post : Bool → Gh → Prop} {G0 : Gh} {P W R lim rq po s s2 : Nat} {A B : Nat → Nat} {gp : Nat → Int64} {gq : Nat → Int64} (hs : s < 4) (hs2 : s2 < 4)
    (kend : ∀ (G : Gh) (fp : Nat → Int64) (fq : Nat → Int64), G 104 = moO E P W R lim rq po → G 108 = cJ E 8192 fp → G 109 = cJ E 8192 fq → blk (2048 * s) (2048 * s2) 2048 gp fp → blk (2048 * s) (2048 * s2) 2048 gq fq → (∀ j, j ≠ 108 ∧ j ≠ 109 → G j = G0 j) → V M E 4 (QE M E (fun r : Bool => some (.int (bI r))) z 0 0 post) z 0 0 G 91 [some (.ref (ga E 104)), some (.int (nI s)), some (.int (nI s2)), some (.int (nI 2048))] []) :
    ∀ (u k : Nat), k ≤ 2048 → 2048 - k < u → ∀ (G : Gh) (fp : Nat → Int64) (fq : Nat → Int64), G 104 = moO E P W R lim rq po → G 108 = cJ E 8192 fp → G 109 = cJ E 8192 fq → blk (2048 * s) (2048 * s2) k gp fp → blk (2048 * s) (2048 * s2) k gq fq → (∀ j, j ≠ 108 ∧ j ≠ 109 → G j = G0 j) → V M E 4 (QE M E (fun r : Bool => some (.int (bI r))) z 0 0 post) z 0 0 G 30 [some (.ref (ga E 104)), some (.int (nI s)), some (.int (nI s2)), some (.int (nI k))] [] := by
  intro u
  induction u with
  | zero => intro k _ h; omega
  | succ u ih =>
    intro k hk hu G fp fq ho hp hq hzp hzq hfr
    refine v_iload_n C dX12_copy_30 rfl ?_
    refine v_sipush (v := nI 2048) C dX12_copy_31 (by decide) ?_
    refine v_icmpn_ge C 91 dX12_copy_34 (by decide) (by omega) (by omega) (fun h34 => ?_) (fun h34 => ?_)
    · skip
      have e9 : k = 2048 := by omega
      subst e9
      exact kend G fp fq ho hp hq hzp hzq hfr
    · skip
      refine v_aload_n C dX12_copy_37 rfl ?_
      refine gf_X12_20 C dX12_copy_38 (by assumption) ?_
      refine v_sipush (v := nI 2048) C dX12_copy_41 (by decide) ?_
      refine v_iload_n C dX12_copy_44 rfl ?_
      first | refine v_imuln C dX12_copy_45 ?_ | refine v_imul C dX12_copy_45 ?_
      refine v_iload_n C dX12_copy_46 rfl ?_
      first | refine v_iaddn C dX12_copy_47 ?_ | refine v_iadd C dX12_copy_47 ?_
      refine v_aload_n C dX12_copy_48 rfl ?_
      refine gf_X12_20 C dX12_copy_49 (by assumption) ?_
      refine v_sipush (v := nI 2048) C dX12_copy_52 (by decide) ?_
      refine v_iload_n C dX12_copy_55 rfl ?_
      first | refine v_imuln C dX12_copy_56 ?_ | refine v_imul C dX12_copy_56 ?_
      refine v_iload_n C dX12_copy_57 rfl ?_
      first | refine v_iaddn C dX12_copy_58 ?_ | refine v_iadd C dX12_copy_58 ?_
      refine v_lald C dX12_copy_59 (by assumption) (by omega) (by omega) rfl ?_
      refine v_last C dX12_copy_60 (by assumption) (by omega) (by omega) (fun G hG60 hF60 => ?_)
      first | replace ho := (hF60 _ (by omega)).trans ho | replace ho := hG60 | skip
      first | replace hp := (hF60 _ (by omega)).trans hp | replace hp := hG60 | skip
      first | replace hq := (hF60 _ (by omega)).trans hq | replace hq := hG60 | skip
      refine v_aload_n C dX12_copy_61 rfl ?_
      refine gf_X12_23 C dX12_copy_62 (by assumption) ?_
      refine v_sipush (v := nI 2048) C dX12_copy_65 (by decide) ?_
      refine v_iload_n C dX12_copy_68 rfl ?_
      first | refine v_imuln C dX12_copy_69 ?_ | refine v_imul C dX12_copy_69 ?_
      refine v_iload_n C dX12_copy_70 rfl ?_
      first | refine v_iaddn C dX12_copy_71 ?_ | refine v_iadd C dX12_copy_71 ?_
      refine v_aload_n C dX12_copy_72 rfl ?_
      refine gf_X12_23 C dX12_copy_73 (by assumption) ?_
      refine v_sipush (v := nI 2048) C dX12_copy_76 (by decide) ?_
      refine v_iload_n C dX12_copy_79 rfl ?_
      first | refine v_imuln C dX12_copy_80 ?_ | refine v_imul C dX12_copy_80 ?_
      refine v_iload_n C dX12_copy_81 rfl ?_
      first | refine v_iaddn C dX12_copy_82 ?_ | refine v_iadd C dX12_copy_82 ?_
      refine v_lald C dX12_copy_83 (by assumption) (by omega) (by omega) rfl ?_
      refine v_last C dX12_copy_84 (by assumption) (by omega) (by omega) (fun G hG84 hF84 => ?_)
      first | replace ho := (hF84 _ (by omega)).trans ho | replace ho := hG84 | skip
      first | replace hp := (hF84 _ (by omega)).trans hp | replace hp := hG84 | skip
      first | replace hq := (hF84 _ (by omega)).trans hq | replace hq := hG84 | skip
      first | refine v_iinc_3 C dX12_copy_85 (nI_1 _) (by decide) (by first | rfl | assumption) ?_ | refine v_iinc_3 C dX12_copy_85 rfl (by decide) (by first | rfl | assumption) ?_
      refine v_goto C 30 dX12_copy_88 (by decide) ?_
      exact ih (k + 1) (by omega) (by omega) _ _ _ ho hp hq (blk_step (B := 2048) hzp (by omega) (by omega)) (blk_step (B := 2048) hzq (by omega) (by omega)) (fun j hj => by rw [hF84 j (by omega), hF60 j (by omega)]; exact hfr j hj)
set_option maxHeartbeats 4000000 in
set_option maxRecDepth 100000 in
theorem mcopy2 {M : Mx} {E : Ev} {z : Option Nat} (C : Cx M E yX12_copy.cls cX12_copy 4 (some .boolean) 2 42 0 0) {post : Bool → Gh → Prop} {G0 : Gh} {P W R lim rq po s s2 : Nat} {A B : Nat → Nat} {g2 : Nat → Int32} {g3 : Nat → Int64} {g5 : Nat → Int32} {g6 : Nat → Int64} {g7 : Nat → Int64} (hs : s < 4) (hs2 : s2 < 4)
    (kend : ∀ (G : Gh) (f2 : Nat → Int32) (f3 : Nat → Int64) (f5 : Nat → Int32) (f6 : Nat → Int64) (f7 : Nat → Int64), isMo E G P W R lim rq po A B → G 112 = cI E 256 f2 → G 113 = cJ E 256 f3 → G 115 = cI E 256 f5 → G 116 = cJ E 256 f6 → G 117 = cJ E 256 f7 → blk (64 * s) (64 * s2) 64 g2 f2 → blk (64 * s) (64 * s2) 64 g3 f3 → blk (64 * s) (64 * s2) 64 g5 f5 → blk (64 * s) (64 * s2) 64 g6 f6 → blk (64 * s) (64 * s2) 64 g7 f7 → (∀ j, j ≠ 112 ∧ j ≠ 113 ∧ j ≠ 115 ∧ j ≠ 116 ∧ j ≠ 117 → G j = G0 j) → V M E 4 (QE M E (fun r : Bool => some (.int (bI r))) z 0 0 post) z 0 0 G 201 [some (.ref (ga E 104)), some (.int (nI s)), some (.int (nI s2)), some (.int (nI 64))] []) :
    ∀ (u k : Nat), k ≤ 64 → 64 - k < u → ∀ (G : Gh) (f2 : Nat → Int32) (f3 : Nat → Int64) (f5 : Nat → Int32) (f6 : Nat → Int64) (f7 : Nat → Int64), isMo E G P W R lim rq po A B → G 112 = cI E 256 f2 → G 113 = cJ E 256 f3 → G 115 = cI E 256 f5 → G 116 = cJ E 256 f6 → G 117 = cJ E 256 f7 → blk (64 * s) (64 * s2) k g2 f2 → blk (64 * s) (64 * s2) k g3 f3 → blk (64 * s) (64 * s2) k g5 f5 → blk (64 * s) (64 * s2) k g6 f6 → blk (64 * s) (64 * s2) k g7 f7 → (∀ j, j ≠ 112 ∧ j ≠ 113 ∧ j ≠ 115 ∧ j ≠ 116 ∧ j ≠ 117 → G j = G0 j) → V M E 4 (QE M E (fun r : Bool => some (.int (bI r))) z 0 0 post) z 0 0 G 129 [some (.ref (ga E 104)), some (.int (nI s)), some (.int (nI s2)), some (.int (nI k))] [] := by
  intro u
  induction u with
  | zero => intro k _ h; omega
  | succ u ih =>
    intro k hk hu G f2 f3 f5 f6 f7 hm mc md sb sc sd z2 z3 z5 z6 z7 hfr
    obtain ⟨fa, fb, ho, k5, k6, hfa, hfb, hrg, hlim, hab⟩ := id hm
    refine v_iload_n C dX12_copy_129 rfl ?_
    refine v_bipush (v := nI 64) C dX12_copy_130 (by decide) ?_
    refine v_icmpn_ge C 201 dX12_copy_132 (by decide) (by omega) (by omega) (fun h132 => ?_) (fun h132 => ?_)
    · skip
      have e9 : k = 64 := by omega
      subst e9
      exact kend G f2 f3 f5 f6 f7 hm mc md sb sc sd z2 z3 z5 z6 z7 hfr
    · skip
      refine v_aload_n C dX12_copy_135 rfl ?_
      refine gf_X12_32 C dX12_copy_136 (by assumption) ?_
      refine v_bipush (v := nI 64) C dX12_copy_139 (by decide) ?_
      refine v_iload_n C dX12_copy_141 rfl ?_
      first | refine v_imuln C dX12_copy_142 ?_ | refine v_imul C dX12_copy_142 ?_
      refine v_iload_n C dX12_copy_143 rfl ?_
      first | refine v_iaddn C dX12_copy_144 ?_ | refine v_iadd C dX12_copy_144 ?_
      refine v_aload_n C dX12_copy_145 rfl ?_
      refine gf_X12_32 C dX12_copy_146 (by assumption) ?_
      refine v_bipush (v := nI 64) C dX12_copy_149 (by decide) ?_
      refine v_iload_n C dX12_copy_151 rfl ?_
      first | refine v_imuln C dX12_copy_152 ?_ | refine v_imul C dX12_copy_152 ?_
      refine v_iload_n C dX12_copy_153 rfl ?_
      first | refine v_iaddn C dX12_copy_154 ?_ | refine v_iadd C dX12_copy_154 ?_
      refine v_iald C dX12_copy_155 (by assumption) (by omega) (by omega) rfl ?_
      refine v_iast C dX12_copy_156 (by assumption) (by omega) (by omega) (fun G hG156 hF156 => ?_)
      first | replace ho := (hF156 _ (by omega)).trans ho | replace ho := hG156 | skip
      first | replace k5 := (hF156 _ (by omega)).trans k5 | replace k5 := hG156 | skip
      first | replace k6 := (hF156 _ (by omega)).trans k6 | replace k6 := hG156 | skip
      first | replace mc := (hF156 _ (by omega)).trans mc | replace mc := hG156 | skip
      first | replace md := (hF156 _ (by omega)).trans md | replace md := hG156 | skip
      first | replace sb := (hF156 _ (by omega)).trans sb | replace sb := hG156 | skip
      first | replace sc := (hF156 _ (by omega)).trans sc | replace sc := hG156 | skip
      first | replace sd := (hF156 _ (by omega)).trans sd | replace sd := hG156 | skip
      refine v_aload_n C dX12_copy_157 rfl ?_
      refine gf_X12_35 C dX12_copy_158 (by assumption) ?_
      refine v_bipush (v := nI 64) C dX12_copy_161 (by decide) ?_
      refine v_iload_n C dX12_copy_163 rfl ?_
      first | refine v_imuln C dX12_copy_164 ?_ | refine v_imul C dX12_copy_164 ?_
      refine v_iload_n C dX12_copy_165 rfl ?_
      first | refine v_iaddn C dX12_copy_166 ?_ | refine v_iadd C dX12_copy_166 ?_
      refine v_aload_n C dX12_copy_167 rfl ?_
      refine gf_X12_35 C dX12_copy_168 (by assumption) ?_
      refine v_bipush (v := nI 64) C dX12_copy_171 (by decide) ?_
      refine v_iload_n C dX12_copy_173 rfl ?_
      first | refine v_imuln C dX12_copy_174 ?_ | refine v_imul C dX12_copy_174 ?_
      refine v_iload_n C dX12_copy_175 rfl ?_
      first | refine v_iaddn C dX12_copy_176 ?_ | refine v_iadd C dX12_copy_176 ?_
      refine v_lald C dX12_copy_177 (by assumption) (by omega) (by omega) rfl ?_
      refine v_last C dX12_copy_178 (by assumption) (by omega) (by omega) (fun G hG178 hF178 => ?_)
      first | replace ho := (hF178 _ (by omega)).trans ho | replace ho := hG178 | skip
      first | replace k5 := (hF178 _ (by omega)).trans k5 | replace k5 := hG178 | skip
      first | replace k6 := (hF178 _ (by omega)).trans k6 | replace k6 := hG178 | skip
      first | replace mc := (hF178 _ (by omega)).trans mc | replace mc := hG178 | skip
      first | replace md := (hF178 _ (by omega)).trans md | replace md := hG178 | skip
      first | replace sb := (hF178 _ (by omega)).trans sb | replace sb := hG178 | skip
      first | replace sc := (hF178 _ (by omega)).trans sc | replace sc := hG178 | skip
      first | replace sd := (hF178 _ (by omega)).trans sd | replace sd := hG178 | skip
      refine v_aload_n C dX12_copy_179 rfl ?_
      refine v_bipush (v := nI 64) C dX12_copy_180 (by decide) ?_
      refine v_iload_n C dX12_copy_182 rfl ?_
      first | refine v_imuln C dX12_copy_183 ?_ | refine v_imul C dX12_copy_183 ?_
      refine v_iload_n C dX12_copy_184 rfl ?_
      first | refine v_iaddn C dX12_copy_185 ?_ | refine v_iadd C dX12_copy_185 ?_
      refine v_bipush (v := nI 64) C dX12_copy_186 (by decide) ?_
      refine v_iload_n C dX12_copy_188 rfl ?_
      first | refine v_imuln C dX12_copy_189 ?_ | refine v_imul C dX12_copy_189 ?_
      refine v_iload_n C dX12_copy_190 rfl ?_
      first | refine v_iaddn C dX12_copy_191 ?_ | refine v_iadd C dX12_copy_191 ?_
      refine mc_X12_140 C dX12_copy_192 (by assumption) (c_Mo_move _ E z (i := 64 * s2 + k) (j := 64 * s + k) (by omega) (by omega) (hm.keep (fun j a b => by rw [hF178 j (by omega), hF156 j (by omega)])) sb sc sd) rfl (fun r192 G192 hp192 => ?_)
      obtain ⟨sb, sc, sd, hfr192⟩ := hp192
      replace mc := (hfr192 _ (by omega)).trans mc
      replace md := (hfr192 _ (by omega)).trans md
      have hm9 := hm.keep (fun j a b => show G192 j = _ by rw [hfr192 j (by omega), hF178 j (by omega), hF156 j (by omega)])
      first | refine v_iinc_3 C dX12_copy_195 (nI_1 _) (by decide) (by first | rfl | assumption) ?_ | refine v_iinc_3 C dX12_copy_195 rfl (by decide) (by first | rfl | assumption) ?_
      refine v_goto C 129 dX12_copy_198 (by decide) ?_
      exact ih (k + 1) (by omega) (by omega) _ _ _ _ _ _ hm9 mc md sb sc sd (blk_step (B := 64) z2 (by omega) (by omega)) (blk_step (B := 64) z3 (by omega) (by omega)) (blk_step (B := 64) z5 (by omega) (by omega)) (blk_step (B := 64) z6 (by omega) (by omega)) (blk_step (B := 64) z7 (by omega) (by omega)) (fun j hj => by rw [hfr192 j (by omega), hF178 j (by omega), hF156 j (by omega)]; exact hfr j hj)
set_option maxHeartbeats 4000000 in
set_option maxRecDepth 100000 in
theorem mcopy3 {M : Mx} {E : Ev} {z : Option Nat} (C : Cx M E yX12_copy.cls cX12_copy 4 (some .boolean) 2 42 0 0) {post : Bool → Gh → Prop} {G0 : Gh} {P W R lim rq po s s2 : Nat} {A B : Nat → Nat} {g8 : Nat → Int32} {g9 : Nat → Int64} (hs : s < 4) (hs2 : s2 < 4)
    (kend : ∀ (G : Gh) (f8 : Nat → Int32) (f9 : Nat → Int64), G 104 = moO E P W R lim rq po → G 120 = cI E 1200 f8 → G 121 = cJ E 1200 f9 → blk (300 * s) (300 * s2) 300 g8 f8 → blk (300 * s) (300 * s2) 300 g9 f9 → (∀ j, j ≠ 120 ∧ j ≠ 121 → G j = G0 j) → V M E 4 (QE M E (fun r : Bool => some (.int (bI r))) z 0 0 post) z 0 0 G 288 [some (.ref (ga E 104)), some (.int (nI s)), some (.int (nI s2)), some (.int (nI 300))] []) :
    ∀ (u k : Nat), k ≤ 300 → 300 - k < u → ∀ (G : Gh) (f8 : Nat → Int32) (f9 : Nat → Int64), G 104 = moO E P W R lim rq po → G 120 = cI E 1200 f8 → G 121 = cJ E 1200 f9 → blk (300 * s) (300 * s2) k g8 f8 → blk (300 * s) (300 * s2) k g9 f9 → (∀ j, j ≠ 120 ∧ j ≠ 121 → G j = G0 j) → V M E 4 (QE M E (fun r : Bool => some (.int (bI r))) z 0 0 post) z 0 0 G 227 [some (.ref (ga E 104)), some (.int (nI s)), some (.int (nI s2)), some (.int (nI k))] [] := by
  intro u
  induction u with
  | zero => intro k _ h; omega
  | succ u ih =>
    intro k hk hu G f8 f9 ho cc cd z8 z9 hfr
    refine v_iload_n C dX12_copy_227 rfl ?_
    refine v_sipush (v := nI 300) C dX12_copy_228 (by decide) ?_
    refine v_icmpn_ge C 288 dX12_copy_231 (by decide) (by omega) (by omega) (fun h231 => ?_) (fun h231 => ?_)
    · skip
      have e9 : k = 300 := by omega
      subst e9
      exact kend G f8 f9 ho cc cd z8 z9 hfr
    · skip
      refine v_aload_n C dX12_copy_234 rfl ?_
      refine gf_X12_57 C dX12_copy_235 (by assumption) ?_
      refine v_sipush (v := nI 300) C dX12_copy_238 (by decide) ?_
      refine v_iload_n C dX12_copy_241 rfl ?_
      first | refine v_imuln C dX12_copy_242 ?_ | refine v_imul C dX12_copy_242 ?_
      refine v_iload_n C dX12_copy_243 rfl ?_
      first | refine v_iaddn C dX12_copy_244 ?_ | refine v_iadd C dX12_copy_244 ?_
      refine v_aload_n C dX12_copy_245 rfl ?_
      refine gf_X12_57 C dX12_copy_246 (by assumption) ?_
      refine v_sipush (v := nI 300) C dX12_copy_249 (by decide) ?_
      refine v_iload_n C dX12_copy_252 rfl ?_
      first | refine v_imuln C dX12_copy_253 ?_ | refine v_imul C dX12_copy_253 ?_
      refine v_iload_n C dX12_copy_254 rfl ?_
      first | refine v_iaddn C dX12_copy_255 ?_ | refine v_iadd C dX12_copy_255 ?_
      refine v_iald C dX12_copy_256 (by assumption) (by omega) (by omega) rfl ?_
      refine v_iast C dX12_copy_257 (by assumption) (by omega) (by omega) (fun G hG257 hF257 => ?_)
      first | replace ho := (hF257 _ (by omega)).trans ho | replace ho := hG257 | skip
      first | replace cc := (hF257 _ (by omega)).trans cc | replace cc := hG257 | skip
      first | replace cd := (hF257 _ (by omega)).trans cd | replace cd := hG257 | skip
      refine v_aload_n C dX12_copy_258 rfl ?_
      refine gf_X12_60 C dX12_copy_259 (by assumption) ?_
      refine v_sipush (v := nI 300) C dX12_copy_262 (by decide) ?_
      refine v_iload_n C dX12_copy_265 rfl ?_
      first | refine v_imuln C dX12_copy_266 ?_ | refine v_imul C dX12_copy_266 ?_
      refine v_iload_n C dX12_copy_267 rfl ?_
      first | refine v_iaddn C dX12_copy_268 ?_ | refine v_iadd C dX12_copy_268 ?_
      refine v_aload_n C dX12_copy_269 rfl ?_
      refine gf_X12_60 C dX12_copy_270 (by assumption) ?_
      refine v_sipush (v := nI 300) C dX12_copy_273 (by decide) ?_
      refine v_iload_n C dX12_copy_276 rfl ?_
      first | refine v_imuln C dX12_copy_277 ?_ | refine v_imul C dX12_copy_277 ?_
      refine v_iload_n C dX12_copy_278 rfl ?_
      first | refine v_iaddn C dX12_copy_279 ?_ | refine v_iadd C dX12_copy_279 ?_
      refine v_lald C dX12_copy_280 (by assumption) (by omega) (by omega) rfl ?_
      refine v_last C dX12_copy_281 (by assumption) (by omega) (by omega) (fun G hG281 hF281 => ?_)
      first | replace ho := (hF281 _ (by omega)).trans ho | replace ho := hG281 | skip
      first | replace cc := (hF281 _ (by omega)).trans cc | replace cc := hG281 | skip
      first | replace cd := (hF281 _ (by omega)).trans cd | replace cd := hG281 | skip
      first | refine v_iinc_3 C dX12_copy_282 (nI_1 _) (by decide) (by first | rfl | assumption) ?_ | refine v_iinc_3 C dX12_copy_282 rfl (by decide) (by first | rfl | assumption) ?_
      refine v_goto C 227 dX12_copy_285 (by decide) ?_
      exact ih (k + 1) (by omega) (by omega) _ _ _ ho cc cd (blk_step (B := 300) z8 (by omega) (by omega)) (blk_step (B := 300) z9 (by omega) (by omega)) (fun j hj => by rw [hF281 j (by omega), hF257 j (by omega)]; exact hfr j hj)
set_option maxHeartbeats 4000000 in
set_option maxRecDepth 100000 in
theorem c_Mo_copy (l : Launch) (E : Ev) (z : Option Nat) {G : Gh} {P W R lim rq po : Nat} {A B : Nat → Nat} {Y : Nat → Str} {x1 x2 : Int32} (hd : isMd E G P W R lim rq po A B Y) : K_X12_copy l E z G [.ref (ga E 104), .int x1, .int x2] (fun r G2 => r = (yCopy Y x1 x2).1 ∧ isMd E G2 P W R lim rq po A B (yCopy Y x1 x2).2 ∧ ∀ j, (j < 107 ∨ 122 ≤ j) → G2 j = G j) := by
  refine Fc.of rfl [some (.ref (ga E 104)), some (.int x1), some (.int x2), none] 1 rfl (Nat.le_of_ble_eq_true rfl) ?_
  intro M hM0 hini C
  subst hM0
  obtain ⟨hm, ⟨ft, h7, hft⟩, ⟨fp, hp, hip⟩, ⟨fq, hq, hiq⟩, hMm, hMs, hMc⟩ := id hd
  replace hft : ∀ q, q < 4 → ft q = lN (zN (Y q)) := hft
  replace hip : ∀ q r c, q < 4 → r < R → c < W → fp (2048 * q + 256 * r + c) = lN (zP (Y q) r c) := hip
  replace hiq : ∀ q r c, q < 4 → r < R → c < W → fq (2048 * q + 256 * r + c) = lN (zC (Y q) r c) := hiq
  obtain ⟨fa, fb, ho, k5, k6, hfa, hfb, hrg, hlim, hab⟩ := id hm
  obtain ⟨fms, fmk, ftk, fmn, ma, mb, mc, md, hallM⟩ := id hMm
  obtain ⟨fss, fsk, fsn, fse, sa, sb, sc, sd, hallS⟩ := id hMs
  obtain ⟨fcn, fcz, fck, fct, ca, cb, cc, cd, hallC⟩ := id hMc
  replace hallM : ∀ q, q < 4 → moM1 fms fmk ftk fmn lim P q (zM (Y q)) (zT (Y q)) := hallM
  replace hallS : ∀ q, q < 4 → moS1 fss fsk fsn fse lim P q (zS (Y q)) := hallS
  replace hallC : ∀ q, q < 4 → moC1 fcn fcz fck fct P q (zK (Y q)) (zG (Y q)) := hallC
  cases hi1 : iin x1 4 with
  | false =>
    refine v_iload_n C dX12_copy_0 rfl ?_
    refine mc_X12_146 C dX12_copy_1 (c_Mo_isStream _ E z) rfl (fun r1 G1 hp1 => ?_)
    obtain ⟨hr1, rfl⟩ := hp1
    rw [hi1] at hr1
    subst hr1
    first | refine v_ifb_eq C 14 dX12_copy_4 (by decide) (fun h4 => ?_) (fun h4 => by exfalso; first | omega | exact absurd h4 (by decide) | (have h9 := of_decide_eq_true h4; omega) | (have h9 := of_decide_eq_false h4; omega) | contradiction | simp_all) | refine v_ifn_eq C 14 dX12_copy_4 (by decide) (by omega) (fun h4 => ?_) (fun h4 => by exfalso; first | omega | exact absurd h4 (by decide) | (have h9 := of_decide_eq_true h4; omega) | (have h9 := of_decide_eq_false h4; omega) | contradiction | simp_all) | refine v_if_eq C 14 dX12_copy_4 (by decide) (fun h4 => ?_) (fun h4 => by exfalso; first | omega | exact absurd h4 (by decide) | (have h9 := of_decide_eq_true h4; omega) | (have h9 := of_decide_eq_false h4; omega) | contradiction | simp_all)
    refine v_iconst (v := bI false) C dX12_copy_14 (by decide) ?_
    refine v_zret C dX12_copy_15 ?_
    refine ⟨?_, ?_, fun _ _ => rfl⟩
    · unfold yCopy; rw [if_neg (by rw [hi1]; decide)]
    · unfold yCopy; rw [if_neg (by rw [hi1]; decide)]; exact hd
  | true =>
    obtain ⟨s, hs, rfl⟩ := iin_of hi1 (by decide)
    have hsx : ix (nI s) = s := ix_nI (by omega)
    cases hi2 : iin x2 4 with
    | false =>
      refine v_iload_n C dX12_copy_0 rfl ?_
      refine mc_X12_146 C dX12_copy_1 (c_Mo_isStream _ E z) rfl (fun r1 G1 hp1 => ?_)
      obtain ⟨hr1, rfl⟩ := hp1
      rw [hi1] at hr1
      subst hr1
      first | refine v_ifb_eq C 14 dX12_copy_4 (by decide) (fun h4 => by exfalso; first | omega | exact absurd h4 (by decide) | (have h9 := of_decide_eq_true h4; omega) | (have h9 := of_decide_eq_false h4; omega) | contradiction | simp_all) (fun h4 => ?_) | refine v_ifn_eq C 14 dX12_copy_4 (by decide) (by omega) (fun h4 => by exfalso; first | omega | exact absurd h4 (by decide) | (have h9 := of_decide_eq_true h4; omega) | (have h9 := of_decide_eq_false h4; omega) | contradiction | simp_all) (fun h4 => ?_) | refine v_if_eq C 14 dX12_copy_4 (by decide) (fun h4 => by exfalso; first | omega | exact absurd h4 (by decide) | (have h9 := of_decide_eq_true h4; omega) | (have h9 := of_decide_eq_false h4; omega) | contradiction | simp_all) (fun h4 => ?_)
      refine v_iload_n C dX12_copy_7 rfl ?_
      refine mc_X12_146 C dX12_copy_8 (c_Mo_isStream _ E z) rfl (fun r8 G8 hp8 => ?_)
      obtain ⟨hr8, rfl⟩ := hp8
      rw [hi2] at hr8
      subst hr8
      first | refine v_ifb_ne C 16 dX12_copy_11 (by decide) (fun h11 => by exfalso; first | omega | exact absurd h11 (by decide) | (have h9 := of_decide_eq_true h11; omega) | (have h9 := of_decide_eq_false h11; omega) | contradiction | simp_all) (fun h11 => ?_) | refine v_ifn_ne C 16 dX12_copy_11 (by decide) (by omega) (fun h11 => by exfalso; first | omega | exact absurd h11 (by decide) | (have h9 := of_decide_eq_true h11; omega) | (have h9 := of_decide_eq_false h11; omega) | contradiction | simp_all) (fun h11 => ?_) | refine v_if_ne C 16 dX12_copy_11 (by decide) (fun h11 => by exfalso; first | omega | exact absurd h11 (by decide) | (have h9 := of_decide_eq_true h11; omega) | (have h9 := of_decide_eq_false h11; omega) | contradiction | simp_all) (fun h11 => ?_)
      refine v_iconst (v := bI false) C dX12_copy_14 (by decide) ?_
      refine v_zret C dX12_copy_15 ?_
      refine ⟨?_, ?_, fun _ _ => rfl⟩
      · unfold yCopy; rw [if_pos hi1]; rw [if_neg (by rw [hi2]; decide)]
      · unfold yCopy; rw [if_pos hi1]; rw [if_neg (by rw [hi2]; decide)]; exact hd
    | true =>
      obtain ⟨s2, hs2, rfl⟩ := iin_of hi2 (by decide)
      have hs2x : ix (nI s2) = s2 := ix_nI (by omega)
      refine v_iload_n C dX12_copy_0 rfl ?_
      refine mc_X12_146 C dX12_copy_1 (c_Mo_isStream _ E z) rfl (fun r1 G1 hp1 => ?_)
      obtain ⟨hr1, rfl⟩ := hp1
      rw [hi1] at hr1
      subst hr1
      first | refine v_ifb_eq C 14 dX12_copy_4 (by decide) (fun h4 => by exfalso; first | omega | exact absurd h4 (by decide) | (have h9 := of_decide_eq_true h4; omega) | (have h9 := of_decide_eq_false h4; omega) | contradiction | simp_all) (fun h4 => ?_) | refine v_ifn_eq C 14 dX12_copy_4 (by decide) (by omega) (fun h4 => by exfalso; first | omega | exact absurd h4 (by decide) | (have h9 := of_decide_eq_true h4; omega) | (have h9 := of_decide_eq_false h4; omega) | contradiction | simp_all) (fun h4 => ?_) | refine v_if_eq C 14 dX12_copy_4 (by decide) (fun h4 => by exfalso; first | omega | exact absurd h4 (by decide) | (have h9 := of_decide_eq_true h4; omega) | (have h9 := of_decide_eq_false h4; omega) | contradiction | simp_all) (fun h4 => ?_)
      refine v_iload_n C dX12_copy_7 rfl ?_
      refine mc_X12_146 C dX12_copy_8 (c_Mo_isStream _ E z) rfl (fun r8 G8 hp8 => ?_)
      obtain ⟨hr8, rfl⟩ := hp8
      rw [hi2] at hr8
      subst hr8
      first | refine v_ifb_ne C 16 dX12_copy_11 (by decide) (fun h11 => ?_) (fun h11 => by exfalso; first | omega | exact absurd h11 (by decide) | (have h9 := of_decide_eq_true h11; omega) | (have h9 := of_decide_eq_false h11; omega) | contradiction | simp_all) | refine v_ifn_ne C 16 dX12_copy_11 (by decide) (by omega) (fun h11 => ?_) (fun h11 => by exfalso; first | omega | exact absurd h11 (by decide) | (have h9 := of_decide_eq_true h11; omega) | (have h9 := of_decide_eq_false h11; omega) | contradiction | simp_all) | refine v_if_ne C 16 dX12_copy_11 (by decide) (fun h11 => ?_) (fun h11 => by exfalso; first | omega | exact absurd h11 (by decide) | (have h9 := of_decide_eq_true h11; omega) | (have h9 := of_decide_eq_false h11; omega) | contradiction | simp_all)
      have hm0 := hm
      refine v_aload_n C dX12_copy_16 rfl ?_
      refine gf_X12_16 C dX12_copy_17 (by assumption) ?_
      refine v_iload_n C dX12_copy_20 rfl ?_
      refine v_aload_n C dX12_copy_21 rfl ?_
      refine gf_X12_16 C dX12_copy_22 (by assumption) ?_
      refine v_iload_n C dX12_copy_25 rfl ?_
      refine v_lald C dX12_copy_26 (by assumption) (by omega) (by omega) rfl ?_
      refine v_last C dX12_copy_27 (by assumption) (by omega) (by omega) (fun G hG27 hF27 => ?_)
      first | replace ho := (hF27 _ (by omega)).trans ho | replace ho := hG27 | skip
      first | replace h7 := (hF27 _ (by omega)).trans h7 | replace h7 := hG27 | skip
      first | replace hp := (hF27 _ (by omega)).trans hp | replace hp := hG27 | skip
      first | replace hq := (hF27 _ (by omega)).trans hq | replace hq := hG27 | skip
      first | replace ma := (hF27 _ (by omega)).trans ma | replace ma := hG27 | skip
      first | replace mb := (hF27 _ (by omega)).trans mb | replace mb := hG27 | skip
      first | replace mc := (hF27 _ (by omega)).trans mc | replace mc := hG27 | skip
      first | replace md := (hF27 _ (by omega)).trans md | replace md := hG27 | skip
      first | replace sa := (hF27 _ (by omega)).trans sa | replace sa := hG27 | skip
      first | replace sb := (hF27 _ (by omega)).trans sb | replace sb := hG27 | skip
      first | replace sc := (hF27 _ (by omega)).trans sc | replace sc := hG27 | skip
      first | replace sd := (hF27 _ (by omega)).trans sd | replace sd := hG27 | skip
      first | replace ca := (hF27 _ (by omega)).trans ca | replace ca := hG27 | skip
      first | replace cb := (hF27 _ (by omega)).trans cb | replace cb := hG27 | skip
      first | replace cc := (hF27 _ (by omega)).trans cc | replace cc := hG27 | skip
      first | replace cd := (hF27 _ (by omega)).trans cd | replace cd := hG27 | skip
      refine v_iconst (v := nI 0) C dX12_copy_28 (by decide) ?_
      refine v_istore_3 C dX12_copy_29 (by decide) (by first | rfl | assumption) ?_
      refine mcopy1 C (A := A) (B := B) hs hs2 ?_ 2049 0 (by omega) (by omega) G fp fq ho hp hq blk0 blk0 (fun _ _ => rfl)
      rename_i G1
      clear ho hp hq
      intro G fp2 fq2 ho hp hq zp zq hfr1
      replace h7 := (hfr1 _ (by omega)).trans h7
      replace ma := (hfr1 _ (by omega)).trans ma
      replace mb := (hfr1 _ (by omega)).trans mb
      replace mc := (hfr1 _ (by omega)).trans mc
      replace md := (hfr1 _ (by omega)).trans md
      replace sa := (hfr1 _ (by omega)).trans sa
      replace sb := (hfr1 _ (by omega)).trans sb
      replace sc := (hfr1 _ (by omega)).trans sc
      replace sd := (hfr1 _ (by omega)).trans sd
      replace ca := (hfr1 _ (by omega)).trans ca
      replace cb := (hfr1 _ (by omega)).trans cb
      replace cc := (hfr1 _ (by omega)).trans cc
      replace cd := (hfr1 _ (by omega)).trans cd
      refine v_aload_n C dX12_copy_91 rfl ?_
      refine gf_X12_26 C dX12_copy_92 (by assumption) ?_
      refine v_iload_n C dX12_copy_95 rfl ?_
      refine v_aload_n C dX12_copy_96 rfl ?_
      refine gf_X12_26 C dX12_copy_97 (by assumption) ?_
      refine v_iload_n C dX12_copy_100 rfl ?_
      refine v_iald C dX12_copy_101 (by assumption) (by omega) (by omega) rfl ?_
      refine v_iast C dX12_copy_102 (by assumption) (by omega) (by omega) (fun G hG102 hF102 => ?_)
      first | replace ho := (hF102 _ (by omega)).trans ho | replace ho := hG102 | skip
      first | replace h7 := (hF102 _ (by omega)).trans h7 | replace h7 := hG102 | skip
      first | replace hp := (hF102 _ (by omega)).trans hp | replace hp := hG102 | skip
      first | replace hq := (hF102 _ (by omega)).trans hq | replace hq := hG102 | skip
      first | replace ma := (hF102 _ (by omega)).trans ma | replace ma := hG102 | skip
      first | replace mb := (hF102 _ (by omega)).trans mb | replace mb := hG102 | skip
      first | replace mc := (hF102 _ (by omega)).trans mc | replace mc := hG102 | skip
      first | replace md := (hF102 _ (by omega)).trans md | replace md := hG102 | skip
      first | replace sa := (hF102 _ (by omega)).trans sa | replace sa := hG102 | skip
      first | replace sb := (hF102 _ (by omega)).trans sb | replace sb := hG102 | skip
      first | replace sc := (hF102 _ (by omega)).trans sc | replace sc := hG102 | skip
      first | replace sd := (hF102 _ (by omega)).trans sd | replace sd := hG102 | skip
      first | replace ca := (hF102 _ (by omega)).trans ca | replace ca := hG102 | skip
      first | replace cb := (hF102 _ (by omega)).trans cb | replace cb := hG102 | skip
      first | replace cc := (hF102 _ (by omega)).trans cc | replace cc := hG102 | skip
      first | replace cd := (hF102 _ (by omega)).trans cd | replace cd := hG102 | skip
      refine v_aload_n C dX12_copy_103 rfl ?_
      refine gf_X12_29 C dX12_copy_104 (by assumption) ?_
      refine v_iload_n C dX12_copy_107 rfl ?_
      refine v_aload_n C dX12_copy_108 rfl ?_
      refine gf_X12_29 C dX12_copy_109 (by assumption) ?_
      refine v_iload_n C dX12_copy_112 rfl ?_
      refine v_lald C dX12_copy_113 (by assumption) (by omega) (by omega) rfl ?_
      refine v_last C dX12_copy_114 (by assumption) (by omega) (by omega) (fun G hG114 hF114 => ?_)
      first | replace ho := (hF114 _ (by omega)).trans ho | replace ho := hG114 | skip
      first | replace h7 := (hF114 _ (by omega)).trans h7 | replace h7 := hG114 | skip
      first | replace hp := (hF114 _ (by omega)).trans hp | replace hp := hG114 | skip
      first | replace hq := (hF114 _ (by omega)).trans hq | replace hq := hG114 | skip
      first | replace ma := (hF114 _ (by omega)).trans ma | replace ma := hG114 | skip
      first | replace mb := (hF114 _ (by omega)).trans mb | replace mb := hG114 | skip
      first | replace mc := (hF114 _ (by omega)).trans mc | replace mc := hG114 | skip
      first | replace md := (hF114 _ (by omega)).trans md | replace md := hG114 | skip
      first | replace sa := (hF114 _ (by omega)).trans sa | replace sa := hG114 | skip
      first | replace sb := (hF114 _ (by omega)).trans sb | replace sb := hG114 | skip
      first | replace sc := (hF114 _ (by omega)).trans sc | replace sc := hG114 | skip
      first | replace sd := (hF114 _ (by omega)).trans sd | replace sd := hG114 | skip
      first | replace ca := (hF114 _ (by omega)).trans ca | replace ca := hG114 | skip
      first | replace cb := (hF114 _ (by omega)).trans cb | replace cb := hG114 | skip
      first | replace cc := (hF114 _ (by omega)).trans cc | replace cc := hG114 | skip
      first | replace cd := (hF114 _ (by omega)).trans cd | replace cd := hG114 | skip
      refine v_aload_n C dX12_copy_115 rfl ?_
      refine gf_X12_38 C dX12_copy_116 (by assumption) ?_
      refine v_iload_n C dX12_copy_119 rfl ?_
      refine v_aload_n C dX12_copy_120 rfl ?_
      refine gf_X12_38 C dX12_copy_121 (by assumption) ?_
      refine v_iload_n C dX12_copy_124 rfl ?_
      refine v_iald C dX12_copy_125 (by assumption) (by omega) (by omega) rfl ?_
      refine v_iast C dX12_copy_126 (by assumption) (by omega) (by omega) (fun G hG126 hF126 => ?_)
      first | replace ho := (hF126 _ (by omega)).trans ho | replace ho := hG126 | skip
      first | replace h7 := (hF126 _ (by omega)).trans h7 | replace h7 := hG126 | skip
      first | replace hp := (hF126 _ (by omega)).trans hp | replace hp := hG126 | skip
      first | replace hq := (hF126 _ (by omega)).trans hq | replace hq := hG126 | skip
      first | replace ma := (hF126 _ (by omega)).trans ma | replace ma := hG126 | skip
      first | replace mb := (hF126 _ (by omega)).trans mb | replace mb := hG126 | skip
      first | replace mc := (hF126 _ (by omega)).trans mc | replace mc := hG126 | skip
      first | replace md := (hF126 _ (by omega)).trans md | replace md := hG126 | skip
      first | replace sa := (hF126 _ (by omega)).trans sa | replace sa := hG126 | skip
      first | replace sb := (hF126 _ (by omega)).trans sb | replace sb := hG126 | skip
      first | replace sc := (hF126 _ (by omega)).trans sc | replace sc := hG126 | skip
      first | replace sd := (hF126 _ (by omega)).trans sd | replace sd := hG126 | skip
      first | replace ca := (hF126 _ (by omega)).trans ca | replace ca := hG126 | skip
      first | replace cb := (hF126 _ (by omega)).trans cb | replace cb := hG126 | skip
      first | replace cc := (hF126 _ (by omega)).trans cc | replace cc := hG126 | skip
      first | replace cd := (hF126 _ (by omega)).trans cd | replace cd := hG126 | skip
      refine v_iconst (v := nI 0) C dX12_copy_127 (by decide) ?_
      refine v_istore_3 C dX12_copy_128 (by decide) (by first | rfl | assumption) ?_
      refine mcopy2 C (A := A) (B := B) hs hs2 ?_ 65 0 (by omega) (by omega) G fmk fmn fsk fsn fse (hm0.keep (fun j a b => by rw [hF126 j (by omega), hF114 j (by omega), hF102 j (by omega), hfr1 j (by omega), hF27 j (by omega)])) mc md sb sc sd blk0 blk0 blk0 blk0 blk0 (fun _ _ => rfl)
      clear ho mc md sb sc sd
      intro G f2 f3 f5 f6 f7 hm3 mc md sb sc sd z2 z3 z5 z6 z7 hfr2
      have ho := hm3.rc
      replace h7 := (hfr2 _ (by omega)).trans h7
      replace hp := (hfr2 _ (by omega)).trans hp
      replace hq := (hfr2 _ (by omega)).trans hq
      replace ma := (hfr2 _ (by omega)).trans ma
      replace mb := (hfr2 _ (by omega)).trans mb
      replace sa := (hfr2 _ (by omega)).trans sa
      replace ca := (hfr2 _ (by omega)).trans ca
      replace cb := (hfr2 _ (by omega)).trans cb
      replace cc := (hfr2 _ (by omega)).trans cc
      replace cd := (hfr2 _ (by omega)).trans cd
      refine v_aload_n C dX12_copy_201 rfl ?_
      refine gf_X12_50 C dX12_copy_202 (by assumption) ?_
      refine v_iload_n C dX12_copy_205 rfl ?_
      refine v_aload_n C dX12_copy_206 rfl ?_
      refine gf_X12_50 C dX12_copy_207 (by assumption) ?_
      refine v_iload_n C dX12_copy_210 rfl ?_
      refine v_iald C dX12_copy_211 (by assumption) (by omega) (by omega) rfl ?_
      refine v_iast C dX12_copy_212 (by assumption) (by omega) (by omega) (fun G hG212 hF212 => ?_)
      first | replace ho := (hF212 _ (by omega)).trans ho | replace ho := hG212 | skip
      first | replace h7 := (hF212 _ (by omega)).trans h7 | replace h7 := hG212 | skip
      first | replace hp := (hF212 _ (by omega)).trans hp | replace hp := hG212 | skip
      first | replace hq := (hF212 _ (by omega)).trans hq | replace hq := hG212 | skip
      first | replace ma := (hF212 _ (by omega)).trans ma | replace ma := hG212 | skip
      first | replace mb := (hF212 _ (by omega)).trans mb | replace mb := hG212 | skip
      first | replace mc := (hF212 _ (by omega)).trans mc | replace mc := hG212 | skip
      first | replace md := (hF212 _ (by omega)).trans md | replace md := hG212 | skip
      first | replace sa := (hF212 _ (by omega)).trans sa | replace sa := hG212 | skip
      first | replace sb := (hF212 _ (by omega)).trans sb | replace sb := hG212 | skip
      first | replace sc := (hF212 _ (by omega)).trans sc | replace sc := hG212 | skip
      first | replace sd := (hF212 _ (by omega)).trans sd | replace sd := hG212 | skip
      first | replace ca := (hF212 _ (by omega)).trans ca | replace ca := hG212 | skip
      first | replace cb := (hF212 _ (by omega)).trans cb | replace cb := hG212 | skip
      first | replace cc := (hF212 _ (by omega)).trans cc | replace cc := hG212 | skip
      first | replace cd := (hF212 _ (by omega)).trans cd | replace cd := hG212 | skip
      refine v_aload_n C dX12_copy_213 rfl ?_
      refine gf_X12_53 C dX12_copy_214 (by assumption) ?_
      refine v_iload_n C dX12_copy_217 rfl ?_
      refine v_aload_n C dX12_copy_218 rfl ?_
      refine gf_X12_53 C dX12_copy_219 (by assumption) ?_
      refine v_iload_n C dX12_copy_222 rfl ?_
      refine v_zald C dX12_copy_223 (by assumption) (by omega) (by omega) (hallC s2 hs2).2.1 ?_
      refine v_zast C dX12_copy_224 (by assumption) (by omega) (by omega) (bI_01 _) (fun G hG224 hF224 => ?_)
      first | replace ho := (hF224 _ (by omega)).trans ho | replace ho := hG224 | skip
      first | replace h7 := (hF224 _ (by omega)).trans h7 | replace h7 := hG224 | skip
      first | replace hp := (hF224 _ (by omega)).trans hp | replace hp := hG224 | skip
      first | replace hq := (hF224 _ (by omega)).trans hq | replace hq := hG224 | skip
      first | replace ma := (hF224 _ (by omega)).trans ma | replace ma := hG224 | skip
      first | replace mb := (hF224 _ (by omega)).trans mb | replace mb := hG224 | skip
      first | replace mc := (hF224 _ (by omega)).trans mc | replace mc := hG224 | skip
      first | replace md := (hF224 _ (by omega)).trans md | replace md := hG224 | skip
      first | replace sa := (hF224 _ (by omega)).trans sa | replace sa := hG224 | skip
      first | replace sb := (hF224 _ (by omega)).trans sb | replace sb := hG224 | skip
      first | replace sc := (hF224 _ (by omega)).trans sc | replace sc := hG224 | skip
      first | replace sd := (hF224 _ (by omega)).trans sd | replace sd := hG224 | skip
      first | replace ca := (hF224 _ (by omega)).trans ca | replace ca := hG224 | skip
      first | replace cb := (hF224 _ (by omega)).trans cb | replace cb := hG224 | skip
      first | replace cc := (hF224 _ (by omega)).trans cc | replace cc := hG224 | skip
      first | replace cd := (hF224 _ (by omega)).trans cd | replace cd := hG224 | skip
      refine v_iconst (v := nI 0) C dX12_copy_225 (by decide) ?_
      refine v_istore_3 C dX12_copy_226 (by decide) (by first | rfl | assumption) ?_
      refine mcopy3 C (A := A) (B := B) hs hs2 ?_ 301 0 (by omega) (by omega) G fck fct ho cc cd blk0 blk0 (fun _ _ => rfl)
      clear ho cc cd
      intro G f8 f9 ho cc cd z8 z9 hfr3
      replace h7 := (hfr3 _ (by omega)).trans h7
      replace hp := (hfr3 _ (by omega)).trans hp
      replace hq := (hfr3 _ (by omega)).trans hq
      replace ma := (hfr3 _ (by omega)).trans ma
      replace mb := (hfr3 _ (by omega)).trans mb
      replace mc := (hfr3 _ (by omega)).trans mc
      replace md := (hfr3 _ (by omega)).trans md
      replace sa := (hfr3 _ (by omega)).trans sa
      replace sb := (hfr3 _ (by omega)).trans sb
      replace sc := (hfr3 _ (by omega)).trans sc
      replace sd := (hfr3 _ (by omega)).trans sd
      replace ca := (hfr3 _ (by omega)).trans ca
      replace cb := (hfr3 _ (by omega)).trans cb
      refine v_iconst (v := bI true) C dX12_copy_288 (by decide) ?_
      refine v_zret C dX12_copy_289 ?_
      have e9 : yCopy Y (nI s) (nI s2) = (true, fu Y s (Y s2)) := by unfold yCopy; rw [if_pos hi1, if_pos hi2, hsx, hs2x]
      rw [e9]
      have hfr9 : ∀ j, (j < 107 ∨ 122 ≤ j) → G j = G1 j := fun j hj => by rw [hfr3 j (by omega), hF224 j (by omega), hF212 j (by omega), hfr2 j (by omega), hF126 j (by omega), hF114 j (by omega), hF102 j (by omega), hfr1 j (by omega), hF27 j (by omega)]
      obtain ⟨a1, a2, a3, a4, a5, a6⟩ := hallM s2 hs2
      obtain ⟨b1, b2, b3, b4, b5⟩ := hallS s2 hs2
      obtain ⟨c1, c2, c3, c4, c5, c6⟩ := hallC s2 hs2
      refine ⟨rfl, isMd_upd ?_ (moN_pack (v := zN (Y s2)) (f := ft) (by rw [h7, hft s2 hs2]) hft) ⟨_, hp, mgr_copy hip hrg.2.2.2.2.2 hrg.2.2.2.1 hs hs2 zp⟩ ⟨_, hq, mgr_copy hiq hrg.2.2.2.2.2 hrg.2.2.2.1 hs hs2 zq⟩ (moM_pack hallM hlim.2 hs ma mb mc md (fun q hq => ⟨fu_ne _ _ hq, fu_ne _ _ hq⟩) (fun q hq => ⟨z2.2 q hq, z3.2 q hq⟩) ⟨by rw [fu_self]; exact a1, by rw [fu_self]; exact a2, fun i c hic => ?_, a4, a5, a6⟩) (moS_pack hallS hs sa sb sc sd (fun q hq => fu_ne _ _ hq) (by rw [fu_self]; exact b1) (fun i c hic => ?_) (fun q hq => ⟨z5.2 q hq, z6.2 q hq, z7.2 q hq⟩) b3 hlim.2 ⟨⟨hlim.1, hlim.2, by omega, hrg.2.1⟩, b4, b5⟩) (moC_pack hallC hs ca cb cc cd (fun q hq => ⟨fu_ne _ _ hq, fu_ne _ _ hq⟩) (fun q hq => ⟨z8.2 q hq, z9.2 q hq⟩) ⟨by rw [fu_self]; exact c1, by rw [fu_self], fun i c hic => ?_, c4, c5, c6⟩), hfr9⟩
      · exact hm0.keep (fun j a b => hfr9 j (by omega))
      · have hil := (List.getElem?_eq_some_iff.mp hic).1
        rw [z2.1 i (by omega), z3.1 i (by omega)]; exact a3 i c hic
      · have hil := (List.getElem?_eq_some_iff.mp hic).1
        unfold rp
        rw [z5.1 i (by omega), z6.1 i (by omega), z7.1 i (by omega)]; exact b2 i c hic
      · have hil := (List.getElem?_eq_some_iff.mp hic).1
        rw [z8.1 i (by omega), z9.1 i (by omega)]; exact c3 i c hic

