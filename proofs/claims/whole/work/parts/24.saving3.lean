theorem sF_mpk {lim : Nat} {l l2 : Ctr} {k : Nat} : ckeys (mp (sF lim l2) l k) = ckeys l := mp_keys (f := sF lim l2) (fun _ => rfl)
theorem nI_sub_le {a b : Nat} (h : a ≤ b) (hb : b < 2 ^ 31) : nI a - nI b ≤ 0 := by
  rw [Int32.le_iff_toInt_le, Int32.toInt_sub, nI_toInt (by omega), nI_toInt hb, Int32.toInt_zero]
  rw [Int.bmod_eq_of_le (by omega) (by omega)]
  omega
set_option maxHeartbeats 4000000 in
set_option maxRecDepth 100000 in
theorem sp_sort {M : Mx} {E : Ev} (C : Cx M E yX8_putTogether.cls cX8_putTogether 9 none 4 114 0 0) {post : Unit → Gh → Prop} {G0 : Gh} {b P lim : Nat} {u : Ctr} {a1 : Option Value} {mine theirs : Int64} (hn : ∀ c ∈ u, c.2.1 < 2 ^ 62) (hend : ∀ (G : Gh) (m rem : Ctr), isSav E G b P lim m → (m ++ rem).Perm u → m.length = min lim u.length → (∀ c ∈ m, ∀ r ∈ rem, wk r c) → srt m m.length → (∀ j, (j < b ∨ b + 7 ≤ j) → G j = G0 j) → post () G) {cur rem : Ctr} {G : Gh} {x6 x7 x8 : Option Value} (hs : isSav E G b P lim cur) (hpm : (cur ++ rem).Perm u) (hwk : ∀ c ∈ cur, ∀ r ∈ rem, wk r c) (hfr : ∀ j, (j < b ∨ b + 7 ≤ j) → G j = G0 j) (hlen : cur.length = min lim u.length) : V M E 9 (QE M E (fun _ : Unit => none) none 0 0 post) none 0 0 G 238 [some (.ref (ga E b)), a1, some (.long mine), none, some (.long theirs), none, x6, x7, x8] [] := by
  obtain ⟨hm0, hcS⟩ := id hs
  have hb0 := hcS.rc
  refine v_aload_n C dX8_putTogether_238 rfl ?_
  refine gf_X8_12 C dX8_putTogether_239 (by assumption) ?_
  refine mc_X8_79 C dX8_putTogether_242 (by assumption) (c_Ctr_sort _ E none (fun c h => hn c (hpm.mem_iff.mp (List.mem_append_left _ h))) hcS) rfl (fun r242 G242 hp242 => ?_)
  obtain ⟨m, hc242, hpm2, hsrt, hfr242⟩ := hp242
  refine v_vret C dX8_putTogether_245 ?_
  exact hend G242 m rem ⟨(hfr242 _ (by omega)).trans hm0, hc242⟩ ((hpm2.append_right rem).trans hpm) (by rw [hpm2.length_eq]; exact hlen) (fun c hc r hr => hwk c (hpm2.mem_iff.mp hc) r hr) hsrt (fun j hj => by rw [hfr242 j (by omega)]; exact hfr j hj)
set_option maxHeartbeats 4000000 in
set_option maxRecDepth 100000 in
theorem sp_loop3 {M : Mx} {E : Ev} (C : Cx M E yX8_putTogether.cls cX8_putTogether 9 none 4 114 0 0) {post : Unit → Gh → Prop} {G0 : Gh} {b P lim : Nat} {u : Ctr} {a1 : Option Value} {mine theirs : Int64} (hlim : lim ≤ 64) (hul : u.length < 2 ^ 31) (hn : ∀ c ∈ u, c.2.1 < 2 ^ 62) (hend : ∀ (G : Gh) (m rem : Ctr), isSav E G b P lim m → (m ++ rem).Perm u → m.length = min lim u.length → (∀ c ∈ m, ∀ r ∈ rem, wk r c) → srt m m.length → (∀ j, (j < b ∨ b + 7 ≤ j) → G j = G0 j) → post () G) : ∀ (t ex : Nat), ex < 2 ^ 31 → ex < t → ∀ (cur rem : Ctr) (G : Gh) (x6 x8 : Option Value), lo_c x6 = true → cur.length = lim + ex → isSav E G b P lim cur → (cur ++ rem).Perm u → (∀ c ∈ cur, ∀ r ∈ rem, wk r c) → (∀ j, (j < b ∨ b + 7 ≤ j) → G j = G0 j) → V M E 9 (QE M E (fun _ : Unit => none) none 0 0 post) none 0 0 G 216 [some (.ref (ga E b)), a1, some (.long mine), none, some (.long theirs), none, x6, some (.int (nI ex)), x8] [] := by
  intro t
  induction t with
  | zero => intro ex _ h; omega
  | succ t ih =>
    intro ex hex ht cur rem G x6 x8 hx6 hcl hs hpm hwk hfr
    obtain ⟨hm0, hcS⟩ := id hs
    have hnd := hcS.choose_spec.choose_spec.choose_spec.2.2.2.2.2.2.2.2
    have hnc : ∀ c ∈ cur, c.2.1 < 2 ^ 62 := fun c h => hn c (hpm.mem_iff.mp (List.mem_append_left _ h))
    have hul2 := hpm.length_eq
    rw [List.length_append] at hul2
    refine v_iload C dX8_putTogether_216 rfl ?_
    first | refine v_ifn_le C 238 dX8_putTogether_218 (by decide) (by omega) (fun h218 => ?_) (fun h218 => ?_) | refine v_if_le C 238 dX8_putTogether_218 (by decide) (fun h218 => ?_) (fun h218 => ?_)
    · skip
      exact sp_sort C hn hend hs hpm hwk hfr (by omega)
    · skip
      have hb0 := hcS.rc
      refine v_aload_n C dX8_putTogether_221 rfl ?_
      refine gf_X8_12 C dX8_putTogether_222 (by assumption) ?_
      refine v_aload_n C dX8_putTogether_225 rfl ?_
      refine mc_X8_75 C dX8_putTogether_226 (by assumption) (c_Sav_weakest _ E none (by omega) hnc hs) rfl (fun r226 G226 hp226 => ?_)
      obtain ⟨w, cw, rfl, hcw, hall, rfl⟩ := hp226
      refine mc_X8_41 C dX8_putTogether_229 (by assumption) (c_Ctr_remove _ E (i := w) (List.getElem?_eq_some_iff.mp hcw).1 hcS) rfl (fun r229 G229 hp229 => ?_)
      obtain ⟨hc229, hfr229⟩ := hp229
      first | refine v_iinc_7 C dX8_putTogether_232 (nI_dec (by omega)) (by decide) (by first | rfl | assumption) ?_ | refine v_iinc_7 C dX8_putTogether_232 rfl (by decide) (by first | rfl | assumption) ?_
      refine v_goto C 216 dX8_putTogether_235 (by decide) ?_
      have hdl : (cur.eraseIdx w).length = cur.length - 1 := List.length_eraseIdx_of_lt (List.getElem?_eq_some_iff.mp hcw).1
      have hp9 : (cur.eraseIdx w ++ cw :: rem).Perm u := by
        refine List.Perm.trans ?_ hpm
        refine List.perm_middle.trans ?_
        exact ((cons_erase_perm hcw).append_right rem)
      refine ih (ex - 1) (by omega) (by omega) _ (cw :: rem) G229 _ _ hx6 (by omega) ⟨(hfr229 _ (by omega)).trans hm0, hc229⟩ hp9 (fun c hc r hr => ?_) (fun j hj => by rw [hfr229 j (by omega)]; exact hfr j hj)
      rcases List.mem_cons.mp hr with q | q
      · subst q
        exact (hall c (mem_del hc)).strict (fun e => del_notin hnd hcw c hc e.symm)
      · exact hwk c (mem_del hc) r q
set_option maxHeartbeats 4000000 in
set_option maxRecDepth 100000 in
theorem sp_tail {M : Mx} {E : Ev} (C : Cx M E yX8_putTogether.cls cX8_putTogether 9 none 4 114 0 0) {post : Unit → Gh → Prop} {G0 : Gh} {b P lim : Nat} {u : Ctr} {a1 : Option Value} {mine theirs : Int64} (hn : ∀ c ∈ u, c.2.1 < 2 ^ 62) (hend : ∀ (G : Gh) (m rem : Ctr), isSav E G b P lim m → (m ++ rem).Perm u → m.length = min lim u.length → (∀ c ∈ m, ∀ r ∈ rem, wk r c) → srt m m.length → (∀ j, (j < b ∨ b + 7 ≤ j) → G j = G0 j) → post () G) {G : Gh} {x6 x7 x8 : Option Value} (hx6 : lo_c x6 = true) (hs : isSav E G b P lim u) (hfr : ∀ j, (j < b ∨ b + 7 ≤ j) → G j = G0 j) : V M E 9 (QE M E (fun _ : Unit => none) none 0 0 post) none 0 0 G 199 [some (.ref (ga E b)), a1, some (.long mine), none, some (.long theirs), none, x6, x7, x8] [] := by
  obtain ⟨hm0, hcS⟩ := id hs
  obtain ⟨fk, fn, fe, hb0, hb1, hb2, hb3, hks, hrep, hwf, hkp, hnd⟩ := id hcS
  have hlim : 1 ≤ lim ∧ lim ≤ 64 := ⟨hwf.1, hwf.2.1⟩
  refine v_aload_n C dX8_putTogether_199 rfl ?_
  refine gf_X8_12 C dX8_putTogether_200 (by assumption) ?_
  refine gf_X8_53 C dX8_putTogether_203 (by assumption) ?_
  refine v_aload_n C dX8_putTogether_206 rfl ?_
  refine gf_X8_12 C dX8_putTogether_207 (by assumption) ?_
  refine gf_X8_72 C dX8_putTogether_210 (by assumption) ?_
  rcases Nat.lt_or_ge lim u.length with q | q
  · skip
    first | refine v_isubn C dX8_putTogether_213 (by omega) ?_ | refine v_isub C dX8_putTogether_213 ?_
    refine v_istore_7 C dX8_putTogether_214 (by decide) (by first | rfl | assumption) ?_
    exact sp_loop3 C hlim.2 (by omega) hn hend (u.length - lim + 1) (u.length - lim) (by omega) (by omega) u [] G _ _ hx6 (by omega) hs (by rw [List.append_nil]) (fun c _ r hr => by cases hr) hfr
  · skip
    have hle : nI u.length - nI lim ≤ 0 := nI_sub_le q (by omega)
    refine v_isub C dX8_putTogether_213 ?_
    refine v_istore_7 C dX8_putTogether_214 (by decide) (by first | rfl | assumption) ?_
    refine v_iload C dX8_putTogether_216 rfl ?_
    refine v_if_le C 238 dX8_putTogether_218 (by decide) (fun h218 => ?_) (fun h218 => by exfalso; first | omega | exact absurd h218 (by decide) | (have h9 := of_decide_eq_true h218; omega) | (have h9 := of_decide_eq_false h218; omega) | contradiction | simp_all)
    exact sp_sort C hn hend hs (rem := []) (by rw [List.append_nil]) (fun c _ r hr => by cases hr) hfr (by omega)
set_option maxHeartbeats 4000000 in
set_option maxRecDepth 100000 in
theorem sp_loop2 {M : Mx} {E : Ev} (C : Cx M E yX8_putTogether.cls cX8_putTogether 9 none 4 114 0 0) {post : Unit → Gh → Prop} {G0 : Gh} {b b2 P lim : Nat} {l0 l2 : Ctr} {theirs : Int64} (hdis : b + 7 ≤ b2 ∨ b2 + 7 ≤ b) (hl0 : l0.length ≤ lim) (hl2 : l2.length ≤ lim) (hn : ∀ c ∈ sU lim l0 l2 l2.length, c.2.1 < 2 ^ 62) (hend : ∀ (G : Gh) (m rem : Ctr), isSav E G b P lim m → (m ++ rem).Perm (sU lim l0 l2 l2.length) → m.length = min lim (sU lim l0 l2 l2.length).length → (∀ c ∈ m, ∀ r ∈ rem, wk r c) → srt m m.length → (∀ j, (j < b ∨ b + 7 ≤ j) → G j = G0 j) → post () G) : ∀ (t k : Nat), k ≤ l2.length → l2.length - k < t → ∀ (G : Gh) (x8 : Option Value), isSav E G b P lim (sU lim l0 l2 k) → isSav E G b2 P lim l2 → (∀ j, (j < b ∨ b + 7 ≤ j) → G j = G0 j) → V M E 9 (QE M E (fun _ : Unit => none) none 0 0 post) none 0 0 G 129 [some (.ref (ga E b)), some (.ref (ga E b2)), some (.long (lN (sLeast lim l0))), none, some (.long theirs), none, some (.int (nI l2.length)), some (.int (nI k)), x8] [] := by
  intro t
  induction t with
  | zero => intro k _ h; omega
  | succ t ih =>
    intro k hk2 ht G x8 hm hm2 hfr
    obtain ⟨hm0, hc⟩ := id hm
    obtain ⟨fk, fn, fe, hb0, hb1, hb2, hb3, hks, hrep, hwf, hkp, hnd⟩ := id hc
    obtain ⟨hd, hc2⟩ := id hm2
    obtain ⟨gk, gn, ge, hd0, hd1, hd2, hd3, hks2, hrep2, hwf2, hkp2, hnd2⟩ := id hc2
    refine v_iload C dX8_putTogether_129 rfl ?_
    refine v_iload C dX8_putTogether_131 rfl ?_
    refine v_icmpn_ge C 199 dX8_putTogether_133 (by decide) (by omega) (by omega) (fun h133 => ?_) (fun h133 => ?_)
    · skip
      have e : k = l2.length := by omega
      subst e
      exact sp_tail C hn hend rfl hm hfr
    · skip
      have hjk : l2[k]? = some l2[k] := List.getElem?_eq_getElem h133
      have hrj := hrep2 k _ hjk
      have hul := sU_len lim l0 l2 k
      refine v_aload_n C dX8_putTogether_136 rfl ?_
      refine gf_X8_12 C dX8_putTogether_137 (by assumption) ?_
      refine gf_X8_64 C dX8_putTogether_140 (by assumption) ?_
      refine v_iload C dX8_putTogether_143 rfl ?_
      refine v_iald C dX8_putTogether_145 (by assumption) (by omega) (by omega) hrj.1 ?_
      refine v_istore_8 C dX8_putTogether_146 (by decide) (by first | rfl | assumption) ?_
      refine v_aload_n C dX8_putTogether_148 rfl ?_
      refine gf_X8_12 C dX8_putTogether_149 (by assumption) ?_
      refine v_iload C dX8_putTogether_152 rfl ?_
      refine mc_X8_26 C dX8_putTogether_154 (by assumption) (c_Ctr_find _ E none (hkp2 _ (List.mem_of_getElem? hjk)) hc) rfl (fun r154 G154 hp154 => ?_)
      obtain ⟨hr154, rfl⟩ := hp154
      rcases kix_cases hr154 with ⟨hk, rfl⟩ | ⟨i, c, hk, rfl, hci, hcx, hil⟩
      · skip
        refine v_if_ge C 193 dX8_putTogether_157 (by decide) (fun h157 => by exfalso; first | omega | exact absurd h157 (by decide) | (have h9 := of_decide_eq_true h157; omega) | (have h9 := of_decide_eq_false h157; omega) | contradiction | simp_all) (fun h157 => ?_)
        refine v_aload_n C dX8_putTogether_160 rfl ?_
        refine gf_X8_12 C dX8_putTogether_161 (by assumption) ?_
        refine v_iload C dX8_putTogether_164 rfl ?_
        refine v_aload_n C dX8_putTogether_166 rfl ?_
        refine gf_X8_12 C dX8_putTogether_167 (by assumption) ?_
        refine gf_X8_22 C dX8_putTogether_170 (by assumption) ?_
        refine v_iload C dX8_putTogether_173 rfl ?_
        refine v_lald C dX8_putTogether_175 (by assumption) (by omega) (by omega) hrj.2.1 ?_
        refine v_lload_n C dX8_putTogether_176 rfl ?_
        first | refine v_laddn C dX8_putTogether_177 ?_ | refine v_ladd C dX8_putTogether_177 ?_
        refine v_aload_n C dX8_putTogether_178 rfl ?_
        refine gf_X8_12 C dX8_putTogether_179 (by assumption) ?_
        refine gf_X8_34 C dX8_putTogether_182 (by assumption) ?_
        refine v_iload C dX8_putTogether_185 rfl ?_
        refine v_lald C dX8_putTogether_187 (by assumption) (by omega) (by omega) hrj.2.2 ?_
        refine v_lload_n C dX8_putTogether_188 rfl ?_
        first | refine v_laddn C dX8_putTogether_189 ?_ | refine v_ladd C dX8_putTogether_189 ?_
        refine mc_X8_68 C dX8_putTogether_190 (by assumption) (c_Ctr_append _ E (x := l2[k].1) (y := l2[k].2.1 + sLeast lim l0) (e := l2[k].2.2 + sLeast lim l0) (by omega) (hkp2 _ (List.mem_of_getElem? hjk)) (fun c hcm e => kix_none hk c hcm e) hc) rfl (fun r190 G190 hp190 => ?_)
        obtain ⟨hc190, hfr190⟩ := hp190
        refine v_iinc_7 C dX8_putTogether_193 (nI_1 _) (by decide) rfl ?_
        refine v_goto C 129 dX8_putTogether_196 (by decide) ?_
        have e9 : sU lim l0 l2 (k + 1) = sU lim l0 l2 k ++ [sG (sLeast lim l0) l2[k]] := sU_step_out hjk (fun z => by
          obtain ⟨d, h1, h2⟩ := (sU_key (lim := lim) (l := l0) hnd2 hjk).mpr z
          exact kix_none hk d h1 h2)
        exact ih (k + 1) (by omega) (by omega) G190 _ ⟨(hfr190 _ (by omega)).trans hm0, by rw [e9]; exact hc190⟩ ⟨(hfr190 _ (by omega)).trans hd, hc2.keep (fun j a b => hfr190 j (by omega))⟩ (fun j hj => by rw [hfr190 j (by omega)]; exact hfr j hj)
      · skip
        first | refine v_ifn_ge C 193 dX8_putTogether_157 (by decide) (by omega) (fun h157 => ?_) (fun h157 => by exfalso; first | omega | exact absurd h157 (by decide) | (have h9 := of_decide_eq_true h157; omega) | (have h9 := of_decide_eq_false h157; omega) | contradiction | simp_all) | refine v_if_ge C 193 dX8_putTogether_157 (by decide) (fun h157 => ?_) (fun h157 => by exfalso; first | omega | exact absurd h157 (by decide) | (have h9 := of_decide_eq_true h157; omega) | (have h9 := of_decide_eq_false h157; omega) | contradiction | simp_all)
        refine v_iinc_7 C dX8_putTogether_193 (nI_1 _) (by decide) rfl ?_
        refine v_goto C 129 dX8_putTogether_196 (by decide) ?_
        have e9 : sU lim l0 l2 (k + 1) = sU lim l0 l2 k := sU_step_in hjk ((sU_key (lim := lim) hnd2 hjk).mp ⟨c, List.mem_of_getElem? hci, hcx⟩)
        exact ih (k + 1) (by omega) (by omega) G _ (by rw [e9]; exact hm) hm2 hfr
set_option maxHeartbeats 4000000 in
set_option maxRecDepth 100000 in
theorem sp_loop1 {M : Mx} {E : Ev} (C : Cx M E yX8_putTogether.cls cX8_putTogether 9 none 4 114 0 0) {post : Unit → Gh → Prop} {G0 : Gh} {b b2 P lim : Nat} {l0 l2 : Ctr} (hdis : b + 7 ≤ b2 ∨ b2 + 7 ≤ b) (kend : ∀ (G : Gh) (x7 x8 : Option Value), isSav E G b P lim (l0.map (sF lim l2)) → isSav E G b2 P lim l2 → (∀ j, (j < b ∨ b + 7 ≤ j) → G j = G0 j) → V M E 9 (QE M E (fun _ : Unit => none) none 0 0 post) none 0 0 G 117 [some (.ref (ga E b)), some (.ref (ga E b2)), some (.long (lN (sLeast lim l0))), none, some (.long (lN (sLeast lim l2))), none, some (.int (nI l0.length)), x7, x8] []) : ∀ (t k : Nat), k ≤ l0.length → l0.length - k < t → ∀ (G : Gh) (x7 x8 : Option Value), isSav E G b P lim (mp (sF lim l2) l0 k) → isSav E G b2 P lim l2 → (∀ j, (j < b ∨ b + 7 ≤ j) → G j = G0 j) → V M E 9 (QE M E (fun _ : Unit => none) none 0 0 post) none 0 0 G 14 [some (.ref (ga E b)), some (.ref (ga E b2)), some (.long (lN (sLeast lim l0))), none, some (.long (lN (sLeast lim l2))), none, some (.int (nI k)), x7, x8] [] := by
  intro t
  induction t with
  | zero => intro k _ h; omega
  | succ t ih =>
    intro k hk2 ht G x7 x8 hm hm2 hfr
    have hmpl := mp_len (sF lim l2) l0 k
    obtain ⟨hm0, hc⟩ := id hm
    obtain ⟨fk, fn, fe, hb0, hb1, hb2, hb3, hks, hrep, hwf, hkp, hnd⟩ := id hc
    obtain ⟨hd, hc2⟩ := id hm2
    obtain ⟨gk, gn, ge, hd0, hd1, hd2, hd3, hks2, hrep2, hwf2, hkp2, hnd2⟩ := id hc2
    refine v_iload C dX8_putTogether_14 rfl ?_
    refine v_aload_n C dX8_putTogether_16 rfl ?_
    refine gf_X8_12 C dX8_putTogether_17 (by assumption) ?_
    refine gf_X8_53 C dX8_putTogether_20 (by assumption) ?_
    refine v_icmpn_ge C 117 dX8_putTogether_23 (by decide) (by omega) (by omega) (fun h23 => ?_) (fun h23 => ?_)
    · skip
      have e : k = l0.length := by rw [mp_len] at h23; omega
      subst e
      rw [mp_all] at hm
      exact kend G _ _ hm hm2 hfr
    · skip
      have hkl : k < l0.length := by rw [mp_len] at h23; exact h23
      have hjk : l0[k]? = some l0[k] := List.getElem?_eq_getElem hkl
      have hjm : (mp (sF lim l2) l0 k)[k]? = some l0[k] := by rw [mp_get, if_neg (Nat.lt_irrefl k)]; exact hjk
      have hrj := hrep k _ hjm
      refine v_aload_n C dX8_putTogether_26 rfl ?_
      refine gf_X8_12 C dX8_putTogether_27 (by assumption) ?_
      refine v_aload_n C dX8_putTogether_30 rfl ?_
      refine gf_X8_12 C dX8_putTogether_31 (by assumption) ?_
      refine gf_X8_64 C dX8_putTogether_34 (by assumption) ?_
      refine v_iload C dX8_putTogether_37 rfl ?_
      refine v_iald C dX8_putTogether_39 (by assumption) (by omega) (by omega) hrj.1 ?_
      refine mc_X8_26 C dX8_putTogether_40 (by assumption) (c_Ctr_find _ E none (hkp _ (List.mem_of_getElem? hjm)) hc2) rfl (fun r40 G40 hp40 => ?_)
      obtain ⟨hr40, rfl⟩ := hp40
      rcases kix_cases hr40 with ⟨hk, rfl⟩ | ⟨i, c, hk, rfl, hci, hcx, hil⟩
      · skip
        refine v_istore_7 C dX8_putTogether_43 (by decide) (by first | rfl | assumption) ?_
        refine v_aload_n C dX8_putTogether_45 rfl ?_
        refine gf_X8_12 C dX8_putTogether_46 (by assumption) ?_
        refine gf_X8_22 C dX8_putTogether_49 (by assumption) ?_
        refine v_iload C dX8_putTogether_52 rfl ?_
        refine v_dup2 C dX8_putTogether_54 rfl rfl ?_
        refine v_lald C dX8_putTogether_55 (by assumption) (by omega) (by omega) hrj.2.1 ?_
        refine v_iload C dX8_putTogether_56 rfl ?_
        refine v_if_ge C 66 dX8_putTogether_58 (by decide) (fun h58 => by exfalso; first | omega | exact absurd h58 (by decide) | (have h9 := of_decide_eq_true h58; omega) | (have h9 := of_decide_eq_false h58; omega) | contradiction | simp_all) (fun h58 => ?_)
        refine v_lload C dX8_putTogether_61 rfl ?_
        refine v_goto C 76 dX8_putTogether_63 (by decide) ?_
        first | refine v_laddn C dX8_putTogether_76 ?_ | refine v_ladd C dX8_putTogether_76 ?_
        refine v_last C dX8_putTogether_77 (by assumption) (by omega) (by omega) (fun G hG77 hF77 => ?_)
        first | replace hm0 := (hF77 _ (by omega)).trans hm0 | replace hm0 := hG77 | skip
        first | replace hb0 := (hF77 _ (by omega)).trans hb0 | replace hb0 := hG77 | skip
        first | replace hb1 := (hF77 _ (by omega)).trans hb1 | replace hb1 := hG77 | skip
        first | replace hb2 := (hF77 _ (by omega)).trans hb2 | replace hb2 := hG77 | skip
        first | replace hb3 := (hF77 _ (by omega)).trans hb3 | replace hb3 := hG77 | skip
        first | replace hd := (hF77 _ (by omega)).trans hd | replace hd := hG77 | skip
        first | replace hd0 := (hF77 _ (by omega)).trans hd0 | replace hd0 := hG77 | skip
        first | replace hd1 := (hF77 _ (by omega)).trans hd1 | replace hd1 := hG77 | skip
        first | replace hd2 := (hF77 _ (by omega)).trans hd2 | replace hd2 := hG77 | skip
        first | replace hd3 := (hF77 _ (by omega)).trans hd3 | replace hd3 := hG77 | skip
        refine v_aload_n C dX8_putTogether_78 rfl ?_
        refine gf_X8_12 C dX8_putTogether_79 (by assumption) ?_
        refine gf_X8_34 C dX8_putTogether_82 (by assumption) ?_
        refine v_iload C dX8_putTogether_85 rfl ?_
        refine v_dup2 C dX8_putTogether_87 rfl rfl ?_
        refine v_lald C dX8_putTogether_88 (by assumption) (by omega) (by omega) hrj.2.2 ?_
        refine v_iload C dX8_putTogether_89 rfl ?_
        refine v_if_ge C 99 dX8_putTogether_91 (by decide) (fun h91 => by exfalso; first | omega | exact absurd h91 (by decide) | (have h9 := of_decide_eq_true h91; omega) | (have h9 := of_decide_eq_false h91; omega) | contradiction | simp_all) (fun h91 => ?_)
        refine v_lload C dX8_putTogether_94 rfl ?_
        refine v_goto C 109 dX8_putTogether_96 (by decide) ?_
        first | refine v_laddn C dX8_putTogether_109 ?_ | refine v_ladd C dX8_putTogether_109 ?_
        refine v_last C dX8_putTogether_110 (by assumption) (by omega) (by omega) (fun G hG110 hF110 => ?_)
        first | replace hm0 := (hF110 _ (by omega)).trans hm0 | replace hm0 := hG110 | skip
        first | replace hb0 := (hF110 _ (by omega)).trans hb0 | replace hb0 := hG110 | skip
        first | replace hb1 := (hF110 _ (by omega)).trans hb1 | replace hb1 := hG110 | skip
        first | replace hb2 := (hF110 _ (by omega)).trans hb2 | replace hb2 := hG110 | skip
        first | replace hb3 := (hF110 _ (by omega)).trans hb3 | replace hb3 := hG110 | skip
        first | replace hd := (hF110 _ (by omega)).trans hd | replace hd := hG110 | skip
        first | replace hd0 := (hF110 _ (by omega)).trans hd0 | replace hd0 := hG110 | skip
        first | replace hd1 := (hF110 _ (by omega)).trans hd1 | replace hd1 := hG110 | skip
        first | replace hd2 := (hF110 _ (by omega)).trans hd2 | replace hd2 := hG110 | skip
        first | replace hd3 := (hF110 _ (by omega)).trans hd3 | replace hd3 := hG110 | skip
        have hc2k := (hc2.keep (fun j a b => hF77 j (by omega))).keep (fun j a b => hF110 j (by omega))
        refine v_iinc_6 C dX8_putTogether_111 (nI_1 _) (by decide) rfl ?_
        refine v_goto C 14 dX8_putTogether_114 (by decide) ?_
        refine ih (k + 1) (by omega) (by omega) G _ _ ⟨hm0, _, _, _, by rw [mp_len]; rw [mp_len] at hb0; exact hb0, hb1, hb2, hb3, ?_, rep_mp hrep hjk rfl ?_ ?_, cwf_keys ⟨hwf, hkp, hnd⟩ (by rw [sF_mpk, sF_mpk])⟩ ⟨hd, hc2k⟩ (fun j hj => by rw [hF110 j (by omega), hF77 j (by omega)]; exact hfr j hj)
        · rw [sF_mpk]
          rw [sF_mpk] at hks
          exact (hks.keep (fun j a b => hF77 j (by omega))).keep (fun j a b => hF110 j (by omega))
        · unfold sF; rw [sEst_none hk]
        · unfold sF; rw [sErr_none hk]
      · skip
        refine v_istore_7 C dX8_putTogether_43 (by decide) (by first | rfl | assumption) ?_
        refine v_aload_n C dX8_putTogether_45 rfl ?_
        refine gf_X8_12 C dX8_putTogether_46 (by assumption) ?_
        refine gf_X8_22 C dX8_putTogether_49 (by assumption) ?_
        refine v_iload C dX8_putTogether_52 rfl ?_
        refine v_dup2 C dX8_putTogether_54 rfl rfl ?_
        refine v_lald C dX8_putTogether_55 (by assumption) (by omega) (by omega) hrj.2.1 ?_
        refine v_iload C dX8_putTogether_56 rfl ?_
        first | refine v_ifn_ge C 66 dX8_putTogether_58 (by decide) (by omega) (fun h58 => ?_) (fun h58 => by exfalso; first | omega | exact absurd h58 (by decide) | (have h9 := of_decide_eq_true h58; omega) | (have h9 := of_decide_eq_false h58; omega) | contradiction | simp_all) | refine v_if_ge C 66 dX8_putTogether_58 (by decide) (fun h58 => ?_) (fun h58 => by exfalso; first | omega | exact absurd h58 (by decide) | (have h9 := of_decide_eq_true h58; omega) | (have h9 := of_decide_eq_false h58; omega) | contradiction | simp_all)
        refine v_aload_n C dX8_putTogether_66 rfl ?_
        refine gf_X8_12 C dX8_putTogether_67 (by assumption) ?_
        refine gf_X8_22 C dX8_putTogether_70 (by assumption) ?_
        refine v_iload C dX8_putTogether_73 rfl ?_
        refine v_lald C dX8_putTogether_75 (by assumption) (by omega) (by omega) (hrep2 i c hci).2.1 ?_
        first | refine v_laddn C dX8_putTogether_76 ?_ | refine v_ladd C dX8_putTogether_76 ?_
        refine v_last C dX8_putTogether_77 (by assumption) (by omega) (by omega) (fun G hG77 hF77 => ?_)
        first | replace hm0 := (hF77 _ (by omega)).trans hm0 | replace hm0 := hG77 | skip
        first | replace hb0 := (hF77 _ (by omega)).trans hb0 | replace hb0 := hG77 | skip
        first | replace hb1 := (hF77 _ (by omega)).trans hb1 | replace hb1 := hG77 | skip
        first | replace hb2 := (hF77 _ (by omega)).trans hb2 | replace hb2 := hG77 | skip
        first | replace hb3 := (hF77 _ (by omega)).trans hb3 | replace hb3 := hG77 | skip
        first | replace hd := (hF77 _ (by omega)).trans hd | replace hd := hG77 | skip
        first | replace hd0 := (hF77 _ (by omega)).trans hd0 | replace hd0 := hG77 | skip
        first | replace hd1 := (hF77 _ (by omega)).trans hd1 | replace hd1 := hG77 | skip
        first | replace hd2 := (hF77 _ (by omega)).trans hd2 | replace hd2 := hG77 | skip
        first | replace hd3 := (hF77 _ (by omega)).trans hd3 | replace hd3 := hG77 | skip
        refine v_aload_n C dX8_putTogether_78 rfl ?_
        refine gf_X8_12 C dX8_putTogether_79 (by assumption) ?_
        refine gf_X8_34 C dX8_putTogether_82 (by assumption) ?_
        refine v_iload C dX8_putTogether_85 rfl ?_
        refine v_dup2 C dX8_putTogether_87 rfl rfl ?_
        refine v_lald C dX8_putTogether_88 (by assumption) (by omega) (by omega) hrj.2.2 ?_
        refine v_iload C dX8_putTogether_89 rfl ?_
        first | refine v_ifn_ge C 99 dX8_putTogether_91 (by decide) (by omega) (fun h91 => ?_) (fun h91 => by exfalso; first | omega | exact absurd h91 (by decide) | (have h9 := of_decide_eq_true h91; omega) | (have h9 := of_decide_eq_false h91; omega) | contradiction | simp_all) | refine v_if_ge C 99 dX8_putTogether_91 (by decide) (fun h91 => ?_) (fun h91 => by exfalso; first | omega | exact absurd h91 (by decide) | (have h9 := of_decide_eq_true h91; omega) | (have h9 := of_decide_eq_false h91; omega) | contradiction | simp_all)
        refine v_aload_n C dX8_putTogether_99 rfl ?_
        refine gf_X8_12 C dX8_putTogether_100 (by assumption) ?_
        refine gf_X8_34 C dX8_putTogether_103 (by assumption) ?_
        refine v_iload C dX8_putTogether_106 rfl ?_
        refine v_lald C dX8_putTogether_108 (by assumption) (by omega) (by omega) (hrep2 i c hci).2.2 ?_
        first | refine v_laddn C dX8_putTogether_109 ?_ | refine v_ladd C dX8_putTogether_109 ?_
        refine v_last C dX8_putTogether_110 (by assumption) (by omega) (by omega) (fun G hG110 hF110 => ?_)
        first | replace hm0 := (hF110 _ (by omega)).trans hm0 | replace hm0 := hG110 | skip
        first | replace hb0 := (hF110 _ (by omega)).trans hb0 | replace hb0 := hG110 | skip
        first | replace hb1 := (hF110 _ (by omega)).trans hb1 | replace hb1 := hG110 | skip
        first | replace hb2 := (hF110 _ (by omega)).trans hb2 | replace hb2 := hG110 | skip
        first | replace hb3 := (hF110 _ (by omega)).trans hb3 | replace hb3 := hG110 | skip
        first | replace hd := (hF110 _ (by omega)).trans hd | replace hd := hG110 | skip
        first | replace hd0 := (hF110 _ (by omega)).trans hd0 | replace hd0 := hG110 | skip
        first | replace hd1 := (hF110 _ (by omega)).trans hd1 | replace hd1 := hG110 | skip
        first | replace hd2 := (hF110 _ (by omega)).trans hd2 | replace hd2 := hG110 | skip
        first | replace hd3 := (hF110 _ (by omega)).trans hd3 | replace hd3 := hG110 | skip
        have hc2k := (hc2.keep (fun j a b => hF77 j (by omega))).keep (fun j a b => hF110 j (by omega))
        refine v_iinc_6 C dX8_putTogether_111 (nI_1 _) (by decide) rfl ?_
        refine v_goto C 14 dX8_putTogether_114 (by decide) ?_
        refine ih (k + 1) (by omega) (by omega) G _ _ ⟨hm0, _, _, _, by rw [mp_len]; rw [mp_len] at hb0; exact hb0, hb1, hb2, hb3, ?_, rep_mp hrep hjk rfl ?_ ?_, cwf_keys ⟨hwf, hkp, hnd⟩ (by rw [sF_mpk, sF_mpk])⟩ ⟨hd, hc2k⟩ (fun j hj => by rw [hF110 j (by omega), hF77 j (by omega)]; exact hfr j hj)
        · rw [sF_mpk]
          rw [sF_mpk] at hks
          exact (hks.keep (fun j a b => hF77 j (by omega))).keep (fun j a b => hF110 j (by omega))
        · unfold sF; rw [sEst_some hk hci]
        · unfold sF; rw [sErr_some hk hci]
set_option maxHeartbeats 4000000 in
set_option maxRecDepth 100000 in
theorem c_Sav_put (l : Launch) (E : Ev) {G : Gh} {b b2 P lim : Nat} {l0 l2 : Ctr} (hdis : b + 7 ≤ b2 ∨ b2 + 7 ≤ b) (hl0 : l0.length ≤ lim) (hl2 : l2.length ≤ lim) (hn : ∀ c ∈ sU lim l0 l2 l2.length, c.2.1 < 2 ^ 62) (hm : isSav E G b P lim l0) (hm2 : isSav E G b2 P lim l2) : K_X8_putTogether l E none G [.ref (ga E b), .ref (ga E b2)] (fun _ G2 => ∃ m rem, isSav E G2 b P lim m ∧ (m ++ rem).Perm (sU lim l0 l2 l2.length) ∧ m.length = min lim (sU lim l0 l2 l2.length).length ∧ (∀ c ∈ m, ∀ r ∈ rem, wk r c) ∧ srt m m.length ∧ ∀ j, (j < b ∨ b + 7 ≤ j) → G2 j = G j) := by
  refine Fc.of rfl [some (.ref (ga E b)), some (.ref (ga E b2)), none, none, none, none, none, none, none] 7 rfl (Nat.le_of_ble_eq_true rfl) ?_
  intro M hM0 hini C
  subst hM0
  obtain ⟨hm0, hc⟩ := id hm
  obtain ⟨fk, fn, fe, hb0, hb1, hb2, hb3, hks, hrep, hwf, hkp, hnd⟩ := id hc
  obtain ⟨hd, hc2⟩ := id hm2
  refine v_aload_n C dX8_putTogether_0 rfl ?_
  refine mc_X8_30 C dX8_putTogether_1 (by assumption) (c_Sav_least _ E none hm) rfl (fun r1 G1 hp1 => ?_)
  obtain ⟨rfl, rfl⟩ := hp1
  refine v_lstore_2 C dX8_putTogether_4 (by decide) (by first | rfl | assumption) ?_
  refine v_aload_n C dX8_putTogether_5 rfl ?_
  refine mc_X8_30 C dX8_putTogether_6 (by assumption) (c_Sav_least _ E none hm2) rfl (fun r6 G6 hp6 => ?_)
  obtain ⟨rfl, rfl⟩ := hp6
  refine v_lstore_4 C dX8_putTogether_9 (by decide) (by first | rfl | assumption) ?_
  refine v_iconst (v := nI 0) C dX8_putTogether_11 (by decide) ?_
  refine v_istore_6 C dX8_putTogether_12 (by decide) (by first | rfl | assumption) ?_
  refine sp_loop1 C hdis ?_ (l0.length + 1) 0 (by omega) (by omega) G _ _ (by unfold mp; simpa using hm) hm2 (fun _ _ => rfl)
  clear hm0 hb0 hb1 hb2 hb3 hks hc hm hd hc2
  intro G x7 x8 hmA hmB hfrA
  have hm0 := hmA.1
  have hd := hmB.1
  have hd0 := hmB.2.rc
  refine v_aload_n C dX8_putTogether_117 rfl ?_
  refine gf_X8_12 C dX8_putTogether_118 (by assumption) ?_
  refine gf_X8_53 C dX8_putTogether_121 (by assumption) ?_
  refine v_istore_6 C dX8_putTogether_124 (by decide) (by first | rfl | assumption) ?_
  refine v_iconst (v := nI 0) C dX8_putTogether_126 (by decide) ?_
  refine v_istore_7 C dX8_putTogether_127 (by decide) (by first | rfl | assumption) ?_
  exact sp_loop2 C hdis hl0 hl2 hn (fun G m rem h1 h2 h3 h4 h5 h6 => ⟨m, rem, h1, h2, h3, h4, h5, h6⟩) (l2.length + 1) 0 (by omega) (by omega) G _ (by rw [sU_zero]; exact hmA) hmB hfrA

