theorem sU_self {lim : Nat} {l : Ctr} {k : Nat} : sU lim l l k = l.map (sF lim l) := by
  unfold sU
  have e : ((l.take k).filter (fun c => decide (c.1 ∉ ckeys l))) = [] := by
    rw [List.filter_eq_nil_iff]
    intro c hc
    have : c.1 ∈ ckeys l := List.mem_map.mpr ⟨c, List.mem_of_mem_take hc, rfl⟩
    simp [this]
  rw [e, List.map_nil, List.append_nil]

set_option maxHeartbeats 4000000 in
set_option maxRecDepth 100000 in
theorem ss_loop1 {M : Mx} {E : Ev} (C : Cx M E yX8_putTogether.cls cX8_putTogether 9 none 4 114 0 0) {post : Unit → Gh → Prop} {G0 : Gh} {b P lim : Nat} {l0 : Ctr} (hnd0 : (ckeys l0).Nodup) (kend : ∀ (G : Gh) (x7 x8 : Option Value), isSav E G b P lim (l0.map (sF lim l0)) → (∀ j, (j < b ∨ b + 7 ≤ j) → G j = G0 j) → V M E 9 (QE M E (fun _ : Unit => none) none 0 0 post) none 0 0 G 117 [some (.ref (ga E b)), some (.ref (ga E b)), some (.long (lN (sLeast lim l0))), none, some (.long (lN (sLeast lim l0))), none, some (.int (nI l0.length)), x7, x8] []) : ∀ (t k : Nat), k ≤ l0.length → l0.length - k < t → ∀ (G : Gh) (x7 x8 : Option Value), isSav E G b P lim (mp (sF lim l0) l0 k) → (∀ j, (j < b ∨ b + 7 ≤ j) → G j = G0 j) → V M E 9 (QE M E (fun _ : Unit => none) none 0 0 post) none 0 0 G 14 [some (.ref (ga E b)), some (.ref (ga E b)), some (.long (lN (sLeast lim l0))), none, some (.long (lN (sLeast lim l0))), none, some (.int (nI k)), x7, x8] [] := by
  intro t
  induction t with
  | zero => intro k _ h; omega
  | succ t ih =>
    intro k hk2 ht G x7 x8 hm hfr
    have hmpl := mp_len (sF lim l0) l0 k
    obtain ⟨hm0, hc⟩ := id hm
    obtain ⟨fk, fn, fe, hb0, hb1, hb2, hb3, hks, hrep, hwf, hkp, hnd⟩ := id hc
    refine v_iload C dX8_putTogether_14 rfl ?_
    refine v_aload_n C dX8_putTogether_16 rfl ?_
    refine gf_X8_12 C dX8_putTogether_17 (by assumption) ?_
    refine gf_X8_53 C dX8_putTogether_20 (by assumption) ?_
    refine v_icmpn_ge C 117 dX8_putTogether_23 (by decide) (by omega) (by omega) (fun h23 => ?_) (fun h23 => ?_)
    · skip
      have e : k = l0.length := by rw [mp_len] at h23; omega
      subst e
      rw [mp_all] at hm
      exact kend G _ _ hm hfr
    · skip
      have hkl : k < l0.length := by rw [mp_len] at h23; exact h23
      have hjk : l0[k]? = some l0[k] := List.getElem?_eq_getElem hkl
      have hjm : (mp (sF lim l0) l0 k)[k]? = some l0[k] := by rw [mp_get, if_neg (Nat.lt_irrefl k)]; exact hjk
      have hkx := self_kix hnd hjm
      have hkx0 := self_kix hnd0 hjk
      have hrj := hrep k _ hjm
      refine v_aload_n C dX8_putTogether_26 rfl ?_
      refine gf_X8_12 C dX8_putTogether_27 (by assumption) ?_
      refine v_aload_n C dX8_putTogether_30 rfl ?_
      refine gf_X8_12 C dX8_putTogether_31 (by assumption) ?_
      refine gf_X8_64 C dX8_putTogether_34 (by assumption) ?_
      refine v_iload C dX8_putTogether_37 rfl ?_
      refine v_iald C dX8_putTogether_39 (by assumption) (by omega) (by omega) hrj.1 ?_
      refine mc_X8_26 C dX8_putTogether_40 (by assumption) (c_Ctr_find _ E none (hkp _ (List.mem_of_getElem? hjm)) hc) rfl (fun r40 G40 hp40 => ?_)
      obtain ⟨hr40, rfl⟩ := hp40
      have hr40 : r40 = nI k := by rw [hr40, hkx]; rfl
      subst hr40
      refine v_istore_7 C dX8_putTogether_43 (by decide) (by first | rfl | assumption) ?_
      refine v_aload_n C dX8_putTogether_45 rfl ?_
      refine gf_X8_12 C dX8_putTogether_46 (by assumption) ?_
      refine gf_X8_22 C dX8_putTogether_49 (by assumption) ?_
      refine v_iload C dX8_putTogether_52 rfl ?_
      refine v_dup2 C dX8_putTogether_54 rfl rfl ?_
      refine v_lald C dX8_putTogether_55 (by assumption) (by omega) (by omega) hrj.2.1 ?_
      refine v_iload C dX8_putTogether_56 rfl ?_
      first | refine v_ifn_ge C 66 dX8_putTogether_58 (by decide) (by omega) (fun h58 => ?_) (fun h58 => by exfalso; first | omega | exact absurd h58 (by decide) | (have h9 := of_decide_eq_true h58; omega) | (have h9 := of_decide_eq_false h58; omega) | contradiction | simp_all) | refine v_if_ge C 66 dX8_putTogether_58 (by decide) (fun h58 => ?_) (fun h58 => by exfalso; first | omega | exact absurd h58 (by decide) | (have h9 := of_decide_eq_true h58; omega) | (have h9 := of_decide_eq_false h58; omega) | contradiction | simp_all)
      refine v_aload_n C dX8_putTogether_66 rfl ?_
      refine gf_X8_12 C dX8_putTogether_67 (by assumption) ?_
      refine gf_X8_22 C dX8_putTogether_70 (by assumption) ?_
      refine v_iload C dX8_putTogether_73 rfl ?_
      refine v_lald C dX8_putTogether_75 (by assumption) (by omega) (by omega) hrj.2.1 ?_
      first | refine v_laddn C dX8_putTogether_76 ?_ | refine v_ladd C dX8_putTogether_76 ?_
      refine v_last C dX8_putTogether_77 (by assumption) (by omega) (by omega) (fun G hG77 hF77 => ?_)
      first | replace hm0 := (hF77 _ (by omega)).trans hm0 | replace hm0 := hG77 | skip
      first | replace hb0 := (hF77 _ (by omega)).trans hb0 | replace hb0 := hG77 | skip
      first | replace hb1 := (hF77 _ (by omega)).trans hb1 | replace hb1 := hG77 | skip
      first | replace hb2 := (hF77 _ (by omega)).trans hb2 | replace hb2 := hG77 | skip
      first | replace hb3 := (hF77 _ (by omega)).trans hb3 | replace hb3 := hG77 | skip
      refine v_aload_n C dX8_putTogether_78 rfl ?_
      refine gf_X8_12 C dX8_putTogether_79 (by assumption) ?_
      refine gf_X8_34 C dX8_putTogether_82 (by assumption) ?_
      refine v_iload C dX8_putTogether_85 rfl ?_
      refine v_dup2 C dX8_putTogether_87 rfl rfl ?_
      refine v_lald C dX8_putTogether_88 (by assumption) (by omega) (by omega) hrj.2.2 ?_
      refine v_iload C dX8_putTogether_89 rfl ?_
      first | refine v_ifn_ge C 99 dX8_putTogether_91 (by decide) (by omega) (fun h91 => ?_) (fun h91 => by exfalso; first | omega | exact absurd h91 (by decide) | (have h9 := of_decide_eq_true h91; omega) | (have h9 := of_decide_eq_false h91; omega) | contradiction | simp_all) | refine v_if_ge C 99 dX8_putTogether_91 (by decide) (fun h91 => ?_) (fun h91 => by exfalso; first | omega | exact absurd h91 (by decide) | (have h9 := of_decide_eq_true h91; omega) | (have h9 := of_decide_eq_false h91; omega) | contradiction | simp_all)
      refine v_aload_n C dX8_putTogether_99 rfl ?_
      refine gf_X8_12 C dX8_putTogether_100 (by assumption) ?_
      refine gf_X8_34 C dX8_putTogether_103 (by assumption) ?_
      refine v_iload C dX8_putTogether_106 rfl ?_
      refine v_lald C dX8_putTogether_108 (by assumption) (by omega) (by omega) hrj.2.2 ?_
      first | refine v_laddn C dX8_putTogether_109 ?_ | refine v_ladd C dX8_putTogether_109 ?_
      refine v_last C dX8_putTogether_110 (by assumption) (by omega) (by omega) (fun G hG110 hF110 => ?_)
      first | replace hm0 := (hF110 _ (by omega)).trans hm0 | replace hm0 := hG110 | skip
      first | replace hb0 := (hF110 _ (by omega)).trans hb0 | replace hb0 := hG110 | skip
      first | replace hb1 := (hF110 _ (by omega)).trans hb1 | replace hb1 := hG110 | skip
      first | replace hb2 := (hF110 _ (by omega)).trans hb2 | replace hb2 := hG110 | skip
      first | replace hb3 := (hF110 _ (by omega)).trans hb3 | replace hb3 := hG110 | skip
      refine v_iinc_6 C dX8_putTogether_111 (nI_1 _) (by decide) rfl ?_
      refine v_goto C 14 dX8_putTogether_114 (by decide) ?_
      refine ih (k + 1) (by omega) (by omega) G _ _ ⟨hm0, _, _, _, by rw [mp_len]; rw [mp_len] at hb0; exact hb0, hb1, hb2, hb3, ?_, rep_mp hrep hjk rfl ?_ ?_, cwf_keys ⟨hwf, hkp, hnd⟩ (by rw [sF_mpk, sF_mpk])⟩ (fun j hj => by rw [hF110 j (by omega), hF77 j (by omega)]; exact hfr j hj)
      · rw [sF_mpk]
        rw [sF_mpk] at hks
        exact (hks.keep (fun j a b => hF77 j (by omega))).keep (fun j a b => hF110 j (by omega))
      · unfold sF; rw [sEst_some hkx0 hjk]
      · unfold sF; rw [sErr_some hkx0 hjk]
set_option maxHeartbeats 4000000 in
set_option maxRecDepth 100000 in
theorem ss_loop2 {M : Mx} {E : Ev} (C : Cx M E yX8_putTogether.cls cX8_putTogether 9 none 4 114 0 0) {post : Unit → Gh → Prop} {G G0 : Gh} {b P lim : Nat} {l0 u : Ctr} (hn : ∀ c ∈ u, c.2.1 < 2 ^ 62) (hend : ∀ (G : Gh) (m rem : Ctr), isSav E G b P lim m → (m ++ rem).Perm u → m.length = min lim u.length → (∀ c ∈ m, ∀ r ∈ rem, wk r c) → srt m m.length → (∀ j, (j < b ∨ b + 7 ≤ j) → G j = G0 j) → post () G) (hm : isSav E G b P lim u) (hfr : ∀ j, (j < b ∨ b + 7 ≤ j) → G j = G0 j) : ∀ (t k : Nat), k ≤ u.length → u.length - k < t → ∀ (x8 : Option Value), V M E 9 (QE M E (fun _ : Unit => none) none 0 0 post) none 0 0 G 129 [some (.ref (ga E b)), some (.ref (ga E b)), some (.long (lN (sLeast lim l0))), none, some (.long (lN (sLeast lim l0))), none, some (.int (nI u.length)), some (.int (nI k)), x8] [] := by
  obtain ⟨hm0, hc⟩ := id hm
  obtain ⟨fk, fn, fe, hb0, hb1, hb2, hb3, hks, hrep, hwf, hkp, hnd⟩ := id hc
  intro t
  induction t with
  | zero => intro k _ h; omega
  | succ t ih =>
    intro k hk2 ht x8
    refine v_iload C dX8_putTogether_129 rfl ?_
    refine v_iload C dX8_putTogether_131 rfl ?_
    refine v_icmpn_ge C 199 dX8_putTogether_133 (by decide) (by omega) (by omega) (fun h133 => ?_) (fun h133 => ?_)
    · skip
      exact sp_tail C hn hend rfl hm hfr
    · skip
      have hjk : u[k]? = some u[k] := List.getElem?_eq_getElem h133
      have hrj := hrep k _ hjk
      refine v_aload_n C dX8_putTogether_136 rfl ?_
      refine gf_X8_12 C dX8_putTogether_137 (by assumption) ?_
      refine gf_X8_64 C dX8_putTogether_140 (by assumption) ?_
      refine v_iload C dX8_putTogether_143 rfl ?_
      refine v_iald C dX8_putTogether_145 (by assumption) (by omega) (by omega) hrj.1 ?_
      refine v_istore_8 C dX8_putTogether_146 (by decide) (by first | rfl | assumption) ?_
      refine v_aload_n C dX8_putTogether_148 rfl ?_
      refine gf_X8_12 C dX8_putTogether_149 (by assumption) ?_
      refine v_iload C dX8_putTogether_152 rfl ?_
      refine mc_X8_26 C dX8_putTogether_154 (by assumption) (c_Ctr_find _ E none (hkp _ (List.mem_of_getElem? hjk)) hc) rfl (fun r154 G154 hp154 => ?_)
      obtain ⟨hr154, rfl⟩ := hp154
      have hr154 : r154 = nI k := by rw [hr154, self_kix hnd hjk]; rfl
      subst hr154
      first | refine v_ifn_ge C 193 dX8_putTogether_157 (by decide) (by omega) (fun h157 => ?_) (fun h157 => by exfalso; first | omega | exact absurd h157 (by decide) | (have h9 := of_decide_eq_true h157; omega) | (have h9 := of_decide_eq_false h157; omega) | contradiction | simp_all) | refine v_if_ge C 193 dX8_putTogether_157 (by decide) (fun h157 => ?_) (fun h157 => by exfalso; first | omega | exact absurd h157 (by decide) | (have h9 := of_decide_eq_true h157; omega) | (have h9 := of_decide_eq_false h157; omega) | contradiction | simp_all)
      refine v_iinc_7 C dX8_putTogether_193 (nI_1 _) (by decide) rfl ?_
      refine v_goto C 129 dX8_putTogether_196 (by decide) ?_
      exact ih (k + 1) (by omega) (by omega) _
set_option maxHeartbeats 4000000 in
set_option maxRecDepth 100000 in
theorem c_Sav_putSelf (l : Launch) (E : Ev) {G : Gh} {b P lim : Nat} {l0 : Ctr} (hl0 : l0.length ≤ lim) (hn : ∀ c ∈ sU lim l0 l0 l0.length, c.2.1 < 2 ^ 62) (hm : isSav E G b P lim l0) : K_X8_putTogether l E none G [.ref (ga E b), .ref (ga E b)] (fun _ G2 => ∃ m rem, isSav E G2 b P lim m ∧ (m ++ rem).Perm (sU lim l0 l0 l0.length) ∧ m.length = min lim (sU lim l0 l0 l0.length).length ∧ (∀ c ∈ m, ∀ r ∈ rem, wk r c) ∧ srt m m.length ∧ ∀ j, (j < b ∨ b + 7 ≤ j) → G2 j = G j) := by
  refine Fc.of rfl [some (.ref (ga E b)), some (.ref (ga E b)), none, none, none, none, none, none, none] 7 rfl (Nat.le_of_ble_eq_true rfl) ?_
  intro M hM0 hini C
  subst hM0
  obtain ⟨hm0, hc⟩ := id hm
  obtain ⟨fk, fn, fe, hb0, hb1, hb2, hb3, hks, hrep, hwf, hkp, hnd⟩ := id hc
  refine v_aload_n C dX8_putTogether_0 rfl ?_
  refine mc_X8_30 C dX8_putTogether_1 (by assumption) (c_Sav_least _ E none hm) rfl (fun r1 G1 hp1 => ?_)
  obtain ⟨rfl, rfl⟩ := hp1
  refine v_lstore_2 C dX8_putTogether_4 (by decide) (by first | rfl | assumption) ?_
  refine v_aload_n C dX8_putTogether_5 rfl ?_
  refine mc_X8_30 C dX8_putTogether_6 (by assumption) (c_Sav_least _ E none hm) rfl (fun r6 G6 hp6 => ?_)
  obtain ⟨rfl, rfl⟩ := hp6
  refine v_lstore_4 C dX8_putTogether_9 (by decide) (by first | rfl | assumption) ?_
  refine v_iconst (v := nI 0) C dX8_putTogether_11 (by decide) ?_
  refine v_istore_6 C dX8_putTogether_12 (by decide) (by first | rfl | assumption) ?_
  rw [sU_self] at hn
  rw [sU_self]
  refine ss_loop1 C hnd ?_ (l0.length + 1) 0 (by omega) (by omega) G _ _ (by unfold mp; simpa using hm) (fun _ _ => rfl)
  clear hm0 hb0 hb1 hb2 hb3 hks hc hm
  intro G x7 x8 hmA hfrA
  have hm0 := hmA.1
  have hb0 := hmA.2.rc
  refine v_aload_n C dX8_putTogether_117 rfl ?_
  refine gf_X8_12 C dX8_putTogether_118 (by assumption) ?_
  refine gf_X8_53 C dX8_putTogether_121 (by assumption) ?_
  refine v_istore_6 C dX8_putTogether_124 (by decide) (by first | rfl | assumption) ?_
  refine v_iconst (v := nI 0) C dX8_putTogether_126 (by decide) ?_
  refine v_istore_7 C dX8_putTogether_127 (by decide) (by first | rfl | assumption) ?_
  exact ss_loop2 C hn (fun G m rem h1 h2 h3 h4 h5 h6 => ⟨m, rem, h1, h2, h3, h4, h5, h6⟩) hmA hfrA ((l0.map (sF lim l0)).length + 1) 0 (by omega) (by omega) _

