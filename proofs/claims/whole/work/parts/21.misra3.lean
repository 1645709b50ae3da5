set_option maxHeartbeats 4000000 in
set_option maxRecDepth 100000 in
theorem c_Mis_makeEmpty (l : Launch) (E : Ev) (z : Option Nat) {G : Gh} {b P lim : Nat} {l0 : Ctr} {tk : Nat} (hm : isMis E G b P lim l0 tk) : K_X6_makeEmpty l E z G [.ref (ga E b)] (fun _ G2 => isMis E G2 b P lim [] 0 ∧ ∀ j, (j < b ∨ b + 7 ≤ j) → G2 j = G j) := by
  refine Fc.of rfl [some (.ref (ga E b))] 0 rfl (Nat.le_of_ble_eq_true rfl) ?_
  intro M hM0 hini C
  subst hM0
  obtain ⟨hm0, hc⟩ := id hm
  obtain ⟨fk, fn, fe, hb0, hb1, hb2, hb3, hks, hrep, hwf, hkp, hnd⟩ := id hc
  refine v_aload_n C dX6_makeEmpty_0 rfl ?_
  refine gf_X6_12 C dX6_makeEmpty_1 (by assumption) ?_
  refine mc_X6_63 C dX6_makeEmpty_4 (by assumption) (c_Ctr_makeEmpty _ E z hc) rfl (fun r4 G4 hp4 => ?_)
  obtain ⟨hc4, hfr4⟩ := hp4
  have hm0 := (hfr4 _ (by omega)).trans hm0
  refine v_aload_n C dX6_makeEmpty_7 rfl ?_
  refine v_lconst (v := lN 0) C dX6_makeEmpty_8 (by decide) ?_
  refine pf_X6_30 C dX6_makeEmpty_9 (by assumption) (fun G hG9 hF9 => ?_)
  first | replace hm0 := (hF9 _ (by omega)).trans hm0 | replace hm0 := hG9 | skip
  refine v_vret C dX6_makeEmpty_12 ?_
  exact ⟨⟨hm0, hc4.keep (fun j a b => hF9 j (by omega))⟩, fun j hj => by rw [hF9 j (by omega), hfr4 j (by omega)]⟩

set_option maxHeartbeats 4000000 in
set_option maxRecDepth 100000 in
theorem c_Mis_becomeSelf (l : Launch) (E : Ev) {G : Gh} {b P lim : Nat} {l0 : Ctr} {tk : Nat} (hm : isMis E G b P lim l0 tk) : K_X6_become l E none G [.ref (ga E b), .ref (ga E b)] (fun _ G2 => isMis E G2 b P lim l0 tk ∧ ∀ j, (j < b ∨ b + 7 ≤ j) → G2 j = G j) := by
  refine Fc.of rfl [some (.ref (ga E b)), some (.ref (ga E b))] 0 rfl (Nat.le_of_ble_eq_true rfl) ?_
  intro M hM0 hini C
  subst hM0
  obtain ⟨hm0, hc⟩ := id hm
  obtain ⟨fk, fn, fe, hb0, hb1, hb2, hb3, hks, hrep, hwf, hkp, hnd⟩ := id hc
  refine v_aload_n C dX6_become_0 rfl ?_
  refine gf_X6_12 C dX6_become_1 (by assumption) ?_
  refine v_aload_n C dX6_become_4 rfl ?_
  refine gf_X6_12 C dX6_become_5 (by assumption) ?_
  refine mc_X6_66 C dX6_become_8 (by assumption) (c_Ctr_becomeSelf _ E hc) rfl (fun r8 G8 hp8 => ?_)
  obtain ⟨hc8, hfr8⟩ := hp8
  have hm0 := (hfr8 _ (by omega)).trans hm0
  refine v_aload_n C dX6_become_11 rfl ?_
  refine v_aload_n C dX6_become_12 rfl ?_
  refine gf_X6_30 C dX6_become_13 (by assumption) ?_
  refine pf_X6_30 C dX6_become_16 (by assumption) (fun G hG16 hF16 => ?_)
  first | replace hm0 := (hF16 _ (by omega)).trans hm0 | replace hm0 := hG16 | skip
  refine v_vret C dX6_become_19 ?_
  exact ⟨⟨hm0, hc8.keep (fun j a b => hF16 j (by omega))⟩, fun j hj => by rw [hF16 j (by omega), hfr8 j (by omega)]⟩

set_option maxHeartbeats 4000000 in
set_option maxRecDepth 100000 in
theorem c_Mis_become (l : Launch) (E : Ev) {G : Gh} {b b2 P lim : Nat} {l0 l2 : Ctr} {tk tk2 : Nat} (hdis : b + 7 ≤ b2 ∨ b2 + 7 ≤ b) (hm : isMis E G b P lim l0 tk) (hm2 : isMis E G b2 P lim l2 tk2) : K_X6_become l E none G [.ref (ga E b), .ref (ga E b2)] (fun _ G2 => isMis E G2 b P lim l2 tk2 ∧ ∀ j, (j < b ∨ b + 7 ≤ j) → G2 j = G j) := by
  refine Fc.of rfl [some (.ref (ga E b)), some (.ref (ga E b2))] 0 rfl (Nat.le_of_ble_eq_true rfl) ?_
  intro M hM0 hini C
  subst hM0
  obtain ⟨hm0, hc⟩ := id hm
  obtain ⟨fk, fn, fe, hb0, hb1, hb2, hb3, hks, hrep, hwf, hkp, hnd⟩ := id hc
  obtain ⟨hd, hc2⟩ := id hm2
  refine v_aload_n C dX6_become_0 rfl ?_
  refine gf_X6_12 C dX6_become_1 (by assumption) ?_
  refine v_aload_n C dX6_become_4 rfl ?_
  refine gf_X6_12 C dX6_become_5 (by assumption) ?_
  refine mc_X6_66 C dX6_become_8 (by assumption) (c_Ctr_become _ E (by omega) hc hc2) rfl (fun r8 G8 hp8 => ?_)
  obtain ⟨hc8, hfr8⟩ := hp8
  have hm0 := (hfr8 _ (by omega)).trans hm0
  have hd := (hfr8 _ (by omega)).trans hd
  refine v_aload_n C dX6_become_11 rfl ?_
  refine v_aload_n C dX6_become_12 rfl ?_
  refine gf_X6_30 C dX6_become_13 (by assumption) ?_
  refine pf_X6_30 C dX6_become_16 (by assumption) (fun G hG16 hF16 => ?_)
  first | replace hm0 := (hF16 _ (by omega)).trans hm0 | replace hm0 := hG16 | skip
  first | replace hd := (hF16 _ (by omega)).trans hd | replace hd := hG16 | skip
  refine v_vret C dX6_become_19 ?_
  exact ⟨⟨hm0, hc8.keep (fun j a b => hF16 j (by omega))⟩, fun j hj => by rw [hF16 j (by omega), hfr8 j (by omega)]⟩

def mAdd1 (l : Ctr) (c : Nat × Nat × Nat) : Ctr := match kix l c.1 with
  | some i => nset l i (numOf l c.1 + c.2.1)
  | none => l ++ [(c.1, c.2.1, 0)]
def mAdd (l l2 : Ctr) : Ctr := l2.foldl mAdd1 l
theorem mAdd_step {l l2 : Ctr} {k : Nat} {c : Nat × Nat × Nat} (h : l2[k]? = some c) : mAdd l (l2.take (k + 1)) = mAdd1 (mAdd l (l2.take k)) c := by
  unfold mAdd
  rw [List.take_add_one, h, List.foldl_append]
  rfl
theorem mAdd1_len (l : Ctr) (c : Nat × Nat × Nat) : (mAdd1 l c).length ≤ l.length + 1 := by
  unfold mAdd1
  cases kix l c.1 with
  | none => simp
  | some i => simp only []; rw [nset_len]; omega
theorem mAdd_len {l : Ctr} : ∀ l2 : Ctr, (mAdd l l2).length ≤ l.length + l2.length := by
  intro l2
  induction l2 generalizing l with
  | nil => exact Nat.le_refl _
  | cons c l2 ih =>
    have h1 := ih (l := mAdd1 l c)
    have h2 := mAdd1_len l c
    show (mAdd (mAdd1 l c) l2).length ≤ _
    rw [List.length_cons]
    omega
def mPut (lim : Nat) (l l2 : Ctr) (tk tk2 : Nat) : Ctr × Nat := if lim < (mAdd l l2).length then (mSub (mAdd l l2) (grt (mAdd l l2) (lim + 1)), tk + tk2 + grt (mAdd l l2) (lim + 1)) else (mAdd l l2, tk + tk2)

set_option maxHeartbeats 4000000 in
set_option maxRecDepth 100000 in
theorem mput_loop {M : Mx} {E : Ev} (C : Cx M E yX6_putTogether.cls cX6_putTogether 8 none 4 114 0 0) {post : Unit → Gh → Prop} {G0 : Gh} {b b2 P lim : Nat} {l0 l2 : Ctr} {tk tk2 : Nat} (hdis : b + 7 ≤ b2 ∨ b2 + 7 ≤ b) (hl0 : l0.length ≤ lim) (hl2 : l2.length ≤ lim) (kend : ∀ (G : Gh) (x4 x5 x6 x7 : Option Value), isMis E G b P lim (mAdd l0 l2) tk → isMis E G b2 P lim l2 tk2 → (∀ j, (j < b ∨ b + 7 ≤ j) → G j = G0 j) → V M E 8 (QE M E (fun _ : Unit => none) none 0 0 post) none 0 0 G 89 [some (.ref (ga E b)), some (.ref (ga E b2)), some (.int (nI l2.length)), some (.int (nI l2.length)), x4, x5, x6, x7] []) : ∀ (t k : Nat), k ≤ l2.length → l2.length - k < t → ∀ (G : Gh) (x4 x5 x6 x7 : Option Value), lo_c x4 = true → lo_c x6 = true → isMis E G b P lim (mAdd l0 (l2.take k)) tk → isMis E G b2 P lim l2 tk2 → (∀ j, (j < b ∨ b + 7 ≤ j) → G j = G0 j) → V M E 8 (QE M E (fun _ : Unit => none) none 0 0 post) none 0 0 G 10 [some (.ref (ga E b)), some (.ref (ga E b2)), some (.int (nI l2.length)), some (.int (nI k)), x4, x5, x6, x7] [] := by
  intro t
  induction t with
  | zero => intro k _ h; omega
  | succ t ih =>
    intro k hk2 ht G x4 x5 x6 x7 hx4 hx6 hm hm2 hfr
    obtain ⟨hm0, hc⟩ := id hm
    obtain ⟨fk, fn, fe, hb0, hb1, hb2, hb3, hks, hrep, hwf, hkp, hnd⟩ := id hc
    obtain ⟨hd, hc2⟩ := id hm2
    obtain ⟨gk, gn, ge, hd0, hd1, hd2, hd3, hks2, hrep2, hwf2, hkp2, hnd2⟩ := id hc2
    refine v_iload_n C dX6_putTogether_10 rfl ?_
    refine v_iload_n C dX6_putTogether_11 rfl ?_
    refine v_icmpn_ge C 89 dX6_putTogether_12 (by decide) (by omega) (by omega) (fun h12 => ?_) (fun h12 => ?_)
    · skip
      have e : k = l2.length := by omega
      subst e
      rw [List.take_length] at hm
      exact kend G _ _ _ _ hm hm2 hfr
    · skip
      have hjk : l2[k]? = some l2[k] := List.getElem?_eq_getElem h12
      have hrj := hrep2 k _ hjk
      have hcl := mAdd_len (l := l0) (l2.take k)
      have htl : (l2.take k).length = k := by rw [List.length_take]; omega
      refine v_aload_n C dX6_putTogether_15 rfl ?_
      refine gf_X6_12 C dX6_putTogether_16 (by assumption) ?_
      refine gf_X6_70 C dX6_putTogether_19 (by assumption) ?_
      refine v_iload_n C dX6_putTogether_22 rfl ?_
      refine v_iald C dX6_putTogether_23 (by assumption) (by omega) (by omega) hrj.1 ?_
      refine v_istore_4 C dX6_putTogether_24 (by decide) rfl ?_
      refine v_aload_n C dX6_putTogether_26 rfl ?_
      refine gf_X6_12 C dX6_putTogether_27 (by assumption) ?_
      refine gf_X6_22 C dX6_putTogether_30 (by assumption) ?_
      refine v_iload_n C dX6_putTogether_33 rfl ?_
      refine v_lald C dX6_putTogether_34 (by assumption) (by omega) (by omega) hrj.2.1 ?_
      refine v_lstore_5 C dX6_putTogether_35 (by decide) rfl ?_
      refine v_aload_n C dX6_putTogether_37 rfl ?_
      refine gf_X6_12 C dX6_putTogether_38 (by assumption) ?_
      refine v_iload C dX6_putTogether_41 rfl ?_
      refine mc_X6_18 C dX6_putTogether_43 (by assumption) (c_Ctr_find _ E none (hkp2 _ (List.mem_of_getElem? hjk)) hc) rfl (fun r43 G43 hp43 => ?_)
      obtain ⟨hr43, rfl⟩ := hp43
      rcases kix_cases hr43 with ⟨hk, rfl⟩ | ⟨i, c, hk, rfl, hci, hcx, hil⟩
      · skip
        refine v_istore_7 C dX6_putTogether_46 (by decide) rfl ?_
        refine v_iload C dX6_putTogether_48 rfl ?_
        refine v_if_lt C 71 dX6_putTogether_50 (by decide) (fun h50 => ?_) (fun h50 => by exfalso; first | omega | exact absurd h50 (by decide) | contradiction | simp_all)
        refine v_aload_n C dX6_putTogether_71 rfl ?_
        refine gf_X6_12 C dX6_putTogether_72 (by assumption) ?_
        refine v_iload C dX6_putTogether_75 rfl ?_
        refine v_lload C dX6_putTogether_77 rfl ?_
        refine v_lconst (v := lN 0) C dX6_putTogether_79 (by decide) ?_
        refine mc_X6_55 C dX6_putTogether_80 (by assumption) (c_Ctr_append _ E (by omega) (hkp2 _ (List.mem_of_getElem? hjk)) (fun c hcm e => kix_none hk c hcm e) hc) rfl (fun r80 G80 hp80 => ?_)
        obtain ⟨hc80, hfr80⟩ := hp80
        refine v_iinc_3 C dX6_putTogether_83 (nI_1 _) (by decide) rfl ?_
        refine v_goto C 10 dX6_putTogether_86 (by decide) ?_
        have e9 : mAdd l0 (l2.take (k + 1)) = mAdd1 (mAdd l0 (l2.take k)) l2[k] := mAdd_step hjk
        exact ih (k + 1) (by omega) (by omega) G80 _ _ _ _ rfl rfl ⟨(hfr80 _ (by omega)).trans hm0, by rw [e9]; unfold mAdd1; rw [hk]; exact hc80⟩ ⟨(hfr80 _ (by omega)).trans hd, hc2.keep (fun j a b => hfr80 j (by omega))⟩ (fun j hj => by rw [hfr80 j (by omega)]; exact hfr j hj)
      · skip
        refine v_istore_7 C dX6_putTogether_46 (by decide) rfl ?_
        refine v_iload C dX6_putTogether_48 rfl ?_
        first | refine v_ifn_lt C 71 dX6_putTogether_50 (by decide) (by omega) (fun h50 => by exfalso; first | omega | exact absurd h50 (by decide) | contradiction | simp_all) (fun h50 => ?_) | refine v_if_lt C 71 dX6_putTogether_50 (by decide) (fun h50 => by exfalso; first | omega | exact absurd h50 (by decide) | contradiction | simp_all) (fun h50 => ?_)
        refine v_aload_n C dX6_putTogether_53 rfl ?_
        refine gf_X6_12 C dX6_putTogether_54 (by assumption) ?_
        refine gf_X6_22 C dX6_putTogether_57 (by assumption) ?_
        refine v_iload C dX6_putTogether_60 rfl ?_
        refine v_dup2 C dX6_putTogether_62 rfl rfl ?_
        refine v_lald C dX6_putTogether_63 (by assumption) (by omega) (by omega) (hrep i c hci).2.1 ?_
        refine v_lload C dX6_putTogether_64 rfl ?_
        first | refine v_laddn C dX6_putTogether_66 ?_ | refine v_ladd C dX6_putTogether_66 ?_
        refine v_last C dX6_putTogether_67 (by assumption) (by omega) (by omega) (fun G hG67 hF67 => ?_)
        first | replace hm0 := (hF67 _ (by omega)).trans hm0 | replace hm0 := hG67 | skip
        first | replace hb0 := (hF67 _ (by omega)).trans hb0 | replace hb0 := hG67 | skip
        first | replace hb1 := (hF67 _ (by omega)).trans hb1 | replace hb1 := hG67 | skip
        first | replace hb2 := (hF67 _ (by omega)).trans hb2 | replace hb2 := hG67 | skip
        first | replace hb3 := (hF67 _ (by omega)).trans hb3 | replace hb3 := hG67 | skip
        first | replace hd := (hF67 _ (by omega)).trans hd | replace hd := hG67 | skip
        first | replace hd0 := (hF67 _ (by omega)).trans hd0 | replace hd0 := hG67 | skip
        first | replace hd1 := (hF67 _ (by omega)).trans hd1 | replace hd1 := hG67 | skip
        first | replace hd2 := (hF67 _ (by omega)).trans hd2 | replace hd2 := hG67 | skip
        refine v_goto C 83 dX6_putTogether_68 (by decide) ?_
        refine v_iinc_3 C dX6_putTogether_83 (nI_1 _) (by decide) rfl ?_
        refine v_goto C 10 dX6_putTogether_86 (by decide) ?_
        have e9 : mAdd l0 (l2.take (k + 1)) = mAdd1 (mAdd l0 (l2.take k)) l2[k] := mAdd_step hjk
        exact ih (k + 1) (by omega) (by omega) G _ _ _ _ rfl rfl ⟨hm0, by rw [e9]; unfold mAdd1; rw [hk]; exact (by rw [numOf_some hk hci]; exact isCtr.nset hb0 hb1 hb2 hb3 (hks.keep (fun j a b => hF67 j (by omega))) hrep ⟨hwf, hkp, hnd⟩)⟩ ⟨hd, hc2.keep (fun j a b => hF67 j (by omega))⟩ (fun j hj => by rw [hF67 j (by omega)]; exact hfr j hj)
set_option maxHeartbeats 4000000 in
set_option maxRecDepth 100000 in
theorem c_Mis_put (l : Launch) (E : Ev) {G : Gh} {b b2 P lim : Nat} {l0 l2 : Ctr} {tk tk2 : Nat} (hdis : b + 7 ≤ b2 ∨ b2 + 7 ≤ b) (hl0 : l0.length ≤ lim) (hl2 : l2.length ≤ lim) (hn : ∀ c ∈ mAdd l0 l2, c.2.1 < 2 ^ 62) (hm : isMis E G b P lim l0 tk) (hm2 : isMis E G b2 P lim l2 tk2) : K_X6_putTogether l E none G [.ref (ga E b), .ref (ga E b2)] (fun _ G2 => isMis E G2 b P lim (mPut lim l0 l2 tk tk2).1 (mPut lim l0 l2 tk tk2).2 ∧ ∀ j, (j < b ∨ b + 7 ≤ j) → G2 j = G j) := by
  refine Fc.of rfl [some (.ref (ga E b)), some (.ref (ga E b2)), none, none, none, none, none, none] 6 rfl (Nat.le_of_ble_eq_true rfl) ?_
  intro M hM0 hini C
  subst hM0
  obtain ⟨hm0, hc⟩ := id hm
  obtain ⟨fk, fn, fe, hb0, hb1, hb2, hb3, hks, hrep, hwf, hkp, hnd⟩ := id hc
  obtain ⟨hd, hc2⟩ := id hm2
  obtain ⟨gk, gn, ge, hd0, hd1, hd2, hd3, hks2, hrep2, hwf2, hkp2, hnd2⟩ := id hc2
  refine v_aload_n C dX6_putTogether_0 rfl ?_
  refine gf_X6_12 C dX6_putTogether_1 (by assumption) ?_
  refine gf_X6_38 C dX6_putTogether_4 (by assumption) ?_
  refine v_istore_2 C dX6_putTogether_7 (by decide) rfl ?_
  refine v_iconst (v := nI 0) C dX6_putTogether_8 (by decide) ?_
  refine v_istore_3 C dX6_putTogether_9 (by decide) rfl ?_
  refine mput_loop C hdis hl0 hl2 ?_ (l2.length + 1) 0 (by omega) (by omega) G _ _ _ _ rfl rfl (by rw [List.take_zero]; exact hm) hm2 (fun _ _ => rfl)
  clear hm0 hb0 hb1 hb2 hb3 hks hc hm
  intro G x4 x5 x6 x7 hmA hmB hfrA
  obtain ⟨hm0, hcA⟩ := id hmA
  have hd := hmB.1
  have hal := mAdd_len (l := l0) l2
  have hb0 := hcA.rc
  refine v_aload_n C dX6_putTogether_89 rfl ?_
  refine v_dup C dX6_putTogether_90 rfl ?_
  refine gf_X6_30 C dX6_putTogether_91 (by assumption) ?_
  refine v_aload_n C dX6_putTogether_94 rfl ?_
  refine gf_X6_30 C dX6_putTogether_95 (by assumption) ?_
  first | refine v_laddn C dX6_putTogether_98 ?_ | refine v_ladd C dX6_putTogether_98 ?_
  refine pf_X6_30 C dX6_putTogether_99 (by assumption) (fun G hG99 hF99 => ?_)
  first | replace hm0 := (hF99 _ (by omega)).trans hm0 | replace hm0 := hG99 | skip
  first | replace hd := (hF99 _ (by omega)).trans hd | replace hd := hG99 | skip
  first | replace hb0 := (hF99 _ (by omega)).trans hb0 | replace hb0 := hG99 | skip
  have hcA := hcA.keep (fun j a b => hF99 j (by omega))
  have hmA : isMis E G b P lim (mAdd l0 l2) (tk + tk2) := ⟨hm0, hcA⟩
  have hb0 := hcA.rc
  refine v_aload_n C dX6_putTogether_102 rfl ?_
  refine gf_X6_12 C dX6_putTogether_103 (by assumption) ?_
  refine gf_X6_38 C dX6_putTogether_106 (by assumption) ?_
  refine v_aload_n C dX6_putTogether_109 rfl ?_
  refine gf_X6_12 C dX6_putTogether_110 (by assumption) ?_
  refine gf_X6_74 C dX6_putTogether_113 (by assumption) ?_
  refine v_icmpn_le C 136 dX6_putTogether_116 (by decide) (by omega) (by omega) (fun h116 => ?_) (fun h116 => ?_)
  · skip
    refine v_vret C dX6_putTogether_136 ?_
    first
      | (refine ⟨?_, fun j hj => by rw [hfr133 j hj, hF99 j (by omega)]; exact hfrA j hj⟩
         have e : mPut lim l0 l2 tk tk2 = (mSub (mAdd l0 l2) (grt (mAdd l0 l2) (lim + 1)), tk + tk2 + grt (mAdd l0 l2) (lim + 1)) := by unfold mPut; rw [if_pos h116]
         rw [e]
         exact hm133)
      | (refine ⟨?_, fun j hj => by rw [hF99 j (by omega)]; exact hfrA j hj⟩
         have e : mPut lim l0 l2 tk tk2 = (mAdd l0 l2, tk + tk2) := by unfold mPut; rw [if_neg (by omega)]
         rw [e]
         exact hmA)
  · skip
    refine v_aload_n C dX6_putTogether_119 rfl ?_
    refine v_aload_n C dX6_putTogether_120 rfl ?_
    refine v_aload_n C dX6_putTogether_121 rfl ?_
    refine gf_X6_12 C dX6_putTogether_122 (by assumption) ?_
    refine gf_X6_74 C dX6_putTogether_125 (by assumption) ?_
    refine v_iconst (v := nI 1) C dX6_putTogether_128 (by decide) ?_
    first | refine v_iaddn C dX6_putTogether_129 ?_ | refine v_iadd C dX6_putTogether_129 ?_
    refine mc_X6_42 C dX6_putTogether_130 (by assumption) (c_Mis_greatest _ E none (by omega) hn hmA) rfl (fun r130 G130 hp130 => ?_)
    obtain ⟨rfl, rfl⟩ := hp130
    refine mc_X6_51 C dX6_putTogether_133 (by assumption) (c_Mis_tfa _ E (grt_lt hn (by decide)) hn hmA) rfl (fun r133 G133 hp133 => ?_)
    obtain ⟨hm133, hfr133⟩ := hp133
    refine v_vret C dX6_putTogether_136 ?_
    first
      | (refine ⟨?_, fun j hj => by rw [hfr133 j hj, hF99 j (by omega)]; exact hfrA j hj⟩
         have e : mPut lim l0 l2 tk tk2 = (mSub (mAdd l0 l2) (grt (mAdd l0 l2) (lim + 1)), tk + tk2 + grt (mAdd l0 l2) (lim + 1)) := by unfold mPut; rw [if_pos h116]
         rw [e]
         exact hm133)
      | (refine ⟨?_, fun j hj => by rw [hF99 j (by omega)]; exact hfrA j hj⟩
         have e : mPut lim l0 l2 tk tk2 = (mAdd l0 l2, tk + tk2) := by unfold mPut; rw [if_neg (by omega)]
         rw [e]
         exact hmA)

def dbl (c : Nat × Nat × Nat) : Nat × Nat × Nat := (c.1, c.2.1 + c.2.1, c.2.2)
theorem self_get {l : Ctr} {k j : Nat} : ((l.take k).map dbl ++ l.drop k)[j]? = if j < k then (l[j]?).map dbl else l[j]? := by
  by_cases h : j < k
  · rw [if_pos h]
    by_cases hl : j < l.length
    · rw [List.getElem?_append_left (by rw [List.length_map, List.length_take]; omega), List.getElem?_map, List.getElem?_take_of_lt h]
    · rw [List.getElem?_eq_none (by simp; omega), List.getElem?_eq_none (by omega)]; rfl
  · rw [if_neg h]
    by_cases hl : k ≤ l.length
    · have e : ((l.take k).map dbl).length = k := by rw [List.length_map, List.length_take]; omega
      rw [List.getElem?_append_right (by omega), e, List.getElem?_drop]
      congr 1; omega
    · rw [List.getElem?_eq_none (by simp; omega), List.getElem?_eq_none (by omega)]
theorem self_keys {l : Ctr} {k : Nat} : ckeys ((l.take k).map dbl ++ l.drop k) = ckeys l := by
  apply List.ext_getElem?
  intro j
  unfold ckeys
  rw [List.getElem?_map, List.getElem?_map, self_get]
  by_cases h : j < k
  · rw [if_pos h]; cases l[j]? <;> rfl
  · rw [if_neg h]
theorem self_kix {l : Ctr} (hn : (ckeys l).Nodup) {k : Nat} {c : Nat × Nat × Nat} (h : l[k]? = some c) : kix l c.1 = some k :=
  kix_is h rfl (fun j d hj hd e => by have := ckeys_inj hn hd h e; omega)
theorem self_step {l : Ctr} {k : Nat} {c : Nat × Nat × Nat} (h : l[k]? = some c) : nset ((l.take k).map dbl ++ l.drop k) k (c.2.1 + c.2.1) = (l.take (k + 1)).map dbl ++ l.drop (k + 1) := by
  apply List.ext_getElem?
  intro j
  rw [nset_get, self_get, self_get, self_get]
  by_cases e : j = k
  · subst e
    rw [if_pos rfl, if_neg (Nat.lt_irrefl j), if_pos (by omega), h]; rfl
  · rw [if_neg e]
    by_cases e2 : j < k
    · rw [if_pos e2, if_pos (by omega)]
    · rw [if_neg e2, if_neg (by omega)]
theorem mAdd_self {l : Ctr} (hn : (ckeys l).Nodup) : ∀ k, k ≤ l.length → mAdd l (l.take k) = (l.take k).map dbl ++ l.drop k := by
  intro k
  induction k with
  | zero => intro _; rw [List.take_zero]; rfl
  | succ k ih =>
    intro hk
    have hc : l[k]? = some l[k] := List.getElem?_eq_getElem (by omega)
    rw [mAdd_step hc, ih (by omega)]
    have hn2 : (ckeys ((l.take k).map dbl ++ l.drop k)).Nodup := by rw [self_keys]; exact hn
    have hg : ((l.take k).map dbl ++ l.drop k)[k]? = some l[k] := by rw [self_get, if_neg (Nat.lt_irrefl k)]; exact hc
    have hk2 := self_kix hn2 hg
    unfold mAdd1
    rw [hk2]
    simp only []
    rw [numOf_some hk2 hg]
    exact self_step hc

set_option maxHeartbeats 4000000 in
set_option maxRecDepth 100000 in
theorem mself_loop {M : Mx} {E : Ev} (C : Cx M E yX6_putTogether.cls cX6_putTogether 8 none 4 114 0 0) {post : Unit → Gh → Prop} {G0 : Gh} {b P lim : Nat} {l0 : Ctr} {tk : Nat} (hnd0 : (ckeys l0).Nodup) (hl0 : l0.length ≤ lim) (kend : ∀ (G : Gh) (x4 x5 x6 x7 : Option Value), isMis E G b P lim (mAdd l0 l0) tk → (∀ j, (j < b ∨ b + 7 ≤ j) → G j = G0 j) → V M E 8 (QE M E (fun _ : Unit => none) none 0 0 post) none 0 0 G 89 [some (.ref (ga E b)), some (.ref (ga E b)), some (.int (nI l0.length)), some (.int (nI l0.length)), x4, x5, x6, x7] []) : ∀ (t k : Nat), k ≤ l0.length → l0.length - k < t → ∀ (G : Gh) (x4 x5 x6 x7 : Option Value), lo_c x4 = true → lo_c x6 = true → isMis E G b P lim (mAdd l0 (l0.take k)) tk → (∀ j, (j < b ∨ b + 7 ≤ j) → G j = G0 j) → V M E 8 (QE M E (fun _ : Unit => none) none 0 0 post) none 0 0 G 10 [some (.ref (ga E b)), some (.ref (ga E b)), some (.int (nI l0.length)), some (.int (nI k)), x4, x5, x6, x7] [] := by
  intro t
  induction t with
  | zero => intro k _ h; omega
  | succ t ih =>
    intro k hk2 ht G x4 x5 x6 x7 hx4 hx6 hm hfr
    obtain ⟨hm0, hc⟩ := id hm
    obtain ⟨fk, fn, fe, hb0, hb1, hb2, hb3, hks, hrep, hwf, hkp, hnd⟩ := id hc
    have hlen : (mAdd l0 (l0.take k)).length = l0.length := by have := congrArg List.length (show ckeys (mAdd l0 (l0.take k)) = ckeys l0 by rw [mAdd_self hnd0 k hk2, self_keys]); unfold ckeys at this; simpa using this
    refine v_iload_n C dX6_putTogether_10 rfl ?_
    refine v_iload_n C dX6_putTogether_11 rfl ?_
    refine v_icmpn_ge C 89 dX6_putTogether_12 (by decide) (by omega) (by omega) (fun h12 => ?_) (fun h12 => ?_)
    · skip
      have e : k = l0.length := by omega
      subst e
      rw [List.take_length] at hm
      exact kend G _ _ _ _ hm hfr
    · skip
      have hjk : (mAdd l0 (l0.take k))[k]? = some l0[k] := by rw [mAdd_self hnd0 k (by omega), self_get, if_neg (Nat.lt_irrefl k)]; exact List.getElem?_eq_getElem h12
      have hkx : kix (mAdd l0 (l0.take k)) l0[k].1 = some k := self_kix hnd hjk
      have hrj := hrep k _ hjk
      refine v_aload_n C dX6_putTogether_15 rfl ?_
      refine gf_X6_12 C dX6_putTogether_16 (by assumption) ?_
      refine gf_X6_70 C dX6_putTogether_19 (by assumption) ?_
      refine v_iload_n C dX6_putTogether_22 rfl ?_
      refine v_iald C dX6_putTogether_23 (by assumption) (by omega) (by omega) hrj.1 ?_
      refine v_istore_4 C dX6_putTogether_24 (by decide) rfl ?_
      refine v_aload_n C dX6_putTogether_26 rfl ?_
      refine gf_X6_12 C dX6_putTogether_27 (by assumption) ?_
      refine gf_X6_22 C dX6_putTogether_30 (by assumption) ?_
      refine v_iload_n C dX6_putTogether_33 rfl ?_
      refine v_lald C dX6_putTogether_34 (by assumption) (by omega) (by omega) hrj.2.1 ?_
      refine v_lstore_5 C dX6_putTogether_35 (by decide) rfl ?_
      refine v_aload_n C dX6_putTogether_37 rfl ?_
      refine gf_X6_12 C dX6_putTogether_38 (by assumption) ?_
      refine v_iload C dX6_putTogether_41 rfl ?_
      refine mc_X6_18 C dX6_putTogether_43 (by assumption) (c_Ctr_find _ E none (hkp _ (List.mem_of_getElem? hjk)) hc) rfl (fun r43 G43 hp43 => ?_)
      obtain ⟨hr43, rfl⟩ := hp43
      have hr43 : r43 = nI k := by rw [hr43, hkx]; rfl
      subst hr43
      refine v_istore_7 C dX6_putTogether_46 (by decide) rfl ?_
      refine v_iload C dX6_putTogether_48 rfl ?_
      first | refine v_ifn_lt C 71 dX6_putTogether_50 (by decide) (by omega) (fun h50 => by exfalso; first | omega | exact absurd h50 (by decide) | contradiction | simp_all) (fun h50 => ?_) | refine v_if_lt C 71 dX6_putTogether_50 (by decide) (fun h50 => by exfalso; first | omega | exact absurd h50 (by decide) | contradiction | simp_all) (fun h50 => ?_)
      refine v_aload_n C dX6_putTogether_53 rfl ?_
      refine gf_X6_12 C dX6_putTogether_54 (by assumption) ?_
      refine gf_X6_22 C dX6_putTogether_57 (by assumption) ?_
      refine v_iload C dX6_putTogether_60 rfl ?_
      refine v_dup2 C dX6_putTogether_62 rfl rfl ?_
      refine v_lald C dX6_putTogether_63 (by assumption) (by omega) (by omega) hrj.2.1 ?_
      refine v_lload C dX6_putTogether_64 rfl ?_
      first | refine v_laddn C dX6_putTogether_66 ?_ | refine v_ladd C dX6_putTogether_66 ?_
      refine v_last C dX6_putTogether_67 (by assumption) (by omega) (by omega) (fun G hG67 hF67 => ?_)
      first | replace hm0 := (hF67 _ (by omega)).trans hm0 | replace hm0 := hG67 | skip
      first | replace hb0 := (hF67 _ (by omega)).trans hb0 | replace hb0 := hG67 | skip
      first | replace hb1 := (hF67 _ (by omega)).trans hb1 | replace hb1 := hG67 | skip
      first | replace hb2 := (hF67 _ (by omega)).trans hb2 | replace hb2 := hG67 | skip
      first | replace hb3 := (hF67 _ (by omega)).trans hb3 | replace hb3 := hG67 | skip
      refine v_goto C 83 dX6_putTogether_68 (by decide) ?_
      refine v_iinc_3 C dX6_putTogether_83 (nI_1 _) (by decide) rfl ?_
      refine v_goto C 10 dX6_putTogether_86 (by decide) ?_
      have e9 : mAdd l0 (l0.take (k + 1)) = mAdd1 (mAdd l0 (l0.take k)) l0[k] := mAdd_step (List.getElem?_eq_getElem h12)
      exact ih (k + 1) (by omega) (by omega) G _ _ _ _ rfl rfl ⟨hm0, by rw [e9]; unfold mAdd1; rw [hkx]; simp only []; rw [numOf_some hkx hjk]; exact isCtr.nset hb0 hb1 hb2 hb3 (hks.keep (fun j a b => hF67 j (by omega))) hrep ⟨hwf, hkp, hnd⟩⟩ (fun j hj => by rw [hF67 j (by omega)]; exact hfr j hj)
set_option maxHeartbeats 4000000 in
set_option maxRecDepth 100000 in
theorem c_Mis_putSelf (l : Launch) (E : Ev) {G : Gh} {b P lim : Nat} {l0 : Ctr} {tk : Nat} (hl0 : l0.length ≤ lim) (hn : ∀ c ∈ mAdd l0 l0, c.2.1 < 2 ^ 62) (hm : isMis E G b P lim l0 tk) : K_X6_putTogether l E none G [.ref (ga E b), .ref (ga E b)] (fun _ G2 => isMis E G2 b P lim (mPut lim l0 l0 tk tk).1 (mPut lim l0 l0 tk tk).2 ∧ ∀ j, (j < b ∨ b + 7 ≤ j) → G2 j = G j) := by
  refine Fc.of rfl [some (.ref (ga E b)), some (.ref (ga E b)), none, none, none, none, none, none] 6 rfl (Nat.le_of_ble_eq_true rfl) ?_
  intro M hM0 hini C
  subst hM0
  obtain ⟨hm0, hc⟩ := id hm
  obtain ⟨fk, fn, fe, hb0, hb1, hb2, hb3, hks, hrep, hwf, hkp, hnd⟩ := id hc
  refine v_aload_n C dX6_putTogether_0 rfl ?_
  refine gf_X6_12 C dX6_putTogether_1 (by assumption) ?_
  refine gf_X6_38 C dX6_putTogether_4 (by assumption) ?_
  refine v_istore_2 C dX6_putTogether_7 (by decide) rfl ?_
  refine v_iconst (v := nI 0) C dX6_putTogether_8 (by decide) ?_
  refine v_istore_3 C dX6_putTogether_9 (by decide) rfl ?_
  refine mself_loop C hnd hl0 ?_ (l0.length + 1) 0 (by omega) (by omega) G _ _ _ _ rfl rfl (by rw [List.take_zero]; exact hm) (fun _ _ => rfl)
  clear hm0 hb0 hb1 hb2 hb3 hks hc hm
  intro G x4 x5 x6 x7 hmA hfrA
  obtain ⟨hm0, hcA⟩ := id hmA
  have hal := mAdd_len (l := l0) l0
  have hb0 := hcA.rc
  refine v_aload_n C dX6_putTogether_89 rfl ?_
  refine v_dup C dX6_putTogether_90 rfl ?_
  refine gf_X6_30 C dX6_putTogether_91 (by assumption) ?_
  refine v_aload_n C dX6_putTogether_94 rfl ?_
  refine gf_X6_30 C dX6_putTogether_95 (by assumption) ?_
  first | refine v_laddn C dX6_putTogether_98 ?_ | refine v_ladd C dX6_putTogether_98 ?_
  refine pf_X6_30 C dX6_putTogether_99 (by assumption) (fun G hG99 hF99 => ?_)
  first | replace hm0 := (hF99 _ (by omega)).trans hm0 | replace hm0 := hG99 | skip
  first | replace hb0 := (hF99 _ (by omega)).trans hb0 | replace hb0 := hG99 | skip
  have hcA := hcA.keep (fun j a b => hF99 j (by omega))
  have hmA : isMis E G b P lim (mAdd l0 l0) (tk + tk) := ⟨hm0, hcA⟩
  have hb0 := hcA.rc
  refine v_aload_n C dX6_putTogether_102 rfl ?_
  refine gf_X6_12 C dX6_putTogether_103 (by assumption) ?_
  refine gf_X6_38 C dX6_putTogether_106 (by assumption) ?_
  refine v_aload_n C dX6_putTogether_109 rfl ?_
  refine gf_X6_12 C dX6_putTogether_110 (by assumption) ?_
  refine gf_X6_74 C dX6_putTogether_113 (by assumption) ?_
  refine v_icmpn_le C 136 dX6_putTogether_116 (by decide) (by omega) (by omega) (fun h116 => ?_) (fun h116 => ?_)
  · skip
    refine v_vret C dX6_putTogether_136 ?_
    first
      | (refine ⟨?_, fun j hj => by rw [hfr133 j hj, hF99 j (by omega)]; exact hfrA j hj⟩
         have e : mPut lim l0 l0 tk tk = (mSub (mAdd l0 l0) (grt (mAdd l0 l0) (lim + 1)), tk + tk + grt (mAdd l0 l0) (lim + 1)) := by unfold mPut; rw [if_pos h116]
         rw [e]
         exact hm133)
      | (refine ⟨?_, fun j hj => by rw [hF99 j (by omega)]; exact hfrA j hj⟩
         have e : mPut lim l0 l0 tk tk = (mAdd l0 l0, tk + tk) := by unfold mPut; rw [if_neg (by omega)]
         rw [e]
         exact hmA)
  · skip
    refine v_aload_n C dX6_putTogether_119 rfl ?_
    refine v_aload_n C dX6_putTogether_120 rfl ?_
    refine v_aload_n C dX6_putTogether_121 rfl ?_
    refine gf_X6_12 C dX6_putTogether_122 (by assumption) ?_
    refine gf_X6_74 C dX6_putTogether_125 (by assumption) ?_
    refine v_iconst (v := nI 1) C dX6_putTogether_128 (by decide) ?_
    first | refine v_iaddn C dX6_putTogether_129 ?_ | refine v_iadd C dX6_putTogether_129 ?_
    refine mc_X6_42 C dX6_putTogether_130 (by assumption) (c_Mis_greatest _ E none (by omega) hn hmA) rfl (fun r130 G130 hp130 => ?_)
    obtain ⟨rfl, rfl⟩ := hp130
    refine mc_X6_51 C dX6_putTogether_133 (by assumption) (c_Mis_tfa _ E (grt_lt hn (by decide)) hn hmA) rfl (fun r133 G133 hp133 => ?_)
    obtain ⟨hm133, hfr133⟩ := hp133
    refine v_vret C dX6_putTogether_136 ?_
    first
      | (refine ⟨?_, fun j hj => by rw [hfr133 j hj, hF99 j (by omega)]; exact hfrA j hj⟩
         have e : mPut lim l0 l0 tk tk = (mSub (mAdd l0 l0) (grt (mAdd l0 l0) (lim + 1)), tk + tk + grt (mAdd l0 l0) (lim + 1)) := by unfold mPut; rw [if_pos h116]
         rw [e]
         exact hm133)
      | (refine ⟨?_, fun j hj => by rw [hF99 j (by omega)]; exact hfrA j hj⟩
         have e : mPut lim l0 l0 tk tk = (mAdd l0 l0, tk + tk) := by unfold mPut; rw [if_neg (by omega)]
         rw [e]
         exact hmA)

