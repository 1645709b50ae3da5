theorem bI_01 (q : Bool) : bI q = 0 ∨ bI q = 1 := by
  cases q with
  | false => exact Or.inl rfl
  | true => exact Or.inr rfl
theorem rep2_cpy {l : Cnt} {fk gk : Nat → Int32} {fn gn : Nat → Int64} (h : rep2 l fk fn) : rep2 l (va_cpy fk gk 0 0 l.length) (va_cpy fn gn 0 0 l.length) := by
  intro j c hj
  have hl := (List.getElem?_eq_some_iff.mp hj).1
  unfold va_cpy
  rw [if_pos (by omega), if_pos (by omega), show 0 + (j - 0) = j by omega]
  exact h j c hj

set_option maxHeartbeats 4000000 in
set_option maxRecDepth 100000 in
theorem c_Cnt_becomeSelf (l : Launch) (E : Ev) {G : Gh} {b P room : Nat} {l0 : Cnt} {g : Bool} (hc : isCnt E G b P room l0 g) : K_X2_become l E none G [.ref (ga E b), .ref (ga E b)] (fun _ G2 => isCnt E G2 b P room l0 g ∧ ∀ j, (j < b ∨ b + 3 ≤ j) → G2 j = G j) := by
  refine Fc.of rfl [some (.ref (ga E b)), some (.ref (ga E b))] 0 rfl (Nat.le_of_ble_eq_true rfl) ?_
  intro M hM0 hini C
  subst hM0
  obtain ⟨fk, fn, hb0, hb1, hb2, hrep, hwf, hkp, hsr⟩ := id hc
  refine v_aload_n C dX2_become_0 rfl ?_
  refine gf_X2_15 C dX2_become_1 (by assumption) ?_
  refine v_iconst (v := nI 0) C dX2_become_4 (by decide) ?_
  refine v_aload_n C dX2_become_5 rfl ?_
  refine gf_X2_15 C dX2_become_6 (by assumption) ?_
  refine v_iconst (v := nI 0) C dX2_become_9 (by decide) ?_
  refine v_aload_n C dX2_become_10 rfl ?_
  refine gf_X2_33 C dX2_become_11 (by assumption) ?_
  refine v_cpyI C tw338 dX2_become_14 hb1 hb1 (by omega) (by omega) (by omega) (by omega) (Nat.le_of_ble_eq_true rfl) (Nat.le_of_ble_eq_true rfl) (fun G hG14 hF14 => ?_)
  first | replace hb0 := (hF14 _ (by omega)).trans hb0 | replace hb0 := hG14 | skip
  first | replace hb1 := (hF14 _ (by omega)).trans hb1 | replace hb1 := hG14 | skip
  first | replace hb2 := (hF14 _ (by omega)).trans hb2 | replace hb2 := hG14 | skip
  refine v_aload_n C dX2_become_17 rfl ?_
  refine gf_X2_21 C dX2_become_18 (by assumption) ?_
  refine v_iconst (v := nI 0) C dX2_become_21 (by decide) ?_
  refine v_aload_n C dX2_become_22 rfl ?_
  refine gf_X2_21 C dX2_become_23 (by assumption) ?_
  refine v_iconst (v := nI 0) C dX2_become_26 (by decide) ?_
  refine v_aload_n C dX2_become_27 rfl ?_
  refine gf_X2_33 C dX2_become_28 (by assumption) ?_
  refine v_cpyJ C tw338 dX2_become_31 hb2 hb2 (by omega) (by omega) (by omega) (by omega) (Nat.le_of_ble_eq_true rfl) (Nat.le_of_ble_eq_true rfl) (fun G hG31 hF31 => ?_)
  first | replace hb0 := (hF31 _ (by omega)).trans hb0 | replace hb0 := hG31 | skip
  first | replace hb1 := (hF31 _ (by omega)).trans hb1 | replace hb1 := hG31 | skip
  first | replace hb2 := (hF31 _ (by omega)).trans hb2 | replace hb2 := hG31 | skip
  refine v_aload_n C dX2_become_34 rfl ?_
  refine v_aload_n C dX2_become_35 rfl ?_
  refine gf_X2_33 C dX2_become_36 (by assumption) ?_
  refine pf_X2_33 C dX2_become_39 (by assumption) (fun G hG39 hF39 => ?_)
  first | replace hb0 := (hF39 _ (by omega)).trans hb0 | replace hb0 := hG39 | skip
  first | replace hb1 := (hF39 _ (by omega)).trans hb1 | replace hb1 := hG39 | skip
  first | replace hb2 := (hF39 _ (by omega)).trans hb2 | replace hb2 := hG39 | skip
  refine v_aload_n C dX2_become_42 rfl ?_
  refine v_aload_n C dX2_become_43 rfl ?_
  refine gf_X2_37 C dX2_become_44 (by assumption) ?_
  refine pf_X2_37 C dX2_become_47 (by first | exact Or.inl rfl | exact Or.inr rfl | assumption | exact bI_01 _) (by assumption) (fun G hG47 hF47 => ?_)
  first | replace hb0 := (hF47 _ (by omega)).trans hb0 | replace hb0 := hG47 | skip
  first | replace hb1 := (hF47 _ (by omega)).trans hb1 | replace hb1 := hG47 | skip
  first | replace hb2 := (hF47 _ (by omega)).trans hb2 | replace hb2 := hG47 | skip
  refine v_vret C dX2_become_50 ?_
  exact ⟨⟨_, _, hb0, hb1, hb2, rep2_cpy hrep, hwf, hkp, hsr⟩, fun j hj => by rw [hF47 j (by omega), hF39 j (by omega), hF31 j (by omega), hF14 j (by omega)]⟩

set_option maxHeartbeats 4000000 in
set_option maxRecDepth 100000 in
theorem c_Cnt_become (l : Launch) (E : Ev) {G : Gh} {b b2 P room : Nat} {l0 l2 : Cnt} {g g2 : Bool} (hdis : b + 3 ≤ b2 ∨ b2 + 3 ≤ b) (hc : isCnt E G b P room l0 g) (hc2 : isCnt E G b2 P room l2 g2) : K_X2_become l E none G [.ref (ga E b), .ref (ga E b2)] (fun _ G2 => isCnt E G2 b P room l2 g2 ∧ ∀ j, (j < b ∨ b + 3 ≤ j) → G2 j = G j) := by
  refine Fc.of rfl [some (.ref (ga E b)), some (.ref (ga E b2))] 0 rfl (Nat.le_of_ble_eq_true rfl) ?_
  intro M hM0 hini C
  subst hM0
  obtain ⟨fk, fn, hb0, hb1, hb2, hrep, hwf, hkp, hsr⟩ := id hc
  obtain ⟨gk, gn, hd0, hd1, hd2, hrep2, hwf2, hkp2, hsr2⟩ := id hc2
  refine v_aload_n C dX2_become_0 rfl ?_
  refine gf_X2_15 C dX2_become_1 (by assumption) ?_
  refine v_iconst (v := nI 0) C dX2_become_4 (by decide) ?_
  refine v_aload_n C dX2_become_5 rfl ?_
  refine gf_X2_15 C dX2_become_6 (by assumption) ?_
  refine v_iconst (v := nI 0) C dX2_become_9 (by decide) ?_
  refine v_aload_n C dX2_become_10 rfl ?_
  refine gf_X2_33 C dX2_become_11 (by assumption) ?_
  refine v_cpyI C tw338 dX2_become_14 hd1 hb1 (by omega) (by omega) (by omega) (by omega) (Nat.le_of_ble_eq_true rfl) (Nat.le_of_ble_eq_true rfl) (fun G hG14 hF14 => ?_)
  first | replace hb0 := (hF14 _ (by omega)).trans hb0 | replace hb0 := hG14 | skip
  first | replace hb1 := (hF14 _ (by omega)).trans hb1 | replace hb1 := hG14 | skip
  first | replace hb2 := (hF14 _ (by omega)).trans hb2 | replace hb2 := hG14 | skip
  first | replace hd0 := (hF14 _ (by omega)).trans hd0 | replace hd0 := hG14 | skip
  first | replace hd1 := (hF14 _ (by omega)).trans hd1 | replace hd1 := hG14 | skip
  first | replace hd2 := (hF14 _ (by omega)).trans hd2 | replace hd2 := hG14 | skip
  refine v_aload_n C dX2_become_17 rfl ?_
  refine gf_X2_21 C dX2_become_18 (by assumption) ?_
  refine v_iconst (v := nI 0) C dX2_become_21 (by decide) ?_
  refine v_aload_n C dX2_become_22 rfl ?_
  refine gf_X2_21 C dX2_become_23 (by assumption) ?_
  refine v_iconst (v := nI 0) C dX2_become_26 (by decide) ?_
  refine v_aload_n C dX2_become_27 rfl ?_
  refine gf_X2_33 C dX2_become_28 (by assumption) ?_
  refine v_cpyJ C tw338 dX2_become_31 hd2 hb2 (by omega) (by omega) (by omega) (by omega) (Nat.le_of_ble_eq_true rfl) (Nat.le_of_ble_eq_true rfl) (fun G hG31 hF31 => ?_)
  first | replace hb0 := (hF31 _ (by omega)).trans hb0 | replace hb0 := hG31 | skip
  first | replace hb1 := (hF31 _ (by omega)).trans hb1 | replace hb1 := hG31 | skip
  first | replace hb2 := (hF31 _ (by omega)).trans hb2 | replace hb2 := hG31 | skip
  first | replace hd0 := (hF31 _ (by omega)).trans hd0 | replace hd0 := hG31 | skip
  first | replace hd1 := (hF31 _ (by omega)).trans hd1 | replace hd1 := hG31 | skip
  first | replace hd2 := (hF31 _ (by omega)).trans hd2 | replace hd2 := hG31 | skip
  refine v_aload_n C dX2_become_34 rfl ?_
  refine v_aload_n C dX2_become_35 rfl ?_
  refine gf_X2_33 C dX2_become_36 (by assumption) ?_
  refine pf_X2_33 C dX2_become_39 (by assumption) (fun G hG39 hF39 => ?_)
  first | replace hb0 := (hF39 _ (by omega)).trans hb0 | replace hb0 := hG39 | skip
  first | replace hb1 := (hF39 _ (by omega)).trans hb1 | replace hb1 := hG39 | skip
  first | replace hb2 := (hF39 _ (by omega)).trans hb2 | replace hb2 := hG39 | skip
  first | replace hd0 := (hF39 _ (by omega)).trans hd0 | replace hd0 := hG39 | skip
  first | replace hd1 := (hF39 _ (by omega)).trans hd1 | replace hd1 := hG39 | skip
  first | replace hd2 := (hF39 _ (by omega)).trans hd2 | replace hd2 := hG39 | skip
  refine v_aload_n C dX2_become_42 rfl ?_
  refine v_aload_n C dX2_become_43 rfl ?_
  refine gf_X2_37 C dX2_become_44 (by assumption) ?_
  refine pf_X2_37 C dX2_become_47 (by first | exact Or.inl rfl | exact Or.inr rfl | assumption | exact bI_01 _) (by assumption) (fun G hG47 hF47 => ?_)
  first | replace hb0 := (hF47 _ (by omega)).trans hb0 | replace hb0 := hG47 | skip
  first | replace hb1 := (hF47 _ (by omega)).trans hb1 | replace hb1 := hG47 | skip
  first | replace hb2 := (hF47 _ (by omega)).trans hb2 | replace hb2 := hG47 | skip
  first | replace hd0 := (hF47 _ (by omega)).trans hd0 | replace hd0 := hG47 | skip
  first | replace hd1 := (hF47 _ (by omega)).trans hd1 | replace hd1 := hG47 | skip
  first | replace hd2 := (hF47 _ (by omega)).trans hd2 | replace hd2 := hG47 | skip
  refine v_vret C dX2_become_50 ?_
  exact ⟨⟨_, _, hb0, hb1, hb2, rep2_cpy hrep2, hwf2, hkp2, hsr2⟩, fun j hj => by rw [hF47 j (by omega), hF39 j (by omega), hF31 j (by omega), hF14 j (by omega)]⟩

def cF (room : Nat) (s : Cnt × Bool) (c : Nat × Nat) : Cnt × Bool := cTake room s c.1 c.2
def cPutk (room : Nat) (l : Cnt) (gg : Bool) (l2 : Cnt) (k : Nat) : Cnt × Bool := (l2.take k).foldl (cF room) (l, gg)
theorem cPutk_step {room : Nat} {l l2 : Cnt} {gg : Bool} {k : Nat} {c : Nat × Nat} (h : l2[k]? = some c) : cPutk room l gg l2 (k + 1) = cTake room ((cPutk room l gg l2 k).1, (cPutk room l gg l2 k).2) c.1 c.2 := by
  unfold cPutk
  rw [List.take_add_one, h, List.foldl_append]
  rfl

set_option maxHeartbeats 4000000 in
set_option maxRecDepth 100000 in
theorem cput_loop {M : Mx} {E : Ev} (C : Cx M E yX2_putTogether.cls cX2_putTogether 4 none 2 64 0 0) {post : Unit → Gh → Prop} {G0 : Gh} {b b2 P room : Nat} {l0 l2 : Cnt} {gg g2 : Bool} (hdis : b + 3 ≤ b2 ∨ b2 + 3 ≤ b) (hend : ∀ G, isCnt E G b P room (cPutk room l0 gg l2 l2.length).1 (cPutk room l0 gg l2 l2.length).2 → (∀ j, (j < b ∨ b + 3 ≤ j) → G j = G0 j) → post () G) : ∀ (t k : Nat), k ≤ l2.length → l2.length - k < t → ∀ (G : Gh), isCnt E G b P room (cPutk room l0 gg l2 k).1 (cPutk room l0 gg l2 k).2 → isCnt E G b2 P room l2 g2 → (∀ j, (j < b ∨ b + 3 ≤ j) → G j = G0 j) → V M E 4 (QE M E (fun _ : Unit => none) none 0 0 post) none 0 0 G 30 [some (.ref (ga E b)), some (.ref (ga E b2)), some (.int (nI l2.length)), some (.int (nI k))] [] := by
  intro t
  induction t with
  | zero => intro k _ h; omega
  | succ t ih =>
    intro k hk2 ht G hc hc2 hfr
    obtain ⟨fk, fn, hb0, hb1, hb2, hrep, hwf, hkp, hsr⟩ := id hc
    obtain ⟨gk, gn, hd0, hd1, hd2, hrep2, hwf2, hkp2, hsr2⟩ := id hc2
    refine v_iload_n C dX2_putTogether_30 rfl ?_
    refine v_iload_n C dX2_putTogether_31 rfl ?_
    refine v_icmpn_ge C 57 dX2_putTogether_32 (by decide) (by omega) (by omega) (fun h32 => ?_) (fun h32 => ?_)
    · skip
      refine v_vret C dX2_putTogether_57 ?_
      have e9 : k = l2.length := by omega
      subst e9
      exact hend G hc hfr
    · skip
      have hjk : l2[k]? = some l2[k] := List.getElem?_eq_getElem h32
      have hrj := hrep2 k _ hjk
      refine v_aload_n C dX2_putTogether_35 rfl ?_
      refine v_aload_n C dX2_putTogether_36 rfl ?_
      refine gf_X2_15 C dX2_putTogether_37 (by assumption) ?_
      refine v_iload_n C dX2_putTogether_40 rfl ?_
      refine v_iald C dX2_putTogether_41 (by assumption) (by omega) (by omega) hrj.1 ?_
      refine v_aload_n C dX2_putTogether_42 rfl ?_
      refine gf_X2_21 C dX2_putTogether_43 (by assumption) ?_
      refine v_iload_n C dX2_putTogether_46 rfl ?_
      refine v_lald C dX2_putTogether_47 (by assumption) (by omega) (by omega) hrj.2 ?_
      refine mc_X2_47 C dX2_putTogether_48 (by assumption) (c_Cnt_take _ E (hkp2 _ (List.mem_of_getElem? hjk)) hc) rfl (fun r48 G48 hp48 => ?_)
      obtain ⟨hc48, hfr48⟩ := hp48
      first | refine v_iinc_3 C dX2_putTogether_51 (nI_1 _) (by decide) (by first | rfl | assumption) ?_ | refine v_iinc_3 C dX2_putTogether_51 rfl (by decide) (by first | rfl | assumption) ?_
      refine v_goto C 30 dX2_putTogether_54 (by decide) ?_
      refine ih (k + 1) (by omega) (by omega) G48 ?_ (hc2.keep (fun j a b => hfr48 j (by omega))) (fun j hj => by rw [hfr48 j hj]; exact hfr j hj)
      rw [cPutk_step hjk]
      exact hc48
set_option maxHeartbeats 4000000 in
set_option maxRecDepth 100000 in
theorem c_Cnt_put (l : Launch) (E : Ev) {G : Gh} {b b2 P room : Nat} {l0 l2 : Cnt} {g g2 : Bool} (hdis : b + 3 ≤ b2 ∨ b2 + 3 ≤ b) (hc : isCnt E G b P room l0 g) (hc2 : isCnt E G b2 P room l2 g2) : K_X2_putTogether l E none G [.ref (ga E b), .ref (ga E b2)] (fun _ G2 => isCnt E G2 b P room (cPutk room l0 (g || g2) l2 l2.length).1 (cPutk room l0 (g || g2) l2 l2.length).2 ∧ ∀ j, (j < b ∨ b + 3 ≤ j) → G2 j = G j) := by
  refine Fc.of rfl [some (.ref (ga E b)), some (.ref (ga E b2)), none, none] 2 rfl (Nat.le_of_ble_eq_true rfl) ?_
  intro M hM0 hini C
  subst hM0
  obtain ⟨fk, fn, hb0, hb1, hb2, hrep, hwf, hkp, hsr⟩ := id hc
  obtain ⟨gk, gn, hd0, hd1, hd2, hrep2, hwf2, hkp2, hsr2⟩ := id hc2
  refine v_aload_n C dX2_putTogether_0 rfl ?_
  refine v_aload_n C dX2_putTogether_1 rfl ?_
  refine gf_X2_37 C dX2_putTogether_2 (by assumption) ?_
  first | refine v_ifb_ne C 15 dX2_putTogether_5 (by decide) (fun h5 => ?_) (fun h5 => ?_) | refine v_ifn_ne C 15 dX2_putTogether_5 (by decide) (by omega) (fun h5 => ?_) (fun h5 => ?_) | refine v_if_ne C 15 dX2_putTogether_5 (by decide) (fun h5 => ?_) (fun h5 => ?_)
  · skip
    refine v_iconst (v := bI true) C dX2_putTogether_15 (by decide) ?_
    refine v_goto C 20 dX2_putTogether_16 (by decide) ?_
    refine pf_X2_37 C dX2_putTogether_20 (by first | exact Or.inl rfl | exact Or.inr rfl | assumption | exact bI_01 _) (by assumption) (fun G hG20 hF20 => ?_)
    first | replace hb0 := (hF20 _ (by omega)).trans hb0 | replace hb0 := hG20 | skip
    first | replace hb1 := (hF20 _ (by omega)).trans hb1 | replace hb1 := hG20 | skip
    first | replace hb2 := (hF20 _ (by omega)).trans hb2 | replace hb2 := hG20 | skip
    first | replace hd0 := (hF20 _ (by omega)).trans hd0 | replace hd0 := hG20 | skip
    first | replace hd1 := (hF20 _ (by omega)).trans hd1 | replace hd1 := hG20 | skip
    first | replace hd2 := (hF20 _ (by omega)).trans hd2 | replace hd2 := hG20 | skip
    refine v_aload_n C dX2_putTogether_23 rfl ?_
    refine gf_X2_33 C dX2_putTogether_24 (by assumption) ?_
    refine v_istore_2 C dX2_putTogether_27 (by decide) (by first | rfl | assumption) ?_
    refine v_iconst (v := nI 0) C dX2_putTogether_28 (by decide) ?_
    refine v_istore_3 C dX2_putTogether_29 (by decide) (by first | rfl | assumption) ?_
    first
      | (have hgg : (g || g2) = true := by first | (rw [h5]; rfl) | (rw [h12]; cases g <;> rfl)
         rw [hgg]
         exact cput_loop C hdis (fun G h1 h2 => ⟨h1, fun j hj => h2 j hj⟩) (l2.length + 1) 0 (by omega) (by omega) G ⟨fk, fn, hb0, hb1, hb2, hrep, hwf, hkp, hsr⟩ (hc2.keep (fun j a b => hF20 j (by omega))) (fun j hj => hF20 j (by omega)))
      | (have hgg : (g || g2) = false := by rw [h5, h12]; rfl
         rw [hgg]
         exact cput_loop C hdis (fun G h1 h2 => ⟨h1, fun j hj => h2 j hj⟩) (l2.length + 1) 0 (by omega) (by omega) G ⟨fk, fn, hb0, hb1, hb2, hrep, hwf, hkp, hsr⟩ (hc2.keep (fun j a b => hF20 j (by omega))) (fun j hj => hF20 j (by omega)))
  · skip
    refine v_aload_n C dX2_putTogether_8 rfl ?_
    refine gf_X2_37 C dX2_putTogether_9 (by assumption) ?_
    first | refine v_ifb_eq C 19 dX2_putTogether_12 (by decide) (fun h12 => ?_) (fun h12 => ?_) | refine v_ifn_eq C 19 dX2_putTogether_12 (by decide) (by omega) (fun h12 => ?_) (fun h12 => ?_) | refine v_if_eq C 19 dX2_putTogether_12 (by decide) (fun h12 => ?_) (fun h12 => ?_)
    · skip
      refine v_iconst (v := bI false) C dX2_putTogether_19 (by decide) ?_
      refine pf_X2_37 C dX2_putTogether_20 (by first | exact Or.inl rfl | exact Or.inr rfl | assumption | exact bI_01 _) (by assumption) (fun G hG20 hF20 => ?_)
      first | replace hb0 := (hF20 _ (by omega)).trans hb0 | replace hb0 := hG20 | skip
      first | replace hb1 := (hF20 _ (by omega)).trans hb1 | replace hb1 := hG20 | skip
      first | replace hb2 := (hF20 _ (by omega)).trans hb2 | replace hb2 := hG20 | skip
      first | replace hd0 := (hF20 _ (by omega)).trans hd0 | replace hd0 := hG20 | skip
      first | replace hd1 := (hF20 _ (by omega)).trans hd1 | replace hd1 := hG20 | skip
      first | replace hd2 := (hF20 _ (by omega)).trans hd2 | replace hd2 := hG20 | skip
      refine v_aload_n C dX2_putTogether_23 rfl ?_
      refine gf_X2_33 C dX2_putTogether_24 (by assumption) ?_
      refine v_istore_2 C dX2_putTogether_27 (by decide) (by first | rfl | assumption) ?_
      refine v_iconst (v := nI 0) C dX2_putTogether_28 (by decide) ?_
      refine v_istore_3 C dX2_putTogether_29 (by decide) (by first | rfl | assumption) ?_
      first
        | (have hgg : (g || g2) = true := by first | (rw [h5]; rfl) | (rw [h12]; cases g <;> rfl)
           rw [hgg]
           exact cput_loop C hdis (fun G h1 h2 => ⟨h1, fun j hj => h2 j hj⟩) (l2.length + 1) 0 (by omega) (by omega) G ⟨fk, fn, hb0, hb1, hb2, hrep, hwf, hkp, hsr⟩ (hc2.keep (fun j a b => hF20 j (by omega))) (fun j hj => hF20 j (by omega)))
        | (have hgg : (g || g2) = false := by rw [h5, h12]; rfl
           rw [hgg]
           exact cput_loop C hdis (fun G h1 h2 => ⟨h1, fun j hj => h2 j hj⟩) (l2.length + 1) 0 (by omega) (by omega) G ⟨fk, fn, hb0, hb1, hb2, hrep, hwf, hkp, hsr⟩ (hc2.keep (fun j a b => hF20 j (by omega))) (fun j hj => hF20 j (by omega)))
    · skip
      refine v_iconst (v := bI true) C dX2_putTogether_15 (by decide) ?_
      refine v_goto C 20 dX2_putTogether_16 (by decide) ?_
      refine pf_X2_37 C dX2_putTogether_20 (by first | exact Or.inl rfl | exact Or.inr rfl | assumption | exact bI_01 _) (by assumption) (fun G hG20 hF20 => ?_)
      first | replace hb0 := (hF20 _ (by omega)).trans hb0 | replace hb0 := hG20 | skip
      first | replace hb1 := (hF20 _ (by omega)).trans hb1 | replace hb1 := hG20 | skip
      first | replace hb2 := (hF20 _ (by omega)).trans hb2 | replace hb2 := hG20 | skip
      first | replace hd0 := (hF20 _ (by omega)).trans hd0 | replace hd0 := hG20 | skip
      first | replace hd1 := (hF20 _ (by omega)).trans hd1 | replace hd1 := hG20 | skip
      first | replace hd2 := (hF20 _ (by omega)).trans hd2 | replace hd2 := hG20 | skip
      refine v_aload_n C dX2_putTogether_23 rfl ?_
      refine gf_X2_33 C dX2_putTogether_24 (by assumption) ?_
      refine v_istore_2 C dX2_putTogether_27 (by decide) (by first | rfl | assumption) ?_
      refine v_iconst (v := nI 0) C dX2_putTogether_28 (by decide) ?_
      refine v_istore_3 C dX2_putTogether_29 (by decide) (by first | rfl | assumption) ?_
      first
        | (have hgg : (g || g2) = true := by first | (rw [h5]; rfl) | (rw [h12]; cases g <;> rfl)
           rw [hgg]
           exact cput_loop C hdis (fun G h1 h2 => ⟨h1, fun j hj => h2 j hj⟩) (l2.length + 1) 0 (by omega) (by omega) G ⟨fk, fn, hb0, hb1, hb2, hrep, hwf, hkp, hsr⟩ (hc2.keep (fun j a b => hF20 j (by omega))) (fun j hj => hF20 j (by omega)))
        | (have hgg : (g || g2) = false := by rw [h5, h12]; rfl
           rw [hgg]
           exact cput_loop C hdis (fun G h1 h2 => ⟨h1, fun j hj => h2 j hj⟩) (l2.length + 1) 0 (by omega) (by omega) G ⟨fk, fn, hb0, hb1, hb2, hrep, hwf, hkp, hsr⟩ (hc2.keep (fun j a b => hF20 j (by omega))) (fun j hj => hF20 j (by omega)))

def dbl2 (c : Nat × Nat) : Nat × Nat := (c.1, c.2 + c.2)
theorem self2_get {l : Cnt} {k j : Nat} : ((l.take k).map dbl2 ++ l.drop k)[j]? = if j < k then (l[j]?).map dbl2 else l[j]? := by
  by_cases h : j < k
  · rw [if_pos h]
    by_cases hl : j < l.length
    · rw [List.getElem?_append_left (by rw [List.length_map, List.length_take]; omega), List.getElem?_map, List.getElem?_take_of_lt h]
    · rw [List.getElem?_eq_none (by simp; omega), List.getElem?_eq_none (by omega)]; rfl
  · rw [if_neg h]
    by_cases hl : k ≤ l.length
    · have e9 : ((l.take k).map dbl2).length = k := by rw [List.length_map, List.length_take]; omega
      rw [List.getElem?_append_right (by omega), e9, List.getElem?_drop]
      congr 1; omega
    · rw [List.getElem?_eq_none (by simp; omega), List.getElem?_eq_none (by omega)]
theorem self2_key {l : Cnt} {k j : Nat} {c : Nat × Nat} (h : ((l.take k).map dbl2 ++ l.drop k)[j]? = some c) : ∃ d, l[j]? = some d ∧ d.1 = c.1 := by
  rw [self2_get] at h
  by_cases hj : j < k
  · rw [if_pos hj] at h
    cases hl : l[j]? with
    | none => rw [hl] at h; cases h
    | some d => rw [hl] at h; cases h; exact ⟨d, rfl, rfl⟩
  · rw [if_neg hj] at h; exact ⟨c, h, rfl⟩
theorem self2_srt {l : Cnt} (hs : csrt l) {k : Nat} : csrt ((l.take k).map dbl2 ++ l.drop k) := by
  intro i j c d hij hc hd
  obtain ⟨c0, h1, h2⟩ := self2_key hc
  obtain ⟨d0, h3, h4⟩ := self2_key hd
  rw [← h2, ← h4]
  exact hs i j c0 d0 hij h1 h3
theorem cPl_at {l : Cnt} (hs : csrt l) {k : Nat} {c : Nat × Nat} (h : l[k]? = some c) : cPl l c.1 = k := by
  have h1 := cPl_iff hs (x := c.1) h
  have hl := (List.getElem?_eq_some_iff.mp h).1
  have h2 : ¬ k < cPl l c.1 := by omega
  rcases Nat.eq_zero_or_pos k with q | q
  · omega
  · have h3 : l[k - 1]? = some l[k - 1] := List.getElem?_eq_getElem (by omega)
    have h4 := hs (k - 1) k _ _ (by omega) h3 h
    have h5 := (cPl_iff hs (x := c.1) h3).mp h4
    omega
theorem cPutk_self {room : Nat} {l : Cnt} (hs : csrt l) : ∀ k, k ≤ l.length → cPutk room l false l k = ((l.take k).map dbl2 ++ l.drop k, false) := by
  intro k
  induction k with
  | zero => intro _; unfold cPutk; simp
  | succ k ih =>
    intro hk
    have hc : l[k]? = some l[k] := List.getElem?_eq_getElem (by omega)
    rw [cPutk_step hc, ih (by omega)]
    have hg : ((l.take k).map dbl2 ++ l.drop k)[k]? = some l[k] := by rw [self2_get, if_neg (Nat.lt_irrefl k)]; exact hc
    have hp := cPl_at (self2_srt hs) hg
    have ha : cAt ((l.take k).map dbl2 ++ l.drop k) l[k].1 = true := by unfold cAt; rw [hp, hg]; simp
    unfold cTake
    simp only []
    rw [if_neg (by decide), if_pos ha]
    unfold cUp
    rw [hp, hg]
    simp only []
    congr 1
    apply List.ext_getElem?
    intro j
    rw [self2_get]
    by_cases e9 : j = k
    · subst e9
      rw [List.getElem?_set_self (List.getElem?_eq_some_iff.mp hg).1, if_pos (by omega), hc]; rfl
    · rw [List.getElem?_set_ne (Ne.symm e9), self2_get]
      by_cases e8 : j < k
      · rw [if_pos e8, if_pos (by omega)]
      · rw [if_neg e8, if_neg (by omega)]
theorem cPutk_gone {room : Nat} {l l2 : Cnt} : ∀ k, cPutk room l true l2 k = (l, true) := by
  intro k
  unfold cPutk
  generalize l2.take k = m
  induction m with
  | nil => rfl
  | cons c m ih =>
    rw [List.foldl_cons]
    have e9 : cF room (l, true) c = (l, true) := by unfold cF cTake; rw [if_pos rfl]
    rw [e9]; exact ih
theorem cPutk_selfat {room : Nat} {l : Cnt} (hs : csrt l) (gg : Bool) {k : Nat} (hk : k < l.length) : ((cPutk room l gg l k).1)[k]? = some l[k] ∧ (cPutk room l gg l k).1.length = l.length := by
  cases gg with
  | true => rw [cPutk_gone]; exact ⟨List.getElem?_eq_getElem hk, rfl⟩
  | false =>
    rw [cPutk_self hs k (by omega)]
    refine ⟨?_, ?_⟩
    · show ((l.take k).map dbl2 ++ l.drop k)[k]? = _
      rw [self2_get, if_neg (Nat.lt_irrefl k)]; exact List.getElem?_eq_getElem hk
    · show ((l.take k).map dbl2 ++ l.drop k).length = _
      rw [List.length_append, List.length_map, List.length_take, List.length_drop]; omega

set_option maxHeartbeats 4000000 in
set_option maxRecDepth 100000 in
theorem cself_loop {M : Mx} {E : Ev} (C : Cx M E yX2_putTogether.cls cX2_putTogether 4 none 2 64 0 0) {post : Unit → Gh → Prop} {G0 : Gh} {b P room : Nat} {l0 : Cnt} {gg : Bool} (hs0 : csrt l0) (hl0 : l0.length ≤ 300) (hend : ∀ G, isCnt E G b P room (cPutk room l0 gg l0 l0.length).1 (cPutk room l0 gg l0 l0.length).2 → (∀ j, (j < b ∨ b + 3 ≤ j) → G j = G0 j) → post () G) : ∀ (t k : Nat), k ≤ l0.length → l0.length - k < t → ∀ (G : Gh), isCnt E G b P room (cPutk room l0 gg l0 k).1 (cPutk room l0 gg l0 k).2 → (∀ j, (j < b ∨ b + 3 ≤ j) → G j = G0 j) → V M E 4 (QE M E (fun _ : Unit => none) none 0 0 post) none 0 0 G 30 [some (.ref (ga E b)), some (.ref (ga E b)), some (.int (nI l0.length)), some (.int (nI k))] [] := by
  intro t
  induction t with
  | zero => intro k _ h; omega
  | succ t ih =>
    intro k hk2 ht G hc hfr
    obtain ⟨fk, fn, hb0, hb1, hb2, hrep, hwf, hkp, hsr⟩ := id hc
    refine v_iload_n C dX2_putTogether_30 rfl ?_
    refine v_iload_n C dX2_putTogether_31 rfl ?_
    refine v_icmpn_ge C 57 dX2_putTogether_32 (by decide) (by omega) (by omega) (fun h32 => ?_) (fun h32 => ?_)
    · skip
      refine v_vret C dX2_putTogether_57 ?_
      have e9 : k = l0.length := by omega
      subst e9
      exact hend G hc hfr
    · skip
      have hat := cPutk_selfat (room := room) hs0 gg h32
      have hlen := hat.2
      have hrj := hrep k _ hat.1
      refine v_aload_n C dX2_putTogether_35 rfl ?_
      refine v_aload_n C dX2_putTogether_36 rfl ?_
      refine gf_X2_15 C dX2_putTogether_37 (by assumption) ?_
      refine v_iload_n C dX2_putTogether_40 rfl ?_
      refine v_iald C dX2_putTogether_41 (by assumption) (by omega) (by omega) hrj.1 ?_
      refine v_aload_n C dX2_putTogether_42 rfl ?_
      refine gf_X2_21 C dX2_putTogether_43 (by assumption) ?_
      refine v_iload_n C dX2_putTogether_46 rfl ?_
      refine v_lald C dX2_putTogether_47 (by assumption) (by omega) (by omega) hrj.2 ?_
      refine mc_X2_47 C dX2_putTogether_48 (by assumption) (c_Cnt_take _ E (hkp _ (List.mem_of_getElem? hat.1)) hc) rfl (fun r48 G48 hp48 => ?_)
      obtain ⟨hc48, hfr48⟩ := hp48
      first | refine v_iinc_3 C dX2_putTogether_51 (nI_1 _) (by decide) (by first | rfl | assumption) ?_ | refine v_iinc_3 C dX2_putTogether_51 rfl (by decide) (by first | rfl | assumption) ?_
      refine v_goto C 30 dX2_putTogether_54 (by decide) ?_
      refine ih (k + 1) (by omega) (by omega) G48 ?_ (fun j hj => by rw [hfr48 j hj]; exact hfr j hj)
      rw [cPutk_step (List.getElem?_eq_getElem h32)]
      exact hc48
set_option maxHeartbeats 4000000 in
set_option maxRecDepth 100000 in
theorem c_Cnt_putSelf (l : Launch) (E : Ev) {G : Gh} {b P room : Nat} {l0 : Cnt} {g : Bool} (hc : isCnt E G b P room l0 g) : K_X2_putTogether l E none G [.ref (ga E b), .ref (ga E b)] (fun _ G2 => isCnt E G2 b P room (cPutk room l0 (g || g) l0 l0.length).1 (cPutk room l0 (g || g) l0 l0.length).2 ∧ ∀ j, (j < b ∨ b + 3 ≤ j) → G2 j = G j) := by
  refine Fc.of rfl [some (.ref (ga E b)), some (.ref (ga E b)), none, none] 2 rfl (Nat.le_of_ble_eq_true rfl) ?_
  intro M hM0 hini C
  subst hM0
  obtain ⟨fk, fn, hb0, hb1, hb2, hrep, hwf, hkp, hsr⟩ := id hc
  refine v_aload_n C dX2_putTogether_0 rfl ?_
  refine v_aload_n C dX2_putTogether_1 rfl ?_
  refine gf_X2_37 C dX2_putTogether_2 (by assumption) ?_
  first | refine v_ifb_ne C 15 dX2_putTogether_5 (by decide) (fun h5 => ?_) (fun h5 => ?_) | refine v_ifn_ne C 15 dX2_putTogether_5 (by decide) (by omega) (fun h5 => ?_) (fun h5 => ?_) | refine v_if_ne C 15 dX2_putTogether_5 (by decide) (fun h5 => ?_) (fun h5 => ?_)
  · skip
    refine v_iconst (v := bI true) C dX2_putTogether_15 (by decide) ?_
    refine v_goto C 20 dX2_putTogether_16 (by decide) ?_
    refine pf_X2_37 C dX2_putTogether_20 (by first | exact Or.inl rfl | exact Or.inr rfl | assumption | exact bI_01 _) (by assumption) (fun G hG20 hF20 => ?_)
    first | replace hb0 := (hF20 _ (by omega)).trans hb0 | replace hb0 := hG20 | skip
    first | replace hb1 := (hF20 _ (by omega)).trans hb1 | replace hb1 := hG20 | skip
    first | replace hb2 := (hF20 _ (by omega)).trans hb2 | replace hb2 := hG20 | skip
    refine v_aload_n C dX2_putTogether_23 rfl ?_
    refine gf_X2_33 C dX2_putTogether_24 (by assumption) ?_
    refine v_istore_2 C dX2_putTogether_27 (by decide) (by first | rfl | assumption) ?_
    refine v_iconst (v := nI 0) C dX2_putTogether_28 (by decide) ?_
    refine v_istore_3 C dX2_putTogether_29 (by decide) (by first | rfl | assumption) ?_
    first
      | (have hgg : (g || g) = true := by first | (rw [h5]; rfl) | (rw [h12]; rfl)
         rw [hgg]
         exact cself_loop C hsr (by omega) (fun G h1 h2 => ⟨h1, fun j hj => h2 j hj⟩) (l0.length + 1) 0 (by omega) (by omega) G ⟨fk, fn, hb0, hb1, hb2, hrep, hwf, hkp, hsr⟩ (fun j hj => hF20 j (by omega)))
      | (have hgg : (g || g) = false := by rw [h5]; rfl
         rw [hgg]
         exact cself_loop C hsr (by omega) (fun G h1 h2 => ⟨h1, fun j hj => h2 j hj⟩) (l0.length + 1) 0 (by omega) (by omega) G ⟨fk, fn, hb0, hb1, hb2, hrep, hwf, hkp, hsr⟩ (fun j hj => hF20 j (by omega)))
  · skip
    refine v_aload_n C dX2_putTogether_8 rfl ?_
    refine gf_X2_37 C dX2_putTogether_9 (by assumption) ?_
    first | refine v_ifb_eq C 19 dX2_putTogether_12 (by decide) (fun h12 => ?_) (fun h12 => ?_) | refine v_ifn_eq C 19 dX2_putTogether_12 (by decide) (by omega) (fun h12 => ?_) (fun h12 => ?_) | refine v_if_eq C 19 dX2_putTogether_12 (by decide) (fun h12 => ?_) (fun h12 => ?_)
    · skip
      refine v_iconst (v := bI false) C dX2_putTogether_19 (by decide) ?_
      refine pf_X2_37 C dX2_putTogether_20 (by first | exact Or.inl rfl | exact Or.inr rfl | assumption | exact bI_01 _) (by assumption) (fun G hG20 hF20 => ?_)
      first | replace hb0 := (hF20 _ (by omega)).trans hb0 | replace hb0 := hG20 | skip
      first | replace hb1 := (hF20 _ (by omega)).trans hb1 | replace hb1 := hG20 | skip
      first | replace hb2 := (hF20 _ (by omega)).trans hb2 | replace hb2 := hG20 | skip
      refine v_aload_n C dX2_putTogether_23 rfl ?_
      refine gf_X2_33 C dX2_putTogether_24 (by assumption) ?_
      refine v_istore_2 C dX2_putTogether_27 (by decide) (by first | rfl | assumption) ?_
      refine v_iconst (v := nI 0) C dX2_putTogether_28 (by decide) ?_
      refine v_istore_3 C dX2_putTogether_29 (by decide) (by first | rfl | assumption) ?_
      first
        | (have hgg : (g || g) = true := by first | (rw [h5]; rfl) | (rw [h12]; rfl)
           rw [hgg]
           exact cself_loop C hsr (by omega) (fun G h1 h2 => ⟨h1, fun j hj => h2 j hj⟩) (l0.length + 1) 0 (by omega) (by omega) G ⟨fk, fn, hb0, hb1, hb2, hrep, hwf, hkp, hsr⟩ (fun j hj => hF20 j (by omega)))
        | (have hgg : (g || g) = false := by rw [h5]; rfl
           rw [hgg]
           exact cself_loop C hsr (by omega) (fun G h1 h2 => ⟨h1, fun j hj => h2 j hj⟩) (l0.length + 1) 0 (by omega) (by omega) G ⟨fk, fn, hb0, hb1, hb2, hrep, hwf, hkp, hsr⟩ (fun j hj => hF20 j (by omega)))
    · skip
      refine v_iconst (v := bI true) C dX2_putTogether_15 (by decide) ?_
      refine v_goto C 20 dX2_putTogether_16 (by decide) ?_
      refine pf_X2_37 C dX2_putTogether_20 (by first | exact Or.inl rfl | exact Or.inr rfl | assumption | exact bI_01 _) (by assumption) (fun G hG20 hF20 => ?_)
      first | replace hb0 := (hF20 _ (by omega)).trans hb0 | replace hb0 := hG20 | skip
      first | replace hb1 := (hF20 _ (by omega)).trans hb1 | replace hb1 := hG20 | skip
      first | replace hb2 := (hF20 _ (by omega)).trans hb2 | replace hb2 := hG20 | skip
      refine v_aload_n C dX2_putTogether_23 rfl ?_
      refine gf_X2_33 C dX2_putTogether_24 (by assumption) ?_
      refine v_istore_2 C dX2_putTogether_27 (by decide) (by first | rfl | assumption) ?_
      refine v_iconst (v := nI 0) C dX2_putTogether_28 (by decide) ?_
      refine v_istore_3 C dX2_putTogether_29 (by decide) (by first | rfl | assumption) ?_
      first
        | (have hgg : (g || g) = true := by first | (rw [h5]; rfl) | (rw [h12]; rfl)
           rw [hgg]
           exact cself_loop C hsr (by omega) (fun G h1 h2 => ⟨h1, fun j hj => h2 j hj⟩) (l0.length + 1) 0 (by omega) (by omega) G ⟨fk, fn, hb0, hb1, hb2, hrep, hwf, hkp, hsr⟩ (fun j hj => hF20 j (by omega)))
        | (have hgg : (g || g) = false := by rw [h5]; rfl
           rw [hgg]
           exact cself_loop C hsr (by omega) (fun G h1 h2 => ⟨h1, fun j hj => h2 j hj⟩) (l0.length + 1) 0 (by omega) (by omega) G ⟨fk, fn, hb0, hb1, hb2, hrep, hwf, hkp, hsr⟩ (fun j hj => hF20 j (by omega)))

