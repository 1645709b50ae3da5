theorem fu_lt {α : Type} {f : Nat → α} {k : Nat} {x : α} {p : Nat → α → Prop} (h : ∀ j, j < k → p j (f j)) (hx : p k x) : ∀ j, j < k + 1 → p j (fu f k x j) := by
  intro j hj
  by_cases e : j = k
  · subst e; rw [fu_self]; exact hx
  · rw [fu_ne _ _ e]; exact h j (by omega)
theorem fu_at {α : Type} {f : Nat → α} {k n : Nat} {x : α} {p : Nat → α → Prop} (h : ∀ j, j < n → j ≠ k → p j (f j)) (hx : p k x) : ∀ j, j < n → p j (fu f k x j) := by
  intro j hj
  by_cases e : j = k
  · subst e; rw [fu_self]; exact hx
  · rw [fu_ne _ _ e]; exact h j hj e
theorem gS.lt {E : Ev} {G : Gh} {H : Heap} (h : gS E G H) {i : Nat} {e : va_E} (he : G i = some e) : i < H.size := by
  have := (h i e he).lt
  have h2 : ga E i = E.2.2 + i := rfl
  simp only [h2] at this
  omega
theorem gS.list {E : Ev} {G : Gh} {H : Heap} (h : gS E G H) : ∃ ws : va_W, va_P E.1 vwCl ws H ∧ va_D (eA E) ws ∧ (∀ i e, G i = some e → ∃ k : Nat, ws[k]? = some (ga E i, e)) ∧ ∀ (k : Nat) (q : Nat × va_E), ws[k]? = some q → ∃ i, q.1 = ga E i ∧ G i = some q.2 := by
  have hm : ∀ q ∈ (List.range H.size).filterMap (fun i => (G i).map (fun e => (ga E i, e))), ∃ i, q.1 = ga E i ∧ G i = some q.2 := by
    intro q hq
    obtain ⟨i, -, hi⟩ := List.mem_filterMap.mp hq
    cases hG : G i with
    | none => rw [hG] at hi; cases hi
    | some e => rw [hG] at hi; cases hi; exact ⟨i, rfl, hG⟩
  have hp : ((List.range H.size).filterMap (fun i => (G i).map (fun e => (ga E i, e)))).Pairwise (fun x y => x.1 ≠ y.1) := by
    rw [List.pairwise_filterMap]
    refine List.Pairwise.imp ?_ List.pairwise_lt_range
    intro i j hij x hx y hy
    cases hG : G i with
    | none => rw [hG] at hx; cases hx
    | some e =>
      cases hG2 : G j with
      | none => rw [hG2] at hy; cases hy
      | some e2 =>
        rw [hG] at hx
        rw [hG2] at hy
        cases hx
        cases hy
        intro z
        have := ga_inj z
        omega
  generalize hw : (List.range H.size).filterMap (fun i => (G i).map (fun e => (ga E i, e))) = ws at hm hp
  refine ⟨ws, fun k q hk => ?_, ⟨fun i j x y hi hj hxy => ?_, fun k q hk => ?_⟩, fun i e he => ?_, fun k q hk => hm q (List.mem_of_getElem? hk)⟩
  · obtain ⟨i, h1, h2⟩ := hm q (List.mem_of_getElem? hk)
    have := h i _ h2
    rw [← h1] at this
    exact this
  · rw [List.pairwise_iff_getElem] at hp
    obtain ⟨li, ei⟩ := List.getElem?_eq_some_iff.mp hi
    obtain ⟨lj, ej⟩ := List.getElem?_eq_some_iff.mp hj
    rcases Nat.lt_trichotomy i j with c | c | c
    · exact absurd (by rw [ei, ej]; exact hxy) (hp i j li lj c)
    · exact c
    · exact absurd (by rw [ei, ej]; exact hxy.symm) (hp j i lj li c)
  · obtain ⟨i, h1, -⟩ := hm q (List.mem_of_getElem? hk)
    rw [h1]; exact ga_A E i
  · apply List.getElem?_of_mem
    rw [← hw]
    exact List.mem_filterMap.mpr ⟨i, List.mem_range.mpr (h.lt he), by rw [he]; rfl⟩
theorem gS.back {E : Ev} {G : Gh} {H1 : Heap} {ws : va_W} {i k : Nat} {e0 e : va_E} (hD : va_D (eA E) ws) (hall : ∀ i e, G i = some e → ∃ k : Nat, ws[k]? = some (ga E i, e)) (hk : ws[k]? = some (ga E i, e0)) (hP : va_P E.1 vwCl (ws.set k (ga E i, e)) H1) : gS E (gup G i (some e)) H1 := by
  have hl := (List.getElem?_eq_some_iff.mp hk).1
  intro j e' hj
  by_cases hji : j = i
  · subst hji
    rw [gup_self] at hj
    cases hj
    exact hP k _ (List.getElem?_set_self hl)
  · rw [gup_ne _ _ hji] at hj
    obtain ⟨k2, hk2⟩ := hall j e' hj
    refine hP k2 _ ?_
    rw [List.getElem?_set_ne, hk2]
    intro z
    subst z
    rw [hk] at hk2
    exact hji (ga_inj (congrArg Prod.fst (Option.some.inj hk2))).symm
section CPY
variable {M : Mx} {E : Ev} {own : String} {cc : ByteArray} {nL : Nat} {ret : Option FieldType} {FR LO MC MS : Nat} {Q : State → Prop} {cells slots : Nat} {G : Gh} {pc : Nat} {lo : List (Option Value)} {st : List Value}
theorem v_cpyI (C : Cx M E own cc nL ret FR LO MC MS) {index i0 i n0 n1 sp dp n : Nat} {f g : Nat → Int32} (wl : Cond.methodLink own index arraycopyName ∈ lw_tb2) (hd : decode cc pc = .ok (.invokestatic index, 3)) (hG0 : G i0 = cI E n0 f) (hG1 : G i = cI E n1 g) (h4 : sp + n ≤ n0) (h5 : dp + n ≤ n1) (hn0 : n0 < 2 ^ 31) (hn1 : n1 < 2 ^ 31) (hF : 1 ≤ FR) (hL : (st.map fun v => v.category).sum + (nativeFrameWords "java/lang/System" "arraycopy" 5 + 11) ≤ LO)
    (kk : ∀ G' : Gh, G' i = cI E n1 (va_cpy f g sp dp n) → (∀ j, j ≠ i → G' j = G j) → V M E nL Q none cells slots G' (pc + 3) lo st) : V M E nL Q none cells slots G pc lo (.int (nI n) :: .int (nI dp) :: .ref (ga E i) :: .int (nI sp) :: .ref (ga E i0) :: st) := by
  intro H locs ls hg hz hs hl
  obtain ⟨ws, hP, hD, hall, -⟩ := hg.list
  obtain ⟨q0, hq0⟩ := hall _ _ hG0
  obtain ⟨q1, hq1⟩ := hall _ _ hG1
  refine va_copyi C.1 C.2.1 (by rw [C.2.2.1]; exact hl.1.symm) C.2.2.2.1 (C.2.2.2.2.1.1.use wl) (C.2.2.2.2.1.1.use tw812) (C.2.2.2.2.1.1.use tw828) (C.2.2.2.2.1.1.use tw829) C.2.2.2.2.1.2.2 hP hD hs q0 q1 0 0 hq0 hq1 rfl rfl rfl (nI_pos (by omega)) (nI_pos (by omega)) (nI_pos (by omega)) (by rw [nI_clamp (by omega), nI_clamp (by omega)]; exact h4) (by rw [nI_clamp (by omega), nI_clamp (by omega)]; exact h5) (fun _ _ => rfl) (by rw [C.2.2.2.2.2.2.2.1]; exact hF) (by rw [C.2.2.2.2.2.2.2.1]; exact hL) hd fun H1 locs1 hP1 hD1 hS1 => ?_
  rw [nI_clamp (show sp < 2 ^ 31 by omega), nI_clamp (show dp < 2 ^ 31 by omega), nI_clamp (show n < 2 ^ 31 by omega)] at hP1
  exact kk _ (gup_self _ _ _) (fun j hj => gup_ne _ _ hj) H1 locs1 ls (gS.back hD hall hq1 hP1) zH.no hS1 hl
theorem v_cpyJ (C : Cx M E own cc nL ret FR LO MC MS) {index i0 i n0 n1 sp dp n : Nat} {f g : Nat → Int64} (wl : Cond.methodLink own index arraycopyName ∈ lw_tb2) (hd : decode cc pc = .ok (.invokestatic index, 3)) (hG0 : G i0 = cJ E n0 f) (hG1 : G i = cJ E n1 g) (h4 : sp + n ≤ n0) (h5 : dp + n ≤ n1) (hn0 : n0 < 2 ^ 31) (hn1 : n1 < 2 ^ 31) (hF : 1 ≤ FR) (hL : (st.map fun v => v.category).sum + (nativeFrameWords "java/lang/System" "arraycopy" 5 + 11) ≤ LO)
    (kk : ∀ G' : Gh, G' i = cJ E n1 (va_cpy f g sp dp n) → (∀ j, j ≠ i → G' j = G j) → V M E nL Q none cells slots G' (pc + 3) lo st) : V M E nL Q none cells slots G pc lo (.int (nI n) :: .int (nI dp) :: .ref (ga E i) :: .int (nI sp) :: .ref (ga E i0) :: st) := by
  intro H locs ls hg hz hs hl
  obtain ⟨ws, hP, hD, hall, -⟩ := hg.list
  obtain ⟨q0, hq0⟩ := hall _ _ hG0
  obtain ⟨q1, hq1⟩ := hall _ _ hG1
  refine va_copyl C.1 C.2.1 (by rw [C.2.2.1]; exact hl.1.symm) C.2.2.2.1 (C.2.2.2.2.1.1.use wl) (C.2.2.2.2.1.1.use tw812) (C.2.2.2.2.1.1.use tw828) (C.2.2.2.2.1.1.use tw829) C.2.2.2.2.1.2.2 hP hD hs q0 q1 1 1 hq0 hq1 rfl rfl rfl (nI_pos (by omega)) (nI_pos (by omega)) (nI_pos (by omega)) (by rw [nI_clamp (by omega), nI_clamp (by omega)]; exact h4) (by rw [nI_clamp (by omega), nI_clamp (by omega)]; exact h5) (fun _ _ => rfl) (by rw [C.2.2.2.2.2.2.2.1]; exact hF) (by rw [C.2.2.2.2.2.2.2.1]; exact hL) hd fun H1 locs1 hP1 hD1 hS1 => ?_
  rw [nI_clamp (show sp < 2 ^ 31 by omega), nI_clamp (show dp < 2 ^ 31 by omega), nI_clamp (show n < 2 ^ 31 by omega)] at hP1
  exact kk _ (gup_self _ _ _) (fun j hj => gup_ne _ _ hj) H1 locs1 ls (gS.back hD hall hq1 hP1) zH.no hS1 hl
end CPY
set_option maxHeartbeats 4000000 in
set_option maxRecDepth 100000 in
theorem fill_loop {M : Mx} {E : Ev} {z : Option Nat} (C : Cx M E yJ7_fill_d0a16.cls cJ7_fill_d0a16 5 none 0 0 0 0) {post : Unit → Gh → Prop} {G0 : Gh} {i n : Nat} {x : Int64} (hn : n < 2 ^ 31) (hend : ∀ G f, G i = cJ E n f → (∀ j, j ≠ i → G j = G0 j) → (∀ j, j < n → f j = x) → post () G) : ∀ (t k : Nat), k ≤ n → n - k < t → ∀ (G : Gh) (f : Nat → Int64), G i = cJ E n f → (∀ j, j ≠ i → G j = G0 j) → (∀ j, j < k → f j = x) → V M E 5 (QE M E (fun _ : Unit => none) z 0 0 post) z 0 0 G 6 [some (.ref (ga E i)), some (.long x), none, some (.int (nI k)), some (.int (nI n))] [] := by
  intro t
  induction t with
  | zero => intro k _ h; omega
  | succ t ih =>
    intro k hk ht G f hG hfr hlt
    refine v_iload_n C dJ7_fill_d0a16_6 rfl ?_
    refine v_iload C dJ7_fill_d0a16_7 rfl ?_
    refine v_icmpn_ge C 22 dJ7_fill_d0a16_9 (by decide) (by omega) (by omega) (fun h9 => ?_) (fun h9 => ?_)
    · skip
      refine v_vret C dJ7_fill_d0a16_22 ?_
      exact hend G f hG hfr (fun j hj => hlt j (by omega))
    · skip
      refine v_aload_n C dJ7_fill_d0a16_12 rfl ?_
      refine v_iload_n C dJ7_fill_d0a16_13 rfl ?_
      refine v_lload_n C dJ7_fill_d0a16_14 rfl ?_
      refine v_last C dJ7_fill_d0a16_15 (by assumption) (by omega) (by omega) (fun G hG15 hF15 => ?_)
      first | replace hG := (hF15 _ (by omega)).trans hG | replace hG := hG15 | skip
      first | refine v_iinc_3 C dJ7_fill_d0a16_16 (nI_1 _) (by decide) rfl ?_ | refine v_iinc_3 C dJ7_fill_d0a16_16 rfl (by decide) rfl ?_
      refine v_goto C 6 dJ7_fill_d0a16_19 (by decide) ?_
      exact ih (k + 1) (by omega) (by omega) G _ hG (fun j hj => by rw [hF15 j hj]; exact hfr j hj) (fu_lt (p := fun _ y => y = x) hlt rfl)
set_option maxHeartbeats 4000000 in
set_option maxRecDepth 100000 in
theorem c_fill (l : Launch) (E : Ev) (z : Option Nat) {G : Gh} {i n : Nat} {f : Nat → Int64} {x : Int64} (hn : n < 2 ^ 31) (hG : G i = cJ E n f) : K_J7_fill_d0a16 l E z G [.ref (ga E i), .long x] (fun _ G2 => ∃ f2, G2 i = cJ E n f2 ∧ (∀ j, j ≠ i → G2 j = G j) ∧ ∀ j, j < n → f2 j = x) := by
  refine Fc.of rfl [some (.ref (ga E i)), some (.long x), none, none, none] 2 rfl (Nat.le_of_ble_eq_true rfl) ?_
  intro M hM0 hini C
  subst hM0
  refine v_iconst (v := nI 0) C dJ7_fill_d0a16_0 (by decide) ?_
  refine v_istore_3 C dJ7_fill_d0a16_1 (by decide) rfl ?_
  refine v_aload_n C dJ7_fill_d0a16_2 rfl ?_
  first | refine v_alen_cI C dJ7_fill_d0a16_3 (by assumption) ?_ | refine v_alen_cJ C dJ7_fill_d0a16_3 (by assumption) ?_
  refine v_istore_4 C dJ7_fill_d0a16_4 (by decide) rfl ?_
  exact fill_loop C hn (fun G f h1 h2 h3 => ⟨f, h1, h2, h3⟩) (n + 1) 0 (by omega) (by omega) G f hG (fun _ _ => rfl) (fun j hj => absurd hj (Nat.not_lt_zero j))

