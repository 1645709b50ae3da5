def upk (x t : Nat) (c : Nat × Nat) : Nat × Nat := if c.1 = x then (c.1, c.2 + t) else c
theorem upk_key (x t : Nat) (c : Nat × Nat) : (upk x t c).1 = c.1 := by unfold upk; split <;> rfl
def cInc (l : Cnt) (x t : Nat) : Cnt := if x ∈ nkeys l then l.map (upk x t) else l ++ [(x, t)]
theorem nkeys_upk (l : Cnt) (x t : Nat) : nkeys (l.map (upk x t)) = nkeys l := by
  unfold nkeys
  rw [List.map_map]
  apply List.map_congr_left
  intro c _
  exact upk_key x t c
theorem nkeys_perm {l l2 : Cnt} (h : l.Perm l2) : (nkeys l).Perm (nkeys l2) := h.map _
theorem mem_nkeys {l : Cnt} {c : Nat × Nat} (h : c ∈ l) : c.1 ∈ nkeys l := List.mem_map_of_mem h
theorem cInc_perm {l l2 : Cnt} (h : l.Perm l2) (x t : Nat) : (cInc l x t).Perm (cInc l2 x t) := by
  unfold cInc
  by_cases hx : x ∈ nkeys l
  · rw [if_pos hx, if_pos ((nkeys_perm h).mem_iff.mp hx)]; exact h.map _
  · rw [if_neg hx, if_neg (fun h9 => hx ((nkeys_perm h).mem_iff.mpr h9))]; exact h.append_right _
theorem cInc_keys (l : Cnt) (x t : Nat) : ∀ y, y ∈ nkeys (cInc l x t) ↔ y ∈ nkeys l ∨ y = x := by
  intro y
  unfold cInc
  by_cases hx : x ∈ nkeys l
  · rw [if_pos hx, nkeys_upk]
    exact ⟨Or.inl, fun h => h.elim id (fun e => by rw [e]; exact hx)⟩
  · rw [if_neg hx, nkeys_app, List.mem_append, List.mem_singleton]
theorem cInc_nodup {l : Cnt} (h : (nkeys l).Nodup) (x t : Nat) : (nkeys (cInc l x t)).Nodup := by
  unfold cInc
  by_cases hx : x ∈ nkeys l
  · rw [if_pos hx, nkeys_upk]; exact h
  · rw [if_neg hx, nkeys_app]; exact nodup_app h hx
theorem cInc_len (l : Cnt) (x t : Nat) : l.length ≤ (cInc l x t).length := by
  unfold cInc
  split
  · rw [List.length_map]; exact Nat.le_refl _
  · rw [List.length_append]; omega
theorem cInc_comm (l : Cnt) {x y : Nat} (hxy : x ≠ y) (t u : Nat) : (cInc (cInc l x t) y u).Perm (cInc (cInc l y u) x t) := by
  by_cases hx : x ∈ nkeys l
  · by_cases hy : y ∈ nkeys l
    · have e1 : cInc l x t = l.map (upk x t) := if_pos hx
      have e2 : cInc l y u = l.map (upk y u) := if_pos hy
      rw [e1, e2]
      unfold cInc
      rw [nkeys_upk, nkeys_upk, if_pos hx, if_pos hy, List.map_map, List.map_map]
      have e3 : (upk y u ∘ upk x t) = (upk x t ∘ upk y u) := by
        funext c
        show upk y u (upk x t c) = upk x t (upk y u c)
        by_cases h1 : c.1 = x
        · have h2 : c.1 ≠ y := by rw [h1]; exact hxy
          unfold upk
          simp [h1, hxy]
        · by_cases h2 : c.1 = y
          · unfold upk
            simp [h2, hxy.symm]
          · unfold upk
            simp [h1, h2]
      rw [e3]
    · have e1 : cInc l x t = l.map (upk x t) := if_pos hx
      have e2 : cInc l y u = l ++ [(y, u)] := if_neg hy
      rw [e1, e2]
      unfold cInc
      rw [nkeys_upk, if_neg hy, if_pos (by rw [nkeys_app]; exact List.mem_append_left _ hx), List.map_append]
      have e3 : List.map (upk x t) [(y, u)] = [(y, u)] := by simp [upk, hxy.symm]
      rw [e3]
  · by_cases hy : y ∈ nkeys l
    · have e1 : cInc l x t = l ++ [(x, t)] := if_neg hx
      have e2 : cInc l y u = l.map (upk y u) := if_pos hy
      rw [e1, e2]
      unfold cInc
      rw [nkeys_upk, if_neg hx, if_pos (by rw [nkeys_app]; exact List.mem_append_left _ hy), List.map_append]
      have e3 : List.map (upk y u) [(x, t)] = [(x, t)] := by simp [upk, hxy]
      rw [e3]
    · have e1 : cInc l x t = l ++ [(x, t)] := if_neg hx
      have e2 : cInc l y u = l ++ [(y, u)] := if_neg hy
      rw [e1, e2]
      unfold cInc
      rw [if_neg (by rw [nkeys_app, List.mem_append, List.mem_singleton]; exact fun h => h.elim hy (fun e => hxy e.symm)), if_neg (by rw [nkeys_app, List.mem_append, List.mem_singleton]; exact fun h => h.elim hx (fun e => hxy e)), List.append_assoc, List.append_assoc]
      exact List.Perm.append_left l (List.Perm.swap _ _ _)
def cFold (l l2 : Cnt) : Cnt := l2.foldl (fun a c => cInc a c.1 c.2) l
theorem cFold_perm1 : ∀ (l2 : Cnt) {l lz : Cnt}, l.Perm lz → (cFold l l2).Perm (cFold lz l2)
  | [], _, _, h => h
  | c :: l2, _, _, h => cFold_perm1 l2 (cInc_perm h c.1 c.2)
theorem cFold_perm {l2 l3 : Cnt} (hp : l2.Perm l3) : (nkeys l2).Nodup → ∀ {l lz : Cnt}, l.Perm lz → (cFold l l2).Perm (cFold lz l3) := by
  induction hp with
  | nil => intro _ l lz h; exact h
  | cons c _ ih =>
    intro hn l lz h
    have hn2 := (List.nodup_cons.mp hn).2
    exact ih hn2 (cInc_perm h c.1 c.2)
  | swap a b l2 =>
    intro hn l lz h
    have hne : b.1 ≠ a.1 := by
      intro e
      have h9 := (List.nodup_cons.mp hn).1
      apply h9
      show b.1 ∈ a.1 :: l2.map (fun c => c.1)
      rw [e]
      exact List.mem_cons_self
    show (cFold (cInc (cInc l b.1 b.2) a.1 a.2) l2).Perm (cFold (cInc (cInc lz a.1 a.2) b.1 b.2) l2)
    exact cFold_perm1 l2 ((cInc_comm l hne b.2 a.2).trans (cInc_perm (cInc_perm h _ _) _ _))
  | trans h1 h2 ih1 ih2 =>
    intro hn l lz h
    exact (ih1 hn (List.Perm.refl l)).trans (ih2 ((nkeys_perm h1).nodup_iff.mp hn) h)
theorem cFold_nodup : ∀ (l2 : Cnt) {l : Cnt}, (nkeys l).Nodup → (nkeys (cFold l l2)).Nodup
  | [], _, h => h
  | c :: l2, _, h => cFold_nodup l2 (cInc_nodup h c.1 c.2)
theorem cFold_len : ∀ (l2 l : Cnt), l.length ≤ (cFold l l2).length
  | [], _ => Nat.le_refl _
  | c :: l2, l => Nat.le_trans (cInc_len l c.1 c.2) (cFold_len l2 (cInc l c.1 c.2))
theorem cFold_keys : ∀ (l2 l : Cnt) (y : Nat), y ∈ nkeys (cFold l l2) → y ∈ nkeys l ∨ y ∈ nkeys l2
  | [], _, _, h => Or.inl h
  | c :: l2, l, y, h => by
    rcases cFold_keys l2 _ y h with h1 | h1
    · rcases (cInc_keys l c.1 c.2 y).mp h1 with h2 | h2
      · exact Or.inl h2
      · exact Or.inr (by rw [h2]; exact List.mem_cons_self)
    · exact Or.inr (List.mem_cons_of_mem _ h1)
/-- pigeonhole -/
theorem key_len {l : List Nat} {P : Nat} (hn : l.Nodup) (h : ∀ y ∈ l, y < P) : l.length ≤ P := by
  have := List.Nodup.length_le_of_subset hn (l₂ := List.range P) (fun y hy => List.mem_range.mpr (h y hy))
  rwa [List.length_range] at this
theorem cSum_perm {l l2 : Cnt} (h : l.Perm l2) : cSum l = cSum l2 := by unfold cSum; exact (h.map _).sum_nat
theorem cSum_upk : ∀ {l : Cnt} {x : Nat} (t : Nat), (nkeys l).Nodup → x ∈ nkeys l → cSum (l.map (upk x t)) = cSum l + t
  | [], x, t, _, h => by simp [nkeys] at h
  | c :: l, x, t, hn, h => by
    have hn2 := List.nodup_cons.mp hn
    show (upk x t c).2 + cSum (l.map (upk x t)) = c.2 + cSum l + t
    by_cases hc9 : c.1 = x
    · have e1 : l.map (upk x t) = l := by
        have e2 : l.map (upk x t) = l.map id := List.map_congr_left (fun d hd9 => by
          unfold upk
          rw [if_neg (fun e => hn2.1 (by
            have : d.1 ∈ nkeys l := mem_nkeys hd9
            rw [e, ← hc9] at this
            exact this))]
          rfl)
        rw [e2, List.map_id]
      rw [e1]
      unfold upk
      rw [if_pos hc9]
      show c.2 + t + cSum l = _
      omega
    · have hx : x ∈ nkeys l := by
        rcases List.mem_cons.mp h with e | e
        · exact absurd e.symm hc9
        · exact e
      rw [cSum_upk t hn2.2 hx]
      unfold upk
      rw [if_neg hc9]
      omega
theorem cSum_inc {l : Cnt} (hn : (nkeys l).Nodup) (x t : Nat) : cSum (cInc l x t) = cSum l + t := by
  unfold cInc
  by_cases hx : x ∈ nkeys l
  · rw [if_pos hx]; exact cSum_upk t hn hx
  · rw [if_neg hx, cSum_app]; rfl
theorem cSum_fold : ∀ (l2 : Cnt) {l : Cnt}, (nkeys l).Nodup → cSum (cFold l l2) = cSum l + cSum l2
  | [], _, _ => rfl
  | c :: l2, l, h => by
    show cSum (cFold (cInc l c.1 c.2) l2) = cSum l + (c.2 + cSum l2)
    rw [cSum_fold l2 (cInc_nodup h c.1 c.2), cSum_inc h]
    omega
/-! the class's side -/
theorem csrt_nodup {l : Cnt} (h : csrt l) : (nkeys l).Nodup := by
  unfold nkeys
  rw [List.nodup_iff_pairwise_ne] 
  rw [List.pairwise_map, List.pairwise_iff_getElem]
  intro i j hi hj hij
  have := h i j _ _ hij (List.getElem?_eq_getElem hi) (List.getElem?_eq_getElem hj)
  omega
theorem cAt_iff {l : Cnt} (hs : csrt l) (x : Nat) : cAt l x = true ↔ x ∈ nkeys l := by
  constructor
  · intro h
    obtain ⟨c, h1, h2⟩ := cAt_true h
    rw [← h2]
    exact mem_nkeys (List.mem_of_getElem? h1)
  · intro h
    cases hc9 : cAt l x with
    | true => rfl
    | false =>
      obtain ⟨c, h1, h2⟩ := List.mem_map.mp h
      exact absurd h2 (cAt_false hs hc9 c h1)
theorem set_upk {l : Cnt} {i x t : Nat} {c : Nat × Nat} (hn : (nkeys l).Nodup) (h : l[i]? = some c) (hx : c.1 = x) : l.set i (c.1, c.2 + t) = l.map (upk x t) := by
  apply List.ext_getElem?
  intro j
  rw [List.getElem?_map]
  have hil := (List.getElem?_eq_some_iff.mp h).1
  by_cases hj : j = i
  · subst hj
    rw [List.getElem?_set_self hil, h]
    show _ = some (upk x t c)
    unfold upk
    rw [if_pos hx]
  · rw [List.getElem?_set_ne (Ne.symm hj)]
    cases hd9 : l[j]? with
    | none => rfl
    | some d =>
      show _ = some (upk x t d)
      unfold upk
      rw [if_neg (fun e => hj ?_)]
      have e1 : (nkeys l)[j]? = some d.1 := by unfold nkeys; rw [List.getElem?_map, hd9]; rfl
      have e2 : (nkeys l)[i]? = some c.1 := by unfold nkeys; rw [List.getElem?_map, h]; rfl
      rw [e, ← hx] at e1
      exact (List.getElem?_inj (by rw [nkeys_len]; exact (List.getElem?_eq_some_iff.mp hd9).1) hn).mp (e1.trans e2.symm)
theorem cTake_in {room : Nat} {l : Cnt} {x t : Nat} (hs : csrt l) (hx : x ∈ nkeys l ∨ l.length < room) : (cTake room (l, false) x t).2 = false ∧ (cTake room (l, false) x t).1.Perm (cInc l x t) := by
  unfold cTake cInc
  rw [if_neg (show ¬ (false = true) by decide)]
  by_cases h : x ∈ nkeys l
  · rw [if_pos ((cAt_iff hs x).mpr h), if_pos h]
    refine ⟨rfl, ?_⟩
    obtain ⟨c, h1, h2⟩ := cAt_true ((cAt_iff hs x).mpr h)
    show (cUp l x t).Perm _
    unfold cUp
    rw [h1]
    simp only []
    rw [set_upk (csrt_nodup hs) h1 h2]
  · have hc9 : ¬ cAt l x = true := fun h9 => h ((cAt_iff hs x).mp h9)
    rw [if_neg hc9, if_neg (by rcases hx with q | q; exact absurd q h; show ¬ room ≤ l.length; omega), if_neg h]
    refine ⟨rfl, ?_⟩
    refine (List.perm_insertIdx _ _ (cPl_le l x)).trans ?_
    exact (List.perm_append_singleton _ _).symm
theorem cTake_out {room : Nat} {l : Cnt} {x t : Nat} (hs : csrt l) (hx : x ∉ nkeys l) (hl : room ≤ l.length) : cTake room (l, false) x t = (l, true) := by
  unfold cTake
  rw [if_neg (show ¬ (false = true) by decide), if_neg (fun h9 => hx ((cAt_iff hs x).mp h9)), if_pos hl]
