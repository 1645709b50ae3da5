theorem csrt_keys {l l2 : Cnt} (h : csrt l) (he : nkeys l2 = nkeys l) : csrt l2 := by
  intro i j c d hij hi hj
  have e1 : (nkeys l2)[i]? = some c.1 := by unfold nkeys; rw [List.getElem?_map, hi]; rfl
  have e2 : (nkeys l2)[j]? = some d.1 := by unfold nkeys; rw [List.getElem?_map, hj]; rfl
  rw [he] at e1 e2
  obtain ⟨c2, h1, h2⟩ := nkeys_get e1
  obtain ⟨d2, h3, h4⟩ := nkeys_get e2
  have := h i j c2 d2 hij h1 h3
  omega
theorem csrt_ins {l : Cnt} (h : csrt l) {x t : Nat} (hx : x ∉ nkeys l) : csrt (l.insertIdx (cPl l x) (x, t)) := by
  have hp := cPl_le l x
  have hlo : ∀ i c, l[i]? = some c → i < cPl l x → c.1 < x := fun i c hi h1 => (cPl_iff h hi).mpr h1
  have hhi : ∀ i c, l[i]? = some c → cPl l x ≤ i → x < c.1 := fun i c hi h1 => by
    have h2 : ¬ c.1 < x := fun h9 => by have := (cPl_iff h hi).mp h9; omega
    have h3 : c.1 ≠ x := fun e => hx (by rw [← e]; exact mem_nkeys (List.mem_of_getElem? hi))
    omega
  intro i j c d hij hi hj
  rw [List.getElem?_insertIdx] at hi hj
  by_cases a1 : i < cPl l x
  · rw [if_pos a1] at hi
    by_cases b1 : j < cPl l x
    · rw [if_pos b1] at hj; exact h i j c d hij hi hj
    · rw [if_neg b1] at hj
      by_cases b2 : j = cPl l x
      · rw [if_pos b2, if_pos (by omega)] at hj; cases hj; exact hlo i c hi a1
      · rw [if_neg b2] at hj; exact h i (j - 1) c d (by omega) hi hj
  · rw [if_neg a1] at hi
    rw [if_neg (by omega), if_neg (by omega)] at hj
    by_cases a2 : i = cPl l x
    · rw [if_pos a2, if_pos (by omega)] at hi; cases hi; exact hhi (j - 1) d hj (by omega)
    · rw [if_neg a2] at hi; exact h (i - 1) (j - 1) c d (by omega) hi hj
theorem cTake_srt {room : Nat} {l : Cnt} {g : Bool} {x t : Nat} (hs : csrt l) : csrt (cTake room (l, g) x t).1 := by
  unfold cTake
  split
  · exact hs
  · split
    · rename_i h1 h2
      obtain ⟨c, h3, h4⟩ := cAt_true h2
      show csrt (cUp l x t)
      unfold cUp
      simp only [] at h3
      rw [h3]
      simp only []
      exact csrt_keys hs (nkeys_set h3)
    · split
      · exact hs
      · rename_i h1 h2 h3
        exact csrt_ins hs (fun h9 => h2 ((cAt_iff hs x).mpr h9))
theorem cFoldZ {room : Nat} : ∀ (l2 : Cnt) {l : Cnt}, csrt l → l.length ≤ room → ((l2.foldl (cF room) (l, false)).2 = false ∧ (l2.foldl (cF room) (l, false)).1.Perm (cFold l l2)) ∨ ((l2.foldl (cF room) (l, false)).2 = true ∧ room < (cFold l l2).length)
  | [], l, _, _ => Or.inl ⟨rfl, List.Perm.refl _⟩
  | c :: l2, l, hs, hl => by
    by_cases hx : c.1 ∈ nkeys l ∨ l.length < room
    · have h1 := cTake_in (room := room) (t := c.2) hs hx
      have hsr := cTake_srt (room := room) (g := false) (x := c.1) (t := c.2) hs
      have hpl := h1.2.length_eq
      have e1 : cF room (l, false) c = ((cTake room (l, false) c.1 c.2).1, false) := Prod.ext rfl h1.1
      have hlen : (cTake room (l, false) c.1 c.2).1.length ≤ room := by
        rw [hpl]
        unfold cInc
        split
        · rw [List.length_map]; exact hl
        · rename_i h9
          rw [List.length_append, List.length_singleton]
          rcases hx with q | q
          · exact absurd q h9
          · omega
      rw [List.foldl_cons, e1]
      have hpp : (cFold (cTake room (l, false) c.1 c.2).1 l2).Perm (cFold l (c :: l2)) := cFold_perm1 l2 h1.2
      rcases cFoldZ l2 hsr hlen with ⟨q1, q2⟩ | ⟨q1, q2⟩
      · exact Or.inl ⟨q1, q2.trans hpp⟩
      · exact Or.inr ⟨q1, by rw [← hpp.length_eq]; exact q2⟩
    · have hx1 : c.1 ∉ nkeys l := fun h => hx (Or.inl h)
      have hx2 : room ≤ l.length := by
        rcases Nat.lt_or_ge l.length room with q | q
        · exact absurd (Or.inr q) hx
        · exact q
      have e1 : cF room (l, false) c = (l, true) := cTake_out hs hx1 hx2
      have e2 : ∀ l3 : Cnt, l3.foldl (cF room) (l, true) = (l, true) := by
        intro l3
        induction l3 with
        | nil => rfl
        | cons d l3 ih => rw [List.foldl_cons]; exact ih
      rw [List.foldl_cons, e1, e2]
      refine Or.inr ⟨rfl, ?_⟩
      have h3 : (cInc l c.1 c.2).length = l.length + 1 := by
        unfold cInc
        rw [if_neg hx1, List.length_append, List.length_singleton]
      have h4 := cFold_len l2 (cInc l c.1 c.2)
      show room < (cFold (cInc l c.1 c.2) l2).length
      omega
theorem cFoldZ_len {room : Nat} : ∀ (l2 : Cnt) {l : Cnt}, csrt l → l.length ≤ room → (l2.foldl (cF room) (l, false)).2 = false → (cFold l l2).length ≤ room
  | [], l, _, hl, _ => hl
  | c :: l2, l, hs, hl, hg => by
    by_cases hx : c.1 ∈ nkeys l ∨ l.length < room
    · have h1 := cTake_in (room := room) (t := c.2) hs hx
      have hsr := cTake_srt (room := room) (g := false) (x := c.1) (t := c.2) hs
      have hpl := h1.2.length_eq
      have e1 : cF room (l, false) c = ((cTake room (l, false) c.1 c.2).1, false) := Prod.ext rfl h1.1
      have hlen : (cTake room (l, false) c.1 c.2).1.length ≤ room := by
        rw [hpl]
        unfold cInc
        split
        · rw [List.length_map]; exact hl
        · rename_i h9
          rw [List.length_append, List.length_singleton]
          rcases hx with q | q
          · exact absurd q h9
          · omega
      rw [List.foldl_cons, e1] at hg
      have hpp : (cFold (cTake room (l, false) c.1 c.2).1 l2).Perm (cFold l (c :: l2)) := cFold_perm1 l2 h1.2
      rw [← hpp.length_eq]
      exact cFoldZ_len l2 hsr hlen hg
    · have hx1 : c.1 ∉ nkeys l := fun h => hx (Or.inl h)
      have hx2 : room ≤ l.length := by
        rcases Nat.lt_or_ge l.length room with q | q
        · exact absurd (Or.inr q) hx
        · exact q
      have e1 : cF room (l, false) c = (l, true) := cTake_out hs hx1 hx2
      have e2 : ∀ l3 : Cnt, l3.foldl (cF room) (l, true) = (l, true) := by
        intro l3
        induction l3 with
        | nil => rfl
        | cons d l3 ih => rw [List.foldl_cons]; exact ih
      rw [List.foldl_cons, e1, e2] at hg
      cases hg
/-! the model's side -/
theorem lix_mem {ks : List Nat} {x : Nat} (h : x ∈ ks) : ∃ i, lix ks x = some i := by
  cases hk : lix ks x with
  | some i => exact ⟨i, rfl⟩
  | none =>
    unfold lix at hk
    rw [List.findIdx?_eq_none_iff] at hk
    have := hk x h
    simp at this
theorem lix_not {ks : List Nat} {x : Nat} (h : x ∉ ks) : lix ks x = none := by
  unfold lix
  rw [List.findIdx?_eq_none_iff]
  intro y hy
  simp only [beq_eq_false_iff_ne]
  intro e
  rw [e] at hy
  exact h hy
theorem cStep_in {l : Cnt} {x t : Nat} (hn : (nkeys l).Nodup) (hx : x ∈ nkeys l ∨ l.length ≠ 300) : cStep (l, false) x t = (cInc l x t, false) := by
  unfold cStep cInc
  rw [if_neg (show ¬ (false = true) by decide)]
  by_cases h : x ∈ nkeys l
  · obtain ⟨i, hi⟩ := lix_mem h
    obtain ⟨h1, h2⟩ := lix_some hi
    obtain ⟨c, h3, h4⟩ := nkeys_get h1
    simp only []
    rw [hi, if_pos h]
    simp only []
    rw [h3]
    simp only []
    rw [set_upk hn h3 h4]
  · simp only []
    rw [lix_not h, if_neg h]
    simp only []
    rw [if_neg (by rcases hx with q | q; exact absurd q h; exact q)]
theorem cStep_out {l : Cnt} {x t : Nat} (hx : x ∉ nkeys l) (hl : l.length = 300) : cStep (l, false) x t = (l, true) := by
  unfold cStep
  rw [if_neg (show ¬ (false = true) by decide)]
  simp only []
  rw [lix_not hx]
  simp only []
  rw [if_pos hl]
theorem cInc_inc (l : Cnt) (x a b : Nat) : cInc (cInc l x a) x b = cInc l x (a + b) := by
  have hk : x ∈ nkeys (cInc l x a) := (cInc_keys l x a x).mpr (Or.inr rfl)
  rw [show cInc (cInc l x a) x b = (cInc l x a).map (upk x b) from if_pos hk]
  unfold cInc
  by_cases h : x ∈ nkeys l
  · rw [if_pos h, if_pos h, List.map_map]
    apply List.map_congr_left
    intro c _
    show upk x b (upk x a c) = upk x (a + b) c
    unfold upk
    by_cases hc9 : c.1 = x
    · simp [hc9, Nat.add_assoc]
    · simp [hc9]
  · rw [if_neg h, if_neg h, List.map_append]
    have e1 : l.map (upk x b) = l := by
      have e2 : l.map (upk x b) = l.map id := List.map_congr_left (fun d hd9 => by
        unfold upk
        rw [if_neg (fun e => h (by rw [← e]; exact mem_nkeys hd9))]
        rfl)
      rw [e2, List.map_id]
    rw [e1]
    simp [upk]
def kIter (x : Nat) (s : Cnt × Bool) : Nat → Cnt × Bool
  | 0 => s
  | k + 1 => cStep ((kIter x s k).1, (kIter x s k).2) x 1
theorem yIter_K {P W R : Nat} {A B : Nat → Nat} {lim : Nat} {S : Str} {x : Nat} : ∀ k, (zK (yIter P W R A B lim S x k), zG (yIter P W R A B lim S x k)) = kIter x (zK S, zG S) k
  | 0 => rfl
  | k + 1 => by
    show ((cStep (zK (yIter P W R A B lim S x k), zG (yIter P W R A B lim S x k)) x 1).1, (cStep (zK (yIter P W R A B lim S x k), zG (yIter P W R A B lim S x k)) x 1).2) = _
    rw [kIter, ← yIter_K k]
theorem kIter_gone {x : Nat} {l : Cnt} : ∀ k, kIter x (l, true) k = (l, true)
  | 0 => rfl
  | k + 1 => by rw [kIter, kIter_gone k]; rfl
theorem kIter_in {x : Nat} {l : Cnt} (hn : (nkeys l).Nodup) (hx : x ∈ nkeys l ∨ l.length ≠ 300) : ∀ k, kIter x (l, false) (k + 1) = (cInc l x (k + 1), false)
  | 0 => cStep_in hn hx
  | k + 1 => by
    rw [kIter, kIter_in hn hx k]
    simp only []
    rw [cStep_in (cInc_nodup hn _ _) (Or.inl ((cInc_keys l x (k + 1) x).mpr (Or.inr rfl))), cInc_inc]
theorem kIter_out {x : Nat} {l : Cnt} (hx : x ∉ nkeys l) (hl : l.length = 300) (k : Nat) : kIter x (l, false) (k + 1) = (l, true) := by
  induction k with
  | zero => exact cStep_out hx hl
  | succ k ih => rw [kIter, ih]; rfl
def relK (a b : Cnt × Bool) : Prop := a.2 = b.2 ∧ (a.2 = false → a.1.Perm b.1)
theorem cap_iff {P n : Nat} {l : Cnt} (hn : (nkeys l).Nodup) (hP : ∀ y ∈ nkeys l, y < P) (h3 : l.length ≤ 300) {x : Nat} (hx : x ∉ nkeys l) (hxP : x < P) : min P 300 ≤ l.length ↔ l.length = 300 := by
  have h1 : (x :: nkeys l).length ≤ P := key_len (List.nodup_cons.mpr ⟨hx, hn⟩) (fun y hy => by
    rcases List.mem_cons.mp hy with q | q
    · rw [q]; exact hxP
    · exact hP y q)
  rw [List.length_cons, nkeys_len] at h1
  omega
theorem relK_add {P x k : Nat} {lY lZ : Cnt} {gY gZ : Bool} (h : relK (lY, gY) (lZ, gZ)) (hn : (nkeys lY).Nodup) (hP : ∀ y ∈ nkeys lY, y < P) (h3 : lY.length ≤ 300) (hs : csrt lZ) (hx : x < P) : relK (kIter x (lY, gY) (k + 1)) (cTake (min P 300) (lZ, gZ) x (k + 1)) := by
  obtain ⟨h1, h2⟩ := h
  simp only [] at h1 h2
  subst h1
  cases gY with
  | true =>
    rw [kIter_gone]
    exact ⟨rfl, fun h9 => by cases h9⟩
  | false =>
    have hp := h2 rfl
    have hkm : ∀ y, y ∈ nkeys lY ↔ y ∈ nkeys lZ := fun y => (nkeys_perm hp).mem_iff
    have hle := hp.length_eq
    by_cases hin : x ∈ nkeys lY
    · rw [kIter_in hn (Or.inl hin)]
      obtain ⟨q1, q2⟩ := cTake_in (room := min P 300) (t := k + 1) hs (Or.inl ((hkm x).mp hin))
      exact ⟨q1.symm, fun _ => (cInc_perm hp _ _).trans q2.symm⟩
    · have hcap := cap_iff (n := 0) hn hP h3 hin hx
      by_cases h30 : lY.length = 300
      · rw [kIter_out hin h30, cTake_out hs (fun h9 => hin ((hkm x).mpr h9)) (by rw [← hle]; exact hcap.mpr h30)]
        exact ⟨rfl, fun h9 => by cases h9⟩
      · rw [kIter_in hn (Or.inr h30)]
        obtain ⟨q1, q2⟩ := cTake_in (room := min P 300) (x := x) (t := k + 1) hs (Or.inr (by
          rw [← hle]
          rcases Nat.lt_or_ge lY.length (min P 300) with q | q
          · exact q
          · exact absurd (hcap.mp q) h30))
        exact ⟨q1.symm, fun _ => (cInc_perm hp _ _).trans q2.symm⟩
theorem kIter_sum {x k : Nat} {l : Cnt} (hn : (nkeys l).Nodup) (h : (kIter x (l, false) (k + 1)).2 = false) : cSum (kIter x (l, false) (k + 1)).1 = cSum l + (k + 1) := by
  by_cases hx : x ∈ nkeys l ∨ l.length ≠ 300
  · rw [kIter_in hn hx]; exact cSum_inc hn _ _
  · rw [kIter_out (fun h9 => hx (Or.inl h9)) (by
      rcases Nat.lt_trichotomy l.length 300 with q | q | q
      · exact absurd (Or.inr (by omega)) hx
      · exact q
      · exact absurd (Or.inr (by omega)) hx)] at h
    cases h
/-! joins -/
theorem cC_app (l : Cnt) (x t : Nat) : cC (l ++ [(x, t)]) = cC l ++ [(x, t, 0)] := by unfold cC; rw [List.map_append]; rfl
theorem mAdd1_cC {l : Cnt} (hn : (nkeys l).Nodup) (x t : Nat) : mAdd1 (cC l) (x, t, 0) = cC (cInc l x t) := by
  unfold mAdd1 cInc
  simp only []
  rw [← lix_kix, cC_keys]
  by_cases h : x ∈ nkeys l
  · obtain ⟨i, hi⟩ := lix_mem h
    obtain ⟨h1, h2⟩ := lix_some hi
    obtain ⟨c, h3, h4⟩ := nkeys_get h1
    rw [hi, if_pos h]
    simp only []
    have hk : kix (cC l) x = some i := by rw [← lix_kix, cC_keys]; exact hi
    rw [numOf_some hk (cC_get h3)]
    unfold nset
    rw [cC_get h3]
    simp only []
    rw [← set_upk hn h3 h4]
    unfold cC
    rw [List.map_set]
  · rw [lix_not h, if_neg h]
    simp only []
    rw [cC_app]
theorem mAdd_cC : ∀ (l2 : Cnt) {l : Cnt}, (nkeys l).Nodup → mAdd (cC l) (cC l2) = cC (cFold l l2)
  | [], _, _ => rfl
  | c :: l2, l, hn => by
    show mAdd (mAdd1 (cC l) (c.1, c.2, 0)) (cC l2) = _
    rw [mAdd1_cC hn, mAdd_cC l2 (cInc_nodup hn _ _)]
    rfl
theorem cD_cC (l : Cnt) : cD (cC l) = l := by
  unfold cD cC
  rw [List.map_map]
  exact List.map_id l
theorem yK_eq {l l2 : Cnt} {g g2 : Bool} (hn : (nkeys l).Nodup) : yK l g l2 g2 = if g = true ∨ g2 = true then (l, true) else if 300 < (cFold l l2).length then (l, true) else (cFold l l2, false) := by
  unfold yK
  rw [mAdd_cC l2 hn, cC_len, cD_cC]
theorem relK_join {P : Nat} {lY lZ l2Y l2Z : Cnt} {gY gZ g2Y g2Z : Bool} (h : relK (lY, gY) (lZ, gZ)) (h' : relK (l2Y, g2Y) (l2Z, g2Z)) (hn : (nkeys lY).Nodup) (hn2 : (nkeys l2Y).Nodup) (hP : ∀ y ∈ nkeys lY, y < P) (hP2 : ∀ y ∈ nkeys l2Y, y < P) (hs : csrt lZ) (hlZ : lZ.length ≤ min P 300) : relK (yK lY gY l2Y g2Y) (cPutk (min P 300) lZ (gZ || g2Z) l2Z l2Z.length) := by
  obtain ⟨h1, h2⟩ := h
  obtain ⟨h3, h4⟩ := h'
  simp only [] at h1 h2 h3 h4
  subst h1
  subst h3
  rw [yK_eq hn]
  unfold cPutk
  rw [List.take_length]
  by_cases hg : gY = true ∨ g2Y = true
  · rw [if_pos hg, show (gY || g2Y) = true by simp [hg]]
    have e2 : ∀ l3 : Cnt, l3.foldl (cF (min P 300)) (lZ, true) = (lZ, true) := by
      intro l3
      induction l3 with
      | nil => rfl
      | cons d l3 ih => rw [List.foldl_cons]; exact ih
    rw [e2]
    exact ⟨rfl, fun h9 => by cases h9⟩
  · have hg1 : gY = false := by cases gY with | true => exact absurd (Or.inl rfl) hg | false => rfl
    have hg2 : g2Y = false := by cases g2Y with | true => exact absurd (Or.inr rfl) hg | false => rfl
    subst hg1
    subst hg2
    rw [if_neg hg]
    have hpp := cFold_perm (h4 rfl) hn2 (h2 rfl)
    have hlen := hpp.length_eq
    have hnf := cFold_nodup l2Y hn
    have hPf : (cFold lY l2Y).length ≤ P := by
      have := key_len hnf (fun y hy => (cFold_keys l2Y lY y hy).elim (hP y) (hP2 y))
      rwa [nkeys_len] at this
    rcases cFoldZ (room := min P 300) l2Z hs hlZ with ⟨q1, q2⟩ | ⟨q1, q2⟩
    · have hle2 : (cFold lZ l2Z).length ≤ 300 ∨ 300 < (cFold lZ l2Z).length := by omega
      rcases hle2 with h9 | h9
      · rw [if_neg (by omega)]
        exact ⟨q1.symm, fun _ => hpp.trans q2.symm⟩
      · exfalso
        have h8 := cFoldZ_len (room := min P 300) l2Z hs hlZ q1
        omega
    · rw [if_pos (by omega)]
      exact ⟨q1.symm, fun h9 => by cases h9⟩
