def RelY (Y Z : Nat → Str) : Prop := ∀ k, k < 4 → relS (Y k) (Z k)
theorem iin_ix {x : Int32} {n : Nat} (h : iin x n = true) (hn : n < 2 ^ 31) : ix x < n := by
  obtain ⟨s, hs, rfl⟩ := iin_of h hn
  rw [ix_nI (by omega)]
  exact hs
theorem t_total {Y Z : Nat → Str} (hr : RelY Y Z) (x1 : Int32) : oTotal Z x1 = oTotal Y x1 := by
  unfold oTotal
  by_cases h : iin x1 4 = true
  · rw [if_pos h, if_pos h, (hr _ (iin_ix h (by decide))).1]
  · rw [if_neg h, if_neg h]
theorem k_rel {P W R lim : Nat} {A B : Nat → Nat} {Y Z : Str} (hr : relS Y Z) (q x : Nat) : kLow P W R A B lim Z q x = kLow P W R A B lim Y q x ∧ kHigh P W R A B lim Z q x = kHigh P W R A B lim Y q x ∧ kGuess P W R A B lim Z q x = kGuess P W R A B lim Y q x := by
  obtain ⟨r1, r2, r3, r4, r5, r6, r7⟩ := hr
  have e1 : ∀ q, kLow P W R A B lim Z q x = kLow P W R A B lim Y q x := fun q => by unfold kLow; rw [r4, r6]
  have e2 : ∀ q, kHigh P W R A B lim Z q x = kHigh P W R A B lim Y q x := fun q => by unfold kHigh; rw [r2, r3, r4, r5, r6]
  refine ⟨e1 q, e2 q, ?_⟩
  unfold kGuess
  rw [e1, e2, r2, r3, r4, r6]
theorem t_est {P W R lim : Nat} {A B : Nat → Nat} {Y Z : Nat → Str} (hr : RelY Y Z) (x1 x2 x3 x4 : Int32) : oEst P W R A B lim Z x1 x2 x3 x4 = oEst P W R A B lim Y x1 x2 x3 x4 := by
  unfold oEst
  by_cases h : iin x1 4 = true
  · obtain ⟨e1, e2, e3⟩ := k_rel (P := P) (W := W) (R := R) (A := A) (B := B) (lim := lim) (hr _ (iin_ix h (by decide))) (ix x2) (ix x3)
    rw [if_pos h, if_pos h, e1, e2, e3]
  · rw [if_neg h, if_neg h]
theorem nNum_of {l : Cnt} {x : Nat} {c : Nat × Nat} (hn : (nkeys l).Nodup) (hc : c ∈ l) (hx : c.1 = x) : nNum l x = c.2 := by
  unfold nNum
  obtain ⟨i, hi⟩ := lix_mem (show x ∈ nkeys l by rw [← hx]; exact mem_nkeys hc)
  obtain ⟨h1, h2⟩ := lix_some hi
  obtain ⟨d, h3, h4⟩ := nkeys_get h1
  rw [hi]
  simp only []
  rw [h3]
  simp only []
  obtain ⟨j, hj⟩ := List.getElem?_of_mem hc
  have e1 : (nkeys l)[j]? = some c.1 := by unfold nkeys; rw [List.getElem?_map, hj]; rfl
  rw [hx] at e1
  have := (List.getElem?_inj (by rw [nkeys_len]; exact (List.getElem?_eq_some_iff.mp hj).1) hn).mp (e1.trans h1.symm)
  subst this
  rw [hj] at h3
  cases h3
  rfl
theorem nNum_no {l : Cnt} {x : Nat} (h : x ∉ nkeys l) : nNum l x = 0 := by unfold nNum; rw [lix_not h]
theorem cNum_of {l : Cnt} {x : Nat} {c : Nat × Nat} (hs : csrt l) (hc : c ∈ l) (hx : c.1 = x) : cNum l x = c.2 := by
  have h1 := (cAt_iff hs x).mpr (show x ∈ nkeys l by rw [← hx]; exact mem_nkeys hc)
  obtain ⟨d, h2, h3⟩ := cAt_true h1
  unfold cNum
  rw [h2]
  simp only []
  rw [if_pos h3]
  obtain ⟨j, hj⟩ := List.getElem?_of_mem hc
  have e1 : (nkeys l)[j]? = some x := by unfold nkeys; rw [List.getElem?_map, hj]; exact congrArg some hx
  have e2 : (nkeys l)[cPl l x]? = some x := by unfold nkeys; rw [List.getElem?_map, h2]; exact congrArg some h3
  have := (List.getElem?_inj (by rw [nkeys_len]; exact (List.getElem?_eq_some_iff.mp hj).1) (csrt_nodup hs)).mp (e1.trans e2.symm)
  subst this
  rw [hj] at h2
  cases h2
  rfl
theorem cNum_no {l : Cnt} {x : Nat} (hs : csrt l) (h : x ∉ nkeys l) : cNum l x = 0 := by
  unfold cNum
  cases hc9 : l[cPl l x]? with
  | none => rfl
  | some c =>
    simp only []
    rw [if_neg (fun e => h (by rw [← e]; exact mem_nkeys (List.mem_of_getElem? hc9)))]
theorem num_eq {lY lZ : Cnt} (hp : lY.Perm lZ) (hn : (nkeys lY).Nodup) (hs : csrt lZ) (x : Nat) : cNum lZ x = nNum lY x := by
  by_cases h : x ∈ nkeys lY
  · obtain ⟨c, h1, h2⟩ := List.mem_map.mp h
    rw [nNum_of hn h1 h2, cNum_of hs (hp.mem_iff.mp h1) h2]
  · rw [nNum_no h, cNum_no hs (fun h9 => h ((nkeys_perm hp).mem_iff.mpr h9))]
theorem t_count {lim P : Nat} {Y Z : Nat → Str} (hr : RelY Y Z) (hw : ∀ k, k < 4 → wfS lim P (Y k)) (hz : ∀ k, k < 4 → (zK (Z k)).length ≤ min P 300 ∧ csrt (zK (Z k))) (x1 x2 : Int32) : oCount P Z x1 x2 = yCount P Y x1 x2 := by
  unfold oCount yCount
  by_cases h : iin x1 4 = true
  · have hk := iin_ix h (by decide)
    obtain ⟨r1, r2, r3, r4, r5, r6, r7, r8⟩ := hr _ hk
    simp only [] at r7 r8
    rw [if_pos h, if_pos h, ← r7]
    by_cases hg : zG (Y (ix x1)) = false
    · rw [if_pos hg, if_pos hg, num_eq (r8 hg) (hw _ hk).2.2.2.2 (hz _ hk).2]
    · rw [if_neg hg, if_neg hg]
  · rw [if_neg h, if_neg h]
theorem t_cell {W R : Nat} {Y Z : Nat → Str} (hr : RelY Y Z) (x1 x2 x3 x4 : Int32) : oCell W R Z x1 x2 x3 x4 = oCell W R Y x1 x2 x3 x4 := by
  unfold oCell
  by_cases h : iin x1 4 = true
  · obtain ⟨r1, r2, r3, r4, r5, r6, r7⟩ := hr _ (iin_ix h (by decide))
    rw [if_pos h, if_pos h, r2, r3]
  · rw [if_neg h, if_neg h]
theorem t_counter {Y Z : Nat → Str} (hr : RelY Y Z) (x1 x2 x3 x4 : Int32) : oCounter Z x1 x2 x3 x4 = oCounter Y x1 x2 x3 x4 := by
  unfold oCounter
  by_cases h : iin x1 4 = true
  · obtain ⟨r1, r2, r3, r4, r5, r6, r7⟩ := hr _ (iin_ix h (by decide))
    rw [if_pos h, if_pos h, r4, r6]
  · rw [if_neg h, if_neg h]
theorem t_state {lim : Nat} {Y Z : Nat → Str} (hr : RelY Y Z) (x1 x2 : Int32) : oState lim Z x1 x2 = oState lim Y x1 x2 := by
  unfold oState
  by_cases h : iin x1 4 = true
  · obtain ⟨r1, r2, r3, r4, r5, r6, r7, r8⟩ := hr _ (iin_ix h (by decide))
    simp only [] at r7 r8
    rw [if_pos h, if_pos h, r4, r5, r6, ← r7]
    by_cases hg : zG (Y (ix x1)) = true
    · rw [if_pos hg, if_pos hg]
    · have hg2 : zG (Y (ix x1)) = false := by simpa using hg
      rw [if_neg hg, if_neg hg, (r8 hg2).length_eq]
  · rw [if_neg h, if_neg h]
theorem all_perm {α : Type} {p : α → Bool} {l l2 : List α} (h : l.Perm l2) : l.all p = l2.all p := by
  cases h1 : l2.all p with
  | true =>
    rw [List.all_eq_true] at h1 ⊢
    exact fun x hx => h1 x (h.mem_iff.mp hx)
  | false =>
    rw [List.all_eq_false] at h1 ⊢
    obtain ⟨x, h2, h3⟩ := h1
    exact ⟨x, h.mem_iff.mpr h2, h3⟩
theorem t_audit {P W R lim : Nat} {A B : Nat → Nat} {Y Z : Nat → Str} (hr : RelY Y Z) (x1 : Int32) : oAudit P W R A B lim Z x1 = oAudit P W R A B lim Y x1 := by
  unfold oAudit
  by_cases h : iin x1 4 = true
  · obtain ⟨r1, r2, r3, r4, r5, r6, r7, r8⟩ := hr _ (iin_ix h (by decide))
    simp only [] at r7 r8
    rw [if_pos h, if_pos h, ← r7]
    by_cases hg : zG (Y (ix x1)) = true
    · rw [if_pos hg, if_pos hg]
    · have hg2 : zG (Y (ix x1)) = false := by simpa using hg
      rw [if_neg hg, if_neg hg]
      have hp := r8 hg2
      unfold sAudit holdsC carC
      rw [← all_perm hp, ← all_perm hp, ← all_perm hp, ← all_perm hp, ← all_perm hp, ← cSum_perm hp, r1, r2, r3, r4, r5, r6]
  · rw [if_neg h, if_neg h]
theorem rFold_room {val : Nat → Int64} {bar : Int64} {r1 r2 : Nat} : ∀ k, k ≤ r1 → k ≤ r2 → rFold val bar r1 k = rFold val bar r2 k ∧ (rFold val bar r1 k).2.length ≤ k
  | 0, _, _ => ⟨rfl, Nat.le_refl _⟩
  | k + 1, h1, h2 => by
    obtain ⟨e1, e2⟩ := rFold_room (val := val) (bar := bar) (r1 := r1) (r2 := r2) k (by omega) (by omega)
    have e3 := e2
    rw [e1] at e3
    unfold rFold
    by_cases h : bar < val k
    · rw [if_pos h, if_pos h]
      unfold rOffer
      rw [if_neg (by omega), if_neg (by omega), e1]
      refine ⟨rfl, ?_⟩
      show (rIns _ _).length ≤ _
      unfold rIns
      rw [List.length_insertIdx_of_le_length (rPos_le _ _ _)]
      omega
    · rw [if_neg h, if_neg h, e1]
      exact ⟨rfl, by omega⟩
theorem t_report {P W R lim : Nat} {A B : Nat → Nat} {Y Z : Nat → Str} (hr : RelY Y Z) (rl : Rnk) (x1 x2 x3 : Int32) (sure : Bool) : oRepR P W R A B lim (min P 300) Z rl x1 x2 x3 sure = oRepR P W R A B lim 300 Y rl x1 x2 x3 sure := by
  unfold oRepR
  by_cases h : oRepOk x1 x2 x3 = true
  · have h1 : iin x1 4 = true := by unfold oRepOk at h; simp only [Bool.and_eq_true] at h; exact h.1.1
    have hk := hr _ (iin_ix h1 (by decide))
    have e1 : oRepVal P W R A B lim (Z (ix x1)) (ix x2) sure = oRepVal P W R A B lim (Y (ix x1)) (ix x2) sure := by
      funext x
      unfold oRepVal
      rw [(k_rel hk _ x).1, (k_rel hk _ x).2.1]
    have e2 : oRep P W R A B lim (min P 300) Z x1 x2 x3 sure = oRep P W R A B lim 300 Y x1 x2 x3 sure := by
      unfold oRep
      rw [e1, hk.1]
      rcases Nat.lt_or_ge P 300 with q | q
      · exact (rFold_room P (by omega) (by omega)).1
      · rw [Nat.min_eq_right q]
    rw [if_pos h, if_pos h, e2]
  · rw [if_neg h, if_neg h]
theorem t_pair {P R : Nat} {Y Z : Nat → Str} (hr : RelY Y Z) (x1 x2 x3 : Int32) : oPairOk P R Z x1 x2 x3 = oPairOk P R Y x1 x2 x3 := by
  unfold oPairOk zEmp
  rw [(hr 0 (by decide)).1, (hr 1 (by decide)).1, (hr 2 (by decide)).1, (hr 3 (by decide)).1]
theorem t_pairA {P R : Nat} {A : Nat → Nat} {Y Z : Nat → Str} (hr : RelY Y Z) (x1 x2 x3 y : Int32) : oPairA P R A Z x1 x2 x3 y = oPairA P R A Y x1 x2 x3 y := by
  unfold oPairA
  rw [t_pair hr]
theorem RelY_fu {Y Z : Nat → Str} (hr : RelY Y Z) {s : Nat} {a b : Str} (h : relS a b) : RelY (fu Y s a) (fu Z s b) := by
  intro k hk
  by_cases q9 : k = s
  · subst q9; rw [fu_self, fu_self]; exact h
  · rw [fu_ne _ _ q9, fu_ne _ _ q9]; exact hr k hk
theorem okY_fu {W R : Nat} {Y : Nat → Str} (ho : ∀ k, k < 4 → okY W R (Y k)) {s : Nat} {a : Str} (h : okY W R a) : ∀ k, k < 4 → okY W R (fu Y s a k) := by
  intro k hk
  by_cases q9 : k = s
  · subst q9; rw [fu_self]; exact h
  · rw [fu_ne _ _ q9]; exact ho k hk
theorem t_add {P W R lim : Nat} {A B : Nat → Nat} {Y Z : Nat → Str} (hr : RelY Y Z) (ho : ∀ k, k < 4 → okY W R (Y k)) (hw : ∀ k, k < 4 → wfS lim P (Y k)) (hlim : 1 ≤ lim) (hW : 0 < W) (hR : 0 < R) (hP : P < 2 ^ 31) (hz : ∀ k, k < 4 → (zK (Z k)).length ≤ min P 300 ∧ csrt (zK (Z k))) (x1 x2 x3 : Int32) : (oAdd P W R A B lim Z x1 x2 x3).1 = (yAdd P W R A B lim Y x1 x2 x3).1 ∧ RelY (yAdd P W R A B lim Y x1 x2 x3).2 (oAdd P W R A B lim Z x1 x2 x3).2 ∧ ∀ k, k < 4 → okY W R ((yAdd P W R A B lim Y x1 x2 x3).2 k) := by
  unfold oAdd yAdd
  by_cases h1 : iin x1 4 = true
  · by_cases h2 : iin x2 P = true
    · by_cases h3 : itm x3 1000 = true
      · have hk := iin_ix h1 (by decide)
        obtain ⟨t, ht1, ht2, rfl⟩ := itm_of h3 (by decide)
        have htx : ix (nI t) = t := ix_nI (by omega)
        have hrk := hr _ hk
        rw [if_pos h1, if_pos h1, if_pos h2, if_pos h2, if_pos h3, if_pos h3, htx, ← hrk.1]
        by_cases h4 : zN (Y (ix x1)) + t ≤ N15
        · rw [if_pos h4, if_pos h4]
          obtain ⟨k, rfl⟩ : ∃ k, t = k + 1 := ⟨t - 1, by omega⟩
          exact ⟨rfl, RelY_fu hr (relS_add hrk (ho _ hk) (hw _ hk) hlim (hz _ hk).2 (iin_ix h2 hP)), okY_fu ho (okY_add (ho _ hk) (hw _ hk) hW hR h4)⟩
        · rw [if_neg h4, if_neg h4]; exact ⟨rfl, hr, ho⟩
      · rw [if_pos h1, if_pos h1, if_pos h2, if_pos h2, if_neg h3, if_neg h3]; exact ⟨rfl, hr, ho⟩
    · rw [if_pos h1, if_pos h1, if_neg h2, if_neg h2]; exact ⟨rfl, hr, ho⟩
  · rw [if_neg h1, if_neg h1]; exact ⟨rfl, hr, ho⟩
theorem t_clear {W R : Nat} {Y Z : Nat → Str} (hr : RelY Y Z) (ho : ∀ k, k < 4 → okY W R (Y k)) (x1 : Int32) : (oClear Z x1).1 = (yClear Y x1).1 ∧ RelY (yClear Y x1).2 (oClear Z x1).2 ∧ ∀ k, k < 4 → okY W R ((yClear Y x1).2 k) := by
  unfold oClear yClear
  by_cases h1 : iin x1 4 = true
  · rw [if_pos h1, if_pos h1]; exact ⟨rfl, RelY_fu hr relS_empty, okY_fu ho okY_empty⟩
  · rw [if_neg h1, if_neg h1]; exact ⟨rfl, hr, ho⟩
theorem t_copy {W R : Nat} {Y Z : Nat → Str} (hr : RelY Y Z) (ho : ∀ k, k < 4 → okY W R (Y k)) (x1 x2 : Int32) : (oCopy Z x1 x2).1 = (yCopy Y x1 x2).1 ∧ RelY (yCopy Y x1 x2).2 (oCopy Z x1 x2).2 ∧ ∀ k, k < 4 → okY W R ((yCopy Y x1 x2).2 k) := by
  unfold oCopy yCopy
  by_cases h1 : iin x1 4 = true
  · by_cases h2 : iin x2 4 = true
    · rw [if_pos h1, if_pos h1, if_pos h2, if_pos h2]
      exact ⟨rfl, RelY_fu hr (hr _ (iin_ix h2 (by decide))), okY_fu ho (ho _ (iin_ix h2 (by decide)))⟩
    · rw [if_pos h1, if_pos h1, if_neg h2, if_neg h2]; exact ⟨rfl, hr, ho⟩
  · rw [if_neg h1, if_neg h1]; exact ⟨rfl, hr, ho⟩
theorem t_joinOk {Y Z : Nat → Str} (hr : RelY Y Z) (x1 x2 : Int32) : oJoinOk Z x1 x2 = oJoinOk Y x1 x2 := by
  unfold oJoinOk
  by_cases h1 : iin x1 4 = true
  · by_cases h2 : iin x2 4 = true
    · rw [(hr _ (iin_ix h1 (by decide))).1, (hr _ (iin_ix h2 (by decide))).1]
    · have e1 : iin x2 4 = false := by simpa using h2
      rw [e1]
      simp
  · have e1 : iin x1 4 = false := by simpa using h1
    rw [e1]
    simp
