theorem gm_max (f : Nat → Nat) (K : Nat) : ∀ n, gm (fun r => max (f r) K) n = max (gm f n) K
  | 0 => rfl
  | n + 1 => by
    show min (gm (fun r => max (f r) K) n) (max (f (n + 1)) K) = max (min (gm f n) (f (n + 1))) K
    rw [gm_max f K n]
    omega
theorem gm_cg {f g : Nat → Nat} : ∀ n, (∀ r, r ≤ n → f r = g r) → gm f n = gm g n
  | 0, h => h 0 (Nat.le_refl _)
  | n + 1, h => by
    show min (gm f n) (f (n + 1)) = min (gm g n) (g (n + 1))
    rw [gm_cg n (fun r hr => h r (by omega)), h (n + 1) (Nat.le_refl _)]
theorem gTake_plain {hf : Nat → Nat} {g g2 k : Nat} {D : Nat → Nat → Nat} : gTake false hf g2 1 (gTake false hf g k D) = gTake false hf g (k + 1) D := by
  funext r c
  unfold gTake
  by_cases h : c = hf r
  · simp only [if_pos h]; show D r c + k + 1 = D r c + (k + 1); omega
  · simp only [if_neg h]
theorem gEst_take {P W R : Nat} {A B : Nat → Nat} {D : Nat → Nat → Nat} {x k : Nat} : gEst P W R A B (gTake true (fun r => hsh P W (A r) (B r) x) (gEst P W R A B D x) k D) x = gEst P W R A B D x + k := by
  have e1 : gEst P W R A B (gTake true (fun r => hsh P W (A r) (B r) x) (gEst P W R A B D x) k D) x = gm (fun r => max (D r (hsh P W (A r) (B r) x)) (gEst P W R A B D x + k)) (R - 1) := by
    unfold gEst
    apply gm_cg
    intro r _
    unfold gTake
    rw [if_pos rfl]
    rfl
  rw [e1, gm_max]
  unfold gEst
  omega
theorem gTake_care {P W R : Nat} {A B : Nat → Nat} {D : Nat → Nat → Nat} {x k : Nat} : gTake true (fun r => hsh P W (A r) (B r) x) (gEst P W R A B (gTake true (fun r => hsh P W (A r) (B r) x) (gEst P W R A B D x) k D) x) 1 (gTake true (fun r => hsh P W (A r) (B r) x) (gEst P W R A B D x) k D) = gTake true (fun r => hsh P W (A r) (B r) x) (gEst P W R A B D x) (k + 1) D := by
  rw [gEst_take]
  funext r c
  unfold gTake
  by_cases h : c = hsh P W (A r) (B r) x
  · simp only [if_pos h, if_true]; omega
  · simp only [if_neg h]
theorem yIter_P {P W R : Nat} {A B : Nat → Nat} {lim : Nat} {S : Str} {x : Nat} : ∀ k, zP (yIter P W R A B lim S x (k + 1)) = gTake false (fun r => hsh P W (A r) (B r) x) (gEst P W R A B (zP S) x) (k + 1) (zP S)
  | 0 => rfl
  | k + 1 => by
    show gTake false _ _ 1 (zP (yIter P W R A B lim S x (k + 1))) = _
    rw [yIter_P k, gTake_plain]
theorem yIter_C {P W R : Nat} {A B : Nat → Nat} {lim : Nat} {S : Str} {x : Nat} : ∀ k, zC (yIter P W R A B lim S x (k + 1)) = gTake true (fun r => hsh P W (A r) (B r) x) (gEst P W R A B (zC S) x) (k + 1) (zC S)
  | 0 => rfl
  | k + 1 => by
    show gTake true _ (gEst P W R A B (zC (yIter P W R A B lim S x (k + 1))) x) 1 (zC (yIter P W R A B lim S x (k + 1))) = _
    rw [yIter_C k, gTake_care]
/-! the rank-th greatest -/
theorem nbl_succ (l : Ctr) (v : Nat) : nbl l (v + 1) = abv l v := by
  unfold nbl abv
  rfl
theorem nbl_zero (l : Ctr) : nbl l 0 = l.length := by
  unfold nbl
  rw [List.countP_eq_length]
  intro c _
  simp
theorem rank_ex {l : Ctr} {rk : Nat} (h1 : rk ≤ l.length) : ∀ N, nbl l N < rk → ∃ v, abv l v < rk ∧ rk ≤ nbl l v
  | 0, h => by rw [nbl_zero] at h; omega
  | N + 1, h => by
    by_cases h2 : nbl l N < rk
    · exact rank_ex h1 N h2
    · exact ⟨N, by rw [← nbl_succ]; exact h, by omega⟩
theorem big_ex (l : Ctr) : ∃ N, nbl l N = 0 := by
  induction l with
  | nil => exact ⟨0, rfl⟩
  | cons c l ih =>
    obtain ⟨N, hN⟩ := ih
    refine ⟨max N (c.2.1 + 1), ?_⟩
    have h2 : nbl l (max N (c.2.1 + 1)) ≤ nbl l N := by
      unfold nbl
      apply List.countP_mono_left
      intro d _ hd9
      simp only [decide_eq_true_eq] at hd9 ⊢
      omega
    unfold nbl at h2 hN ⊢
    rw [List.countP_cons, if_neg (by simp only [decide_eq_true_eq]; omega)]
    omega
theorem grt_spec {l : Ctr} {rk : Nat} (h0 : 1 ≤ rk) (h1 : rk ≤ l.length) : (∃ c ∈ l, c.2.1 = grt l rk) ∧ abv l (grt l rk) < rk ∧ rk ≤ nbl l (grt l rk) := by
  obtain ⟨N, hN⟩ := big_ex l
  obtain ⟨v, h2, h3⟩ := rank_ex h1 N (by omega)
  have h4 := abv_lke l v
  have h5 : 0 < lke l v := by omega
  unfold lke at h5
  obtain ⟨c, hc1, hc2⟩ := List.countP_pos_iff.mp h5
  have hc3 := of_decide_eq_true hc2
  unfold grt
  cases hf : l.find? (fun c => decide (abv l c.2.1 < rk ∧ rk ≤ nbl l c.2.1)) with
  | none =>
    have h6 := List.find?_eq_none.mp hf c hc1
    simp only [decide_eq_true_eq] at h6
    rw [hc3] at h6
    exact absurd ⟨h2, h3⟩ h6
  | some d =>
    have h6 := List.find?_some hf
    have h7 := of_decide_eq_true h6
    exact ⟨⟨d, List.mem_of_find?_eq_some hf, rfl⟩, h7⟩
theorem mSub_lenA (l : Ctr) (r : Nat) : (mSub l r).length = abv l r := by
  unfold mSub abv
  rw [List.length_map, List.countP_eq_length_filter]
theorem grt_min {l : Ctr} (h : 1 ≤ l.length) : ∀ c ∈ l, grt l l.length ≤ c.2.1 := by
  obtain ⟨-, -, h3⟩ := grt_spec (rk := l.length) h (Nat.le_refl _)
  have h4 : nbl l (grt l l.length) = l.length := Nat.le_antisymm List.countP_le_length h3
  unfold nbl at h4
  rw [List.countP_eq_length] at h4
  intro c hc9
  have := h4 c hc9
  simpa using this
/-! Misra: one by one -/
theorem mSub_mSub (l : Ctr) (a b : Nat) : mSub (mSub l a) b = mSub l (a + b) := by
  induction l with
  | nil => rfl
  | cons c l ih =>
    rw [mSub_cons, mSub_cons (r := a + b)]
    by_cases h : a < c.2.1
    · rw [if_pos h, mSub_cons, ih]
      by_cases h2 : b < c.2.1 - a
      · rw [if_pos h2, if_pos (by omega), Nat.sub_sub]
      · rw [if_neg h2, if_neg (by omega)]
    · rw [if_neg h, if_neg (by omega), ih]
theorem kix_nset {l : Ctr} {x i v : Nat} (h : kix l x = some i) : kix (nset l i v) x = some i := by
  rw [← lix_kix, nset_keys, lix_kix]; exact h
theorem numOf_nset {l : Ctr} {x i v : Nat} (h : kix l x = some i) : numOf (nset l i v) x = v := by
  obtain ⟨c, h1, h2, h3⟩ := kix_some h
  refine numOf_some (c := (c.1, v, c.2.2)) (kix_nset h) ?_
  rw [nset_get, if_pos rfl, h1]
  rfl
theorem nset_nset {l : Ctr} {i v w : Nat} : nset (nset l i v) i w = nset l i w := by
  apply List.ext_getElem?
  intro j
  rw [nset_get, nset_get]
  by_cases h : j = i
  · rw [if_pos h, if_pos rfl, nset_get, if_pos h]
    cases l[i]? with
    | none => rfl
    | some c => rfl
  · rw [if_neg h, nset_get, nset_get, if_neg h, if_neg h]
def mIter (lim x : Nat) (p : Ctr × Nat) : Nat → Ctr × Nat
  | 0 => p
  | k + 1 => mStep lim (mIter lim x p k).1 (mIter lim x p k).2 x
theorem yIter_M {P W R : Nat} {A B : Nat → Nat} {lim : Nat} {S : Str} {x : Nat} : ∀ k, (zM (yIter P W R A B lim S x k), zT (yIter P W R A B lim S x k)) = mIter lim x (zM S, zT S) k
  | 0 => rfl
  | k + 1 => by
    show ((mStep lim (zM (yIter P W R A B lim S x k)) (zT (yIter P W R A B lim S x k)) x).1, (mStep lim (zM (yIter P W R A B lim S x k)) (zT (yIter P W R A B lim S x k)) x).2) = _
    rw [mIter, ← yIter_M k]
theorem mIter_add (lim x : Nat) (p : Ctr × Nat) (a : Nat) : ∀ b, mIter lim x p (a + b) = mIter lim x (mIter lim x p a) b
  | 0 => rfl
  | b + 1 => by
    show mStep lim (mIter lim x p (a + b)).1 (mIter lim x p (a + b)).2 x = _
    rw [mIter_add lim x p a b]
    rfl
theorem mIter_in {lim x i : Nat} {l : Ctr} {tk : Nat} (h : kix l x = some i) : ∀ k, mIter lim x (l, tk) k = (nset l i (numOf l x + k), tk)
  | 0 => by
    obtain ⟨c, h1, h2, h3⟩ := kix_some h
    show (l, tk) = _
    rw [Nat.add_zero, numOf_some h h1]
    congr 1
    apply List.ext_getElem?
    intro j
    rw [nset_get]
    by_cases hj : j = i
    · rw [if_pos hj, hj, h1]; rfl
    · rw [if_neg hj]
  | k + 1 => by
    rw [mIter, mIter_in h k]
    unfold mStep
    simp only []
    rw [kix_nset h]
    simp only []
    rw [numOf_nset h, nset_nset, Nat.add_assoc]
theorem kix_app {l : Ctr} {x n e : Nat} (h : kix l x = none) : kix (l ++ [(x, n, e)]) x = some l.length := by
  refine kix_is (c := (x, n, e)) (by rw [List.getElem?_append_right (Nat.le_refl _), Nat.sub_self]; rfl) rfl (fun j c hj hc9 => ?_)
  rw [List.getElem?_append_left hj] at hc9
  exact kix_none h c (List.mem_of_getElem? hc9)
theorem nset_app {l : Ctr} {x n e v : Nat} : nset (l ++ [(x, n, e)]) l.length v = l ++ [(x, v, e)] := by
  unfold nset
  rw [List.getElem?_append_right (Nat.le_refl _), Nat.sub_self]
  simp only [List.getElem?_cons_zero]
  rw [List.set_append_right _ _ (Nat.le_refl _), Nat.sub_self]
  rfl
theorem mIter_new {lim x : Nat} {l : Ctr} {tk : Nat} (h : kix l x = none) (hl : l.length < lim) (k : Nat) : mIter lim x (l, tk) (k + 1) = (l ++ [(x, k + 1, 0)], tk) := by
  have e1 : mIter lim x (l, tk) 1 = (l ++ [(x, 1, 0)], tk) := by
    show mStep lim l tk x = _
    unfold mStep
    rw [h]
    simp only []
    rw [if_pos hl]
  rw [Nat.add_comm k 1, mIter_add, e1, mIter_in (kix_app h), nset_app]
  have e2 : numOf (l ++ [(x, 1, 0)]) x = 1 := numOf_some (c := (x, 1, 0)) (kix_app h) (by rw [List.getElem?_append_right (Nat.le_refl _), Nat.sub_self]; rfl)
  rw [e2]
theorem kix_mSub {l : Ctr} {x r : Nat} (h : kix l x = none) : kix (mSub l r) x = none := kix_no (fun c hc9 => by
  obtain ⟨d, h1, h2, -⟩ := mSub_key hc9
  rw [← h2]
  exact kix_none h d h1)
theorem mSub_full {l : Ctr} {r : Nat} (h : ∀ c ∈ l, r < c.2.1) : (mSub l r).length = l.length := by
  rw [mSub_lenA]
  unfold abv
  rw [List.countP_eq_length]
  intro c hc9
  simpa using h c hc9
theorem mIter_less {lim x : Nat} {l : Ctr} {tk : Nat} (h : kix l x = none) (hl : lim ≤ l.length) (hp : ∀ c ∈ l, 1 ≤ c.2.1) : ∀ k, (∀ c ∈ l, k ≤ c.2.1) → mIter lim x (l, tk) k = (mSub l k, tk + k)
  | 0, _ => by rw [mSub_zero hp]; rfl
  | k + 1, hk => by
    rw [mIter, mIter_less h hl hp k (fun c hc9 => by have := hk c hc9; omega)]
    unfold mStep
    rw [kix_mSub h]
    simp only []
    rw [if_neg (by rw [mSub_full (fun c hc9 => by have := hk c hc9; omega)]; omega), mSub_mSub, Nat.add_assoc]
theorem mIter_all {lim x : Nat} {l : Ctr} {tk : Nat} (hlim : 1 ≤ lim) (hl : l.length ≤ lim) (hp : ∀ c ∈ l, 1 ≤ c.2.1) (k : Nat) : mIter lim x (l, tk) (k + 1) = mTake lim l tk x (k + 1) := by
  unfold mTake
  cases h : kix l x with
  | some i => exact mIter_in h (k + 1)
  | none =>
    simp only []
    by_cases hf : l.length < lim
    · rw [if_pos hf]; exact mIter_new h hf k
    · rw [if_neg hf]
      have hmin := grt_min (l := l) (by omega)
      obtain ⟨⟨c, hc1, hc2⟩, h3, h4⟩ := grt_spec (l := l) (rk := l.length) (by omega) (Nat.le_refl _)
      unfold mRnd
      generalize grt l l.length = g at hmin hc2 h3 h4
      by_cases hk : k + 1 ≤ g
      · rw [Nat.min_eq_right hk, if_neg (by omega)]
        exact mIter_less h (by omega) hp (k + 1) (fun c hc9 => by have := hmin c hc9; omega)
      · rw [Nat.min_eq_left (by omega), if_pos (by omega)]
        obtain ⟨d, hd9⟩ : ∃ d, k + 1 = g + (d + 1) := ⟨k - g, by omega⟩
        rw [hd9, mIter_add, mIter_less h (by omega) hp g hmin]
        rw [mIter_new (kix_mSub h) (by rw [mSub_lenA]; omega) d]
        rw [show g + (d + 1) - g = d + 1 by omega]
/-! Saving: one by one -/
theorem kix_sIns {l : Ctr} {x n e : Nat} (h : ∀ c ∈ l, c.1 ≠ x) : kix (sIns l x n e) x = some (sPb l n) := by
  unfold sIns
  have hp := sPb_le l n
  refine kix_is (c := (x, n, e)) ?_ rfl (fun j c hj hc9 => ?_)
  · rw [List.getElem?_insertIdx, if_neg (Nat.lt_irrefl _), if_pos rfl, if_pos hp]
  · rw [List.getElem?_insertIdx, if_pos hj] at hc9
    exact h c (List.mem_of_getElem? hc9)
theorem sIns_at {l : Ctr} {x n e : Nat} : (sIns l x n e)[sPb l n]? = some (x, n, e) := by
  unfold sIns
  rw [List.getElem?_insertIdx, if_neg (Nat.lt_irrefl _), if_pos rfl, if_pos (sPb_le l n)]
theorem sTake_sIns {lim : Nat} {l : Ctr} {x n e t : Nat} (h : ∀ c ∈ l, c.1 ≠ x) : sTake lim (sIns l x n e) x t = sIns l x (n + t) e := by
  have hk := kix_sIns (n := n) (e := e) h
  unfold sTake
  rw [hk]
  simp only []
  rw [sEst_some hk sIns_at, sErr_some hk sIns_at]
  congr 1
  unfold sIns
  exact List.eraseIdx_insertIdx_self _
def sIter (lim x : Nat) (l : Ctr) : Nat → Ctr
  | 0 => l
  | k + 1 => sTake lim (sIter lim x l k) x 1
theorem yIter_S {P W R : Nat} {A B : Nat → Nat} {lim : Nat} {S : Str} {x : Nat} : ∀ k, zS (yIter P W R A B lim S x k) = sIter lim x (zS S) k
  | 0 => rfl
  | k + 1 => by
    show sTake lim (zS (yIter P W R A B lim S x k)) x 1 = _
    rw [yIter_S k]
    rfl
theorem sTake_form {lim : Nat} {l : Ctr} {x : Nat} (hn : (ckeys l).Nodup) : ∃ (l2 : Ctr) (n0 e0 : Nat), (∀ c ∈ l2, c.1 ≠ x) ∧ ∀ t, sTake lim l x t = sIns l2 x (n0 + t) e0 := by
  unfold sTake
  cases h : kix l x with
  | some i =>
    obtain ⟨c, h1, h2, h3⟩ := kix_some h
    exact ⟨l.eraseIdx i, sEst lim l x, sErr lim l x, fun d hd9 => by rw [← h2]; exact del_notin hn h1 d hd9, fun t => rfl⟩
  | none =>
    simp only []
    by_cases hf : lim ≤ l.length
    · simp only [if_pos hf]
      exact ⟨l.eraseIdx 0, sLeast lim l, sLeast lim l, fun d hd9 => kix_none h d (List.mem_of_mem_eraseIdx hd9), fun t => rfl⟩
    · simp only [if_neg hf]
      exact ⟨l, sLeast lim l, sLeast lim l, kix_none h, fun t => rfl⟩
theorem sIter_all {lim x : Nat} {l : Ctr} (hn : (ckeys l).Nodup) : ∀ k, sIter lim x l (k + 1) = sTake lim l x (k + 1) := by
  obtain ⟨l2, n0, e0, h1, h2⟩ := sTake_form (lim := lim) (x := x) hn
  intro k
  rw [h2]
  induction k with
  | zero => show sTake lim l x 1 = _; rw [h2]
  | succ k ih =>
    rw [sIter, ih, sTake_sIns h1, Nat.add_assoc]
