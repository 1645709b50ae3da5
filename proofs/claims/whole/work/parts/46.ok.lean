def okM (N : Nat) (l : Ctr) (tk : Nat) : Prop := tk ≤ N ∧ ∀ c ∈ l, 1 ≤ c.2.1 ∧ c.2.1 + tk ≤ N ∧ c.2.2 = 0
def okV (N : Nat) (l : Ctr) : Prop := (∀ c ∈ l, c.2.1 ≤ N) ∧ nsrt l
def okD (R W N : Nat) (D : Nat → Nat → Nat) : Prop := ∀ r, r < R → ∀ c, c < W → D r c ≤ N
def okS (W R : Nat) (S : Str) : Prop := zN S ≤ N15 ∧ okD R W (zN S) (zP S) ∧ okD R W (zN S) (zC S) ∧ okM (zN S) (zM S) (zT S) ∧ okV (zN S) (zS S)
theorem gEst_le {P W R N : Nat} {A B : Nat → Nat} {D : Nat → Nat → Nat} (h : okD R W N D) (hW : 0 < W) (hR : 0 < R) (x : Nat) : gEst P W R A B D x ≤ N := Nat.le_of_lt_succ (gm_bd (f := fun r => D r (hsh P W (A r) (B r) x)) (Nat.lt_succ_of_le (h 0 hR _ (hsh_lt hW))) _)
theorem okD_take {W R N g t : Nat} {D : Nat → Nat → Nat} {hf : Nat → Nat} (cf : Bool) (h : okD R W N D) (hg : g ≤ N) : okD R W (N + t) (gTake cf hf g t D) := by
  intro r hr c hc9
  have h1 := h r hr c hc9
  unfold gTake
  cases cf with
  | false =>
    split
    · show D r c + t ≤ N + t; omega
    · omega
  | true =>
    split
    · show max (D r c) (g + t) ≤ N + t; omega
    · omega
theorem nset_mem {l : Ctr} {i v : Nat} {d : Nat × Nat × Nat} (h : d ∈ nset l i v) : d ∈ l ∨ ∃ c, l[i]? = some c ∧ d = (c.1, v, c.2.2) := by
  unfold nset at h
  cases hc9 : l[i]? with
  | none => rw [hc9] at h; exact Or.inl h
  | some c =>
    rw [hc9] at h
    rcases List.mem_or_eq_of_mem_set h with q | q
    · exact Or.inl q
    · exact Or.inr ⟨c, rfl, q⟩
theorem okM_step {lim N tk x : Nat} {l : Ctr} (h : okM N l tk) : okM (N + 1) (mStep lim l tk x).1 (mStep lim l tk x).2 := by
  obtain ⟨h0, h1⟩ := h
  unfold mStep
  cases hk : kix l x with
  | some i =>
    obtain ⟨c, hc1, hc2, hc3⟩ := kix_some hk
    refine ⟨by simp only []; omega, fun d hd => ?_⟩
    rw [numOf_some hk hc1] at hd
    rcases nset_mem hd with q | ⟨c2, q1, q2⟩
    · have := h1 d q; simp only []; omega
    · rw [hc1] at q1
      cases q1
      have := h1 c (List.mem_of_getElem? hc1)
      rw [q2]
      simp only []
      omega
  | none =>
    simp only []
    split
    · refine ⟨by simp only []; omega, fun d hd => ?_⟩
      rcases List.mem_append.mp hd with q | q
      · have := h1 d q; simp only []; omega
      · rw [List.mem_singleton.mp q]; exact ⟨Nat.le_refl 1, by show 1 + tk ≤ N + 1; omega, rfl⟩
    · refine ⟨by simp only []; omega, fun d hd => ?_⟩
      obtain ⟨c, q1, q2, q3, q4, q5⟩ := mSub_key hd
      have := h1 c q1
      simp only []
      omega
theorem nsrt_ins {l : Ctr} (h : nsrt l) (x n e : Nat) : nsrt (sIns l x n e) := by
  have hlo : ∀ (j : Nat) (c : Nat × Nat × Nat), j < sPb l n → l[j]? = some c → c.2.1 ≤ n := by
    intro j c hj hc
    have h2 := List.not_of_lt_findIdx (xs := l) (p := fun c : Nat × Nat × Nat => decide (n < c.2.1)) hj
    rw [(List.getElem?_eq_some_iff.mp hc).2] at h2
    simpa using h2
  have hup : ∀ (j : Nat) (c : Nat × Nat × Nat), sPb l n ≤ j → l[j]? = some c → n < c.2.1 := by
    intro j c hj hc
    have hjl := (List.getElem?_eq_some_iff.mp hc).1
    have hT : sPb l n < l.length := by omega
    have h2 := List.findIdx_getElem (xs := l) (p := fun c : Nat × Nat × Nat => decide (n < c.2.1)) (w := hT)
    have h3 : n < (l[sPb l n]).2.1 := of_decide_eq_true h2
    rcases Nat.lt_or_ge (sPb l n) j with q | q
    · exact Nat.lt_of_lt_of_le h3 (h _ _ _ _ q (List.getElem?_eq_getElem hT) hc)
    · have e9 : sPb l n = j := by omega
      have e7 : c = l[sPb l n] := by
        have e6 := List.getElem?_eq_getElem hT
        rw [show l[sPb l n]? = l[j]? by rw [e9], hc] at e6
        exact Option.some.inj e6
      rw [e7]; exact h3
  have hpl := sPb_le l n
  intro a b c d hab ha hb
  unfold sIns at ha hb
  rw [List.getElem?_insertIdx] at ha hb
  by_cases q1 : a < sPb l n
  · rw [if_pos q1] at ha
    by_cases q2 : b < sPb l n
    · rw [if_pos q2] at hb; exact h a b c d hab ha hb
    · rw [if_neg q2] at hb
      by_cases q3 : b = sPb l n
      · rw [if_pos q3, if_pos (by omega)] at hb; cases hb; exact hlo a c q1 ha
      · rw [if_neg q3] at hb; exact Nat.le_trans (hlo a c q1 ha) (Nat.le_of_lt (hup (b - 1) d (by omega) hb))
  · rw [if_neg q1] at ha
    rw [if_neg (by omega), if_neg (by omega)] at hb
    by_cases q3 : a = sPb l n
    · rw [if_pos q3, if_pos (by omega)] at ha; cases ha; exact Nat.le_of_lt (hup (b - 1) d (by omega) hb)
    · rw [if_neg q3] at ha; exact h (a - 1) (b - 1) c d (by omega) ha hb
theorem sIns_mem {l : Ctr} {x n e : Nat} {d : Nat × Nat × Nat} (h : d ∈ sIns l x n e) : d = (x, n, e) ∨ d ∈ l := (mem_ins (sPb_le _ _)).mp h
theorem okV_ins {l : Ctr} {N n x e : Nat} (h : okV N l) (hn : n ≤ N) : okV N (sIns l x n e) := by
  refine ⟨fun d hd => ?_, nsrt_ins h.2 _ _ _⟩
  rcases sIns_mem hd with q | q
  · rw [q]; exact hn
  · exact h.1 d q
theorem okV_del {l : Ctr} {N : Nat} (h : okV N l) (i : Nat) : okV N (l.eraseIdx i) := ⟨fun d hd => h.1 d (mem_del hd), nsrt_del h.2 i⟩
theorem okV_mono {l : Ctr} {N N2 : Nat} (h : okV N l) (hn : N ≤ N2) : okV N2 l := ⟨fun d hd => Nat.le_trans (h.1 d hd) hn, h.2⟩
theorem okV_take {lim N x t : Nat} {l : Ctr} (h : okV N l) : okV (N + t) (sTake lim l x t) := by
  have hls : sLeast lim l ≤ N := Nat.le_of_lt_succ (sLeast_lt (fun c hc => Nat.lt_succ_of_le (h.1 c hc)) (Nat.succ_pos _))
  have h2 := okV_mono h (Nat.le_add_right N t)
  unfold sTake
  cases hk : kix l x with
  | some i =>
    obtain ⟨c, hc1, hc2, hc3⟩ := kix_some hk
    simp only []
    rw [sEst_some hk hc1]
    have := h.1 c (List.mem_of_getElem? hc1)
    exact okV_ins (okV_del h2 i) (by omega)
  | none =>
    simp only []
    split
    · exact okV_ins (okV_del h2 0) (by omega)
    · exact okV_ins h2 (by omega)
theorem okS_step {P W R lim x : Nat} {A B : Nat → Nat} {S : Str} (h : okS W R S) (hW : 0 < W) (hR : 0 < R) (hn : zN S + 1 ≤ N15) : okS W R (yStep P W R A B lim S x) := by
  obtain ⟨h0, h1, h2, h3, h4⟩ := h
  exact ⟨hn, okD_take false h1 (gEst_le h1 hW hR x), okD_take true h2 (gEst_le h2 hW hR x), okM_step h3, okV_take h4⟩
def yIter (P W R : Nat) (A B : Nat → Nat) (lim : Nat) (S : Str) (x : Nat) : Nat → Str
  | 0 => S
  | k + 1 => yStep P W R A B lim (yIter P W R A B lim S x k) x
theorem yIter_N {P W R : Nat} {A B : Nat → Nat} {lim : Nat} {S : Str} {x : Nat} : ∀ k, zN (yIter P W R A B lim S x k) = zN S + k
  | 0 => rfl
  | k + 1 => by show zN (yIter P W R A B lim S x k) + 1 = _; rw [yIter_N k]; omega
theorem okS_iter {P W R lim x : Nat} {A B : Nat → Nat} {S : Str} (h : okS W R S) (hW : 0 < W) (hR : 0 < R) : ∀ k, zN S + k ≤ N15 → okS W R (yIter P W R A B lim S x k)
  | 0, _ => h
  | k + 1, hk => okS_step (okS_iter h hW hR k (by omega)) hW hR (by rw [yIter_N]; omega)
theorem fu_fu {α : Type} (f : Nat → α) (k : Nat) (x y : α) : fu (fu f k x) k y = fu f k y := by
  funext j
  by_cases q9 : j = k
  · subst q9; rw [fu_self, fu_self]
  · rw [fu_ne _ _ q9, fu_ne _ _ q9, fu_ne _ _ q9]

