theorem wk_asym {c d : Nat × Nat × Nat} (h1 : wk c d) (h2 : wk d c) : False := by unfold wk at *; omega
theorem ck_nodup {u : Ctr} (h : (ckeys u).Nodup) : u.Nodup := by
  rw [List.nodup_iff_pairwise_ne] at *
  unfold ckeys at h
  rw [List.pairwise_map] at h
  exact h.imp (fun hne e => hne (by rw [e]))
theorem sv_sub {lim : Nat} {u m1 m2 : Ctr} (hn : (ckeys u).Nodup) (h1 : svSpec lim u m1) (h2 : svSpec lim u m2) : ∀ c ∈ m1, c ∈ m2 := by
  obtain ⟨r1, p1, l1, w1, -⟩ := h1
  obtain ⟨r2, p2, l2, w2, -⟩ := h2
  have hu := ck_nodup hn
  have hn1 : (m1 ++ r1).Nodup := p1.nodup_iff.mpr hu
  have hn2 : (m2 ++ r2).Nodup := p2.nodup_iff.mpr hu
  have hm1 := (List.nodup_append.mp hn1).1
  have hm2 := (List.nodup_append.mp hn2).1
  intro c hc9
  apply Classical.byContradiction
  intro hc2
  have hcr : c ∈ r2 := by
    have : c ∈ m2 ++ r2 := p2.mem_iff.mpr (p1.mem_iff.mp (List.mem_append_left _ hc9))
    rcases List.mem_append.mp this with q | q
    · exact absurd q hc2
    · exact q
  have hex : ∃ d ∈ m2, d ∉ m1 := by
    apply Classical.byContradiction
    intro hno
    have hsub : m2 ⊆ m1 := fun d hd9 => Classical.byContradiction (fun h9 => hno ⟨d, hd9, h9⟩)
    have hsub2 : (c :: m2) ⊆ m1 := fun d hd9 => by
      rcases List.mem_cons.mp hd9 with q | q
      · rw [q]; exact hc9
      · exact hsub q
    have := List.Nodup.length_le_of_subset (List.nodup_cons.mpr ⟨hc2, hm2⟩) hsub2
    rw [List.length_cons] at this
    omega
  obtain ⟨d, hd1, hd2⟩ := hex
  have hdr : d ∈ r1 := by
    have : d ∈ m1 ++ r1 := p1.mem_iff.mpr (p2.mem_iff.mp (List.mem_append_left _ hd1))
    rcases List.mem_append.mp this with q | q
    · exact absurd q hd2
    · exact q
  exact wk_asym (w1 c hc9 d hdr) (w2 d hd1 c hcr)
theorem srt_pw {m : Ctr} (h : srt m m.length) : m.Pairwise cle := by
  rw [List.pairwise_iff_getElem]
  intro i j hi hj hij
  exact h i j _ _ hij hj (List.getElem?_eq_getElem hi) (List.getElem?_eq_getElem hj)
theorem sv_eq {lim : Nat} {u m1 m2 : Ctr} (hn : (ckeys u).Nodup) (h1 : svSpec lim u m1) (h2 : svSpec lim u m2) : m1 = m2 := by
  have hu := ck_nodup hn
  have hm : ∀ {m : Ctr}, svSpec lim u m → m.Nodup ∧ ∀ c ∈ m, c ∈ u := fun {m} h => by
    obtain ⟨r1, p1, l1, w1, -⟩ := h
    exact ⟨(List.nodup_append.mp (p1.nodup_iff.mpr hu)).1, fun c hc9 => p1.mem_iff.mp (List.mem_append_left _ hc9)⟩
  have hp : m1.Perm m2 := (List.perm_ext_iff_of_nodup (hm h1).1 (hm h2).1).mpr (fun c => ⟨sv_sub hn h1 h2 c, sv_sub hn h2 h1 c⟩)
  refine List.Perm.eq_of_pairwise (le := cle) (fun a b ha hb hab hba => ?_) (srt_pw h1.choose_spec.2.2.2) (srt_pw h2.choose_spec.2.2.2) hp
  have hk : a.1 = b.1 := by unfold cle at hab hba; omega
  obtain ⟨i, hi⟩ := List.getElem?_of_mem ((hm h1).2 a ha)
  obtain ⟨j, hj⟩ := List.getElem?_of_mem ((hm h2).2 b hb)
  have := ckeys_inj hn hi hj hk
  subst this
  rw [hi] at hj
  cases hj
  rfl
theorem sU_nodup {lim k : Nat} {l l2 : Ctr} (h1 : (ckeys l).Nodup) (h2 : (ckeys l2).Nodup) : (ckeys (sU lim l l2 k)).Nodup := by
  have e1 : ckeys (l.map (sF lim l2)) = ckeys l := by unfold ckeys; rw [List.map_map]; rfl
  have e2 : ckeys (((l2.take k).filter (fun c => decide (c.1 ∉ ckeys l))).map (sG (sLeast lim l))) = ckeys ((l2.take k).filter (fun c => decide (c.1 ∉ ckeys l))) := by unfold ckeys; rw [List.map_map]; rfl
  have e3 : ckeys (sU lim l l2 k) = ckeys l ++ ckeys ((l2.take k).filter (fun c => decide (c.1 ∉ ckeys l))) := by
    refine Eq.trans ?_ (congr (congrArg HAppend.hAppend e1) e2)
    unfold sU ckeys
    rw [List.map_append]
  rw [e3, List.nodup_append]
  refine ⟨h1, ?_, fun a ha b hb e => ?_⟩
  · exact h2.sublist (List.Sublist.map _ (List.Sublist.trans List.filter_sublist (List.take_sublist _ _)))
  · obtain ⟨d, q1, q2⟩ := List.mem_map.mp hb
    have h9 := of_decide_eq_true (List.mem_filter.mp q1).2
    apply h9
    rw [q2, ← e]
    exact ha
/-! what the invariant is -/
def okY (W R : Nat) (S : Str) : Prop := okS W R S ∧ (zG S = false → cSum (zK S) = zN S)
def wfS (lim P : Nat) (S : Str) : Prop := ((zM S).length ≤ lim ∧ (∀ c ∈ zM S, c.1 < P) ∧ (ckeys (zM S)).Nodup) ∧ ((zS S).length ≤ lim ∧ (∀ c ∈ zS S, c.1 < P) ∧ (ckeys (zS S)).Nodup) ∧ (zK S).length ≤ 300 ∧ (∀ c ∈ zK S, c.1 < P) ∧ (nkeys (zK S)).Nodup
theorem isMd.wf {E : Ev} {G : Gh} {P W R lim rq po : Nat} {A B : Nat → Nat} {Y : Nat → Str} (h : isMd E G P W R lim rq po A B Y) : ∀ k, k < 4 → wfS lim P (Y k) := by
  intro k hk
  obtain ⟨-, -, -, -, ⟨fms, fmk, ftk, fmn, -, -, -, -, hM⟩, ⟨fss, fsk, fsn, fse, -, -, -, -, hS⟩, ⟨fcn, fcz, fck, fct, -, -, -, -, hC⟩⟩ := h
  obtain ⟨-, -, -, a1, a2, a3⟩ := hM k hk
  obtain ⟨-, -, b1, b2, b3⟩ := hS k hk
  obtain ⟨-, -, -, c1, c2, c3⟩ := hC k hk
  exact ⟨⟨a1, a2, a3⟩, ⟨b1, b2, b3⟩, c1, c2, c3⟩
theorem isFS.wf {E : Ev} {G : Gh} {P W R lim : Nat} {A B : Nat → Nat} {Z : Nat → Str} {rk : Rnk} (h : isFS E G P W R lim A B Z rk) : ∀ k, k < 4 → (zK (Z k)).length ≤ min P 300 ∧ csrt (zK (Z k)) := by
  intro k hk
  obtain ⟨-, -, -, hs, -⟩ := h
  obtain ⟨-, -, -, -, -, hc, -⟩ := hs k hk
  obtain ⟨fk, fn, -, -, -, -, hw⟩ := hc
  exact ⟨hw.1.1, hw.2.2⟩
def relS (Y Z : Str) : Prop := zN Y = zN Z ∧ zP Y = zP Z ∧ zC Y = zC Z ∧ zM Y = zM Z ∧ zT Y = zT Z ∧ zS Y = zS Z ∧ relK (zK Y, zG Y) (zK Z, zG Z)
theorem nk_lt {l : Cnt} {P : Nat} (h : ∀ c ∈ l, c.1 < P) : ∀ y ∈ nkeys l, y < P := fun y hy => by
  obtain ⟨c, h1, h2⟩ := List.mem_map.mp hy
  rw [← h2]
  exact h c h1
theorem relS_add {P W R lim x k : Nat} {A B : Nat → Nat} {Y Z : Str} (hr : relS Y Z) (ho : okY W R Y) (hw : wfS lim P Y) (hlim : 1 ≤ lim) (hz : csrt (zK Z)) (hx : x < P) : relS (yIter P W R A B lim Y x (k + 1)) (strTake P W R A B lim (min P 300) Z x (k + 1)) := by
  obtain ⟨r1, r2, r3, r4, r5, r6, r7⟩ := hr
  obtain ⟨w1, w2, w3, w4, w5⟩ := hw
  have hM := yIter_M (P := P) (W := W) (R := R) (A := A) (B := B) (lim := lim) (S := Y) (x := x) (k + 1)
  rw [mIter_all hlim w1.1 (fun c hc9 => (ho.1.2.2.2.1.2 c hc9).1)] at hM
  have hK := yIter_K (P := P) (W := W) (R := R) (A := A) (B := B) (lim := lim) (S := Y) (x := x) (k + 1)
  have hrk := relK_add (P := P) (x := x) (k := k) r7 w5 (nk_lt w4) w3 hz hx
  rw [← hK] at hrk
  refine ⟨?_, ?_, ?_, ?_, ?_, ?_, ?_⟩
  · rw [yIter_N, r1]; rfl
  · rw [yIter_P, r2]; rfl
  · rw [yIter_C, r3]; rfl
  · refine (congrArg Prod.fst hM).trans ?_; rw [r4, r5]; rfl
  · refine (congrArg Prod.snd hM).trans ?_; rw [r4, r5]; rfl
  · rw [yIter_S, sIter_all w2.2.2, r6]; rfl
  · exact hrk
theorem okY_add {P W R lim x k : Nat} {A B : Nat → Nat} {S : Str} (ho : okY W R S) (hw : wfS lim P S) (hW : 0 < W) (hR : 0 < R) (hn : zN S + (k + 1) ≤ N15) : okY W R (yIter P W R A B lim S x (k + 1)) := by
  refine ⟨okS_iter ho.1 hW hR (k + 1) hn, fun hg => ?_⟩
  have hK := yIter_K (P := P) (W := W) (R := R) (A := A) (B := B) (lim := lim) (S := S) (x := x) (k + 1)
  have e1 := congrArg Prod.fst hK
  have e2 := congrArg Prod.snd hK
  simp only [] at e1 e2
  rw [hg] at e2
  rw [e1, yIter_N]
  cases hgs : zG S with
  | true =>
    rw [hgs, kIter_gone] at e2
    cases e2
  | false =>
    rw [hgs] at e2
    rw [kIter_sum hw.2.2.2.2 e2.symm, ho.2 hgs]
/-! joins -/
theorem mAdd_ok {N1 N2 T1 T2 : Nat} : ∀ (l2 l : Ctr), (∀ c ∈ l, 1 ≤ c.2.1 ∧ c.2.1 + T1 ≤ N1 ∧ c.2.2 = 0) → (ckeys l2).Nodup → (∀ c ∈ l2, 1 ≤ c.2.1 ∧ c.2.1 + T2 ≤ N2 ∧ c.2.2 = 0) → T1 ≤ N1 → T2 ≤ N2 → ∀ c ∈ mAdd l l2, 1 ≤ c.2.1 ∧ c.2.1 + (T1 + T2) ≤ N1 + N2 ∧ c.2.2 = 0 := by
  have key : ∀ (l2 l : Ctr), (∀ c ∈ l, 1 ≤ c.2.1 ∧ c.2.1 + (T1 + T2) ≤ N1 + N2 ∧ c.2.2 = 0 ∧ (c.1 ∈ ckeys l2 → c.2.1 + T1 ≤ N1)) → (ckeys l2).Nodup → (∀ c ∈ l2, 1 ≤ c.2.1 ∧ c.2.1 + T2 ≤ N2 ∧ c.2.2 = 0) → T1 ≤ N1 → ∀ c ∈ mAdd l l2, 1 ≤ c.2.1 ∧ c.2.1 + (T1 + T2) ≤ N1 + N2 ∧ c.2.2 = 0 := by
    intro l2
    induction l2 with
    | nil => intro l h _ _ _ c hc9; have := h c hc9; exact ⟨this.1, this.2.1, this.2.2.1⟩
    | cons d l2 ih =>
      intro l h hn h2 hT c hc9
      have hnd := List.nodup_cons.mp hn
      have hd := h2 d List.mem_cons_self
      refine ih (mAdd1 l d) (fun e he => ?_) hnd.2 (fun e he => h2 e (List.mem_cons_of_mem _ he)) hT c hc9
      rcases mAdd1_mem he with q | q | ⟨c9, q1, q2, q3⟩
      · have := h e q
        exact ⟨this.1, this.2.1, this.2.2.1, fun h9 => this.2.2.2 (List.mem_cons_of_mem _ h9)⟩
      · subst q
        exact ⟨hd.1, by simp only []; omega, rfl, fun h9 => absurd h9 hnd.1⟩
      · have h9 := h c9 q1
        have h8 := h9.2.2.2 (by rw [q2]; exact List.mem_cons_self)
        subst q3
        refine ⟨by simp only []; omega, by simp only []; omega, h9.2.2.1, fun h7 => ?_⟩
        simp only [] at h7
        rw [q2] at h7
        exact absurd h7 hnd.1
  intro l2 l h hn h2 hT1 hT2
  exact key l2 l (fun c hc9 => ⟨(h c hc9).1, by have := (h c hc9).2.1; omega, (h c hc9).2.2, fun _ => (h c hc9).2.1⟩) hn h2 hT1
theorem okS_pool {W R lim P : Nat} {S S2 : Str} (h : okS W R S) (h2 : okS W R S2) (hw2 : wfS lim P S2) : ∀ c ∈ mAdd (zM S) (zM S2), 1 ≤ c.2.1 ∧ c.2.1 + (zT S + zT S2) ≤ zN S + zN S2 ∧ c.2.2 = 0 := mAdd_ok (zM S2) (zM S) h.2.2.2.1.2 hw2.1.2.2 h2.2.2.2.1.2 h.2.2.2.1.1 h2.2.2.2.1.1
theorem mPut_ok {W R lim P : Nat} {S S2 : Str} (h : okS W R S) (h2 : okS W R S2) (hw2 : wfS lim P S2) (hlim : 1 ≤ lim) : okM (zN S + zN S2) (mPut lim (zM S) (zM S2) (zT S) (zT S2)).1 (mPut lim (zM S) (zM S2) (zT S) (zT S2)).2 ∧ (mPut lim (zM S) (zM S2) (zT S) (zT S2)).1.length ≤ lim := by
  have hp := okS_pool h h2 hw2
  unfold mPut
  by_cases hl : lim < (mAdd (zM S) (zM S2)).length
  · rw [if_pos hl]
    obtain ⟨⟨c, hc1, hc2⟩, h3, h4⟩ := grt_spec (l := mAdd (zM S) (zM S2)) (rk := lim + 1) (by omega) (by omega)
    have h5 := hp c hc1
    refine ⟨⟨by simp only []; omega, fun d hd9 => ?_⟩, ?_⟩
    · obtain ⟨e, q1, q2, q3, q4, q5⟩ := mSub_key hd9
      have h6 := hp e q1
      simp only []
      exact ⟨by omega, by omega, by rw [q5]; exact h6.2.2⟩
    · simp only []
      rw [mSub_lenA]
      omega
  · rw [if_neg hl]
    refine ⟨⟨by simp only []; have := h.2.2.2.1.1; have := h2.2.2.2.1.1; omega, fun d hd9 => ?_⟩, by simp only []; omega⟩
    have := hp d hd9
    simp only []
    exact ⟨this.1, by omega, this.2.2⟩
theorem sLeast_le {lim N : Nat} {l : Ctr} (h : ∀ c ∈ l, c.2.1 ≤ N) : sLeast lim l ≤ N := by
  have := sLeast_lt (lim := lim) (N := N + 1) (l := l) (fun c hc9 => Nat.lt_succ_of_le (h c hc9)) (Nat.succ_pos _)
  omega
theorem sU_ok {W R lim P : Nat} {A B : Nat → Nat} {S S2 : Str} (h : okS W R S) (h2 : okS W R S2) (hW : 0 < W) (hR : 0 < R) : ∀ c ∈ sU lim (zS S) (zS S2) (zS S2).length, c.2.1 ≤ zN S + zN S2 := by
  intro c hc9
  unfold sU at hc9
  rcases List.mem_append.mp hc9 with q | q
  · obtain ⟨d, q1, q2⟩ := List.mem_map.mp q
    have h3 := h.2.2.2.2.1 d q1
    have h4 := (h2.est (P := P) (A := A) (B := B) (lim := lim) hW hR d.1).2.2.2
    rw [← q2]
    show d.2.1 + sEst lim (zS S2) d.1 ≤ _
    omega
  · obtain ⟨d, q1, q2⟩ := List.mem_map.mp q
    have h3 := h2.2.2.2.2.1 d (List.mem_of_mem_take (List.mem_filter.mp q1).1)
    have h4 := sLeast_le (lim := lim) h.2.2.2.2.1
    rw [← q2]
    show d.2.1 + sLeast lim (zS S) ≤ _
    omega
theorem okS_join {W R lim P : Nat} {A B : Nat → Nat} {S S2 : Str} {sv : Ctr} (h : okS W R S) (h2 : okS W R S2) (hw2 : wfS lim P S2) (hlim : 1 ≤ lim) (hW : 0 < W) (hR : 0 < R) (hn : zN S + zN S2 ≤ N15) (hsv : svSpec lim (sU lim (zS S) (zS S2) (zS S2).length) sv) : okS W R (yPut lim S S2 sv) := by
  refine ⟨hn, fun r hr c hc9 => ?_, fun r hr c hc9 => ?_, (mPut_ok h h2 hw2 hlim).1, ?_, ?_⟩
  · have a1 := h.2.1 r hr c hc9; have a2 := h2.2.1 r hr c hc9
    show zP S r c + zP S2 r c ≤ zN S + zN S2
    omega
  · have a1 := h.2.2.1 r hr c hc9; have a2 := h2.2.2.1 r hr c hc9
    show zC S r c + zC S2 r c ≤ zN S + zN S2
    omega
  · intro c hc9
    obtain ⟨rem, p1, -, -, -⟩ := hsv
    exact sU_ok (P := P) (A := A) (B := B) h h2 hW hR c (p1.mem_iff.mp (List.mem_append_left _ hc9))
  · intro i j c d hij hi hj
    have := hsv.choose_spec.2.2.2 i j c d hij (List.getElem?_eq_some_iff.mp hj).1 hi hj
    unfold cle at this
    omega
theorem okY_join {W R lim P : Nat} {A B : Nat → Nat} {S S2 : Str} {sv : Ctr} (h : okY W R S) (h2 : okY W R S2) (hw : wfS lim P S) (hw2 : wfS lim P S2) (hlim : 1 ≤ lim) (hW : 0 < W) (hR : 0 < R) (hn : zN S + zN S2 ≤ N15) (hsv : svSpec lim (sU lim (zS S) (zS S2) (zS S2).length) sv) : okY W R (yPut lim S S2 sv) := by
  refine ⟨okS_join (P := P) (A := A) (B := B) h.1 h2.1 hw2 hlim hW hR hn hsv, fun hg => ?_⟩
  have hg' : (yK (zK S) (zG S) (zK S2) (zG S2)).2 = false := hg
  show cSum (yK (zK S) (zG S) (zK S2) (zG S2)).1 = zN S + zN S2
  rw [yK_eq hw.2.2.2.2] at hg' ⊢
  by_cases h9 : zG S = true ∨ zG S2 = true
  · rw [if_pos h9] at hg'; cases hg'
  · rw [if_neg h9] at hg' ⊢
    by_cases h8 : 300 < (cFold (zK S) (zK S2)).length
    · rw [if_pos h8] at hg'; cases hg'
    · rw [if_neg h8]
      have g1 : zG S = false := by cases hq : zG S with | true => exact absurd (Or.inl hq) h9 | false => rfl
      have g2 : zG S2 = false := by cases hq : zG S2 with | true => exact absurd (Or.inr hq) h9 | false => rfl
      show cSum (cFold (zK S) (zK S2)) = _
      rw [cSum_fold _ hw.2.2.2.2, h.2 g1, h2.2 g2]
theorem relS_join {P W R lim : Nat} {Y Y2 Z Z2 : Str} {sv sv2 : Ctr} (hr : relS Y Z) (hr2 : relS Y2 Z2) (hw : wfS lim P Y) (hw2 : wfS lim P Y2) (hz : (zK Z).length ≤ min P 300 ∧ csrt (zK Z)) (hsv : svSpec lim (sU lim (zS Y) (zS Y2) (zS Y2).length) sv) (hsv2 : svSpec lim (sU lim (zS Z) (zS Z2) (zS Z2).length) sv2) : relS (yPut lim Y Y2 sv) (strPut lim (min P 300) Z Z2 sv2) := by
  obtain ⟨r1, r2, r3, r4, r5, r6, r7⟩ := hr
  obtain ⟨s1, s2, s3, s4, s5, s6, s7⟩ := hr2
  rw [← r6, ← s6] at hsv2
  have e1 := sv_eq (sU_nodup hw.2.1.2.2 hw2.2.1.2.2) hsv hsv2
  refine ⟨?_, ?_, ?_, ?_, ?_, e1, ?_⟩
  · show zN Y + zN Y2 = zN Z + zN Z2; rw [r1, s1]
  · show (fun r c => zP Y r c + zP Y2 r c) = (fun r c => zP Z r c + zP Z2 r c); rw [r2, s2]
  · show (fun r c => zC Y r c + zC Y2 r c) = (fun r c => zC Z r c + zC Z2 r c); rw [r3, s3]
  · show (mPut lim (zM Y) (zM Y2) (zT Y) (zT Y2)).1 = (mPut lim (zM Z) (zM Z2) (zT Z) (zT Z2)).1; rw [r4, r5, s4, s5]
  · show (mPut lim (zM Y) (zM Y2) (zT Y) (zT Y2)).2 = (mPut lim (zM Z) (zM Z2) (zT Z) (zT Z2)).2; rw [r4, r5, s4, s5]
  · exact relK_join r7 s7 hw.2.2.2.2 hw2.2.2.2.2 (nk_lt hw.2.2.2.1) (nk_lt hw2.2.2.2.1) hz.2 hz.1
theorem relS_empty : relS strEmpty strEmpty := ⟨rfl, rfl, rfl, rfl, rfl, rfl, rfl, fun _ => List.Perm.refl _⟩
theorem okY_empty {W R : Nat} : okY W R strEmpty := ⟨⟨Nat.zero_le _, fun _ _ _ _ => Nat.le_refl _, fun _ _ _ _ => Nat.le_refl _, ⟨Nat.le_refl _, fun c h => by simp [zM, strEmpty] at h⟩, fun c h => by simp [zS, strEmpty] at h, fun i j c d _ h => by simp [zS, strEmpty] at h⟩, fun _ => rfl⟩
theorem relS_bd {W R lim P : Nat} {Y Z : Str} (hr : relS Y Z) (ho : okY W R Y) (hw : wfS lim P Y) : bdS R W lim Z ∧ zN Z ≤ N15 := by
  obtain ⟨r1, r2, r3, r4, r5, r6, r7⟩ := hr
  refine ⟨⟨by rw [← r2]; exact ho.1.hP, by rw [← r3]; exact ho.1.hB, by rw [← r4]; exact ho.1.hM, by rw [← r4]; exact hw.1.1, by rw [← r6]; exact fun c hc9 => Nat.lt_trans (ho.1.hS c hc9) (by decide), by rw [← r6]; exact hw.2.1.1⟩, by rw [← r1]; exact ho.1.1⟩
theorem okY_bj {W R lim P : Nat} {A B : Nat → Nat} {Y Y2 : Str} (h : okY W R Y) (h2 : okY W R Y2) (hw2 : wfS lim P Y2) (hlim : 1 ≤ lim) (hW : 0 < W) (hR : 0 < R) (hn : zN Y + zN Y2 ≤ N15) : (∀ c ∈ mAdd (zM Y) (zM Y2), c.2.1 < 2 ^ 62) ∧ (∀ c ∈ mAdd (zM Y) (zM Y2), 1 ≤ c.2.1) ∧ (∀ c ∈ sU lim (zS Y) (zS Y2) (zS Y2).length, c.2.1 < 2 ^ 62) ∧ (mPut lim (zM Y) (zM Y2) (zT Y) (zT Y2)).1.length ≤ lim := by
  have hp := okS_pool h.1 h2.1 hw2
  have hq := sU_ok (P := P) (A := A) (B := B) (lim := lim) h.1 h2.1 hW hR
  unfold N15 at hn
  exact ⟨fun c hc9 => by have := hp c hc9; omega, fun c hc9 => (hp c hc9).1, fun c hc9 => by have := hq c hc9; omega, (mPut_ok h.1 h2.1 hw2 hlim).2⟩
