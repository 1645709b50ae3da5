def othS (x M : Nat) (f : Nat → Nat) (l : Cnt) : Nat := (l.map (fun c => if c.1 ≠ x then c.2 * f c.1 else 0)).sum
theorem sumN_sum {P n W x : Nat} : ∀ (l : Cnt), sumN (fun a => sumN (fun b => ovI P W x (a + 1) b l) P) n = (l.map (fun c => if c.1 ≠ x then c.2 * sumN (fun a => sumN (fun b => if hsh P W (a + 1) b c.1 = hsh P W (a + 1) b x then 1 else 0) P) n else 0)).sum
  | [] => by
    show sumN (fun a => sumN (fun b => 0) P) n = 0
    rw [sumN_cg (g := fun _ => 0) n (fun i _ => sumN_zero P), sumN_zero]
  | c :: l => by
    rw [List.map_cons, List.sum_cons, ← sumN_sum l]
    have e1 : ∀ a, sumN (fun b => ovI P W x (a + 1) b (c :: l)) P = sumN (fun b => if c.1 ≠ x ∧ hsh P W (a + 1) b c.1 = hsh P W (a + 1) b x then c.2 else 0) P + sumN (fun b => ovI P W x (a + 1) b l) P := fun a => by
      rw [← sumN_add]
      rfl
    rw [sumN_cg n (fun a _ => e1 a), sumN_add]
    congr 1
    by_cases h : c.1 ≠ x
    · rw [if_pos h, ← sumN_mul]
      apply sumN_cg
      intro a _
      rw [← sumN_mul]
      apply sumN_cg
      intro b _
      by_cases h2 : hsh P W (a + 1) b c.1 = hsh P W (a + 1) b x
      · rw [if_pos ⟨h, h2⟩, if_pos h2, Nat.mul_one]
      · rw [if_neg (fun h9 => h2 h9.2), if_neg h2, Nat.mul_zero]
    · rw [if_neg h]
      rw [sumN_cg (g := fun _ => 0) n (fun a _ => ?_), sumN_zero]
      rw [sumN_cg (g := fun _ => 0) P (fun b _ => if_neg (fun h9 => h h9.1)), sumN_zero]
theorem oth_sum {x M : Nat} : ∀ {l : Cnt}, (nkeys l).Nodup → (l.map (fun c => if c.1 ≠ x then c.2 * M else 0)).sum = (cSum l - nNum l x) * M ∧ nNum l x ≤ cSum l
  | [], _ => ⟨by simp [cSum], by simp [nNum, nkeys, lix, cSum]⟩
  | c :: l, hn => by
    have hn2 := List.nodup_cons.mp hn
    obtain ⟨h1, h2⟩ := oth_sum (x := x) (M := M) hn2.2
    rw [List.map_cons, List.sum_cons, h1]
    have hs : cSum (c :: l) = c.2 + cSum l := rfl
    by_cases hc9 : c.1 = x
    · have e1 : nNum (c :: l) x = c.2 := nNum_of hn List.mem_cons_self hc9
      have e2 : nNum l x = 0 := nNum_no (by rw [← hc9]; exact hn2.1)
      rw [if_neg (fun h => h hc9), e1, e2, hs]
      exact ⟨by rw [Nat.zero_add, Nat.sub_zero, Nat.add_sub_cancel_left], by omega⟩
    · have e1 : nNum (c :: l) x = nNum l x := by
        by_cases hx : x ∈ nkeys l
        · obtain ⟨d, q1, q2⟩ := List.mem_map.mp hx
          rw [nNum_of hn (List.mem_cons_of_mem _ q1) q2, nNum_of hn2.2 q1 q2]
        · rw [nNum_no hx, nNum_no (fun h => by
            rcases List.mem_cons.mp h with q | q
            · exact hc9 q.symm
            · exact hx q)]
      rw [if_pos hc9, e1, hs]
      refine ⟨?_, by omega⟩
      rw [← Nat.add_mul]
      congr 1
      omega
theorem ovS_eq {P W x : Nat} {l : Cnt} (hp : prm P) (hW : 0 < W) (hx : x < P) (hn : (nkeys l).Nodup) (hk : ∀ c ∈ l, c.1 < P) : ovS P W l x = (cSum l - nNum l x) * mtN P W ∧ nNum l x ≤ cSum l := by
  refine ⟨?_, (oth_sum (M := 0) hn).2⟩
  unfold ovS
  rw [sumN_sum, ← (oth_sum (x := x) (M := mtN P W) hn).1]
  congr 1
  apply List.map_congr_left
  intro c hc9
  by_cases h : c.1 ≠ x
  · rw [if_pos h, if_pos h]
    congr 1
    exact pair_meet hp hW hx (hk c hc9) h
  · rw [if_neg h, if_neg h]
theorem meet_eq {P W : Nat} : meetL P W = lN (mtN P W) := by
  unfold meetL mtN
  rcases Nat.eq_zero_or_pos (P / W) with q | q
  · rw [q]
    simp only [Nat.mul_zero, Nat.zero_mul, Nat.zero_add, Nat.add_zero]
    have e1 : lN 0 = 0 := by decide
    rw [e1, Int64.zero_mul, Int64.add_zero]
  · rw [lN_sub q, lN_mul, lN_add]
theorem t_over {lim P W R : Nat} {Y Z : Nat → Str} (hr : RelY Y Z) (ho : ∀ k, k < 4 → okY W R (Y k)) (hw : ∀ k, k < 4 → wfS lim P (Y k)) (hz : ∀ k, k < 4 → (zK (Z k)).length ≤ min P 300 ∧ csrt (zK (Z k))) (hp : prm P) (hW : 0 < W) (hP : P < 2 ^ 31) (x1 x2 : Int32) : oOver P W Z x1 x2 = yOver P W Y x1 x2 := by
  unfold oOver yOver
  by_cases h1 : iin x1 4 = true
  · by_cases h2 : iin x2 P = true
    · have hk := iin_ix h1 (by decide)
      obtain ⟨r1, r2, r3, r4, r5, r6, r7, r8⟩ := hr _ hk
      simp only [] at r7 r8
      have hn15 := (ho _ hk).1.1
      unfold N15 at hn15
      rw [if_pos h1, if_pos h1, if_pos h2, if_pos h2, ← r7, ← r1]
      by_cases h3 : 131 < P
      · rw [if_pos h3, if_pos h3]
        split <;> rfl
      · rw [if_neg h3, if_neg h3]
        by_cases hg : zG (Y (ix x1)) = true
        · rw [if_pos hg, if_pos hg]
        · have hg2 : zG (Y (ix x1)) = false := by simpa using hg
          rw [if_neg hg, if_neg hg]
          by_cases h4 : 100000000000000 < zN (Y (ix x1))
          · rw [if_pos h4, if_pos ((lN_lt63 (by decide) (by omega)).mpr h4)]
          · rw [if_neg h4, if_neg (fun h9 => h4 ((lN_lt63 (by decide) (by omega)).mp h9))]
            obtain ⟨e1, e2⟩ := ovS_eq hp hW (iin_ix h2 hP) (hw _ hk).2.2.2.2 (hw _ hk).2.2.2.1
            rw [e1, num_eq (r8 hg2) (hw _ hk).2.2.2.2 (hz _ hk).2, meet_eq, ← (ho _ hk).2 hg2, lN_sub e2, lN_mul]
    · rw [if_pos h1, if_pos h1, if_neg h2, if_neg h2]
  · rw [if_neg h1, if_neg h1]
