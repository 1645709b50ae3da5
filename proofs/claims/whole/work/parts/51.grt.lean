def lke (l : Ctr) (v : Nat) : Nat := l.countP (fun c => decide (c.2.1 = v))
theorem abv_lke (l : Ctr) (v : Nat) : abv l v + lke l v = nbl l v := by
  unfold abv lke nbl
  induction l with
  | nil => rfl
  | cons c l ih =>
    simp only [List.countP_cons, decide_eq_true_eq]
    split <;> split <;> split <;> omega
theorem nbl_abv (l : Ctr) {v w : Nat} (h : v < w) : nbl l w ≤ abv l v := by
  unfold abv nbl
  apply List.countP_mono_left
  intro c _ hc9
  simp only [decide_eq_true_eq] at hc9 ⊢
  omega
def gfo (l : Ctr) (rk k : Nat) : Nat := (l.take k).foldl (fun f c => if abv l c.2.1 < rk ∧ rk ≤ nbl l c.2.1 then c.2.1 else f) 0
theorem gfo_step {l : Ctr} {rk k : Nat} {c : Nat × Nat × Nat} (h : l[k]? = some c) : gfo l rk (k + 1) = if abv l c.2.1 < rk ∧ rk ≤ nbl l c.2.1 then c.2.1 else gfo l rk k := by
  unfold gfo
  rw [List.take_add_one, h, List.foldl_append]
  rfl
theorem fold_find {α : Type} (p : α → Prop) [DecidablePred p] (f : α → Nat) : ∀ (l : List α) (a : Nat), (∀ c ∈ l, ∀ d ∈ l, p c → p d → f c = f d) → l.foldl (fun r c => if p c then f c else r) a = match l.find? (fun c => decide (p c)) with
    | none => a
    | some c => f c := by
  intro l
  induction l with
  | nil => intro a _; rfl
  | cons c l ih =>
    intro a hu
    rw [List.foldl_cons]
    have ih9 := ih (if p c then f c else a) (fun x hx y hy => hu x (List.mem_cons_of_mem _ hx) y (List.mem_cons_of_mem _ hy))
    rw [ih9, List.find?_cons]
    by_cases q9 : p c
    · rw [if_pos q9, decide_eq_true q9]
      simp only []
      cases hf : l.find? (fun c => decide (p c)) with
      | none => rfl
      | some d =>
        have h1 := List.mem_of_find?_eq_some hf
        have h2 := List.find?_some hf
        exact hu d (List.mem_cons_of_mem _ h1) c List.mem_cons_self (of_decide_eq_true h2) q9
    · rw [if_neg q9, decide_eq_false q9]
theorem gfo_grt (l : Ctr) (rk : Nat) : gfo l rk l.length = grt l rk := by
  unfold gfo grt
  rw [List.take_length]
  have e9 := fold_find (fun c : Nat × Nat × Nat => abv l c.2.1 < rk ∧ rk ≤ nbl l c.2.1) (fun c => c.2.1) l 0 (fun c _ d _ hc9 hd9 => by
    rcases Nat.lt_trichotomy c.2.1 d.2.1 with q9 | q9 | q9
    · have := nbl_abv l q9; omega
    · exact q9
    · have := nbl_abv l q9; omega)
  rw [e9]
  cases l.find? (fun c => decide (abv l c.2.1 < rk ∧ rk ≤ nbl l c.2.1)) <;> rfl

set_option maxHeartbeats 4000000 in
set_option maxRecDepth 100000 in
theorem mgrt_in {M : Mx} {E : Ev} {z : Option Nat} (C : Cx M E yX12_greatest.cls cX12_greatest 8 (some .long) 0 0 0 0) {post : Int64 → Gh → Prop} {G : Gh} {P W R lim rq : Nat} {A B : Nat → Nat} {l : Ctr} {rk i : Nat} {x2 : Int64} {c : Nat × Nat × Nat} (hci : l[i]? = some c) (hrk : rk < 2 ^ 31) (hn : ∀ c ∈ l, c.2.1 < 2 ^ 62) (hm : isMo E G P W R lim rq l.length A B) (hpl : isPl E G l) (kend : V M E 8 (QE M E (fun r : Int64 => some (.long r)) z 0 0 post) z 0 0 G 94 [some (.ref (ga E 104)), some (.int (nI rk)), some (.long x2), none, some (.int (nI i)), some (.int (nI (abv l c.2.1))), some (.int (nI (lke l c.2.1))), some (.int (nI l.length))] []) : ∀ (t j : Nat), j ≤ l.length → l.length - j < t → V M E 8 (QE M E (fun r : Int64 => some (.long r)) z 0 0 post) z 0 0 G 23 [some (.ref (ga E 104)), some (.int (nI rk)), some (.long x2), none, some (.int (nI i)), some (.int (nI ((l.take j).countP (fun d => decide (c.2.1 < d.2.1))))), some (.int (nI ((l.take j).countP (fun d => decide (d.2.1 = c.2.1))))), some (.int (nI j))] [] := by
  obtain ⟨fa, fb, ho, k5, k6, hfa, hfb, hrg, hlim, hab⟩ := id hm
  obtain ⟨fk, fn, fe, pa, pb, pc9, hrep, hll, hlk, hnd⟩ := id hpl
  have hil := (List.getElem?_eq_some_iff.mp hci).1
  have hnc := hn _ (List.mem_of_getElem? hci)
  intro t
  induction t with
  | zero => intro j _ h; omega
  | succ t ih =>
    intro j hj ht
    refine v_iload C dX12_greatest_23 rfl ?_
    refine v_aload_n C dX12_greatest_25 rfl ?_
    refine gf_X12_156 C dX12_greatest_26 (by assumption) ?_
    refine v_icmpn_ge C 94 dX12_greatest_29 (by decide) (by omega) (by omega) (fun h29 => ?_) (fun h29 => ?_)
    · skip
      have e9 : j = l.length := by omega
      subst e9
      rw [List.take_length]
      exact kend
    · skip
      have hcj : l[j]? = some l[j] := List.getElem?_eq_getElem h29
      have hnj := hn _ (List.mem_of_getElem? hcj)
      have ca := cnt_le (l := l) (p := fun d => decide (c.2.1 < d.2.1)) (j := j)
      have cb := cnt_le (l := l) (p := fun d => decide (d.2.1 = c.2.1)) (j := j)
      refine v_iload C dX12_greatest_32 rfl ?_
      refine v_aload_n C dX12_greatest_34 rfl ?_
      refine gf_X12_72 C dX12_greatest_35 (by assumption) ?_
      refine v_iload C dX12_greatest_38 rfl ?_
      refine v_lald C dX12_greatest_40 (by assumption) (by omega) (by omega) (hrep j _ hcj).2.1 ?_
      refine v_aload_n C dX12_greatest_41 rfl ?_
      refine gf_X12_72 C dX12_greatest_42 (by assumption) ?_
      refine v_iload C dX12_greatest_45 rfl ?_
      refine v_lald C dX12_greatest_47 (by assumption) (by omega) (by omega) (hrep i c hci).2.1 ?_
      refine v_lcmpn_le C 56 dX12_greatest_48 dX12_greatest_49 (by decide) (by omega) (by omega) (fun h48 => ?_) (fun h48 => ?_)
      · skip
        refine v_iconst (v := nI 0) C dX12_greatest_56 (by decide) ?_
        first | refine v_iaddn C dX12_greatest_57 ?_ | refine v_iadd C dX12_greatest_57 ?_
        refine v_istore_5 C dX12_greatest_58 (by decide) (by first | rfl | assumption) ?_
        refine v_iload C dX12_greatest_60 rfl ?_
        refine v_aload_n C dX12_greatest_62 rfl ?_
        refine gf_X12_72 C dX12_greatest_63 (by assumption) ?_
        refine v_iload C dX12_greatest_66 rfl ?_
        refine v_lald C dX12_greatest_68 (by assumption) (by omega) (by omega) (hrep j _ hcj).2.1 ?_
        refine v_aload_n C dX12_greatest_69 rfl ?_
        refine gf_X12_72 C dX12_greatest_70 (by assumption) ?_
        refine v_iload C dX12_greatest_73 rfl ?_
        refine v_lald C dX12_greatest_75 (by assumption) (by omega) (by omega) (hrep i c hci).2.1 ?_
        refine v_lcmpn_ne C 84 dX12_greatest_76 dX12_greatest_77 (by decide) (by omega) (by omega) (fun h76 => ?_) (fun h76 => ?_)
        · skip
          refine v_iconst (v := nI 0) C dX12_greatest_84 (by decide) ?_
          first | refine v_iaddn C dX12_greatest_85 ?_ | refine v_iadd C dX12_greatest_85 ?_
          refine v_istore_6 C dX12_greatest_86 (by decide) (by first | rfl | assumption) ?_
          first | refine v_iinc_7 C dX12_greatest_88 (nI_1 _) (by decide) (by first | rfl | assumption) ?_ | refine v_iinc_7 C dX12_greatest_88 rfl (by decide) (by first | rfl | assumption) ?_
          refine v_goto C 23 dX12_greatest_91 (by decide) ?_
          have e1 := cnt_take (p := fun d => decide (c.2.1 < d.2.1)) hcj
          have e2 := cnt_take (p := fun d => decide (d.2.1 = c.2.1)) hcj
          have key := ih (j + 1) (by omega) (by omega)
          rw [e1, e2] at key
          simp only [decide_eq_true_eq] at key
          first
            | (rw [if_pos (by omega), if_pos (by omega)] at key; exact key)
            | (rw [if_pos (by omega), if_neg (by omega)] at key; exact key)
            | (rw [if_neg (by omega), if_pos (by omega)] at key; exact key)
            | (rw [if_neg (by omega), if_neg (by omega)] at key; exact key)
        · skip
          refine v_iconst (v := nI 1) C dX12_greatest_80 (by decide) ?_
          refine v_goto C 85 dX12_greatest_81 (by decide) ?_
          first | refine v_iaddn C dX12_greatest_85 ?_ | refine v_iadd C dX12_greatest_85 ?_
          refine v_istore_6 C dX12_greatest_86 (by decide) (by first | rfl | assumption) ?_
          first | refine v_iinc_7 C dX12_greatest_88 (nI_1 _) (by decide) (by first | rfl | assumption) ?_ | refine v_iinc_7 C dX12_greatest_88 rfl (by decide) (by first | rfl | assumption) ?_
          refine v_goto C 23 dX12_greatest_91 (by decide) ?_
          have e1 := cnt_take (p := fun d => decide (c.2.1 < d.2.1)) hcj
          have e2 := cnt_take (p := fun d => decide (d.2.1 = c.2.1)) hcj
          have key := ih (j + 1) (by omega) (by omega)
          rw [e1, e2] at key
          simp only [decide_eq_true_eq] at key
          first
            | (rw [if_pos (by omega), if_pos (by omega)] at key; exact key)
            | (rw [if_pos (by omega), if_neg (by omega)] at key; exact key)
            | (rw [if_neg (by omega), if_pos (by omega)] at key; exact key)
            | (rw [if_neg (by omega), if_neg (by omega)] at key; exact key)
      · skip
        refine v_iconst (v := nI 1) C dX12_greatest_52 (by decide) ?_
        refine v_goto C 57 dX12_greatest_53 (by decide) ?_
        first | refine v_iaddn C dX12_greatest_57 ?_ | refine v_iadd C dX12_greatest_57 ?_
        refine v_istore_5 C dX12_greatest_58 (by decide) (by first | rfl | assumption) ?_
        refine v_iload C dX12_greatest_60 rfl ?_
        refine v_aload_n C dX12_greatest_62 rfl ?_
        refine gf_X12_72 C dX12_greatest_63 (by assumption) ?_
        refine v_iload C dX12_greatest_66 rfl ?_
        refine v_lald C dX12_greatest_68 (by assumption) (by omega) (by omega) (hrep j _ hcj).2.1 ?_
        refine v_aload_n C dX12_greatest_69 rfl ?_
        refine gf_X12_72 C dX12_greatest_70 (by assumption) ?_
        refine v_iload C dX12_greatest_73 rfl ?_
        refine v_lald C dX12_greatest_75 (by assumption) (by omega) (by omega) (hrep i c hci).2.1 ?_
        refine v_lcmpn_ne C 84 dX12_greatest_76 dX12_greatest_77 (by decide) (by omega) (by omega) (fun h76 => ?_) (fun h76 => ?_)
        · skip
          refine v_iconst (v := nI 0) C dX12_greatest_84 (by decide) ?_
          first | refine v_iaddn C dX12_greatest_85 ?_ | refine v_iadd C dX12_greatest_85 ?_
          refine v_istore_6 C dX12_greatest_86 (by decide) (by first | rfl | assumption) ?_
          first | refine v_iinc_7 C dX12_greatest_88 (nI_1 _) (by decide) (by first | rfl | assumption) ?_ | refine v_iinc_7 C dX12_greatest_88 rfl (by decide) (by first | rfl | assumption) ?_
          refine v_goto C 23 dX12_greatest_91 (by decide) ?_
          have e1 := cnt_take (p := fun d => decide (c.2.1 < d.2.1)) hcj
          have e2 := cnt_take (p := fun d => decide (d.2.1 = c.2.1)) hcj
          have key := ih (j + 1) (by omega) (by omega)
          rw [e1, e2] at key
          simp only [decide_eq_true_eq] at key
          first
            | (rw [if_pos (by omega), if_pos (by omega)] at key; exact key)
            | (rw [if_pos (by omega), if_neg (by omega)] at key; exact key)
            | (rw [if_neg (by omega), if_pos (by omega)] at key; exact key)
            | (rw [if_neg (by omega), if_neg (by omega)] at key; exact key)
        · skip
          refine v_iconst (v := nI 1) C dX12_greatest_80 (by decide) ?_
          refine v_goto C 85 dX12_greatest_81 (by decide) ?_
          first | refine v_iaddn C dX12_greatest_85 ?_ | refine v_iadd C dX12_greatest_85 ?_
          refine v_istore_6 C dX12_greatest_86 (by decide) (by first | rfl | assumption) ?_
          first | refine v_iinc_7 C dX12_greatest_88 (nI_1 _) (by decide) (by first | rfl | assumption) ?_ | refine v_iinc_7 C dX12_greatest_88 rfl (by decide) (by first | rfl | assumption) ?_
          refine v_goto C 23 dX12_greatest_91 (by decide) ?_
          have e1 := cnt_take (p := fun d => decide (c.2.1 < d.2.1)) hcj
          have e2 := cnt_take (p := fun d => decide (d.2.1 = c.2.1)) hcj
          have key := ih (j + 1) (by omega) (by omega)
          rw [e1, e2] at key
          simp only [decide_eq_true_eq] at key
          first
            | (rw [if_pos (by omega), if_pos (by omega)] at key; exact key)
            | (rw [if_pos (by omega), if_neg (by omega)] at key; exact key)
            | (rw [if_neg (by omega), if_pos (by omega)] at key; exact key)
            | (rw [if_neg (by omega), if_neg (by omega)] at key; exact key)
set_option maxHeartbeats 4000000 in
set_option maxRecDepth 100000 in
theorem mgrt_out {M : Mx} {E : Ev} {z : Option Nat} (C : Cx M E yX12_greatest.cls cX12_greatest 8 (some .long) 0 0 0 0) {post : Int64 → Gh → Prop} {G : Gh} {P W R lim rq : Nat} {A B : Nat → Nat} {l : Ctr} {rk : Nat} (hrk : rk < 2 ^ 31) (hn : ∀ c ∈ l, c.2.1 < 2 ^ 62) (hm : isMo E G P W R lim rq l.length A B) (hpl : isPl E G l) (hend : ∀ {v : Int64}, v = lN (grt l rk) → post v G) : ∀ (t i : Nat), i ≤ l.length → l.length - i < t → ∀ (x5 x6 x7 : Option Value), lo_c x5 = true → lo_c x6 = true → lo_c x7 = true → V M E 8 (QE M E (fun r : Int64 => some (.long r)) z 0 0 post) z 0 0 G 5 [some (.ref (ga E 104)), some (.int (nI rk)), some (.long (lN (gfo l rk i))), none, some (.int (nI i)), x5, x6, x7] [] := by
  obtain ⟨fa, fb, ho, k5, k6, hfa, hfb, hrg, hlim, hab⟩ := id hm
  obtain ⟨fk, fn, fe, pa, pb, pc9, hrep, hll, hlk, hnd⟩ := id hpl
  intro t
  induction t with
  | zero => intro i _ h; omega
  | succ t ih =>
    intro i hi ht x5 x6 x7 hx5 hx6 hx7
    refine v_iload C dX12_greatest_5 rfl ?_
    refine v_aload_n C dX12_greatest_7 rfl ?_
    refine gf_X12_156 C dX12_greatest_8 (by assumption) ?_
    refine v_icmpn_ge C 127 dX12_greatest_11 (by decide) (by omega) (by omega) (fun h11 => ?_) (fun h11 => ?_)
    · skip
      refine v_lload_n C dX12_greatest_127 rfl ?_
      refine v_lret C dX12_greatest_128 ?_
      refine hend ?_
      have e9 : i = l.length := by omega
      rw [e9, gfo_grt]
    · skip
      have hci : l[i]? = some l[i] := List.getElem?_eq_getElem h11
      have ha9 : abv l l[i].2.1 ≤ l.length := List.countP_le_length
      have hb9 : lke l l[i].2.1 ≤ l.length := List.countP_le_length
      have hs9 := abv_lke l l[i].2.1
      have hg9 := gfo_step (rk := rk) hci
      refine v_iconst (v := nI 0) C dX12_greatest_14 (by decide) ?_
      refine v_istore_5 C dX12_greatest_15 (by decide) (by first | rfl | assumption) ?_
      refine v_iconst (v := nI 0) C dX12_greatest_17 (by decide) ?_
      refine v_istore_6 C dX12_greatest_18 (by decide) (by first | rfl | assumption) ?_
      refine v_iconst (v := nI 0) C dX12_greatest_20 (by decide) ?_
      refine v_istore_7 C dX12_greatest_21 (by decide) (by first | rfl | assumption) ?_
      refine mgrt_in C hci hrk hn hm hpl ?_ (l.length + 1) 0 (by omega) (by omega)
      refine v_iload C dX12_greatest_94 rfl ?_
      refine v_iload_n C dX12_greatest_96 rfl ?_
      refine v_icmpn_ge C 119 dX12_greatest_97 (by decide) (by omega) (by omega) (fun h97 => ?_) (fun h97 => ?_)
      · skip
        refine v_lload_n C dX12_greatest_119 rfl ?_
        refine v_lstore_2 C dX12_greatest_120 (by decide) (by first | rfl | assumption) ?_
        first | refine v_iinc_4 C dX12_greatest_121 (nI_1 _) (by decide) (by first | rfl | assumption) ?_ | refine v_iinc_4 C dX12_greatest_121 rfl (by decide) (by first | rfl | assumption) ?_
        refine v_goto C 5 dX12_greatest_124 (by decide) ?_
        first
          | (rw [if_pos (by omega)] at hg9; rw [← hg9]; exact ih (i + 1) (by omega) (by omega) _ _ _ rfl rfl rfl)
          | (rw [if_neg (by omega)] at hg9; rw [← hg9]; exact ih (i + 1) (by omega) (by omega) _ _ _ rfl rfl rfl)
      · skip
        refine v_iload C dX12_greatest_100 rfl ?_
        refine v_iload C dX12_greatest_102 rfl ?_
        first | refine v_iaddn C dX12_greatest_104 ?_ | refine v_iadd C dX12_greatest_104 ?_
        refine v_iload_n C dX12_greatest_105 rfl ?_
        refine v_icmpn_lt C 119 dX12_greatest_106 (by decide) (by omega) (by omega) (fun h106 => ?_) (fun h106 => ?_)
        · skip
          refine v_lload_n C dX12_greatest_119 rfl ?_
          refine v_lstore_2 C dX12_greatest_120 (by decide) (by first | rfl | assumption) ?_
          first | refine v_iinc_4 C dX12_greatest_121 (nI_1 _) (by decide) (by first | rfl | assumption) ?_ | refine v_iinc_4 C dX12_greatest_121 rfl (by decide) (by first | rfl | assumption) ?_
          refine v_goto C 5 dX12_greatest_124 (by decide) ?_
          first
            | (rw [if_pos (by omega)] at hg9; rw [← hg9]; exact ih (i + 1) (by omega) (by omega) _ _ _ rfl rfl rfl)
            | (rw [if_neg (by omega)] at hg9; rw [← hg9]; exact ih (i + 1) (by omega) (by omega) _ _ _ rfl rfl rfl)
        · skip
          refine v_aload_n C dX12_greatest_109 rfl ?_
          refine gf_X12_72 C dX12_greatest_110 (by assumption) ?_
          refine v_iload C dX12_greatest_113 rfl ?_
          refine v_lald C dX12_greatest_115 (by assumption) (by omega) (by omega) (hrep i _ hci).2.1 ?_
          refine v_goto C 120 dX12_greatest_116 (by decide) ?_
          refine v_lstore_2 C dX12_greatest_120 (by decide) (by first | rfl | assumption) ?_
          first | refine v_iinc_4 C dX12_greatest_121 (nI_1 _) (by decide) (by first | rfl | assumption) ?_ | refine v_iinc_4 C dX12_greatest_121 rfl (by decide) (by first | rfl | assumption) ?_
          refine v_goto C 5 dX12_greatest_124 (by decide) ?_
          first
            | (rw [if_pos (by omega)] at hg9; rw [← hg9]; exact ih (i + 1) (by omega) (by omega) _ _ _ rfl rfl rfl)
            | (rw [if_neg (by omega)] at hg9; rw [← hg9]; exact ih (i + 1) (by omega) (by omega) _ _ _ rfl rfl rfl)
set_option maxHeartbeats 4000000 in
set_option maxRecDepth 100000 in
theorem c_Mo_greatest (la : Launch) (E : Ev) (z : Option Nat) {G : Gh} {P W R lim rq : Nat} {A B : Nat → Nat} {l : Ctr} {rk : Nat} (hrk : rk < 2 ^ 31) (hn : ∀ c ∈ l, c.2.1 < 2 ^ 62) (hm : isMo E G P W R lim rq l.length A B) (hpl : isPl E G l) : K_X12_greatest la E z G [.ref (ga E 104), .int (nI rk)] (fun r G2 => r = lN (grt l rk) ∧ G = G2) := by
  refine Fc.of rfl [some (.ref (ga E 104)), some (.int (nI rk)), none, none, none, none, none, none] 6 rfl (Nat.le_of_ble_eq_true rfl) ?_
  intro M hM0 hini C
  subst hM0
  obtain ⟨fa, fb, ho, k5, k6, hfa, hfb, hrg, hlim, hab⟩ := id hm
  obtain ⟨fk, fn, fe, pa, pb, pc9, hrep, hll, hlk, hnd⟩ := id hpl
  refine v_lconst (v := lN 0) C dX12_greatest_0 (by decide) ?_
  refine v_lstore_2 C dX12_greatest_1 (by decide) (by first | rfl | assumption) ?_
  refine v_iconst (v := nI 0) C dX12_greatest_2 (by decide) ?_
  refine v_istore_4 C dX12_greatest_3 (by decide) (by first | rfl | assumption) ?_
  exact mgrt_out C hrk hn hm hpl (fun h => ⟨h, rfl⟩) (l.length + 1) 0 (by omega) (by omega) _ _ _ rfl rfl rfl

