def bst (q : List (Option (Nat × Nat × Nat))) (j : Nat) (ob : Option Nat) : Prop := match ob with
  | none => ∀ i c, i < j → q[i]? ≠ some (some c)
  | some b => ∃ c, b < j ∧ q[b]? = some (some c) ∧ ∀ i d, i < j → q[i]? = some (some d) → i = b ∨ wk d c
theorem wk_tr {a b c : Nat × Nat × Nat} (h1 : wk a b) (h2 : wk b c) : wk a c := by unfold wk at *; omega
theorem bst_skip {q : List (Option (Nat × Nat × Nat))} {j : Nat} {ob : Option Nat} (h : bst q j ob) (hq : q[j]? = some none) : bst q (j + 1) ob := by
  cases ob with
  | none =>
    intro i c hi he
    by_cases q9 : i = j
    · subst q9; rw [hq] at he; cases he
    · exact h i c (by omega) he
  | some b =>
    obtain ⟨c, h1, h2, h3⟩ := h
    refine ⟨c, by omega, h2, fun i d hi he => ?_⟩
    by_cases q9 : i = j
    · subst q9; rw [hq] at he; cases he
    · exact h3 i d (by omega) he
theorem bst_first {q : List (Option (Nat × Nat × Nat))} {j : Nat} {d : Nat × Nat × Nat} (h : bst q j none) (hq : q[j]? = some (some d)) : bst q (j + 1) (some j) := by
  refine ⟨d, by omega, hq, fun i e hi he => ?_⟩
  by_cases q9 : i = j
  · exact Or.inl q9
  · exact absurd he (h i e (by omega))
theorem bst_new {q : List (Option (Nat × Nat × Nat))} {j b : Nat} {c d : Nat × Nat × Nat} (h : bst q j (some b)) (hb : q[b]? = some (some c)) (hq : q[j]? = some (some d)) (hw : wk c d) : bst q (j + 1) (some j) := by
  obtain ⟨c2, h1, h2, h3⟩ := h
  rw [hb] at h2
  cases h2
  refine ⟨d, by omega, hq, fun i e hi he => ?_⟩
  by_cases q9 : i = j
  · exact Or.inl q9
  · refine Or.inr ?_
    rcases h3 i e (by omega) he with q8 | q8
    · subst q8; rw [hb] at he; cases he; exact hw
    · exact wk_tr q8 hw
theorem bst_old {q : List (Option (Nat × Nat × Nat))} {j b : Nat} {c d : Nat × Nat × Nat} (h : bst q j (some b)) (hb : q[b]? = some (some c)) (hq : q[j]? = some (some d)) (hw : wk d c) : bst q (j + 1) (some b) := by
  obtain ⟨c2, h1, h2, h3⟩ := h
  rw [hb] at h2
  cases h2
  refine ⟨c, by omega, hb, fun i e hi he => ?_⟩
  by_cases q9 : i = j
  · subst q9; rw [hq] at he; cases he; exact Or.inr hw
  · exact h3 i e (by omega) he
theorem fm_set {α : Type} {c : α} : ∀ {q : List (Option α)} {b : Nat}, q[b]? = some (some c) → (c :: (q.set b none).filterMap id).Perm (q.filterMap id)
  | [], b, h => by simp at h
  | a :: q, 0, h => by
    simp at h
    subst h
    rw [List.set_cons_zero, List.filterMap_cons_none rfl, List.filterMap_cons_some (f := id) rfl]
  | a :: q, b + 1, h => by
    rw [List.getElem?_cons_succ] at h
    rw [List.set_cons_succ]
    have ih := fm_set h
    cases a with
    | none => rw [List.filterMap_cons_none rfl, List.filterMap_cons_none rfl]; exact ih
    | some x =>
      rw [List.filterMap_cons_some (f := id) rfl, List.filterMap_cons_some (f := id) rfl]
      exact (List.Perm.swap x c _).trans (ih.cons x)
def jsI (u0 : Ctr) (q : List (Option (Nat × Nat × Nat))) (sel : Ctr) : Prop := q.length = u0.length ∧ (∀ (i : Nat) (c : Nat × Nat × Nat), q[i]? = some (some c) → u0[i]? = some c) ∧ (sel ++ q.filterMap id).Perm u0 ∧ (∀ c ∈ sel, ∀ r ∈ q.filterMap id, wk r c) ∧ sel.Pairwise wk
theorem jsI_zero (u0 : Ctr) : jsI u0 (u0.map some) [] := by
  refine ⟨List.length_map _, fun i c h => ?_, ?_, fun c h => by simp at h, List.Pairwise.nil⟩
  · rw [List.getElem?_map] at h
    cases hc9 : u0[i]? with
    | none => rw [hc9] at h; cases h
    | some d => rw [hc9] at h; cases h; rfl
  · rw [List.nil_append, List.filterMap_map]
    have e9 : (id ∘ some : (Nat × Nat × Nat) → Option (Nat × Nat × Nat)) = some := rfl
    rw [e9, List.filterMap_some]
theorem fm_mem {α : Type} {q : List (Option α)} {r : α} (h : r ∈ q.filterMap id) : ∃ i : Nat, q[i]? = some (some r) := by
  obtain ⟨a, h1, h2⟩ := List.mem_filterMap.mp h
  obtain ⟨i, hi⟩ := List.getElem?_of_mem h1
  exact ⟨i, by rw [hi]; exact congrArg some h2⟩
theorem jsI_step {u0 : Ctr} {q : List (Option (Nat × Nat × Nat))} {sel : Ctr} {b : Nat} {c : Nat × Nat × Nat} (h : jsI u0 q sel) (hb : bst q u0.length (some b)) (hc : q[b]? = some (some c)) : jsI u0 (q.set b none) (c :: sel) := by
  obtain ⟨h1, h2, h3, h4, h5⟩ := h
  have hbl := (List.getElem?_eq_some_iff.mp hc).1
  have hp := fm_set hc
  have hcm : c ∈ q.filterMap id := hp.mem_iff.mp List.mem_cons_self
  refine ⟨by rw [List.length_set]; exact h1, fun i d hi => ?_, ?_, fun d hd9 r hr => ?_, List.Pairwise.cons (fun d hd9 => h4 d hd9 c hcm) h5⟩
  · by_cases q9 : i = b
    · subst q9; rw [List.getElem?_set_self hbl] at hi; cases hi
    · rw [List.getElem?_set_ne (Ne.symm q9)] at hi; exact h2 i d hi
  · rw [List.cons_append]
    refine (List.perm_middle.symm).trans ?_
    exact (List.Perm.append_left sel hp).trans h3
  · rcases List.mem_cons.mp hd9 with q9 | q9
    · subst q9
      obtain ⟨i, hi⟩ := fm_mem hr
      have q8 : i ≠ b := fun e9 => by subst e9; rw [List.getElem?_set_self hbl] at hi; cases hi
      rw [List.getElem?_set_ne (Ne.symm q8)] at hi
      obtain ⟨c2, k1, k2, k3⟩ := hb
      rw [hc] at k2
      cases k2
      have hil := (List.getElem?_eq_some_iff.mp hi).1
      rcases k3 i r (by omega) hi with q7 | q7
      · exact absurd q7 q8
      · exact q7
    · exact h4 d q9 r (hp.mem_iff.mp (List.mem_cons_of_mem _ hr))
theorem jsI_more {u0 : Ctr} {q : List (Option (Nat × Nat × Nat))} {sel : Ctr} (h : jsI u0 q sel) (hl : sel.length < u0.length) : ¬ bst q u0.length none := by
  obtain ⟨h1, h2, h3, h4, h5⟩ := h
  have hle := h3.length_eq
  rw [List.length_append] at hle
  intro hb
  cases hq : q.filterMap id with
  | nil => rw [hq, List.length_nil] at hle; omega
  | cons r rs =>
    obtain ⟨i, hi⟩ := fm_mem (q := q) (r := r) (by rw [hq]; exact List.mem_cons_self)
    have hil := (List.getElem?_eq_some_iff.mp hi).1
    exact hb i r (by omega) hi
theorem jsI_ns {u0 : Ctr} {q : List (Option (Nat × Nat × Nat))} {sel : Ctr} (h : jsI u0 q sel) : nsrt sel := by
  intro i j c d hij hi hj
  obtain ⟨l1, e1⟩ := List.getElem?_eq_some_iff.mp hi
  obtain ⟨l2, e2⟩ := List.getElem?_eq_some_iff.mp hj
  have := (List.pairwise_iff_getElem.mp h.2.2.2.2) i j l1 l2 hij
  rw [e1, e2] at this
  unfold wk at this
  omega
theorem jsI_sv {u0 : Ctr} {q : List (Option (Nat × Nat × Nat))} {sel ms : Ctr} {lim : Nat} (h : jsI u0 q sel) (hl : sel.length = min lim u0.length) (hp : ms.Perm sel) (hs : srt ms ms.length) : svSpec lim u0 ms := by
  obtain ⟨h1, h2, h3, h4, h5⟩ := h
  exact ⟨q.filterMap id, (hp.append_right _).trans h3, by rw [hp.length_eq]; exact hl, fun c hc9 r hr => h4 c (hp.mem_iff.mp hc9) r hr, hs⟩
def pnI (u0 : Ctr) (q : List (Option (Nat × Nat × Nat))) (pn : Nat → Int64) : Prop := ∀ i : Nat, (∀ c, q[i]? = some (some c) → pn i = lN c.2.1) ∧ (q[i]? = some none → pn i = -1)
theorem pnI_set {u0 : Ctr} {q : List (Option (Nat × Nat × Nat))} {pn : Nat → Int64} {b : Nat} {c : Nat × Nat × Nat} (h : pnI u0 q pn) (hb : q[b]? = some (some c)) : pnI u0 (q.set b none) (fu pn b (-1)) := by
  have hbl := (List.getElem?_eq_some_iff.mp hb).1
  intro i
  by_cases q9 : i = b
  · subst q9
    rw [List.getElem?_set_self hbl, fu_self]
    exact ⟨fun c hc9 => (by cases hc9), fun _ => rfl⟩
  · rw [List.getElem?_set_ne (Ne.symm q9), fu_ne _ _ q9]
    exact h i
def svI (sel : Ctr) (b : Nat) (fk : Nat → Int32) (fn fe : Nat → Int64) : Prop := ∀ (j : Nat) (c : Nat × Nat × Nat), sel[j]? = some c → rp fk fn fe (b + j) c
theorem svI_step {sel : Ctr} {b p : Nat} {fk : Nat → Int32} {fn fe : Nat → Int64} {c : Nat × Nat × Nat} (h : svI sel b fk fn fe) (hp : p + 1 = b) : svI (c :: sel) p (fu fk p (nI c.1)) (fu fn p (lN c.2.1)) (fu fe p (lN c.2.2)) := by
  intro j d hj
  cases j with
  | zero =>
    rw [List.getElem?_cons_zero] at hj
    cases hj
    rw [Nat.add_zero]
    exact ⟨fu_self _ _ _, fu_self _ _ _, fu_self _ _ _⟩
  | succ j =>
    rw [List.getElem?_cons_succ] at hj
    have := h j d hj
    unfold rp at this ⊢
    rw [show p + (j + 1) = b + j by omega, fu_ne _ _ (by omega), fu_ne _ _ (by omega), fu_ne _ _ (by omega)]
    exact this

set_option maxHeartbeats 4000000 in
set_option maxRecDepth 100000 in
theorem js_in {M : Mx} {E : Ev} {z : Option Nat} (C : Cx M E yX12_joinSaving.cls cX12_joinSaving 7 none 2 50 0 0) {post : Unit → Gh → Prop} {G : Gh} {P W R lim rq s s2 st k : Nat} {u0 : Ctr} {q : List (Option (Nat × Nat × Nat))} {pk : Nat → Int32} {pn : Nat → Int64} (ho : G 104 = moO E P W R lim rq u0.length) (pa : G 124 = cI E 600 pk) (pb : G 125 = cJ E 600 pn) (hql : q.length = u0.length) (hqs : ∀ (i : Nat) (c : Nat × Nat × Nat), q[i]? = some (some c) → u0[i]? = some c) (hv : pnI u0 q pn) (hkk : ∀ (i : Nat) (c : Nat × Nat × Nat), u0[i]? = some c → pk i = nI c.1) (hu6 : u0.length ≤ 600) (hbk : ∀ c ∈ u0, c.1 < 65536) (hbn : ∀ c ∈ u0, c.2.1 < 2 ^ 62) (hnd : (ckeys u0).Nodup)
    (kend : ∀ ob, bst q u0.length ob → V M E 7 (QE M E (fun _ : Unit => none) z 0 0 post) z 0 0 G 316 [some (.ref (ga E 104)), some (.int (nI s)), some (.int (nI s2)), some (.int (nI st)), some (.int (nI k)), some (.int (kI ob)), some (.int (nI u0.length))] []) :
    ∀ (t i : Nat), i ≤ u0.length → u0.length - i < t → ∀ ob, bst q i ob → V M E 7 (QE M E (fun _ : Unit => none) z 0 0 post) z 0 0 G 227 [some (.ref (ga E 104)), some (.int (nI s)), some (.int (nI s2)), some (.int (nI st)), some (.int (nI k)), some (.int (kI ob)), some (.int (nI i))] [] := by
  intro t
  induction t with
  | zero => intro i _ h; omega
  | succ t ih =>
    intro i hi ht ob hbst
    rcases Nat.lt_or_ge i u0.length with hin | hin
    · obtain ⟨oq, hqi⟩ : ∃ oq, q[i]? = some oq := ⟨_, List.getElem?_eq_getElem (by omega)⟩
      cases oq with
      | none =>
        refine v_iload C dX12_joinSaving_227 rfl ?_
        refine v_aload_n C dX12_joinSaving_229 rfl ?_
        refine gf_X12_156 C dX12_joinSaving_230 (by assumption) ?_
        refine v_icmpn_ge C 316 dX12_joinSaving_233 (by decide) (by omega) (by omega) (fun h233 => by exfalso; first | omega | exact absurd h233 (by decide) | (have h9 := of_decide_eq_true h233; omega) | (have h9 := of_decide_eq_false h233; omega) | contradiction | simp_all) (fun h233 => ?_)
        refine v_aload_n C dX12_joinSaving_236 rfl ?_
        refine gf_X12_72 C dX12_joinSaving_237 (by assumption) ?_
        refine v_iload C dX12_joinSaving_240 rfl ?_
        refine v_lald C dX12_joinSaving_242 (by assumption) (by omega) (by omega) ((hv i).2 hqi) ?_
        refine v_lconst (v := lN 0) C dX12_joinSaving_243 (by decide) ?_
        refine v_lcmp_lt C 310 dX12_joinSaving_244 dX12_joinSaving_245 (by decide) (fun h244 => ?_) (fun h244 => by exfalso; first | omega | exact absurd h244 (by decide) | (have h9 := of_decide_eq_true h244; omega) | (have h9 := of_decide_eq_false h244; omega) | contradiction | simp_all)
        first | refine v_iinc_6 C dX12_joinSaving_310 (nI_1 _) (by decide) (by first | rfl | assumption) ?_ | refine v_iinc_6 C dX12_joinSaving_310 rfl (by decide) (by first | rfl | assumption) ?_
        refine v_goto C 227 dX12_joinSaving_313 (by decide) ?_
        exact ih (i + 1) (by omega) (by omega) _ (bst_skip hbst hqi)
      | some d =>
        have hdi := hqs i d hqi
        have hdn := hbn d (List.mem_of_getElem? hdi)
        have hdk := hbk d (List.mem_of_getElem? hdi)
        cases ob with
        | none =>
          rw [show kI none = -1 from rfl]
          refine v_iload C dX12_joinSaving_227 rfl ?_
          refine v_aload_n C dX12_joinSaving_229 rfl ?_
          refine gf_X12_156 C dX12_joinSaving_230 (by assumption) ?_
          refine v_icmpn_ge C 316 dX12_joinSaving_233 (by decide) (by omega) (by omega) (fun h233 => by exfalso; first | omega | exact absurd h233 (by decide) | (have h9 := of_decide_eq_true h233; omega) | (have h9 := of_decide_eq_false h233; omega) | contradiction | simp_all) (fun h233 => ?_)
          refine v_aload_n C dX12_joinSaving_236 rfl ?_
          refine gf_X12_72 C dX12_joinSaving_237 (by assumption) ?_
          refine v_iload C dX12_joinSaving_240 rfl ?_
          refine v_lald C dX12_joinSaving_242 (by assumption) (by omega) (by omega) ((hv i).1 d hqi) ?_
          refine v_lconst (v := lN 0) C dX12_joinSaving_243 (by decide) ?_
          refine v_lcmpn_lt C 310 dX12_joinSaving_244 dX12_joinSaving_245 (by decide) (by omega) (by omega) (fun h244 => by exfalso; first | omega | exact absurd h244 (by decide) | (have h9 := of_decide_eq_true h244; omega) | (have h9 := of_decide_eq_false h244; omega) | contradiction | simp_all) (fun h244 => ?_)
          refine v_iload C dX12_joinSaving_248 rfl ?_
          refine v_if_lt C 306 dX12_joinSaving_250 (by decide) (fun h250 => ?_) (fun h250 => by exfalso; first | omega | exact absurd h250 (by decide) | (have h9 := of_decide_eq_true h250; omega) | (have h9 := of_decide_eq_false h250; omega) | contradiction | simp_all)
          refine v_iload C dX12_joinSaving_306 rfl ?_
          refine v_istore_5 C dX12_joinSaving_308 (by decide) (by first | rfl | assumption) ?_
          first | refine v_iinc_6 C dX12_joinSaving_310 (nI_1 _) (by decide) (by first | rfl | assumption) ?_ | refine v_iinc_6 C dX12_joinSaving_310 rfl (by decide) (by first | rfl | assumption) ?_
          refine v_goto C 227 dX12_joinSaving_313 (by decide) ?_
          exact ih (i + 1) (by omega) (by omega) (some i) (bst_first hbst hqi)
        | some b =>
          obtain ⟨c, hbi, hbc, -⟩ := id hbst
          have hcb := hqs b c hbc
          have hcn := hbn c (List.mem_of_getElem? hcb)
          have hck := hbk c (List.mem_of_getElem? hcb)
          have hne : d.1 ≠ c.1 := fun e9 => by have := ckeys_inj hnd hdi hcb e9; omega
          rw [show kI (some b) = nI b from rfl]
          refine v_iload C dX12_joinSaving_227 rfl ?_
          refine v_aload_n C dX12_joinSaving_229 rfl ?_
          refine gf_X12_156 C dX12_joinSaving_230 (by assumption) ?_
          refine v_icmpn_ge C 316 dX12_joinSaving_233 (by decide) (by omega) (by omega) (fun h233 => by exfalso; first | omega | exact absurd h233 (by decide) | (have h9 := of_decide_eq_true h233; omega) | (have h9 := of_decide_eq_false h233; omega) | contradiction | simp_all) (fun h233 => ?_)
          refine v_aload_n C dX12_joinSaving_236 rfl ?_
          refine gf_X12_72 C dX12_joinSaving_237 (by assumption) ?_
          refine v_iload C dX12_joinSaving_240 rfl ?_
          refine v_lald C dX12_joinSaving_242 (by assumption) (by omega) (by omega) ((hv i).1 d hqi) ?_
          refine v_lconst (v := lN 0) C dX12_joinSaving_243 (by decide) ?_
          refine v_lcmpn_lt C 310 dX12_joinSaving_244 dX12_joinSaving_245 (by decide) (by omega) (by omega) (fun h244 => by exfalso; first | omega | exact absurd h244 (by decide) | (have h9 := of_decide_eq_true h244; omega) | (have h9 := of_decide_eq_false h244; omega) | contradiction | simp_all) (fun h244 => ?_)
          refine v_iload C dX12_joinSaving_248 rfl ?_
          first | refine v_ifn_lt C 306 dX12_joinSaving_250 (by decide) (by omega) (fun h250 => by exfalso; first | omega | exact absurd h250 (by decide) | (have h9 := of_decide_eq_true h250; omega) | (have h9 := of_decide_eq_false h250; omega) | contradiction | simp_all) (fun h250 => ?_) | refine v_if_lt C 306 dX12_joinSaving_250 (by decide) (fun h250 => by exfalso; first | omega | exact absurd h250 (by decide) | (have h9 := of_decide_eq_true h250; omega) | (have h9 := of_decide_eq_false h250; omega) | contradiction | simp_all) (fun h250 => ?_)
          refine v_aload_n C dX12_joinSaving_253 rfl ?_
          refine gf_X12_72 C dX12_joinSaving_254 (by assumption) ?_
          refine v_iload C dX12_joinSaving_257 rfl ?_
          refine v_lald C dX12_joinSaving_259 (by assumption) (by omega) (by omega) ((hv i).1 d hqi) ?_
          refine v_aload_n C dX12_joinSaving_260 rfl ?_
          refine gf_X12_72 C dX12_joinSaving_261 (by assumption) ?_
          refine v_iload C dX12_joinSaving_264 rfl ?_
          refine v_lald C dX12_joinSaving_266 (by assumption) (by omega) (by omega) ((hv b).1 c hbc) ?_
          refine v_lcmpn_gt C 306 dX12_joinSaving_267 dX12_joinSaving_268 (by decide) (by omega) (by omega) (fun h267 => ?_) (fun h267 => ?_)
          · skip
            refine v_iload C dX12_joinSaving_306 rfl ?_
            refine v_istore_5 C dX12_joinSaving_308 (by decide) (by first | rfl | assumption) ?_
            first | refine v_iinc_6 C dX12_joinSaving_310 (nI_1 _) (by decide) (by first | rfl | assumption) ?_ | refine v_iinc_6 C dX12_joinSaving_310 rfl (by decide) (by first | rfl | assumption) ?_
            refine v_goto C 227 dX12_joinSaving_313 (by decide) ?_
            first
              | exact ih (i + 1) (by omega) (by omega) (some i) (bst_new hbst hbc hqi (by unfold wk; omega))
              | exact ih (i + 1) (by omega) (by omega) (some b) (bst_old hbst hbc hqi (by unfold wk; omega))
          · skip
            refine v_aload_n C dX12_joinSaving_271 rfl ?_
            refine gf_X12_72 C dX12_joinSaving_272 (by assumption) ?_
            refine v_iload C dX12_joinSaving_275 rfl ?_
            refine v_lald C dX12_joinSaving_277 (by assumption) (by omega) (by omega) ((hv i).1 d hqi) ?_
            refine v_aload_n C dX12_joinSaving_278 rfl ?_
            refine gf_X12_72 C dX12_joinSaving_279 (by assumption) ?_
            refine v_iload C dX12_joinSaving_282 rfl ?_
            refine v_lald C dX12_joinSaving_284 (by assumption) (by omega) (by omega) ((hv b).1 c hbc) ?_
            refine v_lcmpn_ne C 310 dX12_joinSaving_285 dX12_joinSaving_286 (by decide) (by omega) (by omega) (fun h285 => ?_) (fun h285 => ?_)
            · skip
              first | refine v_iinc_6 C dX12_joinSaving_310 (nI_1 _) (by decide) (by first | rfl | assumption) ?_ | refine v_iinc_6 C dX12_joinSaving_310 rfl (by decide) (by first | rfl | assumption) ?_
              refine v_goto C 227 dX12_joinSaving_313 (by decide) ?_
              first
                | exact ih (i + 1) (by omega) (by omega) (some i) (bst_new hbst hbc hqi (by unfold wk; omega))
                | exact ih (i + 1) (by omega) (by omega) (some b) (bst_old hbst hbc hqi (by unfold wk; omega))
            · skip
              refine v_aload_n C dX12_joinSaving_289 rfl ?_
              refine gf_X12_69 C dX12_joinSaving_290 (by assumption) ?_
              refine v_iload C dX12_joinSaving_293 rfl ?_
              refine v_iald C dX12_joinSaving_295 (by assumption) (by omega) (by omega) (hkk i d hdi) ?_
              refine v_aload_n C dX12_joinSaving_296 rfl ?_
              refine gf_X12_69 C dX12_joinSaving_297 (by assumption) ?_
              refine v_iload C dX12_joinSaving_300 rfl ?_
              refine v_iald C dX12_joinSaving_302 (by assumption) (by omega) (by omega) (hkk b c hcb) ?_
              refine v_icmpn_ge C 310 dX12_joinSaving_303 (by decide) (by omega) (by omega) (fun h303 => ?_) (fun h303 => ?_)
              · skip
                first | refine v_iinc_6 C dX12_joinSaving_310 (nI_1 _) (by decide) (by first | rfl | assumption) ?_ | refine v_iinc_6 C dX12_joinSaving_310 rfl (by decide) (by first | rfl | assumption) ?_
                refine v_goto C 227 dX12_joinSaving_313 (by decide) ?_
                first
                  | exact ih (i + 1) (by omega) (by omega) (some i) (bst_new hbst hbc hqi (by unfold wk; omega))
                  | exact ih (i + 1) (by omega) (by omega) (some b) (bst_old hbst hbc hqi (by unfold wk; omega))
              · skip
                refine v_iload C dX12_joinSaving_306 rfl ?_
                refine v_istore_5 C dX12_joinSaving_308 (by decide) (by first | rfl | assumption) ?_
                first | refine v_iinc_6 C dX12_joinSaving_310 (nI_1 _) (by decide) (by first | rfl | assumption) ?_ | refine v_iinc_6 C dX12_joinSaving_310 rfl (by decide) (by first | rfl | assumption) ?_
                refine v_goto C 227 dX12_joinSaving_313 (by decide) ?_
                first
                  | exact ih (i + 1) (by omega) (by omega) (some i) (bst_new hbst hbc hqi (by unfold wk; omega))
                  | exact ih (i + 1) (by omega) (by omega) (some b) (bst_old hbst hbc hqi (by unfold wk; omega))
    · skip
      refine v_iload C dX12_joinSaving_227 rfl ?_
      refine v_aload_n C dX12_joinSaving_229 rfl ?_
      refine gf_X12_156 C dX12_joinSaving_230 (by assumption) ?_
      refine v_icmpn_ge C 316 dX12_joinSaving_233 (by decide) (by omega) (by omega) (fun h233 => ?_) (fun h233 => by exfalso; first | omega | exact absurd h233 (by decide) | (have h9 := of_decide_eq_true h233; omega) | (have h9 := of_decide_eq_false h233; omega) | contradiction | simp_all)
      have e9 : i = u0.length := by omega
      subst e9
      exact kend ob hbst
set_option maxHeartbeats 4000000 in
set_option maxRecDepth 100000 in
theorem js_out {M : Mx} {E : Ev} {z : Option Nat} (C : Cx M E yX12_joinSaving.cls cX12_joinSaving 7 none 2 50 0 0) {post : Unit → Gh → Prop} {G0 : Gh} {P W R lim rq s s2 st : Nat} {u0 : Ctr} {gk pk : Nat → Int32} {gn ge pn0 pe : Nat → Int64} (hs : s < 4) (hst : st ≤ u0.length) (hst6 : st ≤ 64) (hrep : rep u0 pk pn0 pe) (hu6 : u0.length ≤ 600) (hbk : ∀ c ∈ u0, c.1 < 65536) (hbn : ∀ c ∈ u0, c.2.1 < 2 ^ 62) (hnd : (ckeys u0).Nodup)
    (kend : ∀ (q : List (Option (Nat × Nat × Nat))) (sel : Ctr), sel.length = st → jsI u0 q sel → ∀ (G : Gh) (fk : Nat → Int32) (fn fe pn : Nat → Int64), G 104 = moO E P W R lim rq u0.length → G 115 = cI E 256 fk → G 116 = cJ E 256 fn → G 117 = cJ E 256 fe → G 124 = cI E 600 pk → G 125 = cJ E 600 pn → G 126 = cJ E 600 pe → svI sel (64 * s + st - st) fk fn fe → (∀ q, (q < 64 * s ∨ 64 * s + 64 ≤ q) → fk q = gk q ∧ fn q = gn q ∧ fe q = ge q) → (∀ j, (j < 115 ∨ 118 ≤ j) ∧ j ≠ 125 → G j = G0 j) → ∀ x5 x6, V M E 7 (QE M E (fun _ : Unit => none) z 0 0 post) z 0 0 G 401 [some (.ref (ga E 104)), some (.int (nI s)), some (.int (nI s2)), some (.int (nI st)), some (.int (nI st)), x5, x6] []) :
    ∀ (u : Nat) (q : List (Option (Nat × Nat × Nat))) (sel : Ctr), sel.length ≤ st → st - sel.length < u → ∀ (G : Gh) (fk : Nat → Int32) (fn fe pn : Nat → Int64), G 104 = moO E P W R lim rq u0.length → G 115 = cI E 256 fk → G 116 = cJ E 256 fn → G 117 = cJ E 256 fe → G 124 = cI E 600 pk → G 125 = cJ E 600 pn → G 126 = cJ E 600 pe → jsI u0 q sel → pnI u0 q pn → svI sel (64 * s + st - sel.length) fk fn fe → (∀ q, (q < 64 * s ∨ 64 * s + 64 ≤ q) → fk q = gk q ∧ fn q = gn q ∧ fe q = ge q) → (∀ j, (j < 115 ∨ 118 ≤ j) ∧ j ≠ 125 → G j = G0 j) → ∀ x5 x6, lo_c x5 = true → lo_c x6 = true → V M E 7 (QE M E (fun _ : Unit => none) z 0 0 post) z 0 0 G 215 [some (.ref (ga E 104)), some (.int (nI s)), some (.int (nI s2)), some (.int (nI st)), some (.int (nI sel.length)), x5, x6] [] := by
  intro u
  induction u with
  | zero => intro q sel _ h; omega
  | succ u ih =>
    intro q sel hk hu G fk fn fe pn ho sb sc sd pa pb pc9 hI hv hsv hoth hfr x5 x6 hx5 hx6
    refine v_iload C dX12_joinSaving_215 rfl ?_
    refine v_iload_n C dX12_joinSaving_217 rfl ?_
    refine v_icmpn_ge C 401 dX12_joinSaving_218 (by decide) (by omega) (by omega) (fun h218 => ?_) (fun h218 => ?_)
    · skip
      have e9 : sel.length = st := by omega
      rw [e9] at hsv ⊢
      exact kend q sel e9 hI G fk fn fe pn ho sb sc sd pa pb pc9 hsv hoth hfr x5 x6
    · skip
      refine v_iconst (v := -1) C dX12_joinSaving_221 (by decide) ?_
      refine v_istore_5 C dX12_joinSaving_222 (by decide) (by first | rfl | assumption) ?_
      refine v_iconst (v := nI 0) C dX12_joinSaving_224 (by decide) ?_
      refine v_istore_6 C dX12_joinSaving_225 (by decide) (by first | rfl | assumption) ?_
      refine js_in C ho pa pb hI.1 hI.2.1 hv (fun i c hc9 => (hrep i c hc9).1) hu6 hbk hbn hnd ?_ (u0.length + 1) 0 (by omega) (by omega) none (fun i c h => by omega)
      intro ob hbst
      cases ob with
      | none => exact absurd hbst (jsI_more hI (by omega))
      | some b =>
        obtain ⟨c, hbi, hbc, -⟩ := id hbst
        have hcb := hI.2.1 b c hbc
        rw [show kI (some b) = nI b from rfl]
        refine v_aload_n C dX12_joinSaving_316 rfl ?_
        refine gf_X12_41 C dX12_joinSaving_317 (by assumption) ?_
        refine v_bipush (v := nI 64) C dX12_joinSaving_320 (by decide) ?_
        refine v_iload_n C dX12_joinSaving_322 rfl ?_
        first | refine v_imuln C dX12_joinSaving_323 ?_ | refine v_imul C dX12_joinSaving_323 ?_
        refine v_iload_n C dX12_joinSaving_324 rfl ?_
        first | refine v_iaddn C dX12_joinSaving_325 ?_ | refine v_iadd C dX12_joinSaving_325 ?_
        refine v_iconst (v := nI 1) C dX12_joinSaving_326 (by decide) ?_
        first | refine v_isubn C dX12_joinSaving_327 (by omega) ?_ | refine v_isub C dX12_joinSaving_327 ?_
        refine v_iload C dX12_joinSaving_328 rfl ?_
        first | refine v_isubn C dX12_joinSaving_330 (by omega) ?_ | refine v_isub C dX12_joinSaving_330 ?_
        refine v_aload_n C dX12_joinSaving_331 rfl ?_
        refine gf_X12_69 C dX12_joinSaving_332 (by assumption) ?_
        refine v_iload C dX12_joinSaving_335 rfl ?_
        refine v_iald C dX12_joinSaving_337 (by assumption) (by omega) (by omega) (hrep b c hcb).1 ?_
        refine v_iast C dX12_joinSaving_338 (by assumption) (by omega) (by omega) (fun G hG338 hF338 => ?_)
        first | replace ho := (hF338 _ (by omega)).trans ho | replace ho := hG338 | skip
        first | replace sb := (hF338 _ (by omega)).trans sb | replace sb := hG338 | skip
        first | replace sc := (hF338 _ (by omega)).trans sc | replace sc := hG338 | skip
        first | replace sd := (hF338 _ (by omega)).trans sd | replace sd := hG338 | skip
        first | replace pa := (hF338 _ (by omega)).trans pa | replace pa := hG338 | skip
        first | replace pb := (hF338 _ (by omega)).trans pb | replace pb := hG338 | skip
        first | replace pc9 := (hF338 _ (by omega)).trans pc9 | replace pc9 := hG338 | skip
        refine v_aload_n C dX12_joinSaving_339 rfl ?_
        refine gf_X12_44 C dX12_joinSaving_340 (by assumption) ?_
        refine v_bipush (v := nI 64) C dX12_joinSaving_343 (by decide) ?_
        refine v_iload_n C dX12_joinSaving_345 rfl ?_
        first | refine v_imuln C dX12_joinSaving_346 ?_ | refine v_imul C dX12_joinSaving_346 ?_
        refine v_iload_n C dX12_joinSaving_347 rfl ?_
        first | refine v_iaddn C dX12_joinSaving_348 ?_ | refine v_iadd C dX12_joinSaving_348 ?_
        refine v_iconst (v := nI 1) C dX12_joinSaving_349 (by decide) ?_
        first | refine v_isubn C dX12_joinSaving_350 (by omega) ?_ | refine v_isub C dX12_joinSaving_350 ?_
        refine v_iload C dX12_joinSaving_351 rfl ?_
        first | refine v_isubn C dX12_joinSaving_353 (by omega) ?_ | refine v_isub C dX12_joinSaving_353 ?_
        refine v_aload_n C dX12_joinSaving_354 rfl ?_
        refine gf_X12_72 C dX12_joinSaving_355 (by assumption) ?_
        refine v_iload C dX12_joinSaving_358 rfl ?_
        refine v_lald C dX12_joinSaving_360 (by assumption) (by omega) (by omega) ((hv b).1 c hbc) ?_
        refine v_last C dX12_joinSaving_361 (by assumption) (by omega) (by omega) (fun G hG361 hF361 => ?_)
        first | replace ho := (hF361 _ (by omega)).trans ho | replace ho := hG361 | skip
        first | replace sb := (hF361 _ (by omega)).trans sb | replace sb := hG361 | skip
        first | replace sc := (hF361 _ (by omega)).trans sc | replace sc := hG361 | skip
        first | replace sd := (hF361 _ (by omega)).trans sd | replace sd := hG361 | skip
        first | replace pa := (hF361 _ (by omega)).trans pa | replace pa := hG361 | skip
        first | replace pb := (hF361 _ (by omega)).trans pb | replace pb := hG361 | skip
        first | replace pc9 := (hF361 _ (by omega)).trans pc9 | replace pc9 := hG361 | skip
        refine v_aload_n C dX12_joinSaving_362 rfl ?_
        refine gf_X12_47 C dX12_joinSaving_363 (by assumption) ?_
        refine v_bipush (v := nI 64) C dX12_joinSaving_366 (by decide) ?_
        refine v_iload_n C dX12_joinSaving_368 rfl ?_
        first | refine v_imuln C dX12_joinSaving_369 ?_ | refine v_imul C dX12_joinSaving_369 ?_
        refine v_iload_n C dX12_joinSaving_370 rfl ?_
        first | refine v_iaddn C dX12_joinSaving_371 ?_ | refine v_iadd C dX12_joinSaving_371 ?_
        refine v_iconst (v := nI 1) C dX12_joinSaving_372 (by decide) ?_
        first | refine v_isubn C dX12_joinSaving_373 (by omega) ?_ | refine v_isub C dX12_joinSaving_373 ?_
        refine v_iload C dX12_joinSaving_374 rfl ?_
        first | refine v_isubn C dX12_joinSaving_376 (by omega) ?_ | refine v_isub C dX12_joinSaving_376 ?_
        refine v_aload_n C dX12_joinSaving_377 rfl ?_
        refine gf_X12_75 C dX12_joinSaving_378 (by assumption) ?_
        refine v_iload C dX12_joinSaving_381 rfl ?_
        refine v_lald C dX12_joinSaving_383 (by assumption) (by omega) (by omega) (hrep b c hcb).2.2 ?_
        refine v_last C dX12_joinSaving_384 (by assumption) (by omega) (by omega) (fun G hG384 hF384 => ?_)
        first | replace ho := (hF384 _ (by omega)).trans ho | replace ho := hG384 | skip
        first | replace sb := (hF384 _ (by omega)).trans sb | replace sb := hG384 | skip
        first | replace sc := (hF384 _ (by omega)).trans sc | replace sc := hG384 | skip
        first | replace sd := (hF384 _ (by omega)).trans sd | replace sd := hG384 | skip
        first | replace pa := (hF384 _ (by omega)).trans pa | replace pa := hG384 | skip
        first | replace pb := (hF384 _ (by omega)).trans pb | replace pb := hG384 | skip
        first | replace pc9 := (hF384 _ (by omega)).trans pc9 | replace pc9 := hG384 | skip
        refine v_aload_n C dX12_joinSaving_385 rfl ?_
        refine gf_X12_72 C dX12_joinSaving_386 (by assumption) ?_
        refine v_iload C dX12_joinSaving_389 rfl ?_
        refine v_ldc2 C tw824 dX12_joinSaving_391 ?_
        refine v_last C dX12_joinSaving_394 (by assumption) (by omega) (by omega) (fun G hG394 hF394 => ?_)
        first | replace ho := (hF394 _ (by omega)).trans ho | replace ho := hG394 | skip
        first | replace sb := (hF394 _ (by omega)).trans sb | replace sb := hG394 | skip
        first | replace sc := (hF394 _ (by omega)).trans sc | replace sc := hG394 | skip
        first | replace sd := (hF394 _ (by omega)).trans sd | replace sd := hG394 | skip
        first | replace pa := (hF394 _ (by omega)).trans pa | replace pa := hG394 | skip
        first | replace pb := (hF394 _ (by omega)).trans pb | replace pb := hG394 | skip
        first | replace pc9 := (hF394 _ (by omega)).trans pc9 | replace pc9 := hG394 | skip
        first | refine v_iinc_4 C dX12_joinSaving_395 (nI_1 _) (by decide) (by first | rfl | assumption) ?_ | refine v_iinc_4 C dX12_joinSaving_395 rfl (by decide) (by first | rfl | assumption) ?_
        refine v_goto C 215 dX12_joinSaving_398 (by decide) ?_
        exact ih (q.set b none) (c :: sel) (by rw [List.length_cons]; omega) (by rw [List.length_cons]; omega) G _ _ _ _ ho sb sc sd pa pb pc9 (jsI_step hI hbst hbc) (pnI_set hv hbc) (by rw [show 64 * s + st - (c :: sel).length = 64 * s + st - 1 - sel.length by rw [List.length_cons]; omega]; exact svI_step hsv (by omega)) (fun q hq => by rw [fu_ne _ _ (by omega), fu_ne _ _ (by omega), fu_ne _ _ (by omega)]; exact hoth q hq) (fun j hj => by rw [hF394 j (by omega), hF384 j (by omega), hF361 j (by omega), hF338 j (by omega)]; exact hfr j hj) _ _ rfl rfl
