theorem nI_dec {x : Nat} (h : 1 ≤ x) : nI x + Int32.ofInt (-1) = nI (x - 1) := by
  rw [← nI_sub h, Int32.sub_eq_add_neg]
  rfl
def cle (c d : Nat × Nat × Nat) : Prop := c.2.1 < d.2.1 ∨ (c.2.1 = d.2.1 ∧ c.1 ≤ d.1)
theorem cle.trans {a b c : Nat × Nat × Nat} (h1 : cle a b) (h2 : cle b c) : cle a c := by unfold cle at *; omega
def srt (l : Ctr) (k : Nat) : Prop := ∀ (a b : Nat) (c d : Nat × Nat × Nat), a < b → b < k → l[a]? = some c → l[b]? = some d → cle c d
theorem cgt_cle {c : Nat × Nat × Nat} {c0 : Nat × Nat × Nat} (h : cgt c c0.2.1 c0.1 = true) : cle c0 c := by unfold cgt at h; unfold cle; simp at h; omega
theorem cgt_cle2 {c : Nat × Nat × Nat} {c0 : Nat × Nat × Nat} (h : cgt c c0.2.1 c0.1 = false) : cle c c0 := by unfold cgt at h; unfold cle; simp at h; omega
theorem sins_get {m : Ctr} {i t : Nat} {c0 : Nat × Nat × Nat} (hi : m[i]? = some c0) (ht : t ≤ i) (j : Nat) : ((m.eraseIdx i).insertIdx t c0)[j]? = if j < t then m[j]? else if j = t then some c0 else if j ≤ i then m[j - 1]? else m[j]? := by
  have hl := (List.getElem?_eq_some_iff.mp hi).1
  have he : (m.eraseIdx i).length = m.length - 1 := List.length_eraseIdx_of_lt hl
  rw [List.getElem?_insertIdx]
  by_cases h1 : j < t
  · rw [if_pos h1, if_pos h1, List.getElem?_eraseIdx, if_pos (by omega)]
  · rw [if_neg h1, if_neg h1]
    by_cases h2 : j = t
    · rw [if_pos h2, if_pos h2, if_pos (by omega)]
    · rw [if_neg h2, if_neg h2, List.getElem?_eraseIdx]
      by_cases h3 : j ≤ i
      · rw [if_pos h3, if_pos (by omega)]
      · rw [if_neg h3, if_neg (by omega), show j - 1 + 1 = j by omega]
theorem srt_ins {m : Ctr} {i t : Nat} {c0 : Nat × Nat × Nat} (hm : srt m i) (hi : m[i]? = some c0) (ht : t ≤ i) (hlow : ∀ j c, j < t → m[j]? = some c → cle c c0) (hup : ∀ j c, t ≤ j → j < i → m[j]? = some c → cle c0 c) : srt ((m.eraseIdx i).insertIdx t c0) (i + 1) := by
  intro a b c d hab hb ha hd
  rw [sins_get hi ht] at ha hd
  by_cases a1 : a < t
  · rw [if_pos a1] at ha
    by_cases b1 : b < t
    · rw [if_pos b1] at hd; exact hm a b c d hab (by omega) ha hd
    · rw [if_neg b1] at hd
      by_cases b2 : b = t
      · rw [if_pos b2] at hd; cases hd; exact hlow a c a1 ha
      · rw [if_neg b2, if_pos (by omega)] at hd; exact hm a (b - 1) c d (by omega) (by omega) ha hd
  · rw [if_neg a1] at ha
    rw [if_neg (by omega), if_neg (by omega), if_pos (by omega)] at hd
    by_cases a2 : a = t
    · rw [if_pos a2] at ha; cases ha; exact hup (b - 1) d (by omega) (by omega) hd
    · rw [if_neg a2, if_pos (by omega)] at ha; exact hm (a - 1) (b - 1) c d (by omega) (by omega) ha hd
theorem cons_erase_perm {α : Type} {c : α} : ∀ {m : List α} {i : Nat}, m[i]? = some c → (c :: m.eraseIdx i).Perm m
  | [], i, h => by simp at h
  | a :: m, 0, h => by simp at h; subst h; exact List.Perm.refl _
  | a :: m, i + 1, h => by
    rw [List.getElem?_cons_succ] at h
    rw [List.eraseIdx_cons_succ]
    exact (List.Perm.swap a c _).trans ((cons_erase_perm h).cons a)
theorem sins_perm {m : Ctr} {i t : Nat} {c0 : Nat × Nat × Nat} (hi : m[i]? = some c0) (ht : t ≤ i) : ((m.eraseIdx i).insertIdx t c0).Perm m := by
  obtain ⟨hl, he⟩ := List.getElem?_eq_some_iff.mp hi
  have h1 : (m.eraseIdx i).length = m.length - 1 := List.length_eraseIdx_of_lt hl
  refine (List.perm_insertIdx c0 (m.eraseIdx i) (by omega)).trans ?_
  exact cons_erase_perm hi
def rp (fk : Nat → Int32) (fn fe : Nat → Int64) (j : Nat) (c : Nat × Nat × Nat) : Prop := fk j = nI c.1 ∧ fn j = lN c.2.1 ∧ fe j = lN c.2.2
def midr (m : Ctr) (i t : Nat) (fk : Nat → Int32) (fn fe : Nat → Int64) : Prop := (∀ j c, j < t → m[j]? = some c → rp fk fn fe j c) ∧ (∀ j c, t ≤ j → j < i → m[j]? = some c → rp fk fn fe (j + 1) c) ∧ ∀ j c, i < j → m[j]? = some c → rp fk fn fe j c
theorem midr_step {m : Ctr} {i t : Nat} {fk : Nat → Int32} {fn fe : Nat → Int64} (h : midr m i t fk fn fe) (ht : 0 < t) (hti : t ≤ i) : midr m i (t - 1) (fu fk t (fk (t - 1))) (fu fn t (fn (t - 1))) (fu fe t (fe (t - 1))) := by
  obtain ⟨h1, h2, h3⟩ := h
  refine ⟨fun j c hj hc => ?_, fun j c hj hj2 hc => ?_, fun j c hj hc => ?_⟩
  · unfold rp; rw [fu_ne _ _ (by omega), fu_ne _ _ (by omega), fu_ne _ _ (by omega)]; exact h1 j c (by omega) hc
  · by_cases e : j = t - 1
    · subst e
      unfold rp
      rw [show t - 1 + 1 = t by omega, fu_self, fu_self, fu_self]
      exact h1 (t - 1) c (by omega) hc
    · unfold rp; rw [fu_ne _ _ (by omega), fu_ne _ _ (by omega), fu_ne _ _ (by omega)]; exact h2 j c (by omega) hj2 hc
  · unfold rp; rw [fu_ne _ _ (by omega), fu_ne _ _ (by omega), fu_ne _ _ (by omega)]; exact h3 j c hj hc
theorem midr_end {m : Ctr} {i t : Nat} {c0 : Nat × Nat × Nat} {fk : Nat → Int32} {fn fe : Nat → Int64} (h : midr m i t fk fn fe) (hi : m[i]? = some c0) (hti : t ≤ i) : rep ((m.eraseIdx i).insertIdx t c0) (fu fk t (nI c0.1)) (fu fn t (lN c0.2.1)) (fu fe t (lN c0.2.2)) := by
  obtain ⟨h1, h2, h3⟩ := h
  intro j c hj
  rw [sins_get hi hti] at hj
  by_cases e1 : j < t
  · rw [if_pos e1] at hj
    rw [fu_ne _ _ (by omega), fu_ne _ _ (by omega), fu_ne _ _ (by omega)]; exact h1 j c e1 hj
  · rw [if_neg e1] at hj
    by_cases e2 : j = t
    · rw [if_pos e2] at hj; cases hj; subst e2; rw [fu_self, fu_self, fu_self]; exact ⟨rfl, rfl, rfl⟩
    · rw [if_neg e2] at hj
      rw [fu_ne _ _ e2, fu_ne _ _ e2, fu_ne _ _ e2]
      by_cases e3 : j ≤ i
      · rw [if_pos e3] at hj
        have := h2 (j - 1) c (by omega) (by omega) hj
        rw [show j - 1 + 1 = j by omega] at this
        exact this
      · rw [if_neg e3] at hj; exact h3 j c (by omega) hj
theorem midr_of {m : Ctr} {i : Nat} {fk : Nat → Int32} {fn fe : Nat → Int64} (h : rep m fk fn fe) : midr m i i fk fn fe := ⟨fun j c _ hc => h j c hc, fun j c h1 h2 _ => by omega, fun j c _ hc => h j c hc⟩

set_option maxHeartbeats 4000000 in
set_option maxRecDepth 100000 in
theorem sort_in {M : Mx} {E : Ev} {z : Option Nat} (C : Cx M E yX1_sortByNumberThenKey.cls cX1_sortByNumberThenKey 8 none 1 26 0 0) {post : Unit → Gh → Prop} {G0 : Gh} {b lim : Nat} {l0 : Ctr} {m : Ctr} {i : Nat} {c0 : Nat × Nat × Nat} (hlim : 1 ≤ lim ∧ lim ≤ 64) (hml : m.length ≤ 2 * lim) (him : i < m.length) (hi : m[i]? = some c0) (hc0k : c0.1 < 2 ^ 31) (hc0n : c0.2.1 < 2 ^ 62) (hmk : ∀ c ∈ m, c.1 < 2 ^ 31) (hmn : ∀ c ∈ m, c.2.1 < 2 ^ 62) (hms : srt m i)
    (kend : ∀ t, t ≤ i → ∀ (G : Gh) (fk : Nat → Int32) (fn fe : Nat → Int64), G b = cO 1 [.int (nI lim), .ref (ga E (b + 1)), .ref (ga E (b + 2)), .ref (ga E (b + 3)), .ref (ga E (b + 4)), .int (nI m.length)] → G (b + 1) = cI E (2 * lim) fk → G (b + 2) = cJ E (2 * lim) fn → G (b + 3) = cJ E (2 * lim) fe → (∀ j, (j < b + 1 ∨ b + 4 ≤ j) → G j = G0 j) → midr m i t fk fn fe → (∀ j c, t ≤ j → j < i → m[j]? = some c → cle c0 c) → (∀ j c, j < t → m[j]? = some c → cle c c0) → V M E 8 (QE M E (fun _ : Unit => none) z 0 0 post) z 0 0 G 92 [some (.ref (ga E b)), some (.int (nI i)), some (.int (nI c0.1)), some (.long (lN c0.2.1)), none, some (.long (lN c0.2.2)), none, some (.int (nI t))] []) :
    ∀ (u t : Nat), t ≤ i → t < u → ∀ (G : Gh) (fk : Nat → Int32) (fn fe : Nat → Int64), G b = cO 1 [.int (nI lim), .ref (ga E (b + 1)), .ref (ga E (b + 2)), .ref (ga E (b + 3)), .ref (ga E (b + 4)), .int (nI m.length)] → G (b + 1) = cI E (2 * lim) fk → G (b + 2) = cJ E (2 * lim) fn → G (b + 3) = cJ E (2 * lim) fe → (∀ j, (j < b + 1 ∨ b + 4 ≤ j) → G j = G0 j) → midr m i t fk fn fe → (∀ j c, t ≤ j → j < i → m[j]? = some c → cle c0 c) → V M E 8 (QE M E (fun _ : Unit => none) z 0 0 post) z 0 0 G 35 [some (.ref (ga E b)), some (.int (nI i)), some (.int (nI c0.1)), some (.long (lN c0.2.1)), none, some (.long (lN c0.2.2)), none, some (.int (nI t))] [] := by
  intro u
  induction u with
  | zero => intro t _ h; omega
  | succ u ih =>
    intro t hti hu G fk fn fe hb0 hb1 hb2 hb3 hfr hmid hup
    refine v_iload C dX1_sortByNumberThenKey_35 rfl ?_
    first | refine v_ifn_le C 92 dX1_sortByNumberThenKey_37 (by decide) (by omega) (fun h37 => ?_) (fun h37 => ?_) | refine v_if_le C 92 dX1_sortByNumberThenKey_37 (by decide) (fun h37 => ?_) (fun h37 => ?_)
    · skip
      refine kend t (by omega) G _ _ _ hb0 hb1 hb2 hb3 hfr hmid hup (fun j c hj hjc => ?_)
      first
        | omega
        | (have h9 := cgt_cle2 h50
           rcases Nat.lt_or_ge j (t - 1) with q | q
           · exact (hms j (t - 1) c _ q (by omega) hjc hmt).trans h9
           · have : j = t - 1 := by omega
             subst this; rw [hmt] at hjc; cases hjc; exact h9)
    · skip
      have hmt : m[t - 1]? = some m[t - 1] := List.getElem?_eq_getElem (by omega)
      have hm1 := hmid.1 (t - 1) _ (by omega) hmt
      refine v_aload_n C dX1_sortByNumberThenKey_40 rfl ?_
      refine v_iload C dX1_sortByNumberThenKey_41 rfl ?_
      refine v_iconst (v := nI 1) C dX1_sortByNumberThenKey_43 (by decide) ?_
      first | refine v_isubn C dX1_sortByNumberThenKey_44 (by omega) ?_ | refine v_isub C dX1_sortByNumberThenKey_44 ?_
      refine v_lload_n C dX1_sortByNumberThenKey_45 rfl ?_
      refine v_iload_n C dX1_sortByNumberThenKey_46 rfl ?_
      refine mc_X1_67 C dX1_sortByNumberThenKey_47 (by assumption) (c_Ctr_isBehind _ E z (c := m[t - 1]) hm1.1 hm1.2.1 (by have := hmk _ (List.mem_of_getElem? hmt); omega) (hmn _ (List.mem_of_getElem? hmt)) (by omega) hc0n (by omega) (by omega) hb0 hb1 hb2) rfl (fun r47 G47 hp47 => ?_)
      obtain ⟨hr47, rfl⟩ := hp47
      subst hr47
      first | refine v_ifb_eq C 92 dX1_sortByNumberThenKey_50 (by decide) (fun h50 => ?_) (fun h50 => ?_) | refine v_ifn_eq C 92 dX1_sortByNumberThenKey_50 (by decide) (by omega) (fun h50 => ?_) (fun h50 => ?_) | refine v_if_eq C 92 dX1_sortByNumberThenKey_50 (by decide) (fun h50 => ?_) (fun h50 => ?_)
      · skip
        refine kend t (by omega) G _ _ _ hb0 hb1 hb2 hb3 hfr hmid hup (fun j c hj hjc => ?_)
        first
          | omega
          | (have h9 := cgt_cle2 h50
             rcases Nat.lt_or_ge j (t - 1) with q | q
             · exact (hms j (t - 1) c _ q (by omega) hjc hmt).trans h9
             · have : j = t - 1 := by omega
               subst this; rw [hmt] at hjc; cases hjc; exact h9)
      · skip
        refine v_aload_n C dX1_sortByNumberThenKey_53 rfl ?_
        refine v_iload C dX1_sortByNumberThenKey_54 rfl ?_
        refine v_aload_n C dX1_sortByNumberThenKey_56 rfl ?_
        refine gf_X1_15 C dX1_sortByNumberThenKey_57 (by assumption) ?_
        refine v_iload C dX1_sortByNumberThenKey_60 rfl ?_
        refine v_iconst (v := nI 1) C dX1_sortByNumberThenKey_62 (by decide) ?_
        first | refine v_isubn C dX1_sortByNumberThenKey_63 (by omega) ?_ | refine v_isub C dX1_sortByNumberThenKey_63 ?_
        refine v_iald C dX1_sortByNumberThenKey_64 (by assumption) (by omega) (by omega) rfl ?_
        refine v_aload_n C dX1_sortByNumberThenKey_65 rfl ?_
        refine gf_X1_19 C dX1_sortByNumberThenKey_66 (by assumption) ?_
        refine v_iload C dX1_sortByNumberThenKey_69 rfl ?_
        refine v_iconst (v := nI 1) C dX1_sortByNumberThenKey_71 (by decide) ?_
        first | refine v_isubn C dX1_sortByNumberThenKey_72 (by omega) ?_ | refine v_isub C dX1_sortByNumberThenKey_72 ?_
        refine v_lald C dX1_sortByNumberThenKey_73 (by assumption) (by omega) (by omega) rfl ?_
        refine v_aload_n C dX1_sortByNumberThenKey_74 rfl ?_
        refine gf_X1_23 C dX1_sortByNumberThenKey_75 (by assumption) ?_
        refine v_iload C dX1_sortByNumberThenKey_78 rfl ?_
        refine v_iconst (v := nI 1) C dX1_sortByNumberThenKey_80 (by decide) ?_
        first | refine v_isubn C dX1_sortByNumberThenKey_81 (by omega) ?_ | refine v_isub C dX1_sortByNumberThenKey_81 ?_
        refine v_lald C dX1_sortByNumberThenKey_82 (by assumption) (by omega) (by omega) rfl ?_
        refine mc_X1_52 C dX1_sortByNumberThenKey_83 (by assumption) (c_Ctr_set _ E z (by omega) (by omega) hb0 hb1 hb2 hb3) rfl (fun r83 G83 hp83 => ?_)
        obtain ⟨hb0, hb1, hb2, hb3, hfr83⟩ := hp83
        first | refine v_iinc_7 C dX1_sortByNumberThenKey_86 (nI_dec (by omega)) (by decide) rfl ?_ | refine v_iinc_7 C dX1_sortByNumberThenKey_86 rfl (by decide) rfl ?_
        refine v_goto C 35 dX1_sortByNumberThenKey_89 (by decide) ?_
        refine ih (t - 1) (by omega) (by omega) G83 _ _ _ hb0 hb1 hb2 hb3 (fun j hj => by rw [hfr83 j hj]; exact hfr j hj) (midr_step hmid (by omega) hti) (fun j c hj hj2 hjc => ?_)
        by_cases e : j = t - 1
        · subst e; rw [hmt] at hjc; cases hjc; exact cgt_cle h50
        · exact hup j c (by omega) hj2 hjc
set_option maxHeartbeats 4000000 in
set_option maxRecDepth 100000 in
theorem sort_out {M : Mx} {E : Ev} {z : Option Nat} (C : Cx M E yX1_sortByNumberThenKey.cls cX1_sortByNumberThenKey 8 none 1 26 0 0) {post : Unit → Gh → Prop} {G0 : Gh} {b lim : Nat} {l0 : Ctr} (hlim : 1 ≤ lim ∧ lim ≤ 64) (hll : l0.length ≤ 2 * lim) (hk0 : ∀ c ∈ l0, c.1 < 2 ^ 31) (hn0 : ∀ c ∈ l0, c.2.1 < 2 ^ 62)
    (hend : ∀ (G : Gh) (m : Ctr) (fk : Nat → Int32) (fn fe : Nat → Int64), G b = cO 1 [.int (nI lim), .ref (ga E (b + 1)), .ref (ga E (b + 2)), .ref (ga E (b + 3)), .ref (ga E (b + 4)), .int (nI m.length)] → G (b + 1) = cI E (2 * lim) fk → G (b + 2) = cJ E (2 * lim) fn → G (b + 3) = cJ E (2 * lim) fe → (∀ j, (j < b + 1 ∨ b + 4 ≤ j) → G j = G0 j) → rep m fk fn fe → m.Perm l0 → srt m m.length → post () G) :
    ∀ (u i : Nat), 1 ≤ i → i ≤ l0.length + 1 → l0.length + 1 - i < u → ∀ (G : Gh) (m : Ctr) (fk : Nat → Int32) (fn fe : Nat → Int64) (x2 x3 x4 x5 x6 x7 : Option Value), G b = cO 1 [.int (nI lim), .ref (ga E (b + 1)), .ref (ga E (b + 2)), .ref (ga E (b + 3)), .ref (ga E (b + 4)), .int (nI m.length)] → G (b + 1) = cI E (2 * lim) fk → G (b + 2) = cJ E (2 * lim) fn → G (b + 3) = cJ E (2 * lim) fe → (∀ j, (j < b + 1 ∨ b + 4 ≤ j) → G j = G0 j) → rep m fk fn fe → m.Perm l0 → srt m i → lo_c x2 = true → lo_c x4 = true → lo_c x6 = true → V M E 8 (QE M E (fun _ : Unit => none) z 0 0 post) z 0 0 G 2 [some (.ref (ga E b)), some (.int (nI i)), x2, x3, x4, x5, x6, x7] [] := by
  intro u
  induction u with
  | zero => intro i _ _ h; omega
  | succ u ih =>
    intro i hi1 hi2 hu G m fk fn fe x2 x3 x4 x5 x6 x7 hb0 hb1 hb2 hb3 hfr hrep hpm hsrt hx2 hx4 hx6
    have hml : m.length ≤ 2 * lim := by rw [hpm.length_eq]; exact hll
    have hl0 := hpm.length_eq
    refine v_iload_n C dX1_sortByNumberThenKey_2 rfl ?_
    refine v_aload_n C dX1_sortByNumberThenKey_3 rfl ?_
    refine gf_X1_35 C dX1_sortByNumberThenKey_4 (by assumption) ?_
    refine v_icmpn_ge C 108 dX1_sortByNumberThenKey_7 (by decide) (by omega) (by omega) (fun h7 => ?_) (fun h7 => ?_)
    · skip
      refine v_vret C dX1_sortByNumberThenKey_108 ?_
      exact hend G m fk fn fe hb0 hb1 hb2 hb3 hfr hrep hpm (fun a b c d h1 h2 h3 h4 => hsrt a b c d h1 (by omega) h3 h4)
    · skip
      have hi : m[i]? = some m[i] := List.getElem?_eq_getElem h7
      have hri := hrep i _ hi
      have hmk : ∀ c ∈ m, c.1 < 2 ^ 31 := fun c hc => hk0 c (hpm.mem_iff.mp hc)
      have hmn : ∀ c ∈ m, c.2.1 < 2 ^ 62 := fun c hc => hn0 c (hpm.mem_iff.mp hc)
      refine v_aload_n C dX1_sortByNumberThenKey_10 rfl ?_
      refine gf_X1_15 C dX1_sortByNumberThenKey_11 (by assumption) ?_
      refine v_iload_n C dX1_sortByNumberThenKey_14 rfl ?_
      refine v_iald C dX1_sortByNumberThenKey_15 (by assumption) (by omega) (by omega) hri.1 ?_
      refine v_istore_2 C dX1_sortByNumberThenKey_16 (by decide) rfl ?_
      refine v_aload_n C dX1_sortByNumberThenKey_17 rfl ?_
      refine gf_X1_19 C dX1_sortByNumberThenKey_18 (by assumption) ?_
      refine v_iload_n C dX1_sortByNumberThenKey_21 rfl ?_
      refine v_lald C dX1_sortByNumberThenKey_22 (by assumption) (by omega) (by omega) hri.2.1 ?_
      refine v_lstore_3 C dX1_sortByNumberThenKey_23 (by decide) rfl ?_
      refine v_aload_n C dX1_sortByNumberThenKey_24 rfl ?_
      refine gf_X1_23 C dX1_sortByNumberThenKey_25 (by assumption) ?_
      refine v_iload_n C dX1_sortByNumberThenKey_28 rfl ?_
      refine v_lald C dX1_sortByNumberThenKey_29 (by assumption) (by omega) (by omega) hri.2.2 ?_
      refine v_lstore_5 C dX1_sortByNumberThenKey_30 (by decide) rfl ?_
      refine v_iload_n C dX1_sortByNumberThenKey_32 rfl ?_
      refine v_istore_7 C dX1_sortByNumberThenKey_33 (by decide) rfl ?_
      refine sort_in (l0 := l0) C hlim hml h7 hi (hmk _ (List.mem_of_getElem? hi)) (hmn _ (List.mem_of_getElem? hi)) hmk hmn hsrt ?_ (i + 1) i (Nat.le_refl _) (Nat.lt_succ_self _) G _ _ _ hb0 hb1 hb2 hb3 hfr (midr_of hrep) (fun j c h1 h2 => by omega)
      clear hb0 hb1 hb2 hb3 hfr hri hrep
      intro t hti G fk fn fe hb0 hb1 hb2 hb3 hfr hmid hup hlow
      refine v_aload_n C dX1_sortByNumberThenKey_92 rfl ?_
      refine v_iload C dX1_sortByNumberThenKey_93 rfl ?_
      refine v_iload_n C dX1_sortByNumberThenKey_95 rfl ?_
      refine v_lload_n C dX1_sortByNumberThenKey_96 rfl ?_
      refine v_lload C dX1_sortByNumberThenKey_97 rfl ?_
      refine mc_X1_52 C dX1_sortByNumberThenKey_99 (by assumption) (c_Ctr_set _ E z (by omega) (by omega) hb0 hb1 hb2 hb3) rfl (fun r99 G99 hp99 => ?_)
      obtain ⟨hb0, hb1, hb2, hb3, hfr99⟩ := hp99
      first | refine v_iinc_1 C dX1_sortByNumberThenKey_102 (nI_1 _) (by decide) rfl ?_ | refine v_iinc_1 C dX1_sortByNumberThenKey_102 rfl (by decide) rfl ?_
      refine v_goto C 2 dX1_sortByNumberThenKey_105 (by decide) ?_
      have hlen : ((m.eraseIdx i).insertIdx t m[i]).length = m.length := (sins_perm hi hti).length_eq
      exact ih (i + 1) (by omega) (by omega) (by omega) G99 ((m.eraseIdx i).insertIdx t m[i]) _ _ _ _ _ _ _ _ _ (by rw [hlen]; exact hb0) hb1 hb2 hb3 (fun j hj => by rw [hfr99 j hj]; exact hfr j hj) (midr_end hmid hi hti) ((sins_perm hi hti).trans hpm) (srt_ins hsrt hi hti hlow hup) rfl rfl rfl
set_option maxHeartbeats 4000000 in
set_option maxRecDepth 100000 in
theorem c_Ctr_sort (l : Launch) (E : Ev) (z : Option Nat) {G : Gh} {b P lim : Nat} {l0 : Ctr} (hn0 : ∀ c ∈ l0, c.2.1 < 2 ^ 62) (hc : isCtr E G b P lim l0) : K_X1_sortByNumberThenKey l E z G [.ref (ga E b)] (fun _ G2 => ∃ m, isCtr E G2 b P lim m ∧ m.Perm l0 ∧ srt m m.length ∧ ∀ j, (j < b ∨ b + 6 ≤ j) → G2 j = G j) := by
  refine Fc.of rfl [some (.ref (ga E b)), none, none, none, none, none, none, none] 7 rfl (Nat.le_of_ble_eq_true rfl) ?_
  intro M hM0 hini C
  subst hM0
  obtain ⟨fk, fn, fe, hb0, hb1, hb2, hb3, hks, hrep, hwf, hkp, hnd⟩ := id hc
  refine v_iconst (v := nI 1) C dX1_sortByNumberThenKey_0 (by decide) ?_
  refine v_istore_1 C dX1_sortByNumberThenKey_1 (by decide) rfl ?_
  refine sort_out C ⟨hwf.1, hwf.2.1⟩ hwf.2.2.1 (fun c h => by have := hkp c h; omega) hn0 (fun G m fk fn fe h0 h1 h2 h3 h4 h5 h6 h7 => ⟨m, ⟨fk, fn, fe, h0, h1, h2, h3, (hks.keep (fun j a b => h4 j (by omega))).sub (fun k hk => (h6.map _).mem_iff.mp hk), h5, ⟨⟨hwf.1, hwf.2.1, by rw [h6.length_eq]; exact hwf.2.2.1, hwf.2.2.2⟩, fun c hc => hkp c (h6.mem_iff.mp hc), (h6.map _).nodup_iff.mpr hnd⟩⟩, h6, h7, fun j hj => h4 j (by omega)⟩) (l0.length + 1) 1 (by omega) (by omega) (by omega) G l0 fk fn fe _ _ _ _ _ _ hb0 hb1 hb2 hb3 (fun _ _ => rfl) hrep (List.Perm.refl _) (fun a b c d h1 h2 => by omega) rfl rfl rfl

