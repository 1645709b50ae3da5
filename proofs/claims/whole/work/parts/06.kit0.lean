abbrev Ev : Type := va_G × (Nat → ClassId) × Nat
abbrev Gh : Type := Nat → Option va_E
abbrev Mx : Type := Program × Launch × Env × Room × State × MethodId × Array Value × List Frame × Method × Code
def ga (E : Ev) (i : Nat) : Nat := E.2.2 + i
def eA (E : Ev) : Nat → Prop := fun q => E.2.2 ≤ q
def tysE (E : Ev) : List (ClassId × FieldType) := [(E.2.1 0, .int), (E.2.1 1, .long), (E.2.1 2, .boolean), (E.2.1 3, .object "FrequencySketches$Stream"), (E.2.1 4, .object "FrequencySketches$Sketch")]
def cI (E : Ev) (n : Nat) (f : Nat → Int32) : Option va_E := some (.inl (E.2.1 0, n, .inl f))
def cJ (E : Ev) (n : Nat) (f : Nat → Int64) : Option va_E := some (.inl (E.2.1 1, n, .inr (.inl f)))
def cZ (E : Ev) (n : Nat) (f : Nat → Int32) : Option va_E := some (.inl (E.2.1 2, n, .inl f))
def cR (E : Ev) (k n : Nat) (f : Nat → Option Nat) : Option va_E := some (.inl (E.2.1 k, n, .inr (.inr (.inr (.inr f)))))
def cO (ci : Nat) (fs : List Value) : Option va_E := some (.inr (ci, fs))
def gS (E : Ev) (G : Gh) (H : Heap) : Prop := ∀ i e, G i = some e → va_at E.1 vwCl (ga E i, e) H
def gup (G : Gh) (i : Nat) (e : Option va_E) : Gh := fun j => if j = i then e else G j
def zH (z : Option Nat) (H : Heap) : Prop := ∀ n, z = some n → H.size = n
def bI (b : Bool) : Int32 := if b then 1 else 0
theorem ga_inj {E : Ev} {i j : Nat} (h : ga E i = ga E j) : i = j := Nat.add_left_cancel h
theorem ga_A (E : Ev) (i : Nat) : eA E (ga E i) := Nat.le_add_right _ _
theorem gup_self (G : Gh) (i : Nat) (e : Option va_E) : gup G i e i = e := if_pos rfl
theorem gup_ne (G : Gh) {i j : Nat} (e : Option va_E) (h : j ≠ i) : gup G i e j = G j := if_neg h
theorem gS.set {E : Ev} {G : Gh} {H H1 : Heap} {i : Nat} {e : va_E} (h : gS E G H) (he : va_at E.1 vwCl (ga E i, e) H1) (oq : ∀ q : Nat, q ≠ ga E i → H1[q]? = H[q]?) : gS E (gup G i (some e)) H1 := by
  intro j e' hj
  by_cases hji : j = i
  · subst hji
    rw [gup_self] at hj
    cases hj
    exact he
  · rw [gup_ne _ _ hji] at hj
    exact (h j e' hj).kept (oq _ (fun z => hji (ga_inj z)))
theorem gS.one {E : Ev} {G : Gh} {H : Heap} {i : Nat} {e : va_E} (h : gS E G H) (he : G i = some e) : va_P E.1 vwCl [(ga E i, e)] H := by
  intro k q hk
  cases k with
  | zero => cases hk; exact h i e he
  | succ k => cases hk
theorem zH.put {z : Option Nat} {H H1 : Heap} (h : zH z H) (e : H1.size = H.size) : zH z H1 := fun n hn => e.trans (h n hn)
theorem zH.no {H : Heap} : zH none H := fun _ h => by cases h
/-- words of the tables that moving on keeps -/
def tbK : Cond → Bool
  | .fieldLinkNest .. => true
  | .arrayOver (.object _) => true
  | .arrayClass _ => true
  | w => goodWord w && w.onTables
def lw_tb2 : List Cond := lw_tbl.filter tbK
/-- the tables' words, at a state -/
def TB (U : State) : Prop := ∀ w ∈ lw_tb2, w.before #[] U = true
theorem tb_in {w : Cond} (h : w ∈ lw_tbl) (hk : tbK w = true) : w ∈ lw_tb2 := List.mem_filter.mpr ⟨h, hk⟩
theorem tb_moved1 {w : Cond} (hk : tbK w = true) {s U : State} (hW : s.WarmedH U.vm) (h : w.before #[] s = true) : w.before #[] U = true := by
  have gen : (goodWord w && w.onTables) = true → w.before #[] U = true := fun h1 => word_at hW (good_of_word (by simp only [Bool.and_eq_true] at h1; exact h1.1)) h
  cases w with
  | fieldLinkNest a i b n d h' => exact va_Nw.warmF hW h
  | arrayOver ty =>
    cases ty with
    | object C => exact va_AO.moved hW.alike h
    | _ => exact gen hk
  | arrayClass ty => exact word_at hW (Or.inr ⟨_, rfl⟩) h
  | _ => exact gen hk
theorem tb_use1 {w : Cond} (hk : tbK w = true) {A : Array Value} {U : State} (h : w.before #[] U = true) : w.before A U = true := by
  have gen : (goodWord w && w.onTables) = true → w.before A U = true := fun h1 => va_any (by simp only [Bool.and_eq_true] at h1; exact h1.2) h
  cases w with
  | fieldLinkNest a i b n d h' => exact va_any rfl h
  | arrayOver ty =>
    cases ty with
    | object C => exact h
    | _ => exact gen hk
  | arrayClass ty => exact h
  | _ => exact gen hk
theorem tb_same1 {w : Cond} (hk : tbK w = true) {u U : State} (hv : u.vm = U.vm) (h : w.before #[] u = true) : w.before #[] U = true := by
  have gen : (goodWord w && w.onTables) = true → w.before #[] U = true := fun h1 => va_tabs (by simp only [Bool.and_eq_true] at h1; exact h1.2) hv h
  cases w with
  | fieldLinkNest a i b n d h' => exact va_tabs rfl hv h
  | arrayOver ty =>
    cases ty with
    | object C => exact va_AO.moved (by rw [hv]; exact Vm.Alike.refl U.vm) h
    | _ => exact gen hk
  | arrayClass ty =>
    first
      | exact va_tabs rfl hv h
      | (unfold Cond.before Cond.holds at h ⊢; simp only [Cond.value] at h ⊢; rw [hv] at h; exact h)
  | _ => exact gen hk
theorem TB.moved {s U : State} (hW : s.WarmedH U.vm) (h : TB s) : TB U := fun w hw => tb_moved1 (List.mem_filter.mp hw).2 hW (h w hw)
theorem TB.same {s U : State} (hv : s.vm = U.vm) (h : TB s) : TB U := fun w hw => tb_same1 (List.mem_filter.mp hw).2 hv (h w hw)
theorem TB.use {s : State} (h : TB s) {A : Array Value} {w : Cond} (hw : w ∈ lw_tb2) : w.before A s = true := tb_use1 (List.mem_filter.mp hw).2 (h w hw)
theorem tb_good {w : Cond} (h : w ∈ lw_tb2) (hg : goodWord w = true) {s : State} (hT : TB s) : ∀ (a' : Array Value) (U : State), s.WarmedH U.vm → w.before a' U = true := fun a' U hW => (hT.moved hW).use h
/-- what a call by the interface asks -/
def fwL : List (String × MethodName × MethodName) := [RX0, RX4, RX6, RX8].flatMap fun C => ["guess", "low", "high"].map fun n => (C, ⟨"FrequencySketches$Sketch", n, "(I)J"⟩, ⟨C, n, "(I)J"⟩)
def FW (U : State) : Prop := ∀ t ∈ fwL, va_Fw t.1 t.2.1 t.2.2 U
theorem fwL_cls : ∀ t ∈ fwL, t.2.1.cls ≠ "java/lang/invoke/MethodHandle" ∧ t.2.1.cls ≠ "java/lang/invoke/VarHandle" := by decide +kernel
theorem FW.alike {s U : State} (hv : s.vm.Alike U.vm) (h : FW s) : FW U := fun t ht => (h t ht).moved (fwL_cls t ht) hv
def KB (E : Ev) (U : State) : Prop := TB U ∧ FW U ∧ va_K E.1 vwCl (tysE E) U
theorem KB.moved {E : Ev} {s U : State} (hW : s.WarmedH U.vm) (h : KB E s) : KB E U := ⟨h.1.moved hW, h.2.1.alike hW.alike, h.2.2.moved hW.alike⟩
theorem KB.same {E : Ev} {s U : State} (hv : s.vm = U.vm) (h : KB E s) : KB E U := ⟨h.1.same hv, h.2.1.alike (by rw [hv]; exact Vm.Alike.refl _), h.2.2.moved (by rw [hv]; exact Vm.Alike.refl _)⟩
/-- locals by their places -/
def lo_l : Nat → List (Option Value) → List (Nat × Value)
  | _, [] => []
  | k, none :: r => lo_l (k + 1) r
  | k, some v :: r => (k, v) :: lo_l (k + 1) r
theorem lo_mem {i : Nat} {v : Value} : ∀ {lo : List (Option Value)} {k : Nat}, (i, v) ∈ lo_l k lo ↔ k ≤ i ∧ lo[i - k]? = some (some v)
  | [], k => by simp [lo_l]
  | none :: r, k => by
    rw [lo_l, lo_mem (lo := r)]
    constructor
    · rintro ⟨h1, h2⟩
      refine ⟨by omega, ?_⟩
      rw [show i - k = (i - (k + 1)) + 1 by omega, List.getElem?_cons_succ]
      exact h2
    · rintro ⟨h1, h2⟩
      by_cases e : i = k
      · subst e
        rw [Nat.sub_self, List.getElem?_cons_zero] at h2
        cases h2
      · refine ⟨by omega, ?_⟩
        rw [show i - k = (i - (k + 1)) + 1 by omega, List.getElem?_cons_succ] at h2
        exact h2
  | some w :: r, k => by
    rw [lo_l, List.mem_cons, lo_mem (lo := r)]
    constructor
    · rintro (h | ⟨h1, h2⟩)
      · cases h
        exact ⟨Nat.le_refl _, by rw [Nat.sub_self, List.getElem?_cons_zero]⟩
      · refine ⟨by omega, ?_⟩
        rw [show i - k = (i - (k + 1)) + 1 by omega, List.getElem?_cons_succ]
        exact h2
    · rintro ⟨h1, h2⟩
      by_cases e : i = k
      · subst e
        rw [Nat.sub_self, List.getElem?_cons_zero] at h2
        cases h2
        exact Or.inl rfl
      · refine Or.inr ⟨by omega, ?_⟩
        rw [show i - k = (i - (k + 1)) + 1 by omega, List.getElem?_cons_succ] at h2
        exact h2
def lo_has (ls : Array Slot) (nL : Nat) (lo : List (Option Value)) : Prop := lv_has ls nL (lo_l 0 lo)
theorem lo_has.at {ls : Array Slot} {nL : Nat} {lo : List (Option Value)} (h : lo_has ls nL lo) {i : Nat} {v : Value} (hv : lo[i]? = some (some v)) : ls[i]? = some (.val v) := h.2.2 (i, v) (lo_mem.mpr ⟨Nat.zero_le _, by rw [Nat.sub_zero]; exact hv⟩)
def lo_c : Option Value → Bool
  | none => true
  | some v => !(v.category == 2)
theorem lo_set1 {ls : Array Slot} {nL : Nat} {lo lo' : List (Option Value)} {i : Nat} {v : Value} (h : lv_has ls nL ((i, v) :: (lo_l 0 lo).filter (fun q => !(q.1 == i) && !(q.1 + 1 == i && q.2.category == 2)))) (hs : lo.set i (some v) = lo') (hp : ∀ a, 0 < i → lo[i - 1]? = some a → lo_c a = true) : lo_has ls nL lo' := by
  subst hs
  refine ⟨h.1, h.2.1, fun q hq => ?_⟩
  obtain ⟨j, w⟩ := q
  obtain ⟨-, hj⟩ := lo_mem.mp hq
  rw [Nat.sub_zero] at hj
  by_cases e : j = i
  · subst e
    by_cases hl : j < lo.length
    · rw [List.getElem?_set_self hl] at hj
      cases hj
      exact h.2.2 _ List.mem_cons_self
    · rw [List.getElem?_eq_none (by rw [List.length_set]; omega)] at hj
      cases hj
  · rw [List.getElem?_set_ne (Ne.symm e)] at hj
    refine h.2.2 (j, w) (List.mem_cons_of_mem _ (List.mem_filter.mpr ⟨lo_mem.mpr ⟨Nat.zero_le _, by rw [Nat.sub_zero]; exact hj⟩, ?_⟩))
    have hc : ¬ (j + 1 = i ∧ w.category = 2) := by
      rintro ⟨e1, e2⟩
      have := hp (some w) (by omega) (by rw [show i - 1 = j by omega]; exact hj)
      simp [lo_c, e2] at this
    by_cases e1 : j + 1 = i
    · have e2 : ¬ w.category = 2 := fun z => hc ⟨e1, z⟩
      simp [e, e2]
    · simp [e, e1]
theorem lo_set2 {ls : Array Slot} {nL : Nat} {lo lo' : List (Option Value)} {i : Nat} {v : Value} (h : lv_has ls nL ((i, v) :: (lo_l 0 lo).filter (fun q => !(q.1 == i) && (!(q.1 == i + 1) && !(q.1 + 1 == i && q.2.category == 2))))) (hs : (lo.set i (some v)).set (i + 1) none = lo') (hp : ∀ a, 0 < i → lo[i - 1]? = some a → lo_c a = true) : lo_has ls nL lo' := by
  subst hs
  refine ⟨h.1, h.2.1, fun q hq => ?_⟩
  obtain ⟨j, w⟩ := q
  obtain ⟨-, hj⟩ := lo_mem.mp hq
  rw [Nat.sub_zero] at hj
  by_cases e0 : j = i + 1
  · subst e0
    by_cases hl : i + 1 < (lo.set i (some v)).length
    · rw [List.getElem?_set_self hl] at hj
      cases hj
    · rw [List.getElem?_eq_none (by rw [List.length_set]; omega)] at hj
      cases hj
  · rw [List.getElem?_set_ne (Ne.symm e0)] at hj
    by_cases e : j = i
    · subst e
      by_cases hl : j < lo.length
      · rw [List.getElem?_set_self hl] at hj
        cases hj
        exact h.2.2 _ List.mem_cons_self
      · rw [List.getElem?_eq_none (by rw [List.length_set]; omega)] at hj
        cases hj
    · rw [List.getElem?_set_ne (Ne.symm e)] at hj
      refine h.2.2 (j, w) (List.mem_cons_of_mem _ (List.mem_filter.mpr ⟨lo_mem.mpr ⟨Nat.zero_le _, by rw [Nat.sub_zero]; exact hj⟩, ?_⟩))
      have hc : ¬ (j + 1 = i ∧ w.category = 2) := by
        rintro ⟨e1, e2⟩
        have := hp (some w) (by omega) (by rw [show i - 1 = j by omega]; exact hj)
        simp [lo_c, e2] at this
      by_cases e1 : j + 1 = i
      · have e2 : ¬ w.category = 2 := fun z => hc ⟨e1, z⟩
        simp [e, e0, e2]
      · simp [e, e0, e1]
/-- the judgement: from these locals, this stack and the cells G, the machine comes to Q -/
def V (M : Mx) (E : Ev) (nL : Nat) (Q : State → Prop) (z : Option Nat) (cells slots : Nat) (G : Gh) (pc : Nat) (lo : List (Option Value)) (st : List Value) : Prop :=
  ∀ (H : Heap) (locs : List Loc) (ls : Array Slot), gS E G H → zH z H → va_S (eA E) M.2.2.2.2.1.heap H locs → lo_has ls nL lo → W M.1 M.2.1 M.2.2.1 M.2.2.2.1 M.2.2.2.2.1 M.2.2.2.2.2.1 M.2.2.2.2.2.2.1 M.2.2.2.2.2.2.2.1 M.2.2.2.2.2.2.2.2.1 M.2.2.2.2.2.2.2.2.2 H locs cells slots Q (F0 M.2.2.2.2.2.1 pc ls st)
/-- what is fixed in a method's walk: class, code, locals, answer's type, room -/
def Cx (M : Mx) (E : Ev) (own : String) (cc : ByteArray) (nL : Nat) (ret : Option FieldType) (FR LO MC MS : Nat) : Prop :=
  M.1.tables.exec = Jvm.exec ∧ M.2.2.2.2.2.2.2.2.2.code = cc ∧ M.2.2.2.2.2.2.2.2.2.maxLocals = nL ∧ M.2.2.2.2.1.vm.findClass own = some M.2.2.2.2.2.1.cls ∧ KB E M.2.2.2.2.1 ∧ M.2.2.2.2.2.2.2.2.1.sig.returnType = ret ∧ M.2.2.2.2.2.2.2.2.1.locks = false ∧ M.2.2.2.1 = { frames := FR, cells := MC, slots := MS, locals := LO } ∧ E.2.2 ≤ M.2.2.2.2.1.heap.size
/-- a method's end -/
def Qe {α : Type} (E : Ev) (rv : α → Option Value) (z : Option Nat) (post : α → Gh → Prop) : Array Value → State → Outcome → State → Prop := fun _ st oc t =>
  (∃ (r : α) (G : Gh), oc = .returned (rv r) ∧ post r G ∧ gS E G t.heap ∧ zH z t.heap) ∧ va_F (eA E) st t
def QE {α : Type} (M : Mx) (E : Ev) (rv : α → Option Value) (z : Option Nat) (mc ms : Nat) (post : α → Gh → Prop) : State → Prop := MQ M.2.2.2.2.2.2.2.1 (Qe E rv z post) M.2.2.2.2.2.2.1 M.2.2.2.2.1 mc ms (eA E)
/-- a contract -/
def Fc {α : Type} (l : Launch) (y : MethodName) (cc : ByteArray) (nL : Nat) (ret : Option FieldType) (FR LO MC MS : Nat) (E : Ev) (z z' : Option Nat) (G : Gh) (av : List Value) (rv : α → Option Value) (post : α → Gh → Prop) : Prop :=
  Met l y [.code y cc nL ret] { frames := FR, cells := MC, slots := MS, locals := LO } (va_Pc av (fun U => gS E G U.heap ∧ zH z U.heap ∧ KB E U ∧ E.2.2 ≤ U.heap.size)) (Qe E rv z' post) MC MS (eA E)
def lo_a : List Value → List (Option Value)
  | [] => []
  | v :: r => if v.category = 2 then some v :: none :: lo_a r else some v :: lo_a r
theorem lo_a_mem {i : Nat} {v : Value} : ∀ {vs : List Value} {k : Nat}, (i, v) ∈ lo_l k (lo_a vs) → (i, v) ∈ lv_args k vs
  | [], k, h => by simp [lo_a, lo_l] at h
  | w :: r, k, h => by
    rw [lv_args]
    by_cases hc : w.category = 2
    · rw [lo_a, if_pos hc, lo_l, lo_l] at h
      rcases List.mem_cons.mp h with h | h
      · exact List.mem_cons.mpr (Or.inl h)
      · exact List.mem_cons.mpr (Or.inr (by rw [if_pos hc]; exact lo_a_mem h))
    · rw [lo_a, if_neg hc, lo_l] at h
      rcases List.mem_cons.mp h with h | h
      · exact List.mem_cons.mpr (Or.inl h)
      · exact List.mem_cons.mpr (Or.inr (by rw [if_neg hc]; exact lo_a_mem h))
theorem Fc.of {α : Type} {l : Launch} {y : MethodName} {cc : ByteArray} {nL : Nat} {ret : Option FieldType} {FR LO MC MS : Nat} {E : Ev} {z z' : Option Nat} {G : Gh} {av : List Value} {rv : α → Option Value} {post : α → Gh → Prop} (hy : plainName y.cls = true) (lo : List (Option Value)) (k : Nat) (hlo : lo_a av ++ List.replicate k none = lo) (hn : (lg_sl av).length ≤ nL)
    (body : ∀ M : Mx, M.2.1 = l → (y.name = "<init>" → M.2.2.2.2.2.2.2.2.1.name = "<init>") → Cx M E y.cls cc nL ret FR LO MC MS → V M E nL (QE M E rv z' MC MS post) z 0 0 G 0 lo []) : Fc l y cc nL ret FR LO MC MS E z z' G av rv post := by
  refine Met.ofW (cc := cc) (maxL := nL) (ret := ret) hy rfl ?_
  intro p e s m args below meth c s₁ B hml hv
  obtain ⟨rfl, hP, hz, hK, hE⟩ := hv
  have hl := lv_entry av (n := nL) hn
  rw [lg_entry_eq]
  generalize (lg_sl av ++ List.replicate (nL - (lg_sl av).length) Slot.unset).toArray = ls at hl ⊢
  have hl2 : lo_has ls nL lo := ⟨hl.1, hl.2.1, fun q hq => hl.2.2 q (lo_a_mem (by
    obtain ⟨i, v⟩ := q
    obtain ⟨h1, h2⟩ := lo_mem.mp hq
    refine lo_mem.mpr ⟨h1, ?_⟩
    rw [← hlo] at h2
    rw [List.getElem?_append] at h2
    split at h2
    · exact h2
    · rw [List.getElem?_replicate] at h2
      split at h2 <;> cases h2))⟩
  exact body (p, l, e, (headSpec [Cond.code y cc nL ret] { frames := FR, cells := MC, slots := MS, locals := LO }).room, s, m, av.toArray, below, meth, c) rfl (fun hi => by rw [← hi]; exact (name_of_methodNamed B.named B.method).1) ⟨B.exec, B.bytes, hml, findClass_of_methodNamed B.named, hK, B.returns, B.notSynchronized, rfl, hE⟩ s.heap [] ls hP hz va_S.rf hl2
