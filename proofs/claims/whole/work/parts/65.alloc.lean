theorem tar_I : Cond.arrayClass .int ∈ lw_tb2 := tb_in (List.mem_of_getElem? (i := 109) (by decide +kernel)) (by decide +kernel)
theorem tar_J : Cond.arrayClass .long ∈ lw_tb2 := tb_in (List.mem_of_getElem? (i := 133) (by decide +kernel)) (by decide +kernel)
theorem tar_Z : Cond.arrayClass .boolean ∈ lw_tb2 := tb_in (List.mem_of_getElem? (i := 873) (by decide +kernel)) (by decide +kernel)
theorem gS.push {E : Ev} {G : Gh} {H H1 : Heap} {i : Nat} {e : va_E} (h : gS E G H) (he : va_at E.1 vwCl (ga E i, e) H1) (o1 : ∀ q : Nat, q < H.size → H1[q]? = H[q]?) : gS E (gup G i (some e)) H1 := by
  intro j e' hj
  by_cases hji : j = i
  · subst hji
    rw [gup_self] at hj
    cases hj
    exact he
  · rw [gup_ne _ _ hji] at hj
    exact (h j e' hj).kept (o1 _ (h j e' hj).lt)
section VR4
variable {M : Mx} {E : Ev} {own : String} {cc : ByteArray} {nL : Nat} {ret : Option FieldType} {FR LO MC MS : Nat} {Q : State → Prop} {cells slots : Nat} {G : Gh} {pc : Nat} {lo : List (Option Value)} {st : List Value}
theorem v_newaI (C : Cx M E own cc nL ret FR LO MC MS) {n i : Nat} (hd : decode cc pc = .ok (.newarray .int, 2)) (hn : n < 2 ^ 26) (hR : cells + 1 ≤ MC ∧ slots + n ≤ MS) (kk : ∀ G' : Gh, G' i = cI E n (fun _ => nI 0) → (∀ j, j ≠ i → G' j = G j) → V M E nL Q (some (ga E (i + 1))) (cells + 1) (slots + n) G' (pc + 2) lo (.ref (ga E i) :: st)) : V M E nL Q (some (ga E i)) cells slots G pc lo (.int (nI n) :: st) := by
  intro H locs ls hg hz hs hl
  have hsz : H.size = ga E i := hz _ rfl
  refine va_newaK (atype := .int) (n := nI n) (N := n) C.1 C.2.1 (C.2.2.2.2.1.1.use tar_I) rfl hd rfl ?_ ?_ ?_ (by rw [C.2.2.2.2.2.2.2.1]; exact hR.1) (by rw [C.2.2.2.2.2.2.2.1]; exact hR.2) hsz (fun H1 cA e1 z1 o1 hAr hNm => ?_)
  · intro h
    rw [Int32.lt_iff_toInt_lt, nI_toInt (by omega)] at h
    have e9 : (0 : Int32).toInt = 0 := by decide
    omega
  · exact nI_clamp (by omega)
  · show n * 4 ≤ 536870912
    omega
  have hcA : cA = E.2.1 0 := by
    have h9 : M.2.2.2.2.1.vm.findClass ("[" ++ (FieldType.int).toString) = some (E.2.1 0) := (C.2.2.2.2.1.2.2.2 0 (E.2.1 0, .int) rfl).2
    exact Option.some.inj (hNm.symm.trans h9)
  subst hcA
  refine kk (gup G i (cI E n (fun _ => nI 0))) (gup_self _ _ _) (fun j hj => gup_ne _ _ hj) H1 locs ls (hg.push (e := .inl (E.2.1 0, n, .inl (fun _ => nI 0))) ?_ (fun q hq => o1 q (by omega))) (fun m hm => ?_) ⟨Nat.le_trans hs.1 (by omega), fun x h1 h2 => (o1 x (by have := hs.1; omega)).trans (hs.2.1 x h1 h2), hs.2.2⟩ hl
  · show H1[ga E i]? = some (vp_cell _ _)
    rw [vp_cell_i]
    exact e1
  · cases hm
    rw [z1]
    rfl
theorem v_newaJ (C : Cx M E own cc nL ret FR LO MC MS) {n i : Nat} (hd : decode cc pc = .ok (.newarray .long, 2)) (hn : n < 2 ^ 26) (hR : cells + 1 ≤ MC ∧ slots + n ≤ MS) (kk : ∀ G' : Gh, G' i = cJ E n (fun _ => lN 0) → (∀ j, j ≠ i → G' j = G j) → V M E nL Q (some (ga E (i + 1))) (cells + 1) (slots + n) G' (pc + 2) lo (.ref (ga E i) :: st)) : V M E nL Q (some (ga E i)) cells slots G pc lo (.int (nI n) :: st) := by
  intro H locs ls hg hz hs hl
  have hsz : H.size = ga E i := hz _ rfl
  refine va_newaK (atype := .long) (n := nI n) (N := n) C.1 C.2.1 (C.2.2.2.2.1.1.use tar_J) rfl hd rfl ?_ ?_ ?_ (by rw [C.2.2.2.2.2.2.2.1]; exact hR.1) (by rw [C.2.2.2.2.2.2.2.1]; exact hR.2) hsz (fun H1 cA e1 z1 o1 hAr hNm => ?_)
  · intro h
    rw [Int32.lt_iff_toInt_lt, nI_toInt (by omega)] at h
    have e9 : (0 : Int32).toInt = 0 := by decide
    omega
  · exact nI_clamp (by omega)
  · show n * 8 ≤ 536870912
    omega
  have hcA : cA = E.2.1 1 := by
    have h9 : M.2.2.2.2.1.vm.findClass ("[" ++ (FieldType.long).toString) = some (E.2.1 1) := (C.2.2.2.2.1.2.2.2 1 (E.2.1 1, .long) rfl).2
    exact Option.some.inj (hNm.symm.trans h9)
  subst hcA
  refine kk (gup G i (cJ E n (fun _ => lN 0))) (gup_self _ _ _) (fun j hj => gup_ne _ _ hj) H1 locs ls (hg.push (e := .inl (E.2.1 1, n, .inr (.inl (fun _ => lN 0)))) ?_ (fun q hq => o1 q (by omega))) (fun m hm => ?_) ⟨Nat.le_trans hs.1 (by omega), fun x h1 h2 => (o1 x (by have := hs.1; omega)).trans (hs.2.1 x h1 h2), hs.2.2⟩ hl
  · show H1[ga E i]? = some (vp_cell _ _)
    rw [vp_cell_l]
    exact e1
  · cases hm
    rw [z1]
    rfl
theorem v_newaZ (C : Cx M E own cc nL ret FR LO MC MS) {n i : Nat} (hd : decode cc pc = .ok (.newarray .boolean, 2)) (hn : n < 2 ^ 26) (hR : cells + 1 ≤ MC ∧ slots + n ≤ MS) (kk : ∀ G' : Gh, G' i = cZ E n (fun _ => nI 0) → (∀ j, j ≠ i → G' j = G j) → V M E nL Q (some (ga E (i + 1))) (cells + 1) (slots + n) G' (pc + 2) lo (.ref (ga E i) :: st)) : V M E nL Q (some (ga E i)) cells slots G pc lo (.int (nI n) :: st) := by
  intro H locs ls hg hz hs hl
  have hsz : H.size = ga E i := hz _ rfl
  refine va_newaK (atype := .boolean) (n := nI n) (N := n) C.1 C.2.1 (C.2.2.2.2.1.1.use tar_Z) rfl hd rfl ?_ ?_ ?_ (by rw [C.2.2.2.2.2.2.2.1]; exact hR.1) (by rw [C.2.2.2.2.2.2.2.1]; exact hR.2) hsz (fun H1 cA e1 z1 o1 hAr hNm => ?_)
  · intro h
    rw [Int32.lt_iff_toInt_lt, nI_toInt (by omega)] at h
    have e9 : (0 : Int32).toInt = 0 := by decide
    omega
  · exact nI_clamp (by omega)
  · show n * 1 ≤ 536870912
    omega
  have hcA : cA = E.2.1 2 := by
    have h9 : M.2.2.2.2.1.vm.findClass ("[" ++ (FieldType.boolean).toString) = some (E.2.1 2) := (C.2.2.2.2.1.2.2.2 2 (E.2.1 2, .boolean) rfl).2
    exact Option.some.inj (hNm.symm.trans h9)
  subst hcA
  refine kk (gup G i (cZ E n (fun _ => nI 0))) (gup_self _ _ _) (fun j hj => gup_ne _ _ hj) H1 locs ls (hg.push (e := .inl (E.2.1 2, n, .inl (fun _ => nI 0))) ?_ (fun q hq => o1 q (by omega))) (fun m hm => ?_) ⟨Nat.le_trans hs.1 (by omega), fun x h1 h2 => (o1 x (by have := hs.1; omega)).trans (hs.2.1 x h1 h2), hs.2.2⟩ hl
  · show H1[ga E i]? = some (vp_cell _ _)
    rw [vp_cell_i]
    exact e1
  · cases hm
    rw [z1]
    rfl
theorem v_new (C : Cx M E own cc nL ret FR LO MC MS) {q : vw_C} {index ci i : Nat} (ty : Nat → FieldType) {fs : List Value} (wl : Cond.classLink own index q.1 ∈ lw_tb2) (wn : Cond.instantiable q.1 q.2.2 ∈ lw_tb2) (wi : Cond.initialized q.1 ∈ lw_tb2) (hin : ∀ w ∈ u_ws q.1 q.2.1 q.2.2, w ∈ lw_tb2) (hty : ∀ k, k < q.2.2 → parseFieldDescriptor (q.2.1 k).2.2.1 = some (ty k)) (hc : vwCl[ci]? = some q) (hfs : ∀ j, j < q.2.2 → defaultValue (ty j) = vp_V fs j) (hd : decode cc pc = .ok (.new index, 3)) (hR : cells + 1 ≤ MC ∧ slots + q.2.2 ≤ MS) (kk : ∀ G' : Gh, G' i = cO ci fs → (∀ j, j ≠ i → G' j = G j) → V M E nL Q (some (ga E (i + 1))) (cells + 1) (slots + q.2.2) G' (pc + 3) lo (.ref (ga E i) :: st)) : V M E nL Q (some (ga E i)) cells slots G pc lo st := by
  intro H locs ls hg hz hs hl
  have hsz : H.size = ga E i := hz _ rfl
  have hKn := C.2.2.2.2.1.2.2.1 ci q hc
  refine W.newcK C.1 C.2.1 C.2.2.2.1 (C.2.2.2.2.1.1.use wl) (C.2.2.2.2.1.1.use wn) (C.2.2.2.2.1.1.use wi) rfl hd (by rw [C.2.2.2.2.2.2.2.1]; exact hR.1) (by rw [C.2.2.2.2.2.2.2.1]; exact hR.2) hKn.2.1 hsz (fun H1 kC hkC e1 z1 o1 => ?_)
  refine kk (gup G i (cO ci fs)) (gup_self _ _ _) (fun j hj => gup_ne _ _ hj) H1 locs ls (hg.push (e := .inr (ci, fs)) ?_ (fun q hq => o1 q (by omega))) (fun m hm => ?_) ⟨Nat.le_trans hs.1 (by omega), fun x h1 h2 => (o1 x (by have := hs.1; omega)).trans (hs.2.1 x h1 h2), hs.2.2⟩ hl
  · exact ⟨q, hc, (u_born ty (ws := lw_tb2) (args := M.2.2.2.2.2.2.1) (fun w hw => C.2.2.2.2.1.1.use hw) hin hKn hkC e1 hty).to hfs⟩
  · cases hm
    rw [z1]
    rfl
theorem v_anew (C : Cx M E own cc nL ret FR LO MC MS) {CN : String} {index n i t0 : Nat} (wl : Cond.classLink own index CN ∈ lw_tb2) (wo : Cond.arrayOver (.object CN) ∈ lw_tb2) (ht : (tysE E)[t0]? = some (E.2.1 t0, .object CN)) (hd : decode cc pc = .ok (.anewarray index, 3)) (hn : n < 2 ^ 26) (hR : cells + 1 ≤ MC ∧ slots + n ≤ MS) (kk : ∀ G' : Gh, G' i = cR E t0 n (fun _ => none) → (∀ j, j ≠ i → G' j = G j) → V M E nL Q (some (ga E (i + 1))) (cells + 1) (slots + n) G' (pc + 3) lo (.ref (ga E i) :: st)) : V M E nL Q (some (ga E i)) cells slots G pc lo (.int (nI n) :: st) := by
  intro H locs ls hg hz hs hl
  have hsz : H.size = ga E i := hz _ rfl
  have hcl : (nI n).toNatClampNeg = n := nI_clamp (by omega)
  have h0 : ¬ nI n < 0 := by
    intro h
    rw [Int32.lt_iff_toInt_lt, nI_toInt (by omega)] at h
    have e9 : (0 : Int32).toInt = 0 := by decide
    omega
  refine W.anew C.1 C.2.1 C.2.2.2.1 (C.2.2.2.2.1.1.use wl) (va_AO.use (C.2.2.2.2.1.1.use wo)) rfl hd rfl h0 (by rw [hcl]; omega) (by rw [C.2.2.2.2.2.2.2.1]; exact hR.1) (by rw [C.2.2.2.2.2.2.2.1, hcl]; exact hR.2) (fun cA kA comp f1 f2 f3 f4 => ?_)
  rw [hcl]
  generalize hH1 : H.push ({ cls := cA, slots := Array.replicate n .null, vm := .none } : Cell) = H1
  have z1 : H1.size = H.size + 1 := by rw [← hH1, Array.size_push]
  have e1 : H1[H.size]? = some (arrV cA n (fun _ => .null)) := by rw [← hH1, Array.getElem?_push_size, ← arrV_new]
  have o1 : ∀ q : Nat, q < H.size → H1[q]? = H[q]? := fun q hq => by rw [← hH1, Array.getElem?_push, if_neg (Nat.ne_of_lt hq)]
  have hcA : cA = E.2.1 t0 := by
    obtain ⟨kA2, comp2, g1, g2, g3, g4⟩ := (C.2.2.2.2.1.2.2.2 t0 _ ht).2
    exact Option.some.inj (f1.symm.trans g4)
  subst hcA
  rw [hsz] at e1 ⊢
  refine kk (gup G i (cR E t0 n (fun _ => none))) (gup_self _ _ _) (fun j hj => gup_ne _ _ hj) H1 locs ls (hg.push (e := .inl (E.2.1 t0, n, .inr (.inr (.inr (.inr (fun _ => none)))))) ?_ o1) (fun m hm => ?_) ⟨Nat.le_trans hs.1 (by omega), fun x h1 h2 => (o1 x (by have := hs.1; omega)).trans (hs.2.1 x h1 h2), hs.2.2⟩ hl
  · show H1[ga E i]? = some (vp_cell _ _)
    rw [vp_cell_q]
    exact e1
  · cases hm
    rw [z1, hsz]
    rfl
theorem v_aast {z : Option Nat} (C : Cx M E own cc nL ret FR LO MC MS) {CN : String} {q : vw_C} {i n k j ci t0 : Nat} {f : Nat → Option Nat} {vs : List Value} (ht : (tysE E)[t0]? = some (E.2.1 t0, .object CN)) (hca : q.1 = CN ∨ ∃ t ∈ fwL, t.1 = q.1 ∧ t.2.1.cls = CN) (hc : vwCl[ci]? = some q) (hd : decode cc pc = .ok (.aastore, 1)) (hG : G i = cR E t0 n f) (hv : G j = cO ci vs) (hk : k < n) (hn : n < 2 ^ 31) (hij : i ≠ j) (kk : ∀ G' : Gh, G' i = cR E t0 n (fu f k (some (ga E j))) → (∀ j, j ≠ i → G' j = G j) → V M E nL Q z cells slots G' (pc + 1) lo st) : V M E nL Q z cells slots G pc lo (.ref (ga E j) :: .int (nI k) :: .ref (ga E i) :: st) := by
  intro H locs ls hg hz hs hl
  have hK := C.2.2.2.2.1.2.2
  have hP : va_P E.1 vwCl [(ga E i, .inl (E.2.1 t0, n, .inr (.inr (.inr (.inr f))))), (ga E j, .inr (ci, vs))] H := by
    intro a b hab
    match a with
    | 0 => cases hab; exact hg i _ hG
    | 1 => cases hab; exact hg j _ hv
    | a + 2 => cases hab
  have hD : va_D (eA E) [(ga E i, .inl (E.2.1 t0, n, .inr (.inr (.inr (.inr f))))), (ga E j, (.inr (ci, vs) : va_E))] := by
    refine ⟨fun a b p q ha hb hpq => ?_, fun a b hab => ?_⟩
    · match a, b with
      | 0, 0 => rfl
      | 1, 1 => rfl
      | 0, 1 => cases ha; cases hb; exact absurd (ga_inj hpq) hij
      | 1, 0 => cases ha; cases hb; exact absurd (ga_inj hpq).symm hij
      | a + 2, _ => cases ha
      | _, b + 2 => cases hb
    · match a with
      | 0 => cases hab; exact ga_A E i
      | 1 => cases hab; exact ga_A E j
      | a + 2 => cases hab
  have hup : va_up f k (some (ga E j)) = fu f k (some (ga E j)) := by
    funext x
    by_cases hx : x = k
    · subst hx; rw [fu_self]; simp [va_up]
    · rw [fu_ne _ _ hx]; simp [va_up, hx]
  have hcl : (nI k).toNatClampNeg = k := nI_clamp (by omega)
  have fin : ∀ (H1 : Heap) (locs1 : List Loc), va_P E.1 vwCl [(ga E i, .inl (E.2.1 t0, n, .inr (.inr (.inr (.inr (va_up f (nI k).toNatClampNeg (some (ga E j)))))))), (ga E j, .inr (ci, vs))] H1 → (H1.size = H.size) → (∀ q : Nat, q ≠ ga E i → H1[q]? = H[q]?) → va_S (eA E) M.2.2.2.2.1.heap H1 locs1 → W M.1 M.2.1 M.2.2.1 M.2.2.2.1 M.2.2.2.2.1 M.2.2.2.2.2.1 M.2.2.2.2.2.2.1 M.2.2.2.2.2.2.2.1 M.2.2.2.2.2.2.2.2.1 M.2.2.2.2.2.2.2.2.2 H1 locs1 cells slots Q (F0 M.2.2.2.2.2.1 (pc + 1) ls st) := by
    intro H1 locs1 h1 hz1 oq h3
    have h9 := h1 0 _ rfl
    rw [hcl, hup] at h9
    exact kk (gup G i (cR E t0 n (fu f k (some (ga E j))))) (gup_self _ _ _) (fun j hj => gup_ne _ _ hj) H1 locs1 ls (hg.set h9 oq) (hz.put hz1) h3 hl
  obtain ⟨r', hr', cellV, g1, g2, g3, -⟩ := hP 1 _ rfl
  have hcls := (hK.1 ci q hc).2
  obtain ⟨kA, comp, k1, k2, k3, -⟩ := (hK.2 t0 _ ht).2
  obtain ⟨kE, hkE, -⟩ := Vm.findClass_spec k3
  obtain ⟨kC, hkC, -⟩ := hcls.2
  have hasg : M.2.2.2.2.1.vm.assignable (E.1.1 ci) comp = true := by
    rcases hca with h9 | ⟨t, ht9, ha9, hb9⟩
    · subst h9
      cases k3.symm.trans hcls.1
      exact va_assign hcls
    · have h9 := (C.2.2.2.2.1.2.1 t ht9).2.2.2.2
      rw [ha9, hb9] at h9
      obtain ⟨c0, t1, f1, f2, f3⟩ := Cond.castable_spec h9
      cases hcls.1.symm.trans f1
      cases k3.symm.trans f2
      exact f3
  have hlt : (nI k).toNatClampNeg < n := by omega
  have h0 : ¬ nI k < 0 := by
    intro h
    rw [Int32.lt_iff_toInt_lt, nI_toInt (by omega)] at h
    have e9 : (0 : Int32).toInt = 0 := by decide
    omega
  refine W.aast C.1 C.2.1 (hP 0 _ rfl) (fun q h => by cases h) (fun h => by cases h) k1 k2 rfl hkE ⟨h0, by show _ < (arrV _ _ _).slots.size; rw [arrV_size]; exact hlt⟩ g1 (fun q h => by rw [g3] at h; cases h) (by rw [g2]; exact hkC) (by rw [g2]; exact hasg) rfl rfl hd (fun H1 e z1 oq => ?_)
  refine fin H1 _ (hP.set hD (show [(ga E i, (.inl (E.2.1 t0, n, .inr (.inr (.inr (.inr f)))) : va_E)), (ga E j, (.inr (ci, vs) : va_E))][0]? = some (ga E i, .inl (E.2.1 t0, n, .inr (.inr (.inr (.inr f))))) from rfl) ?_ oq) z1 oq (hs.put z1 oq (ga_A E i))
  show H1[ga E i]? = some (vp_cell _ _)
  rw [e]
  rw [vp_cell_q, vp_cell_q, arrV_store]
  congr 2
  funext x
  by_cases hx : x = (nI k).toNatClampNeg
  · subst hx
    simp [updV, va_up, va_rf]
  · simp [updV, va_up, hx]
end VR4
theorem nw_X0 : ∀ j, j < 4 → defaultValue (tyX0 j) = vp_V [.null, .null, .null, .null] j
  | 0, _ => rfl
  | 1, _ => rfl
  | 2, _ => rfl
  | 3, _ => rfl
  | _ + 4, h => absurd h (by omega)
theorem nw_X1 : ∀ j, j < 6 → defaultValue (tyX1 j) = vp_V [.int (nI 0), .null, .null, .null, .null, .int (nI 0)] j
  | 0, _ => rfl
  | 1, _ => rfl
  | 2, _ => rfl
  | 3, _ => rfl
  | 4, _ => rfl
  | 5, _ => rfl
  | _ + 6, h => absurd h (by omega)
theorem nw_X2 : ∀ j, j < 4 → defaultValue (tyX2 j) = vp_V [.null, .null, .int (nI 0), .int (nI 0)] j
  | 0, _ => rfl
  | 1, _ => rfl
  | 2, _ => rfl
  | 3, _ => rfl
  | _ + 4, h => absurd h (by omega)
theorem nw_X3 : ∀ j, j < 5 → defaultValue (tyX3 j) = vp_V [.int (nI 0), .int (nI 0), .int (nI 0), .null, .null] j
  | 0, _ => rfl
  | 1, _ => rfl
  | 2, _ => rfl
  | 3, _ => rfl
  | 4, _ => rfl
  | _ + 5, h => absurd h (by omega)
theorem nw_X4 : ∀ j, j < 3 → defaultValue (tyX4 j) = vp_V [.null, .int (nI 0), .null] j
  | 0, _ => rfl
  | 1, _ => rfl
  | 2, _ => rfl
  | _ + 3, h => absurd h (by omega)
theorem nw_X5 : ∀ j, j < 1 → defaultValue (tyX5 j) = vp_V [.null] j
  | 0, _ => rfl
  | _ + 1, h => absurd h (by omega)
theorem nw_X6 : ∀ j, j < 2 → defaultValue (tyX6 j) = vp_V [.null, .long (lN 0)] j
  | 0, _ => rfl
  | 1, _ => rfl
  | _ + 2, h => absurd h (by omega)
theorem nw_X7 : ∀ j, j < 3 → defaultValue (tyX7 j) = vp_V [.null, .null, .int (nI 0)] j
  | 0, _ => rfl
  | 1, _ => rfl
  | 2, _ => rfl
  | _ + 3, h => absurd h (by omega)
theorem nw_X8 : ∀ j, j < 1 → defaultValue (tyX8 j) = vp_V [.null] j
  | 0, _ => rfl
  | _ + 1, h => absurd h (by omega)
theorem nw_X10 : ∀ j, j < 7 → defaultValue (tyX10 j) = vp_V [.null, .null, .null, .null, .null, .null, .long (lN 0)] j
  | 0, _ => rfl
  | 1, _ => rfl
  | 2, _ => rfl
  | 3, _ => rfl
  | 4, _ => rfl
  | 5, _ => rfl
  | 6, _ => rfl
  | _ + 7, h => absurd h (by omega)
theorem nw_X11 : ∀ j, j < 4 → defaultValue (tyX11 j) = vp_V [.null, .int (nI 0), .null, .null] j
  | 0, _ => rfl
  | 1, _ => rfl
  | 2, _ => rfl
  | 3, _ => rfl
  | _ + 4, h => absurd h (by omega)
theorem nw_X12 : ∀ j, j < 28 → defaultValue (tyX12 j) = vp_V [.int (nI 0), .int (nI 0), .int (nI 0), .int (nI 0), .null, .null, .null, .null, .null, .null, .null, .null, .null, .null, .null, .null, .null, .null, .null, .null, .null, .int (nI 0), .null, .null, .int (nI 0), .null, .null, .null] j
  | 0, _ => rfl
  | 1, _ => rfl
  | 2, _ => rfl
  | 3, _ => rfl
  | 4, _ => rfl
  | 5, _ => rfl
  | 6, _ => rfl
  | 7, _ => rfl
  | 8, _ => rfl
  | 9, _ => rfl
  | 10, _ => rfl
  | 11, _ => rfl
  | 12, _ => rfl
  | 13, _ => rfl
  | 14, _ => rfl
  | 15, _ => rfl
  | 16, _ => rfl
  | 17, _ => rfl
  | 18, _ => rfl
  | 19, _ => rfl
  | 20, _ => rfl
  | 21, _ => rfl
  | 22, _ => rfl
  | 23, _ => rfl
  | 24, _ => rfl
  | 25, _ => rfl
  | 26, _ => rfl
  | 27, _ => rfl
  | _ + 28, h => absurd h (by omega)
theorem tcl_L_7 : Cond.classLink RL 7 RX11 ∈ lw_tb2 := tb_in (List.mem_of_getElem? (i := 56) (by decide +kernel)) (by decide +kernel)
theorem tcl_X11_7 : Cond.classLink RX11 7 RX3 ∈ lw_tb2 := tb_in (List.mem_of_getElem? (i := 64) (by decide +kernel)) (by decide +kernel)
theorem tcl_X11_31 : Cond.classLink RX11 31 RX10 ∈ lw_tb2 := tb_in (List.mem_of_getElem? (i := 110) (by decide +kernel)) (by decide +kernel)
theorem tcl_X10_9 : Cond.classLink RX10 9 RX4 ∈ lw_tb2 := tb_in (List.mem_of_getElem? (i := 117) (by decide +kernel)) (by decide +kernel)
theorem tcl_X10_23 : Cond.classLink RX10 23 RX6 ∈ lw_tb2 := tb_in (List.mem_of_getElem? (i := 134) (by decide +kernel)) (by decide +kernel)
theorem tcl_X6_7 : Cond.classLink RX6 7 RX1 ∈ lw_tb2 := tb_in (List.mem_of_getElem? (i := 140) (by decide +kernel)) (by decide +kernel)
theorem tcl_X1_26 : Cond.classLink RX1 26 RX5 ∈ lw_tb2 := tb_in (List.mem_of_getElem? (i := 146) (by decide +kernel)) (by decide +kernel)
theorem tcl_X10_38 : Cond.classLink RX10 38 RX8 ∈ lw_tb2 := tb_in (List.mem_of_getElem? (i := 197) (by decide +kernel)) (by decide +kernel)
theorem tcl_X8_7 : Cond.classLink RX8 7 RX1 ∈ lw_tb2 := tb_in (List.mem_of_getElem? (i := 203) (by decide +kernel)) (by decide +kernel)
theorem tcl_X10_45 : Cond.classLink RX10 45 RX2 ∈ lw_tb2 := tb_in (List.mem_of_getElem? (i := 210) (by decide +kernel)) (by decide +kernel)
theorem tcl_X10_54 : Cond.classLink RX10 54 RX9 ∈ lw_tb2 := tb_in (List.mem_of_getElem? (i := 235) (by decide +kernel)) (by decide +kernel)
theorem tcl_X10_60 : Cond.classLink RX10 60 RX0 ∈ lw_tb2 := tb_in (List.mem_of_getElem? (i := 237) (by decide +kernel)) (by decide +kernel)
theorem tcl_X11_40 : Cond.classLink RX11 40 RX7 ∈ lw_tb2 := tb_in (List.mem_of_getElem? (i := 285) (by decide +kernel)) (by decide +kernel)
theorem tcl_L_18 : Cond.classLink RL 18 RX12 ∈ lw_tb2 := tb_in (List.mem_of_getElem? (i := 774) (by decide +kernel)) (by decide +kernel)
theorem tin_X0 : Cond.instantiable RX0 4 ∈ lw_tb2 := tb_in (List.mem_of_getElem? (i := 238) (by decide +kernel)) (by decide +kernel)
theorem tii_X0 : Cond.initialized RX0 ∈ lw_tb2 := tb_in (List.mem_of_getElem? (i := 51) (by decide +kernel)) (by decide +kernel)
theorem tin_X1 : Cond.instantiable RX1 6 ∈ lw_tb2 := tb_in (List.mem_of_getElem? (i := 141) (by decide +kernel)) (by decide +kernel)
theorem tii_X1 : Cond.initialized RX1 ∈ lw_tb2 := tb_in (List.mem_of_getElem? (i := 47) (by decide +kernel)) (by decide +kernel)
theorem tin_X10 : Cond.instantiable RX10 7 ∈ lw_tb2 := tb_in (List.mem_of_getElem? (i := 112) (by decide +kernel)) (by decide +kernel)
theorem tii_X10 : Cond.initialized RX10 ∈ lw_tb2 := tb_in (List.mem_of_getElem? (i := 44) (by decide +kernel)) (by decide +kernel)
theorem tin_X11 : Cond.instantiable RX11 4 ∈ lw_tb2 := tb_in (List.mem_of_getElem? (i := 57) (by decide +kernel)) (by decide +kernel)
theorem tii_X11 : Cond.initialized RX11 ∈ lw_tb2 := tb_in (List.mem_of_getElem? (i := 41) (by decide +kernel)) (by decide +kernel)
theorem tin_X12 : Cond.instantiable RX12 28 ∈ lw_tb2 := tb_in (List.mem_of_getElem? (i := 775) (by decide +kernel)) (by decide +kernel)
theorem tii_X12 : Cond.initialized RX12 ∈ lw_tb2 := tb_in (List.mem_of_getElem? (i := 53) (by decide +kernel)) (by decide +kernel)
theorem tin_X2 : Cond.instantiable RX2 4 ∈ lw_tb2 := tb_in (List.mem_of_getElem? (i := 211) (by decide +kernel)) (by decide +kernel)
theorem tii_X2 : Cond.initialized RX2 ∈ lw_tb2 := tb_in (List.mem_of_getElem? (i := 50) (by decide +kernel)) (by decide +kernel)
theorem tin_X3 : Cond.instantiable RX3 5 ∈ lw_tb2 := tb_in (List.mem_of_getElem? (i := 65) (by decide +kernel)) (by decide +kernel)
theorem tii_X3 : Cond.initialized RX3 ∈ lw_tb2 := tb_in (List.mem_of_getElem? (i := 42) (by decide +kernel)) (by decide +kernel)
theorem tin_X4 : Cond.instantiable RX4 3 ∈ lw_tb2 := tb_in (List.mem_of_getElem? (i := 118) (by decide +kernel)) (by decide +kernel)
theorem tii_X4 : Cond.initialized RX4 ∈ lw_tb2 := tb_in (List.mem_of_getElem? (i := 45) (by decide +kernel)) (by decide +kernel)
theorem tin_X5 : Cond.instantiable RX5 1 ∈ lw_tb2 := tb_in (List.mem_of_getElem? (i := 147) (by decide +kernel)) (by decide +kernel)
theorem tii_X5 : Cond.initialized RX5 ∈ lw_tb2 := tb_in (List.mem_of_getElem? (i := 48) (by decide +kernel)) (by decide +kernel)
theorem tin_X6 : Cond.instantiable RX6 2 ∈ lw_tb2 := tb_in (List.mem_of_getElem? (i := 135) (by decide +kernel)) (by decide +kernel)
theorem tii_X6 : Cond.initialized RX6 ∈ lw_tb2 := tb_in (List.mem_of_getElem? (i := 46) (by decide +kernel)) (by decide +kernel)
theorem tin_X7 : Cond.instantiable RX7 3 ∈ lw_tb2 := tb_in (List.mem_of_getElem? (i := 286) (by decide +kernel)) (by decide +kernel)
theorem tii_X7 : Cond.initialized RX7 ∈ lw_tb2 := tb_in (List.mem_of_getElem? (i := 52) (by decide +kernel)) (by decide +kernel)
theorem tin_X8 : Cond.instantiable RX8 1 ∈ lw_tb2 := tb_in (List.mem_of_getElem? (i := 198) (by decide +kernel)) (by decide +kernel)
theorem tii_X8 : Cond.initialized RX8 ∈ lw_tb2 := tb_in (List.mem_of_getElem? (i := 49) (by decide +kernel)) (by decide +kernel)
theorem tca_X0 : ∃ t ∈ fwL, t.1 = RX0 ∧ t.2.1.cls = "FrequencySketches$Sketch" := ⟨(RX0, ⟨"FrequencySketches$Sketch", "guess", "(I)J"⟩, ⟨RX0, "guess", "(I)J"⟩), by decide +kernel, rfl, rfl⟩
theorem tca_X4 : ∃ t ∈ fwL, t.1 = RX4 ∧ t.2.1.cls = "FrequencySketches$Sketch" := ⟨(RX4, ⟨"FrequencySketches$Sketch", "guess", "(I)J"⟩, ⟨RX4, "guess", "(I)J"⟩), by decide +kernel, rfl, rfl⟩
theorem tca_X6 : ∃ t ∈ fwL, t.1 = RX6 ∧ t.2.1.cls = "FrequencySketches$Sketch" := ⟨(RX6, ⟨"FrequencySketches$Sketch", "guess", "(I)J"⟩, ⟨RX6, "guess", "(I)J"⟩), by decide +kernel, rfl, rfl⟩
theorem tca_X8 : ∃ t ∈ fwL, t.1 = RX8 ∧ t.2.1.cls = "FrequencySketches$Sketch" := ⟨(RX8, ⟨"FrequencySketches$Sketch", "guess", "(I)J"⟩, ⟨RX8, "guess", "(I)J"⟩), by decide +kernel, rfl, rfl⟩
theorem tao_St : Cond.arrayOver (.object "FrequencySketches$Stream") ∈ lw_tb2 := tb_in (List.mem_of_getElem? (i := 111) (by decide +kernel)) (by decide +kernel)
theorem tao_Sk : Cond.arrayOver (.object "FrequencySketches$Sketch") ∈ lw_tb2 := tb_in (List.mem_of_getElem? (i := 236) (by decide +kernel)) (by decide +kernel)
section VR5
variable {M : Mx} {E : Ev} {cc : ByteArray} {nL : Nat} {ret : Option FieldType} {FR LO MC MS : Nat} {Q : State → Prop} {cells slots : Nat} {G : Gh} {pc : Nat} {lo : List (Option Value)} {st : List Value}
theorem nn_L_7 (C : Cx M E RL cc nL ret FR LO MC MS) {i : Nat} (hd : decode cc pc = .ok (.new 7, 3)) (hR : cells + 1 ≤ MC ∧ slots + 4 ≤ MS) (kk : ∀ G' : Gh, G' i = cO 10 [.null, .int (nI 0), .null, .null] → (∀ j, j ≠ i → G' j = G j) → V M E nL Q (some (ga E (i + 1))) (cells + 1) (slots + 4) G' (pc + 3) lo (.ref (ga E i) :: st)) : V M E nL Q (some (ga E i)) cells slots G pc lo st := v_new (q := (RX11, TX11, 4)) (ci := 10) C tyX11 tcl_L_7 tin_X11 tii_X11 in2_X11 tyX11_ok rfl nw_X11 hd hR kk
theorem nn_X11_7 (C : Cx M E RX11 cc nL ret FR LO MC MS) {i : Nat} (hd : decode cc pc = .ok (.new 7, 3)) (hR : cells + 1 ≤ MC ∧ slots + 5 ≤ MS) (kk : ∀ G' : Gh, G' i = cO 3 [.int (nI 0), .int (nI 0), .int (nI 0), .null, .null] → (∀ j, j ≠ i → G' j = G j) → V M E nL Q (some (ga E (i + 1))) (cells + 1) (slots + 5) G' (pc + 3) lo (.ref (ga E i) :: st)) : V M E nL Q (some (ga E i)) cells slots G pc lo st := v_new (q := (RX3, TX3, 5)) (ci := 3) C tyX3 tcl_X11_7 tin_X3 tii_X3 in2_X3 tyX3_ok rfl nw_X3 hd hR kk
theorem nn_X11_31 (C : Cx M E RX11 cc nL ret FR LO MC MS) {i : Nat} (hd : decode cc pc = .ok (.new 31, 3)) (hR : cells + 1 ≤ MC ∧ slots + 7 ≤ MS) (kk : ∀ G' : Gh, G' i = cO 9 [.null, .null, .null, .null, .null, .null, .long (lN 0)] → (∀ j, j ≠ i → G' j = G j) → V M E nL Q (some (ga E (i + 1))) (cells + 1) (slots + 7) G' (pc + 3) lo (.ref (ga E i) :: st)) : V M E nL Q (some (ga E i)) cells slots G pc lo st := v_new (q := (RX10, TX10, 7)) (ci := 9) C tyX10 tcl_X11_31 tin_X10 tii_X10 in2_X10 tyX10_ok rfl nw_X10 hd hR kk
theorem nn_X10_9 (C : Cx M E RX10 cc nL ret FR LO MC MS) {i : Nat} (hd : decode cc pc = .ok (.new 9, 3)) (hR : cells + 1 ≤ MC ∧ slots + 3 ≤ MS) (kk : ∀ G' : Gh, G' i = cO 4 [.null, .int (nI 0), .null] → (∀ j, j ≠ i → G' j = G j) → V M E nL Q (some (ga E (i + 1))) (cells + 1) (slots + 3) G' (pc + 3) lo (.ref (ga E i) :: st)) : V M E nL Q (some (ga E i)) cells slots G pc lo st := v_new (q := (RX4, TX4, 3)) (ci := 4) C tyX4 tcl_X10_9 tin_X4 tii_X4 in2_X4 tyX4_ok rfl nw_X4 hd hR kk
theorem nn_X10_23 (C : Cx M E RX10 cc nL ret FR LO MC MS) {i : Nat} (hd : decode cc pc = .ok (.new 23, 3)) (hR : cells + 1 ≤ MC ∧ slots + 2 ≤ MS) (kk : ∀ G' : Gh, G' i = cO 6 [.null, .long (lN 0)] → (∀ j, j ≠ i → G' j = G j) → V M E nL Q (some (ga E (i + 1))) (cells + 1) (slots + 2) G' (pc + 3) lo (.ref (ga E i) :: st)) : V M E nL Q (some (ga E i)) cells slots G pc lo st := v_new (q := (RX6, TX6, 2)) (ci := 6) C tyX6 tcl_X10_23 tin_X6 tii_X6 in2_X6 tyX6_ok rfl nw_X6 hd hR kk
theorem nn_X6_7 (C : Cx M E RX6 cc nL ret FR LO MC MS) {i : Nat} (hd : decode cc pc = .ok (.new 7, 3)) (hR : cells + 1 ≤ MC ∧ slots + 6 ≤ MS) (kk : ∀ G' : Gh, G' i = cO 1 [.int (nI 0), .null, .null, .null, .null, .int (nI 0)] → (∀ j, j ≠ i → G' j = G j) → V M E nL Q (some (ga E (i + 1))) (cells + 1) (slots + 6) G' (pc + 3) lo (.ref (ga E i) :: st)) : V M E nL Q (some (ga E i)) cells slots G pc lo st := v_new (q := (RX1, TX1, 6)) (ci := 1) C tyX1 tcl_X6_7 tin_X1 tii_X1 in2_X1 tyX1_ok rfl nw_X1 hd hR kk
theorem nn_X1_26 (C : Cx M E RX1 cc nL ret FR LO MC MS) {i : Nat} (hd : decode cc pc = .ok (.new 26, 3)) (hR : cells + 1 ≤ MC ∧ slots + 1 ≤ MS) (kk : ∀ G' : Gh, G' i = cO 5 [.null] → (∀ j, j ≠ i → G' j = G j) → V M E nL Q (some (ga E (i + 1))) (cells + 1) (slots + 1) G' (pc + 3) lo (.ref (ga E i) :: st)) : V M E nL Q (some (ga E i)) cells slots G pc lo st := v_new (q := (RX5, TX5, 1)) (ci := 5) C tyX5 tcl_X1_26 tin_X5 tii_X5 in2_X5 tyX5_ok rfl nw_X5 hd hR kk
theorem nn_X10_38 (C : Cx M E RX10 cc nL ret FR LO MC MS) {i : Nat} (hd : decode cc pc = .ok (.new 38, 3)) (hR : cells + 1 ≤ MC ∧ slots + 1 ≤ MS) (kk : ∀ G' : Gh, G' i = cO 8 [.null] → (∀ j, j ≠ i → G' j = G j) → V M E nL Q (some (ga E (i + 1))) (cells + 1) (slots + 1) G' (pc + 3) lo (.ref (ga E i) :: st)) : V M E nL Q (some (ga E i)) cells slots G pc lo st := v_new (q := (RX8, TX8, 1)) (ci := 8) C tyX8 tcl_X10_38 tin_X8 tii_X8 in2_X8 tyX8_ok rfl nw_X8 hd hR kk
theorem nn_X8_7 (C : Cx M E RX8 cc nL ret FR LO MC MS) {i : Nat} (hd : decode cc pc = .ok (.new 7, 3)) (hR : cells + 1 ≤ MC ∧ slots + 6 ≤ MS) (kk : ∀ G' : Gh, G' i = cO 1 [.int (nI 0), .null, .null, .null, .null, .int (nI 0)] → (∀ j, j ≠ i → G' j = G j) → V M E nL Q (some (ga E (i + 1))) (cells + 1) (slots + 6) G' (pc + 3) lo (.ref (ga E i) :: st)) : V M E nL Q (some (ga E i)) cells slots G pc lo st := v_new (q := (RX1, TX1, 6)) (ci := 1) C tyX1 tcl_X8_7 tin_X1 tii_X1 in2_X1 tyX1_ok rfl nw_X1 hd hR kk
theorem nn_X10_45 (C : Cx M E RX10 cc nL ret FR LO MC MS) {i : Nat} (hd : decode cc pc = .ok (.new 45, 3)) (hR : cells + 1 ≤ MC ∧ slots + 4 ≤ MS) (kk : ∀ G' : Gh, G' i = cO 2 [.null, .null, .int (nI 0), .int (nI 0)] → (∀ j, j ≠ i → G' j = G j) → V M E nL Q (some (ga E (i + 1))) (cells + 1) (slots + 4) G' (pc + 3) lo (.ref (ga E i) :: st)) : V M E nL Q (some (ga E i)) cells slots G pc lo st := v_new (q := (RX2, TX2, 4)) (ci := 2) C tyX2 tcl_X10_45 tin_X2 tii_X2 in2_X2 tyX2_ok rfl nw_X2 hd hR kk
theorem nn_X10_60 (C : Cx M E RX10 cc nL ret FR LO MC MS) {i : Nat} (hd : decode cc pc = .ok (.new 60, 3)) (hR : cells + 1 ≤ MC ∧ slots + 4 ≤ MS) (kk : ∀ G' : Gh, G' i = cO 0 [.null, .null, .null, .null] → (∀ j, j ≠ i → G' j = G j) → V M E nL Q (some (ga E (i + 1))) (cells + 1) (slots + 4) G' (pc + 3) lo (.ref (ga E i) :: st)) : V M E nL Q (some (ga E i)) cells slots G pc lo st := v_new (q := (RX0, TX0, 4)) (ci := 0) C tyX0 tcl_X10_60 tin_X0 tii_X0 in2_X0 tyX0_ok rfl nw_X0 hd hR kk
theorem nn_X11_40 (C : Cx M E RX11 cc nL ret FR LO MC MS) {i : Nat} (hd : decode cc pc = .ok (.new 40, 3)) (hR : cells + 1 ≤ MC ∧ slots + 3 ≤ MS) (kk : ∀ G' : Gh, G' i = cO 7 [.null, .null, .int (nI 0)] → (∀ j, j ≠ i → G' j = G j) → V M E nL Q (some (ga E (i + 1))) (cells + 1) (slots + 3) G' (pc + 3) lo (.ref (ga E i) :: st)) : V M E nL Q (some (ga E i)) cells slots G pc lo st := v_new (q := (RX7, TX7, 3)) (ci := 7) C tyX7 tcl_X11_40 tin_X7 tii_X7 in2_X7 tyX7_ok rfl nw_X7 hd hR kk
theorem nn_L_18 (C : Cx M E RL cc nL ret FR LO MC MS) {i : Nat} (hd : decode cc pc = .ok (.new 18, 3)) (hR : cells + 1 ≤ MC ∧ slots + 28 ≤ MS) (kk : ∀ G' : Gh, G' i = cO 11 [.int (nI 0), .int (nI 0), .int (nI 0), .int (nI 0), .null, .null, .null, .null, .null, .null, .null, .null, .null, .null, .null, .null, .null, .null, .null, .null, .null, .int (nI 0), .null, .null, .int (nI 0), .null, .null, .null] → (∀ j, j ≠ i → G' j = G j) → V M E nL Q (some (ga E (i + 1))) (cells + 1) (slots + 28) G' (pc + 3) lo (.ref (ga E i) :: st)) : V M E nL Q (some (ga E i)) cells slots G pc lo st := v_new (q := (RX12, TX12, 28)) (ci := 11) C tyX12 tcl_L_18 tin_X12 tii_X12 in2_X12 tyX12_ok rfl nw_X12 hd hR kk
end VR5
