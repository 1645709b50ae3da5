def isPl (E : Ev) (G : Gh) (l : Ctr) : Prop := ∃ (fk : Nat → Int32) (fn fe : Nat → Int64), G 124 = cI E 600 fk ∧ G 125 = cJ E 600 fn ∧ G 126 = cJ E 600 fe ∧ rep l fk fn fe ∧ l.length ≤ 600 ∧ (∀ c ∈ l, c.1 < 65536) ∧ (ckeys l).Nodup
theorem isPl.keep {E : Ev} {G G2 : Gh} {l : Ctr} (h : isPl E G l) (hf : ∀ j, 124 ≤ j → j < 127 → G2 j = G j) : isPl E G2 l := by
  obtain ⟨a, b, c, h0, h1, h2, h3⟩ := h
  exact ⟨a, b, c, (hf _ (by omega) (by omega)).trans h0, (hf _ (by omega) (by omega)).trans h1, (hf _ (by omega) (by omega)).trans h2, h3⟩
def pPut (l : Ctr) (x n e : Nat) : Ctr := match kix l x with
  | some i => (match l[i]? with
    | some c => l.set i (c.1, c.2.1 + n, c.2.2 + e)
    | none => l)
  | none => l ++ [(x, n, e)]
theorem isMo.upo {E : Ev} {G G2 : Gh} {P W R lim rq po po2 : Nat} {A B : Nat → Nat} (h : isMo E G P W R lim rq po A B) (h0 : G2 104 = moO E P W R lim rq po2) (h1 : G2 105 = G 105) (h2 : G2 106 = G 106) : isMo E G2 P W R lim rq po2 A B := by
  obtain ⟨fa, fb, g0, g1, g2, g3⟩ := h
  exact ⟨fa, fb, h0, h1.trans g1, h2.trans g2, g3⟩

set_option maxHeartbeats 4000000 in
set_option maxRecDepth 100000 in
theorem pooledAt_loop {M : Mx} {E : Ev} {z : Option Nat} (C : Cx M E yX12_pooledAt.cls cX12_pooledAt 4 (some .int) 0 0 0 0) {post : Int32 → Gh → Prop} {G : Gh} {P W R lim rq : Nat} {A B : Nat → Nat} {l : Ctr} {x : Nat} (hx : x < 2 ^ 31) (hm : isMo E G P W R lim rq l.length A B) (hpl : isPl E G l) (hend : ∀ {v : Int32}, v = kJ 0 (lix (ckeys l) x) → post v G) : ∀ (t i : Nat), i ≤ l.length → l.length - i < t → V M E 4 (QE M E (fun r : Int32 => some (.int r)) z 0 0 post) z 0 0 G 4 [some (.ref (ga E 104)), some (.int (nI x)), some (.int (kJ 0 (lix ((ckeys l).take i) x))), some (.int (nI i))] [] := by
  obtain ⟨fa, fb, ho, k5, k6, hfa, hfb, hrg, hlim, hab⟩ := id hm
  obtain ⟨fk, fn, fe, pa, pb, pc9, hrep, hll, hlk, hnd⟩ := id hpl
  intro t
  induction t with
  | zero => intro i _ h; omega
  | succ t ih =>
    intro i hi ht
    refine v_iload_n C dX12_pooledAt_4 rfl ?_
    refine v_aload_n C dX12_pooledAt_5 rfl ?_
    refine gf_X12_156 C dX12_pooledAt_6 (by assumption) ?_
    refine v_icmpn_ge C 34 dX12_pooledAt_9 (by decide) (by omega) (by omega) (fun h9 => ?_) (fun h9 => ?_)
    · skip
      refine v_iload_n C dX12_pooledAt_34 rfl ?_
      refine v_iret C dX12_pooledAt_35 ?_
      refine hend ?_
      have e9 : i = (ckeys l).length := by rw [ckeys_len]; omega
      rw [e9, List.take_length]
    · skip
      have hci : l[i]? = some l[i] := List.getElem?_eq_getElem (by omega)
      have hki : (ckeys l)[i]? = some l[i].1 := by unfold ckeys; rw [List.getElem?_map, hci]; rfl
      have hkb := hlk _ (List.mem_of_getElem? hci)
      refine v_aload_n C dX12_pooledAt_12 rfl ?_
      refine gf_X12_69 C dX12_pooledAt_13 (by assumption) ?_
      refine v_iload_n C dX12_pooledAt_16 rfl ?_
      refine v_iald C dX12_pooledAt_17 (by assumption) (by omega) (by omega) (hrep i _ hci).1 ?_
      refine v_iload_n C dX12_pooledAt_18 rfl ?_
      refine v_icmpn_ne C 26 dX12_pooledAt_19 (by decide) (by omega) (by omega) (fun h19 => ?_) (fun h19 => ?_)
      · skip
        refine v_iload_n C dX12_pooledAt_26 rfl ?_
        refine v_istore_2 C dX12_pooledAt_27 (by decide) (by first | rfl | assumption) ?_
        first | refine v_iinc_3 C dX12_pooledAt_28 (nI_1 _) (by decide) (by first | rfl | assumption) ?_ | refine v_iinc_3 C dX12_pooledAt_28 rfl (by decide) (by first | rfl | assumption) ?_
        refine v_goto C 4 dX12_pooledAt_31 (by decide) ?_
        first
          | (have e9 : lix ((ckeys l).take (i + 1)) x = lix ((ckeys l).take i) x := lix_miss hki h19
             have key := ih (i + 1) (by omega) (by omega)
             rw [e9] at key
             exact key)
          | (have e9 : lix ((ckeys l).take (i + 1)) x = some i := lix_hit hnd (by rw [hki, h19])
             have key := ih (i + 1) (by omega) (by omega)
             rw [e9, show kJ 0 (some i) = nI i by show nI (0 + i) = nI i; rw [Nat.zero_add]] at key
             exact key)
      · skip
        refine v_iload_n C dX12_pooledAt_22 rfl ?_
        refine v_goto C 27 dX12_pooledAt_23 (by decide) ?_
        refine v_istore_2 C dX12_pooledAt_27 (by decide) (by first | rfl | assumption) ?_
        first | refine v_iinc_3 C dX12_pooledAt_28 (nI_1 _) (by decide) (by first | rfl | assumption) ?_ | refine v_iinc_3 C dX12_pooledAt_28 rfl (by decide) (by first | rfl | assumption) ?_
        refine v_goto C 4 dX12_pooledAt_31 (by decide) ?_
        first
          | (have e9 : lix ((ckeys l).take (i + 1)) x = lix ((ckeys l).take i) x := lix_miss hki h19
             have key := ih (i + 1) (by omega) (by omega)
             rw [e9] at key
             exact key)
          | (have e9 : lix ((ckeys l).take (i + 1)) x = some i := lix_hit hnd (by rw [hki, h19])
             have key := ih (i + 1) (by omega) (by omega)
             rw [e9, show kJ 0 (some i) = nI i by show nI (0 + i) = nI i; rw [Nat.zero_add]] at key
             exact key)
set_option maxHeartbeats 4000000 in
set_option maxRecDepth 100000 in
theorem c_Mo_pooledAt (la : Launch) (E : Ev) (z : Option Nat) {G : Gh} {P W R lim rq : Nat} {A B : Nat → Nat} {l : Ctr} {x : Nat} (hx : x < 2 ^ 31) (hm : isMo E G P W R lim rq l.length A B) (hpl : isPl E G l) : K_X12_pooledAt la E z G [.ref (ga E 104), .int (nI x)] (fun r G2 => r = kJ 0 (lix (ckeys l) x) ∧ G = G2) := by
  refine Fc.of rfl [some (.ref (ga E 104)), some (.int (nI x)), none, none] 2 rfl (Nat.le_of_ble_eq_true rfl) ?_
  intro M hM0 hini C
  subst hM0
  obtain ⟨fa, fb, ho, k5, k6, hfa, hfb, hrg, hlim, hab⟩ := id hm
  obtain ⟨fk, fn, fe, pa, pb, pc9, hrep, hll, hlk, hnd⟩ := id hpl
  refine v_iconst (v := -1) C dX12_pooledAt_0 (by decide) ?_
  refine v_istore_2 C dX12_pooledAt_1 (by decide) (by first | rfl | assumption) ?_
  refine v_iconst (v := nI 0) C dX12_pooledAt_2 (by decide) ?_
  refine v_istore_3 C dX12_pooledAt_3 (by decide) (by first | rfl | assumption) ?_
  exact pooledAt_loop C hx hm hpl (fun h => ⟨h, rfl⟩) (l.length + 1) 0 (by omega) (by omega)

theorem ckeys_set {l : Ctr} {i v w : Nat} {c : Nat × Nat × Nat} (h : l[i]? = some c) : ckeys (l.set i (c.1, v, w)) = ckeys l := by
  unfold ckeys
  rw [List.map_set]
  apply List.ext_getElem?
  intro j
  rw [List.getElem?_set]
  by_cases q9 : i = j
  · subst q9
    have hil := (List.getElem?_eq_some_iff.mp h).1
    rw [if_pos rfl, if_pos (by rw [List.length_map]; exact hil), List.getElem?_map, h]
    rfl
  · rw [if_neg q9]
theorem kJ_cases0 {l : Ctr} {x : Nat} {r : Int32} (h : r = kJ 0 (lix (ckeys l) x)) : (kix l x = none ∧ r = -1) ∨ ∃ i c, kix l x = some i ∧ r = nI i ∧ l[i]? = some c ∧ c.1 = x ∧ i < l.length := by
  rcases kJ_cases h with q | ⟨i, c, q1, q2, q3⟩
  · exact Or.inl q
  · rw [Nat.zero_add] at q2; exact Or.inr ⟨i, c, q1, q2, q3⟩

set_option maxHeartbeats 4000000 in
set_option maxRecDepth 100000 in
theorem c_Mo_pools (la : Launch) (E : Ev) (z : Option Nat) {G : Gh} {P W R lim rq : Nat} {A B : Nat → Nat} {l : Ctr} {x n e9e : Nat} (hx : x < 65536) (hl6 : l.length < 600) (hm : isMo E G P W R lim rq l.length A B) (hpl : isPl E G l) : K_X12_pools la E z G [.ref (ga E 104), .int (nI x), .long (lN n), .long (lN e9e)] (fun _ G2 => isMo E G2 P W R lim rq (pPut l x n e9e).length A B ∧ isPl E G2 (pPut l x n e9e) ∧ ∀ j, j ≠ 104 ∧ (j < 124 ∨ 127 ≤ j) → G2 j = G j) := by
  refine Fc.of rfl [some (.ref (ga E 104)), some (.int (nI x)), some (.long (lN n)), none, some (.long (lN e9e)), none, none] 1 rfl (Nat.le_of_ble_eq_true rfl) ?_
  intro M hM0 hini C
  subst hM0
  obtain ⟨fa, fb, ho, k5, k6, hfa, hfb, hrg, hlim, hab⟩ := id hm
  obtain ⟨fk, fn, fe, pa, pb, pc9, hrep, hll, hlk, hnd⟩ := id hpl
  refine v_aload_n C dX12_pools_0 rfl ?_
  refine v_iload_n C dX12_pools_1 rfl ?_
  refine mc_X12_159 C dX12_pools_2 (by assumption) (c_Mo_pooledAt _ E z (by omega) hm hpl) rfl (fun r2 G2 hp2 => ?_)
  obtain ⟨hr2, rfl⟩ := hp2
  rcases kJ_cases0 hr2 with ⟨hk, rfl⟩ | ⟨i, c, hk, rfl, hci, hcx, hil⟩
  · skip
    refine v_istore_6 C dX12_pools_5 (by decide) (by first | rfl | assumption) ?_
    refine v_iload C dX12_pools_7 rfl ?_
    refine v_if_ge C 52 dX12_pools_9 (by decide) (fun h9 => by exfalso; first | omega | exact absurd h9 (by decide) | (have h9 := of_decide_eq_true h9; omega) | (have h9 := of_decide_eq_false h9; omega) | contradiction | simp_all) (fun h9 => ?_)
    refine v_aload_n C dX12_pools_12 rfl ?_
    refine gf_X12_156 C dX12_pools_13 (by assumption) ?_
    refine v_istore_6 C dX12_pools_16 (by decide) (by first | rfl | assumption) ?_
    refine v_aload_n C dX12_pools_18 rfl ?_
    refine gf_X12_69 C dX12_pools_19 (by assumption) ?_
    refine v_iload C dX12_pools_22 rfl ?_
    refine v_iload_n C dX12_pools_24 rfl ?_
    refine v_iast C dX12_pools_25 (by assumption) (by omega) (by omega) (fun G hG25 hF25 => ?_)
    first | replace ho := (hF25 _ (by omega)).trans ho | replace ho := hG25 | skip
    first | replace k5 := (hF25 _ (by omega)).trans k5 | replace k5 := hG25 | skip
    first | replace k6 := (hF25 _ (by omega)).trans k6 | replace k6 := hG25 | skip
    first | replace pa := (hF25 _ (by omega)).trans pa | replace pa := hG25 | skip
    first | replace pb := (hF25 _ (by omega)).trans pb | replace pb := hG25 | skip
    first | replace pc9 := (hF25 _ (by omega)).trans pc9 | replace pc9 := hG25 | skip
    refine v_aload_n C dX12_pools_26 rfl ?_
    refine gf_X12_72 C dX12_pools_27 (by assumption) ?_
    refine v_iload C dX12_pools_30 rfl ?_
    refine v_lconst (v := lN 0) C dX12_pools_32 (by decide) ?_
    refine v_last C dX12_pools_33 (by assumption) (by omega) (by omega) (fun G hG33 hF33 => ?_)
    first | replace ho := (hF33 _ (by omega)).trans ho | replace ho := hG33 | skip
    first | replace k5 := (hF33 _ (by omega)).trans k5 | replace k5 := hG33 | skip
    first | replace k6 := (hF33 _ (by omega)).trans k6 | replace k6 := hG33 | skip
    first | replace pa := (hF33 _ (by omega)).trans pa | replace pa := hG33 | skip
    first | replace pb := (hF33 _ (by omega)).trans pb | replace pb := hG33 | skip
    first | replace pc9 := (hF33 _ (by omega)).trans pc9 | replace pc9 := hG33 | skip
    refine v_aload_n C dX12_pools_34 rfl ?_
    refine gf_X12_75 C dX12_pools_35 (by assumption) ?_
    refine v_iload C dX12_pools_38 rfl ?_
    refine v_lconst (v := lN 0) C dX12_pools_40 (by decide) ?_
    refine v_last C dX12_pools_41 (by assumption) (by omega) (by omega) (fun G hG41 hF41 => ?_)
    first | replace ho := (hF41 _ (by omega)).trans ho | replace ho := hG41 | skip
    first | replace k5 := (hF41 _ (by omega)).trans k5 | replace k5 := hG41 | skip
    first | replace k6 := (hF41 _ (by omega)).trans k6 | replace k6 := hG41 | skip
    first | replace pa := (hF41 _ (by omega)).trans pa | replace pa := hG41 | skip
    first | replace pb := (hF41 _ (by omega)).trans pb | replace pb := hG41 | skip
    first | replace pc9 := (hF41 _ (by omega)).trans pc9 | replace pc9 := hG41 | skip
    refine v_aload_n C dX12_pools_42 rfl ?_
    refine v_dup C dX12_pools_43 rfl ?_
    refine gf_X12_156 C dX12_pools_44 (by assumption) ?_
    refine v_iconst (v := nI 1) C dX12_pools_47 (by decide) ?_
    first | refine v_iaddn C dX12_pools_48 ?_ | refine v_iadd C dX12_pools_48 ?_
    refine pf_X12_156 C dX12_pools_49 (by assumption) (fun G hG49 hF49 => ?_)
    first | replace ho := (hF49 _ (by omega)).trans ho | replace ho := hG49 | skip
    first | replace k5 := (hF49 _ (by omega)).trans k5 | replace k5 := hG49 | skip
    first | replace k6 := (hF49 _ (by omega)).trans k6 | replace k6 := hG49 | skip
    first | replace pa := (hF49 _ (by omega)).trans pa | replace pa := hG49 | skip
    first | replace pb := (hF49 _ (by omega)).trans pb | replace pb := hG49 | skip
    first | replace pc9 := (hF49 _ (by omega)).trans pc9 | replace pc9 := hG49 | skip
    have hz1 : fu fn l.length (lN 0) l.length = lN 0 := fu_self _ _ _
    have hz2 : fu fe l.length (lN 0) l.length = lN 0 := fu_self _ _ _
    refine v_aload_n C dX12_pools_52 rfl ?_
    refine gf_X12_72 C dX12_pools_53 (by assumption) ?_
    refine v_iload C dX12_pools_56 rfl ?_
    refine v_dup2 C dX12_pools_58 rfl rfl ?_
    refine v_lald C dX12_pools_59 (by assumption) (by omega) (by omega) hz1 ?_
    refine v_lload_n C dX12_pools_60 rfl ?_
    first | refine v_laddn C dX12_pools_61 ?_ | refine v_ladd C dX12_pools_61 ?_
    refine v_last C dX12_pools_62 (by assumption) (by omega) (by omega) (fun G hG62 hF62 => ?_)
    first | replace ho := (hF62 _ (by omega)).trans ho | replace ho := hG62 | skip
    first | replace k5 := (hF62 _ (by omega)).trans k5 | replace k5 := hG62 | skip
    first | replace k6 := (hF62 _ (by omega)).trans k6 | replace k6 := hG62 | skip
    first | replace pa := (hF62 _ (by omega)).trans pa | replace pa := hG62 | skip
    first | replace pb := (hF62 _ (by omega)).trans pb | replace pb := hG62 | skip
    first | replace pc9 := (hF62 _ (by omega)).trans pc9 | replace pc9 := hG62 | skip
    refine v_aload_n C dX12_pools_63 rfl ?_
    refine gf_X12_75 C dX12_pools_64 (by assumption) ?_
    refine v_iload C dX12_pools_67 rfl ?_
    refine v_dup2 C dX12_pools_69 rfl rfl ?_
    refine v_lald C dX12_pools_70 (by assumption) (by omega) (by omega) hz2 ?_
    refine v_lload C dX12_pools_71 rfl ?_
    first | refine v_laddn C dX12_pools_73 ?_ | refine v_ladd C dX12_pools_73 ?_
    refine v_last C dX12_pools_74 (by assumption) (by omega) (by omega) (fun G hG74 hF74 => ?_)
    first | replace ho := (hF74 _ (by omega)).trans ho | replace ho := hG74 | skip
    first | replace k5 := (hF74 _ (by omega)).trans k5 | replace k5 := hG74 | skip
    first | replace k6 := (hF74 _ (by omega)).trans k6 | replace k6 := hG74 | skip
    first | replace pa := (hF74 _ (by omega)).trans pa | replace pa := hG74 | skip
    first | replace pb := (hF74 _ (by omega)).trans pb | replace pb := hG74 | skip
    first | replace pc9 := (hF74 _ (by omega)).trans pc9 | replace pc9 := hG74 | skip
    refine v_vret C dX12_pools_75 ?_
    have e9 : pPut l x n e9e = l ++ [(x, n, e9e)] := by unfold pPut; rw [hk]
    rw [e9]
    refine ⟨hm.upo (by rw [List.length_append, List.length_singleton]; exact ho) (by rw [hF74 _ (by omega), hF62 _ (by omega), hF49 _ (by omega), hF41 _ (by omega), hF33 _ (by omega), hF25 _ (by omega)]) (by rw [hF74 _ (by omega), hF62 _ (by omega), hF49 _ (by omega), hF41 _ (by omega), hF33 _ (by omega), hF25 _ (by omega)]), ⟨_, _, _, pa, pb, pc9, fun j d hj => ?_, by rw [List.length_append, List.length_singleton]; omega, fun d hd9 => ?_, ?_⟩, fun j hj => by rw [hF74 j (by omega), hF62 j (by omega), hF49 j (by omega), hF41 j (by omega), hF33 j (by omega), hF25 j (by omega)]⟩
    · by_cases q8 : j = l.length
      · subst q8
        rw [List.getElem?_append_right (Nat.le_refl _), Nat.sub_self] at hj
        cases hj
        rw [Nat.zero_add, Nat.zero_add]
        exact ⟨fu_self _ _ _, fu_self _ _ _, fu_self _ _ _⟩
      · have hjl := (List.getElem?_eq_some_iff.mp hj).1
        rw [List.length_append, List.length_singleton] at hjl
        rw [List.getElem?_append_left (by omega)] at hj
        rw [fu_ne _ _ q8, fu_ne _ _ q8, fu_ne _ _ q8, fu_ne _ _ q8, fu_ne _ _ q8]
        exact hrep j d hj
    · rcases List.mem_append.mp hd9 with q7 | q7
      · exact hlk d q7
      · rw [List.mem_singleton.mp q7]; exact hx
    · rw [ckeys_app]
      refine nodup_app hnd (fun hm9 => ?_)
      obtain ⟨d2, h1, h2⟩ := List.mem_map.mp hm9
      exact kix_none hk d2 h1 h2
  · skip
    refine v_istore_6 C dX12_pools_5 (by decide) (by first | rfl | assumption) ?_
    refine v_iload C dX12_pools_7 rfl ?_
    first | refine v_ifn_ge C 52 dX12_pools_9 (by decide) (by omega) (fun h9 => ?_) (fun h9 => by exfalso; first | omega | exact absurd h9 (by decide) | (have h9 := of_decide_eq_true h9; omega) | (have h9 := of_decide_eq_false h9; omega) | contradiction | simp_all) | refine v_if_ge C 52 dX12_pools_9 (by decide) (fun h9 => ?_) (fun h9 => by exfalso; first | omega | exact absurd h9 (by decide) | (have h9 := of_decide_eq_true h9; omega) | (have h9 := of_decide_eq_false h9; omega) | contradiction | simp_all)
    refine v_aload_n C dX12_pools_52 rfl ?_
    refine gf_X12_72 C dX12_pools_53 (by assumption) ?_
    refine v_iload C dX12_pools_56 rfl ?_
    refine v_dup2 C dX12_pools_58 rfl rfl ?_
    refine v_lald C dX12_pools_59 (by assumption) (by omega) (by omega) (hrep i c hci).2.1 ?_
    refine v_lload_n C dX12_pools_60 rfl ?_
    first | refine v_laddn C dX12_pools_61 ?_ | refine v_ladd C dX12_pools_61 ?_
    refine v_last C dX12_pools_62 (by assumption) (by omega) (by omega) (fun G hG62 hF62 => ?_)
    first | replace ho := (hF62 _ (by omega)).trans ho | replace ho := hG62 | skip
    first | replace k5 := (hF62 _ (by omega)).trans k5 | replace k5 := hG62 | skip
    first | replace k6 := (hF62 _ (by omega)).trans k6 | replace k6 := hG62 | skip
    first | replace pa := (hF62 _ (by omega)).trans pa | replace pa := hG62 | skip
    first | replace pb := (hF62 _ (by omega)).trans pb | replace pb := hG62 | skip
    first | replace pc9 := (hF62 _ (by omega)).trans pc9 | replace pc9 := hG62 | skip
    refine v_aload_n C dX12_pools_63 rfl ?_
    refine gf_X12_75 C dX12_pools_64 (by assumption) ?_
    refine v_iload C dX12_pools_67 rfl ?_
    refine v_dup2 C dX12_pools_69 rfl rfl ?_
    refine v_lald C dX12_pools_70 (by assumption) (by omega) (by omega) (hrep i c hci).2.2 ?_
    refine v_lload C dX12_pools_71 rfl ?_
    first | refine v_laddn C dX12_pools_73 ?_ | refine v_ladd C dX12_pools_73 ?_
    refine v_last C dX12_pools_74 (by assumption) (by omega) (by omega) (fun G hG74 hF74 => ?_)
    first | replace ho := (hF74 _ (by omega)).trans ho | replace ho := hG74 | skip
    first | replace k5 := (hF74 _ (by omega)).trans k5 | replace k5 := hG74 | skip
    first | replace k6 := (hF74 _ (by omega)).trans k6 | replace k6 := hG74 | skip
    first | replace pa := (hF74 _ (by omega)).trans pa | replace pa := hG74 | skip
    first | replace pb := (hF74 _ (by omega)).trans pb | replace pb := hG74 | skip
    first | replace pc9 := (hF74 _ (by omega)).trans pc9 | replace pc9 := hG74 | skip
    refine v_vret C dX12_pools_75 ?_
    have e9 : pPut l x n e9e = l.set i (c.1, c.2.1 + n, c.2.2 + e9e) := by unfold pPut; rw [hk]; simp only []; rw [hci]
    rw [e9]
    refine ⟨hm.upo (by rw [List.length_set]; exact ho) (by rw [hF74 _ (by omega), hF62 _ (by omega)]) (by rw [hF74 _ (by omega), hF62 _ (by omega)]), ⟨fk, _, _, pa, pb, pc9, fun j d hj => ?_, by rw [List.length_set]; exact hll, fun d hd9 => ?_, ?_⟩, fun j hj => by rw [hF74 j (by omega), hF62 j (by omega)]⟩
    · by_cases q8 : j = i
      · subst q8
        rw [List.getElem?_set_self hil] at hj
        cases hj
        exact ⟨(hrep j c hci).1, fu_self _ _ _, fu_self _ _ _⟩
      · rw [List.getElem?_set_ne (Ne.symm q8)] at hj
        rw [fu_ne _ _ q8, fu_ne _ _ q8]
        exact hrep j d hj
    · rcases List.mem_or_eq_of_mem_set hd9 with q7 | q7
      · exact hlk d q7
      · rw [q7]; exact hlk c (List.mem_of_getElem? hci)
    · rw [ckeys_set hci]; exact hnd

