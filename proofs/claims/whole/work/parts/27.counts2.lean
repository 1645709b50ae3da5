def cUp (l : Cnt) (x t : Nat) : Cnt := match l[cPl l x]? with
  | none => l
  | some c => l.set (cPl l x) (c.1, c.2 + t)
def cTake (room : Nat) (s : Cnt × Bool) (x t : Nat) : Cnt × Bool := if s.2 = true then s else if cAt s.1 x = true then (cUp s.1 x t, false) else if room ≤ s.1.length then (s.1, true) else (s.1.insertIdx (cPl s.1 x) (x, t), false)
theorem cAt_true {l : Cnt} {x : Nat} (h : cAt l x = true) : ∃ c, l[cPl l x]? = some c ∧ c.1 = x := by
  unfold cAt at h
  cases hc9 : l[cPl l x]? with
  | none => rw [hc9] at h; cases h
  | some c => rw [hc9] at h; exact ⟨c, rfl, by simpa using h⟩
theorem cAt_false {l : Cnt} (hs : csrt l) {x : Nat} (h : cAt l x = false) : ∀ c ∈ l, c.1 ≠ x := by
  intro c hc he
  obtain ⟨i, hi⟩ := List.getElem?_of_mem hc
  have h1 := cPl_iff hs (x := x) hi
  have hil := (List.getElem?_eq_some_iff.mp hi).1
  have hlt : cPl l x < l.length := by omega
  have hT : l[cPl l x]? = some l[cPl l x] := List.getElem?_eq_getElem hlt
  have h2 := cPl_iff hs (x := x) hT
  have h3 : ¬ (l[cPl l x]).1 < x := by omega
  rcases Nat.lt_or_ge (cPl l x) i with q | q
  · have := hs _ _ _ _ q hT hi
    omega
  · have e9 : cPl l x = i := by omega
    unfold cAt at h
    rw [e9, hi] at h
    simp [he] at h
theorem rep2_up {l : Cnt} {fk : Nat → Int32} {fn : Nat → Int64} (h : rep2 l fk fn) {i v : Nat} {c : Nat × Nat} (hc : l[i]? = some c) : rep2 (l.set i (c.1, v)) fk (fu fn i (lN v)) := by
  intro j d hj
  by_cases e9 : j = i
  · subst e9
    rw [List.getElem?_set_self (List.getElem?_eq_some_iff.mp hc).1] at hj
    cases hj
    exact ⟨(h j c hc).1, fu_self _ _ _⟩
  · rw [List.getElem?_set_ne (Ne.symm e9)] at hj
    rw [fu_ne _ _ e9]
    exact h j d hj
theorem set_get2 {l : Cnt} {i v : Nat} {c : Nat × Nat} (hc : l[i]? = some c) {j : Nat} {d : Nat × Nat} (hj : (l.set i (c.1, v))[j]? = some d) : ∃ d0, l[j]? = some d0 ∧ d0.1 = d.1 := by
  by_cases e9 : j = i
  · subst e9
    rw [List.getElem?_set_self (List.getElem?_eq_some_iff.mp hc).1] at hj
    cases hj
    exact ⟨c, hc, rfl⟩
  · rw [List.getElem?_set_ne (Ne.symm e9)] at hj
    exact ⟨d, hj, rfl⟩
theorem cnwf_up {l : Cnt} {P room i v : Nat} {c : Nat × Nat} (h : cnwf l P room) (hc : l[i]? = some c) : cnwf (l.set i (c.1, v)) P room := by
  obtain ⟨h1, h2, h3⟩ := h
  refine ⟨⟨by rw [List.length_set]; exact h1.1, h1.2⟩, fun d hd => ?_, fun a b' c' d hab ha hd => ?_⟩
  · obtain ⟨j, hj⟩ := List.getElem?_of_mem hd
    obtain ⟨d0, q1, q2⟩ := set_get2 hc hj
    rw [← q2]; exact h2 d0 (List.mem_of_getElem? q1)
  · obtain ⟨a0, q1, q2⟩ := set_get2 hc ha
    obtain ⟨d0, q3, q4⟩ := set_get2 hc hd
    rw [← q2, ← q4]
    exact h3 a b' a0 d0 hab q1 q3
theorem rep2_ins {l : Cnt} {fk : Nat → Int32} {fn : Nat → Int64} (h : rep2 l fk fn) {i x y : Nat} (hi : i ≤ l.length) : rep2 (l.insertIdx i (x, y)) (fu (va_cpy fk fk i (i + 1) (l.length - i)) i (nI x)) (fu (va_cpy fn fn i (i + 1) (l.length - i)) i (lN y)) := by
  intro j c hj
  rw [List.getElem?_insertIdx] at hj
  by_cases h1 : j < i
  · rw [if_pos h1] at hj
    rw [fu_ne _ _ (by omega), fu_ne _ _ (by omega)]
    unfold va_cpy
    rw [if_neg (by omega), if_neg (by omega)]
    exact h j c hj
  · rw [if_neg h1] at hj
    by_cases h2 : j = i
    · subst h2
      rw [if_pos rfl, if_pos hi] at hj
      cases hj
      rw [fu_self, fu_self]
      exact ⟨rfl, rfl⟩
    · rw [if_neg h2] at hj
      have hl := (List.getElem?_eq_some_iff.mp hj).1
      rw [fu_ne _ _ h2, fu_ne _ _ h2]
      unfold va_cpy
      rw [if_pos (by omega), if_pos (by omega), show i + (j - (i + 1)) = j - 1 by omega]
      exact h _ c hj
theorem cnwf_ins {l : Cnt} {P room x t : Nat} (h : cnwf l P room) (hl : l.length < room) (hx : x < P) (hn : cAt l x = false) : cnwf (l.insertIdx (cPl l x) (x, t)) P room := by
  obtain ⟨h1, h2, h3⟩ := h
  have hle := cPl_le l x
  refine ⟨⟨by rw [List.length_insertIdx_of_le_length hle]; omega, h1.2⟩, fun d hd => ?_, fun a b' c' d hab ha hd => ?_⟩
  · rcases (List.mem_insertIdx hle).mp hd with q | q
    · rw [q]; exact hx
    · exact h2 d q
  · have hne := cAt_false h3 hn
    rw [List.getElem?_insertIdx] at ha hd
    by_cases a1 : a < cPl l x
    · rw [if_pos a1] at ha
      have ha2 := (cPl_iff h3 (x := x) ha).mpr a1
      by_cases b1 : b' < cPl l x
      · rw [if_pos b1] at hd; exact h3 a b' _ _ hab ha hd
      · rw [if_neg b1] at hd
        by_cases b2 : b' = cPl l x
        · rw [if_pos b2, if_pos (by omega)] at hd; cases hd; exact ha2
        · rw [if_neg b2] at hd; exact h3 a (b' - 1) _ _ (by omega) ha hd
    · rw [if_neg a1] at ha
      rw [if_neg (by omega), if_neg (by omega)] at hd
      have hd2 : ¬ d.1 < x := fun z => by have := (cPl_iff h3 (x := x) hd).mp z; omega
      by_cases a2 : a = cPl l x
      · rw [if_pos a2, if_pos (by omega)] at ha
        cases ha
        have := hne d (List.mem_of_getElem? hd)
        show x < d.1
        omega
      · rw [if_neg a2] at ha; exact h3 (a - 1) (b' - 1) _ _ (by omega) ha hd

set_option maxHeartbeats 4000000 in
set_option maxRecDepth 100000 in
theorem c_Cnt_take (l : Launch) (E : Ev) {G : Gh} {b P room : Nat} {l0 : Cnt} {g : Bool} {x t : Nat} (hx : x < P) (hc : isCnt E G b P room l0 g) : K_X2_take l E none G [.ref (ga E b), .int (nI x), .long (lN t)] (fun _ G2 => isCnt E G2 b P room (cTake room (l0, g) x t).1 (cTake room (l0, g) x t).2 ∧ ∀ j, (j < b ∨ b + 3 ≤ j) → G2 j = G j) := by
  refine Fc.of rfl [some (.ref (ga E b)), some (.int (nI x)), some (.long (lN t)), none, none] 1 rfl (Nat.le_of_ble_eq_true rfl) ?_
  intro M hM0 hini C
  subst hM0
  obtain ⟨fk, fn, hb0, hb1, hb2, hrep, hwf, hkp, hsr⟩ := id hc
  refine v_aload_n C dX2_take_0 rfl ?_
  refine gf_X2_37 C dX2_take_1 (by assumption) ?_
  first | refine v_ifb_eq C 8 dX2_take_4 (by decide) (fun h4 => ?_) (fun h4 => ?_) | refine v_ifn_eq C 8 dX2_take_4 (by decide) (by omega) (fun h4 => ?_) (fun h4 => ?_) | refine v_if_eq C 8 dX2_take_4 (by decide) (fun h4 => ?_) (fun h4 => ?_)
  · skip
    refine v_aload_n C dX2_take_8 rfl ?_
    refine v_iload_n C dX2_take_9 rfl ?_
    refine mc_X2_25 C dX2_take_10 (by assumption) (c_Cnt_placeOf _ E none (by omega) hc) rfl (fun r10 G10 hp10 => ?_)
    obtain ⟨rfl, rfl⟩ := hp10
    have hle := cPl_le l0 x
    refine v_istore_4 C dX2_take_13 (by decide) (by first | rfl | assumption) ?_
    refine v_aload_n C dX2_take_15 rfl ?_
    refine v_iload C dX2_take_16 rfl ?_
    refine v_iload_n C dX2_take_18 rfl ?_
    refine mc_X2_29 C dX2_take_19 (by assumption) (c_Cnt_isAt _ E none (by omega) hc) rfl (fun r19 G19 hp19 => ?_)
    obtain ⟨rfl, rfl⟩ := hp19
    first | refine v_ifb_eq C 39 dX2_take_22 (by decide) (fun h22 => ?_) (fun h22 => ?_) | refine v_ifn_eq C 39 dX2_take_22 (by decide) (by omega) (fun h22 => ?_) (fun h22 => ?_) | refine v_if_eq C 39 dX2_take_22 (by decide) (fun h22 => ?_) (fun h22 => ?_)
    · skip
      refine v_aload_n C dX2_take_39 rfl ?_
      refine gf_X2_33 C dX2_take_40 (by assumption) ?_
      refine v_aload_n C dX2_take_43 rfl ?_
      refine gf_X2_15 C dX2_take_44 (by assumption) ?_
      first | refine v_alen_cI C dX2_take_47 (by assumption) ?_ | refine v_alen_cJ C dX2_take_47 (by assumption) ?_
      refine v_icmpn_lt C 59 dX2_take_48 (by decide) (by omega) (by omega) (fun h48 => ?_) (fun h48 => ?_)
      · skip
        refine v_aload_n C dX2_take_59 rfl ?_
        refine gf_X2_15 C dX2_take_60 (by assumption) ?_
        refine v_iload C dX2_take_63 rfl ?_
        refine v_aload_n C dX2_take_65 rfl ?_
        refine gf_X2_15 C dX2_take_66 (by assumption) ?_
        refine v_iload C dX2_take_69 rfl ?_
        refine v_iconst (v := nI 1) C dX2_take_71 (by decide) ?_
        first | refine v_iaddn C dX2_take_72 ?_ | refine v_iadd C dX2_take_72 ?_
        refine v_aload_n C dX2_take_73 rfl ?_
        refine gf_X2_33 C dX2_take_74 (by assumption) ?_
        refine v_iload C dX2_take_77 rfl ?_
        first | refine v_isubn C dX2_take_79 (by omega) ?_ | refine v_isub C dX2_take_79 ?_
        refine v_cpyI C tw338 dX2_take_80 hb1 hb1 (by omega) (by omega) (by omega) (by omega) (Nat.le_of_ble_eq_true rfl) (Nat.le_of_ble_eq_true rfl) (fun G hG80 hF80 => ?_)
        first | replace hb0 := (hF80 _ (by omega)).trans hb0 | replace hb0 := hG80 | skip
        first | replace hb1 := (hF80 _ (by omega)).trans hb1 | replace hb1 := hG80 | skip
        first | replace hb2 := (hF80 _ (by omega)).trans hb2 | replace hb2 := hG80 | skip
        refine v_aload_n C dX2_take_83 rfl ?_
        refine gf_X2_21 C dX2_take_84 (by assumption) ?_
        refine v_iload C dX2_take_87 rfl ?_
        refine v_aload_n C dX2_take_89 rfl ?_
        refine gf_X2_21 C dX2_take_90 (by assumption) ?_
        refine v_iload C dX2_take_93 rfl ?_
        refine v_iconst (v := nI 1) C dX2_take_95 (by decide) ?_
        first | refine v_iaddn C dX2_take_96 ?_ | refine v_iadd C dX2_take_96 ?_
        refine v_aload_n C dX2_take_97 rfl ?_
        refine gf_X2_33 C dX2_take_98 (by assumption) ?_
        refine v_iload C dX2_take_101 rfl ?_
        first | refine v_isubn C dX2_take_103 (by omega) ?_ | refine v_isub C dX2_take_103 ?_
        refine v_cpyJ C tw338 dX2_take_104 hb2 hb2 (by omega) (by omega) (by omega) (by omega) (Nat.le_of_ble_eq_true rfl) (Nat.le_of_ble_eq_true rfl) (fun G hG104 hF104 => ?_)
        first | replace hb0 := (hF104 _ (by omega)).trans hb0 | replace hb0 := hG104 | skip
        first | replace hb1 := (hF104 _ (by omega)).trans hb1 | replace hb1 := hG104 | skip
        first | replace hb2 := (hF104 _ (by omega)).trans hb2 | replace hb2 := hG104 | skip
        refine v_aload_n C dX2_take_107 rfl ?_
        refine gf_X2_15 C dX2_take_108 (by assumption) ?_
        refine v_iload C dX2_take_111 rfl ?_
        refine v_iload_n C dX2_take_113 rfl ?_
        refine v_iast C dX2_take_114 (by assumption) (by omega) (by omega) (fun G hG114 hF114 => ?_)
        first | replace hb0 := (hF114 _ (by omega)).trans hb0 | replace hb0 := hG114 | skip
        first | replace hb1 := (hF114 _ (by omega)).trans hb1 | replace hb1 := hG114 | skip
        first | replace hb2 := (hF114 _ (by omega)).trans hb2 | replace hb2 := hG114 | skip
        refine v_aload_n C dX2_take_115 rfl ?_
        refine gf_X2_21 C dX2_take_116 (by assumption) ?_
        refine v_iload C dX2_take_119 rfl ?_
        refine v_lload_n C dX2_take_121 rfl ?_
        refine v_last C dX2_take_122 (by assumption) (by omega) (by omega) (fun G hG122 hF122 => ?_)
        first | replace hb0 := (hF122 _ (by omega)).trans hb0 | replace hb0 := hG122 | skip
        first | replace hb1 := (hF122 _ (by omega)).trans hb1 | replace hb1 := hG122 | skip
        first | replace hb2 := (hF122 _ (by omega)).trans hb2 | replace hb2 := hG122 | skip
        refine v_aload_n C dX2_take_123 rfl ?_
        refine v_dup C dX2_take_124 rfl ?_
        refine gf_X2_33 C dX2_take_125 (by assumption) ?_
        refine v_iconst (v := nI 1) C dX2_take_128 (by decide) ?_
        first | refine v_iaddn C dX2_take_129 ?_ | refine v_iadd C dX2_take_129 ?_
        refine pf_X2_33 C dX2_take_130 (by assumption) (fun G hG130 hF130 => ?_)
        first | replace hb0 := (hF130 _ (by omega)).trans hb0 | replace hb0 := hG130 | skip
        first | replace hb1 := (hF130 _ (by omega)).trans hb1 | replace hb1 := hG130 | skip
        first | replace hb2 := (hF130 _ (by omega)).trans hb2 | replace hb2 := hG130 | skip
        refine v_vret C dX2_take_133 ?_
        first
          | (have e9 : cTake room (l0, g) x t = (l0.set (cPl l0 x) (c.1, c.2 + t), false) := by
               unfold cTake cUp; simp only []; rw [h4, if_neg (by decide), if_pos h22, hci]
             rw [e9]
             refine ⟨⟨fk, _, by rw [List.length_set, ← h4]; exact hb0, hb1, hb2, rep2_up hrep hci, cnwf_up ⟨hwf, hkp, hsr⟩ hci⟩, fun j hj => hF35 j (by omega)⟩)
          | (have e9 : cTake room (l0, g) x t = (l0, true) := by
               unfold cTake; simp only []; rw [h4, if_neg (by decide), h22, if_neg (by decide), if_pos h48]
             rw [e9]
             exact ⟨⟨fk, fn, hb0, hb1, hb2, hrep, hwf, hkp, hsr⟩, fun j hj => hF53 j (by omega)⟩)
          | (have e9 : cTake room (l0, g) x t = (l0.insertIdx (cPl l0 x) (x, t), false) := by
               unfold cTake; simp only []; rw [h4, if_neg (by decide), h22, if_neg (by decide), if_neg (by omega)]
             rw [e9]
             refine ⟨⟨_, _, by rw [List.length_insertIdx_of_le_length hle, ← h4]; exact hb0, hb1, hb2, rep2_ins hrep hle, cnwf_ins ⟨hwf, hkp, hsr⟩ h48 hx h22⟩, fun j hj => ?_⟩
             rw [hF130 j (by omega), hF122 j (by omega), hF114 j (by omega), hF104 j (by omega), hF80 j (by omega)])
      · skip
        refine v_aload_n C dX2_take_51 rfl ?_
        refine v_iconst (v := bI true) C dX2_take_52 (by decide) ?_
        refine pf_X2_37 C dX2_take_53 (by first | exact Or.inl rfl | exact Or.inr rfl | assumption | exact bI_01 _) (by assumption) (fun G hG53 hF53 => ?_)
        first | replace hb0 := (hF53 _ (by omega)).trans hb0 | replace hb0 := hG53 | skip
        first | replace hb1 := (hF53 _ (by omega)).trans hb1 | replace hb1 := hG53 | skip
        first | replace hb2 := (hF53 _ (by omega)).trans hb2 | replace hb2 := hG53 | skip
        refine v_goto C 133 dX2_take_56 (by decide) ?_
        refine v_vret C dX2_take_133 ?_
        first
          | (have e9 : cTake room (l0, g) x t = (l0.set (cPl l0 x) (c.1, c.2 + t), false) := by
               unfold cTake cUp; simp only []; rw [h4, if_neg (by decide), if_pos h22, hci]
             rw [e9]
             refine ⟨⟨fk, _, by rw [List.length_set, ← h4]; exact hb0, hb1, hb2, rep2_up hrep hci, cnwf_up ⟨hwf, hkp, hsr⟩ hci⟩, fun j hj => hF35 j (by omega)⟩)
          | (have e9 : cTake room (l0, g) x t = (l0, true) := by
               unfold cTake; simp only []; rw [h4, if_neg (by decide), h22, if_neg (by decide), if_pos h48]
             rw [e9]
             exact ⟨⟨fk, fn, hb0, hb1, hb2, hrep, hwf, hkp, hsr⟩, fun j hj => hF53 j (by omega)⟩)
          | (have e9 : cTake room (l0, g) x t = (l0.insertIdx (cPl l0 x) (x, t), false) := by
               unfold cTake; simp only []; rw [h4, if_neg (by decide), h22, if_neg (by decide), if_neg (by omega)]
             rw [e9]
             refine ⟨⟨_, _, by rw [List.length_insertIdx_of_le_length hle, ← h4]; exact hb0, hb1, hb2, rep2_ins hrep hle, cnwf_ins ⟨hwf, hkp, hsr⟩ h48 hx h22⟩, fun j hj => ?_⟩
             rw [hF130 j (by omega), hF122 j (by omega), hF114 j (by omega), hF104 j (by omega), hF80 j (by omega)])
    · skip
      obtain ⟨c, hci, hcx⟩ := cAt_true h22
      have hil := (List.getElem?_eq_some_iff.mp hci).1
      refine v_aload_n C dX2_take_25 rfl ?_
      refine gf_X2_21 C dX2_take_26 (by assumption) ?_
      refine v_iload C dX2_take_29 rfl ?_
      refine v_dup2 C dX2_take_31 rfl rfl ?_
      refine v_lald C dX2_take_32 (by assumption) (by omega) (by omega) (hrep _ _ hci).2 ?_
      refine v_lload_n C dX2_take_33 rfl ?_
      first | refine v_laddn C dX2_take_34 ?_ | refine v_ladd C dX2_take_34 ?_
      refine v_last C dX2_take_35 (by assumption) (by omega) (by omega) (fun G hG35 hF35 => ?_)
      first | replace hb0 := (hF35 _ (by omega)).trans hb0 | replace hb0 := hG35 | skip
      first | replace hb1 := (hF35 _ (by omega)).trans hb1 | replace hb1 := hG35 | skip
      first | replace hb2 := (hF35 _ (by omega)).trans hb2 | replace hb2 := hG35 | skip
      refine v_goto C 133 dX2_take_36 (by decide) ?_
      refine v_vret C dX2_take_133 ?_
      first
        | (have e9 : cTake room (l0, g) x t = (l0.set (cPl l0 x) (c.1, c.2 + t), false) := by
             unfold cTake cUp; simp only []; rw [h4, if_neg (by decide), if_pos h22, hci]
           rw [e9]
           refine ⟨⟨fk, _, by rw [List.length_set, ← h4]; exact hb0, hb1, hb2, rep2_up hrep hci, cnwf_up ⟨hwf, hkp, hsr⟩ hci⟩, fun j hj => hF35 j (by omega)⟩)
        | (have e9 : cTake room (l0, g) x t = (l0, true) := by
             unfold cTake; simp only []; rw [h4, if_neg (by decide), h22, if_neg (by decide), if_pos h48]
           rw [e9]
           exact ⟨⟨fk, fn, hb0, hb1, hb2, hrep, hwf, hkp, hsr⟩, fun j hj => hF53 j (by omega)⟩)
        | (have e9 : cTake room (l0, g) x t = (l0.insertIdx (cPl l0 x) (x, t), false) := by
             unfold cTake; simp only []; rw [h4, if_neg (by decide), h22, if_neg (by decide), if_neg (by omega)]
           rw [e9]
           refine ⟨⟨_, _, by rw [List.length_insertIdx_of_le_length hle, ← h4]; exact hb0, hb1, hb2, rep2_ins hrep hle, cnwf_ins ⟨hwf, hkp, hsr⟩ h48 hx h22⟩, fun j hj => ?_⟩
           rw [hF130 j (by omega), hF122 j (by omega), hF114 j (by omega), hF104 j (by omega), hF80 j (by omega)])
  · skip
    refine v_vret C dX2_take_7 ?_
    have e9 : cTake room (l0, g) x t = (l0, g) := by unfold cTake; rw [if_pos h4]
    rw [e9]
    exact ⟨hc, fun _ _ => rfl⟩

def cSum (l : Cnt) : Nat := (l.map (fun c => c.2)).sum
theorem cSum_app (a b : Cnt) : cSum (a ++ b) = cSum a + cSum b := by unfold cSum; rw [List.map_append, List.sum_append]
set_option maxHeartbeats 4000000 in
set_option maxRecDepth 100000 in
theorem tog_loop {M : Mx} {E : Ev} {z : Option Nat} (C : Cx M E yX2_together.cls cX2_together 4 (some .long) 0 0 0 0) {post : Int64 → Gh → Prop} {G : Gh} {b P room : Nat} {l0 : Cnt} {g : Bool} (hc : isCnt E G b P room l0 g) (hend : ∀ {v : Int64}, v = lN (cSum l0) → post v G) : ∀ (t i : Nat), i ≤ l0.length → l0.length - i < t → V M E 4 (QE M E (fun r : Int64 => some (.long r)) z 0 0 post) z 0 0 G 4 [some (.ref (ga E b)), some (.long (lN (cSum (l0.take i)))), none, some (.int (nI i))] [] := by
  obtain ⟨fk, fn, hb0, hb1, hb2, hrep, hwf, hkp, hsr⟩ := id hc
  intro t
  induction t with
  | zero => intro i _ h; omega
  | succ t ih =>
    intro i hi ht
    refine v_iload_n C dX2_together_4 rfl ?_
    refine v_aload_n C dX2_together_5 rfl ?_
    refine gf_X2_33 C dX2_together_6 (by assumption) ?_
    refine v_icmpn_ge C 27 dX2_together_9 (by decide) (by omega) (by omega) (fun h9 => ?_) (fun h9 => ?_)
    · skip
      refine v_lload_n C dX2_together_27 rfl ?_
      refine v_lret C dX2_together_28 ?_
      refine hend ?_
      have e9 : i = l0.length := by omega
      rw [e9, List.take_length]
    · skip
      have hci : l0[i]? = some l0[i] := List.getElem?_eq_getElem h9
      refine v_lload_n C dX2_together_12 rfl ?_
      refine v_aload_n C dX2_together_13 rfl ?_
      refine gf_X2_21 C dX2_together_14 (by assumption) ?_
      refine v_iload_n C dX2_together_17 rfl ?_
      refine v_lald C dX2_together_18 (by assumption) (by omega) (by omega) (hrep i _ hci).2 ?_
      first | refine v_laddn C dX2_together_19 ?_ | refine v_ladd C dX2_together_19 ?_
      refine v_lstore_1 C dX2_together_20 (by decide) (by first | rfl | assumption) ?_
      first | refine v_iinc_3 C dX2_together_21 (nI_1 _) (by decide) (by first | rfl | assumption) ?_ | refine v_iinc_3 C dX2_together_21 rfl (by decide) (by first | rfl | assumption) ?_
      refine v_goto C 4 dX2_together_24 (by decide) ?_
      have e9 : cSum (l0.take (i + 1)) = cSum (l0.take i) + l0[i].2 := by
        rw [List.take_add_one, hci]
        show cSum (l0.take i ++ [l0[i]]) = _
        rw [cSum_app]
        simp [cSum]
      rw [← e9]
      exact ih (i + 1) (by omega) (by omega)
set_option maxHeartbeats 4000000 in
set_option maxRecDepth 100000 in
theorem c_Cnt_together (l : Launch) (E : Ev) (z : Option Nat) {G : Gh} {b P room : Nat} {l0 : Cnt} {g : Bool} (hc : isCnt E G b P room l0 g) : K_X2_together l E z G [.ref (ga E b)] (fun r G2 => r = lN (cSum l0) ∧ G = G2) := by
  refine Fc.of rfl [some (.ref (ga E b)), none, none, none] 3 rfl (Nat.le_of_ble_eq_true rfl) ?_
  intro M hM0 hini C
  subst hM0
  obtain ⟨fk, fn, hb0, hb1, hb2, hrep, hwf, hkp, hsr⟩ := id hc
  refine v_lconst (v := lN 0) C dX2_together_0 (by decide) ?_
  refine v_lstore_1 C dX2_together_1 (by decide) (by first | rfl | assumption) ?_
  refine v_iconst (v := nI 0) C dX2_together_2 (by decide) ?_
  refine v_istore_3 C dX2_together_3 (by decide) (by first | rfl | assumption) ?_
  exact tog_loop C hc (fun h => ⟨h, rfl⟩) (l0.length + 1) 0 (by omega) (by omega)

set_option maxHeartbeats 4000000 in
set_option maxRecDepth 100000 in
theorem c_Cnt_makeEmpty (l : Launch) (E : Ev) (z : Option Nat) {G : Gh} {b P room : Nat} {l0 : Cnt} {g : Bool} (hc : isCnt E G b P room l0 g) : K_X2_makeEmpty l E z G [.ref (ga E b)] (fun _ G2 => isCnt E G2 b P room [] false ∧ ∀ j, (j < b ∨ b + 3 ≤ j) → G2 j = G j) := by
  refine Fc.of rfl [some (.ref (ga E b))] 0 rfl (Nat.le_of_ble_eq_true rfl) ?_
  intro M hM0 hini C
  subst hM0
  obtain ⟨fk, fn, hb0, hb1, hb2, hrep, hwf, hkp, hsr⟩ := id hc
  refine v_aload_n C dX2_makeEmpty_0 rfl ?_
  refine v_iconst (v := nI 0) C dX2_makeEmpty_1 (by decide) ?_
  refine pf_X2_33 C dX2_makeEmpty_2 (by assumption) (fun G hG2 hF2 => ?_)
  first | replace hb0 := (hF2 _ (by omega)).trans hb0 | replace hb0 := hG2 | skip
  first | replace hb1 := (hF2 _ (by omega)).trans hb1 | replace hb1 := hG2 | skip
  first | replace hb2 := (hF2 _ (by omega)).trans hb2 | replace hb2 := hG2 | skip
  refine v_aload_n C dX2_makeEmpty_5 rfl ?_
  refine v_iconst (v := bI false) C dX2_makeEmpty_6 (by decide) ?_
  refine pf_X2_37 C dX2_makeEmpty_7 (by first | exact Or.inl rfl | exact Or.inr rfl | assumption | exact bI_01 _) (by assumption) (fun G hG7 hF7 => ?_)
  first | replace hb0 := (hF7 _ (by omega)).trans hb0 | replace hb0 := hG7 | skip
  first | replace hb1 := (hF7 _ (by omega)).trans hb1 | replace hb1 := hG7 | skip
  first | replace hb2 := (hF7 _ (by omega)).trans hb2 | replace hb2 := hG7 | skip
  refine v_vret C dX2_makeEmpty_10 ?_
  exact ⟨⟨fk, fn, hb0, hb1, hb2, fun i c h => by simp at h, ⟨by simp, hwf.2⟩, fun c h => by simp at h, fun i j c d _ h => by simp at h⟩, fun j hj => by rw [hF7 j (by omega), hF2 j (by omega)]⟩

