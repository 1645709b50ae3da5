/-! Ranking (class 7): keys, numbers, used -/
abbrev Rnk : Type := List (Nat × Int64)
def rr (fk : Nat → Int32) (fn : Nat → Int64) (j : Nat) (c : Nat × Int64) : Prop := fk j = nI c.1 ∧ fn j = c.2
def rep3 (l : Rnk) (fk : Nat → Int32) (fn : Nat → Int64) : Prop := ∀ (i : Nat) (c : Nat × Int64), l[i]? = some c → rr fk fn i c
def isRnk (E : Ev) (G : Gh) (b room : Nat) (l : Rnk) : Prop := ∃ (fk : Nat → Int32) (fn : Nat → Int64), G b = cO 7 [.ref (ga E (b + 1)), .ref (ga E (b + 2)), .int (nI l.length)] ∧ G (b + 1) = cI E room fk ∧ G (b + 2) = cJ E room fn ∧ rep3 l fk fn ∧ (l.length ≤ room ∧ 1 ≤ room ∧ room ≤ 300) ∧ ∀ c ∈ l, c.1 < 65521
theorem isRnk.keep {E : Ev} {G G2 : Gh} {b room : Nat} {l : Rnk} (h : isRnk E G b room l) (hf : ∀ j, b ≤ j → j < b + 3 → G2 j = G j) : isRnk E G2 b room l := by
  obtain ⟨fk, fn, h0, h1, h2, h3⟩ := h
  exact ⟨fk, fn, (hf _ (by omega) (by omega)).trans h0, (hf _ (by omega) (by omega)).trans h1, (hf _ (by omega) (by omega)).trans h2, h3⟩
def rPos (l : Rnk) (v : Int64) : Nat → Nat
  | 0 => 0
  | n + 1 => match l[n]? with
    | none => n + 1
    | some c => if c.2 < v then rPos l v n else n + 1
theorem rPos_le (l : Rnk) (v : Int64) : ∀ n, rPos l v n ≤ n
  | 0 => Nat.le_refl _
  | n + 1 => by
    unfold rPos
    cases l[n]? with
    | none => exact Nat.le_refl _
    | some c =>
      simp only []
      split
      · exact Nat.le_succ_of_le (rPos_le l v n)
      · exact Nat.le_refl _
theorem rPos_lt {l : Rnk} {v : Int64} {p : Nat} {c : Nat × Int64} (hp : 0 < p) (hc : l[p - 1]? = some c) (h : c.2 < v) : rPos l v p = rPos l v (p - 1) := by
  obtain ⟨q, rfl⟩ : ∃ q, p = q + 1 := ⟨p - 1, by omega⟩
  rw [Nat.add_sub_cancel] at hc ⊢
  rw [rPos, hc]
  simp only []
  rw [if_pos h]
theorem rPos_stop {l : Rnk} {v : Int64} {p : Nat} {c : Nat × Int64} (hp : 0 < p) (hc : l[p - 1]? = some c) (h : ¬ c.2 < v) : rPos l v p = p := by
  obtain ⟨q, rfl⟩ : ∃ q, p = q + 1 := ⟨p - 1, by omega⟩
  rw [Nat.add_sub_cancel] at hc
  rw [rPos, hc]
  simp only []
  rw [if_neg h]
def rIns (l : Rnk) (c : Nat × Int64) : Rnk := l.insertIdx (rPos l c.2 l.length) c
def rOffer (room : Nat) (l : Rnk) (c : Nat × Int64) : Rnk := if room ≤ l.length then (match l[l.length - 1]? with | none => l | some d => if d.2 < c.2 then rIns l.dropLast c else l) else rIns l c
def rMid (l : Rnk) (p : Nat) (fk : Nat → Int32) (fn : Nat → Int64) : Prop := (∀ j c, j < p → l[j]? = some c → rr fk fn j c) ∧ ∀ j c, p ≤ j → l[j]? = some c → rr fk fn (j + 1) c
theorem rMid_step {l : Rnk} {p : Nat} {fk : Nat → Int32} {fn : Nat → Int64} (h : rMid l p fk fn) (hp : 0 < p) : rMid l (p - 1) (fu fk p (fk (p - 1))) (fu fn p (fn (p - 1))) := by
  obtain ⟨h1, h2⟩ := h
  refine ⟨fun j c hj hc => ?_, fun j c hj hc => ?_⟩
  · unfold rr; rw [fu_ne _ _ (by omega), fu_ne _ _ (by omega)]; exact h1 j c (by omega) hc
  · by_cases e9 : j = p - 1
    · subst e9
      unfold rr
      rw [show p - 1 + 1 = p by omega, fu_self, fu_self]
      exact h1 (p - 1) c (by omega) hc
    · unfold rr; rw [fu_ne _ _ (by omega), fu_ne _ _ (by omega)]; exact h2 j c (by omega) hc
theorem rMid_end {l : Rnk} {p : Nat} {fk : Nat → Int32} {fn : Nat → Int64} {c0 : Nat × Int64} (h : rMid l p fk fn) (hp : p ≤ l.length) : rep3 (l.insertIdx p c0) (fu fk p (nI c0.1)) (fu fn p c0.2) := by
  obtain ⟨h1, h2⟩ := h
  intro j c hj
  rw [List.getElem?_insertIdx] at hj
  by_cases q1 : j < p
  · rw [if_pos q1] at hj
    unfold rr; rw [fu_ne _ _ (by omega), fu_ne _ _ (by omega)]; exact h1 j c q1 hj
  · rw [if_neg q1] at hj
    by_cases q2 : j = p
    · subst q2
      rw [if_pos rfl, if_pos hp] at hj
      cases hj
      unfold rr; rw [fu_self, fu_self]; exact ⟨rfl, rfl⟩
    · rw [if_neg q2] at hj
      unfold rr; rw [fu_ne _ _ q2, fu_ne _ _ q2]
      have := h2 (j - 1) c (by omega) hj
      rw [show j - 1 + 1 = j by omega] at this
      exact this

set_option maxHeartbeats 4000000 in
set_option maxRecDepth 100000 in
theorem c_Rnk_start (l : Launch) (E : Ev) (z : Option Nat) {G : Gh} {b room : Nat} {l0 : Rnk} (hc : isRnk E G b room l0) : K_X7_start l E z G [.ref (ga E b)] (fun _ G2 => isRnk E G2 b room [] ∧ ∀ j, (j < b ∨ b + 3 ≤ j) → G2 j = G j) := by
  refine Fc.of rfl [some (.ref (ga E b))] 0 rfl (Nat.le_of_ble_eq_true rfl) ?_
  intro M hM0 hini C
  subst hM0
  obtain ⟨fk, fn, hb0, hb1, hb2, hrep, hwf, hkp⟩ := id hc
  refine v_aload_n C dX7_start_0 rfl ?_
  refine v_iconst (v := nI 0) C dX7_start_1 (by decide) ?_
  refine pf_X7_19 C dX7_start_2 (by assumption) (fun G hG2 hF2 => ?_)
  first | replace hb0 := (hF2 _ (by omega)).trans hb0 | replace hb0 := hG2 | skip
  first | replace hb1 := (hF2 _ (by omega)).trans hb1 | replace hb1 := hG2 | skip
  first | replace hb2 := (hF2 _ (by omega)).trans hb2 | replace hb2 := hG2 | skip
  refine v_vret C dX7_start_5 ?_
  exact ⟨⟨fk, fn, hb0, hb1, hb2, fun i c h => by simp at h, ⟨by simp, hwf.2⟩, fun c h => by simp at h⟩, fun j hj => hF2 j (by omega)⟩

def rTell (l : Rnk) (i what : Int32) : Int64 := if iin i l.length && iin what 2 then (match l[i.toInt.toNat]? with | none => -1 | some c => if what = nI 0 then lN c.1 else c.2) else -1
theorem rTell_out {l : Rnk} {i what : Int32} (h : iin i l.length = false) : rTell l i what = -1 := by unfold rTell; rw [h]; rfl
theorem rTell_what {l : Rnk} {i what : Int32} (h : what ≠ nI 0 ∧ what ≠ nI 1) : rTell l i what = -1 := by
  unfold rTell
  by_cases q9 : iin what 2 = true
  · obtain ⟨k, h1, h2⟩ := iin_of q9 (by decide)
    rcases (show k = 0 ∨ k = 1 by omega) with rfl | rfl
    · exact absurd h2 h.1
    · exact absurd h2 h.2
  · rw [Bool.eq_false_iff.mpr q9, Bool.and_false]; rfl
theorem rTell_in {l : Rnk} {i k : Nat} {c : Nat × Int64} (h : l[i]? = some c) (hi : i < 2 ^ 31) (hk : k < 2) : rTell l (nI i) (nI k) = if nI k = nI 0 then lN c.1 else c.2 := by
  have hl := (List.getElem?_eq_some_iff.mp h).1
  unfold rTell
  rw [iin_nI hi, iin_nI (by omega), decide_eq_true hl, decide_eq_true hk, nI_toInt hi, Int.toNat_natCast, h]
  rfl

set_option maxHeartbeats 4000000 in
set_option maxRecDepth 100000 in
theorem c_Rnk_tell (l : Launch) (E : Ev) (z : Option Nat) {G : Gh} {b room : Nat} {l0 : Rnk} {i what : Int32} (hc : isRnk E G b room l0) : K_X7_tell l E z G [.ref (ga E b), .int i, .int what] (fun r G2 => r = rTell l0 i what ∧ G = G2) := by
  refine Fc.of rfl [some (.ref (ga E b)), some (.int i), some (.int what)] 0 rfl (Nat.le_of_ble_eq_true rfl) ?_
  intro M hM0 hini C
  subst hM0
  obtain ⟨fk, fn, hb0, hb1, hb2, hrep, hwf, hkp⟩ := id hc
  refine v_iload_n C dX7_tell_0 rfl ?_
  refine v_if_lt C 12 dX7_tell_1 (by decide) (fun h1 => ?_) (fun h1 => ?_)
  · skip
    refine v_ldc2 C tw816 dX7_tell_12 ?_
    refine v_lret C dX7_tell_15 ?_
    first
      | exact ⟨(rTell_out (iin_neg h1)).symm, rfl⟩
      | exact ⟨(rTell_out (iin_ge2 h9 (by omega))).symm, rfl⟩
  · skip
    refine v_iload_n C dX7_tell_4 rfl ?_
    refine v_aload_n C dX7_tell_5 rfl ?_
    refine gf_X7_19 C dX7_tell_6 (by assumption) ?_
    refine v_icmp_lt C 16 dX7_tell_9 (by decide) (fun h9 => ?_) (fun h9 => ?_)
    · skip
      obtain ⟨i, hi, rfl⟩ := iin_of (iin_yes2 (n := l0.length) h1 h9 (by omega)) (by omega)
      have hci : l0[i]? = some l0[i] := List.getElem?_eq_getElem hi
      have hck := hkp _ (List.mem_of_getElem? hci)
      refine v_iload_n C dX7_tell_16 rfl ?_
      refine v_lsw2 C 0 1 44 52 59 dX7_tell_17 (by decide) (by decide) (by decide) (by decide) (fun h17 => ?_) (fun h17 => ?_) (fun h17 => ?_)
      · skip
        refine v_aload_n C dX7_tell_44 rfl ?_
        refine gf_X7_9 C dX7_tell_45 (by assumption) ?_
        refine v_iload_n C dX7_tell_48 rfl ?_
        refine v_iald C dX7_tell_49 (by assumption) (by omega) (by omega) (hrep i _ hci).1 ?_
        first | refine v_i2ln C dX7_tell_50 (by omega) ?_ | refine v_i2l C dX7_tell_50 rfl ?_
        refine v_lret C dX7_tell_51 ?_
        subst h17; exact ⟨(rTell_in (k := 0) hci (by omega) (by decide)).symm, rfl⟩
      · skip
        refine v_aload_n C dX7_tell_52 rfl ?_
        refine gf_X7_15 C dX7_tell_53 (by assumption) ?_
        refine v_iload_n C dX7_tell_56 rfl ?_
        refine v_lald C dX7_tell_57 (by assumption) (by omega) (by omega) (hrep i _ hci).2 ?_
        refine v_lret C dX7_tell_58 ?_
        subst h17; exact ⟨(rTell_in (k := 1) hci (by omega) (by decide)).symm, rfl⟩
      · skip
        refine v_ldc2 C tw816 dX7_tell_59 ?_
        refine v_lret C dX7_tell_62 ?_
        exact ⟨(rTell_what h17).symm, rfl⟩
    · skip
      refine v_ldc2 C tw816 dX7_tell_12 ?_
      refine v_lret C dX7_tell_15 ?_
      first
        | exact ⟨(rTell_out (iin_neg h1)).symm, rfl⟩
        | exact ⟨(rTell_out (iin_ge2 h9 (by omega))).symm, rfl⟩

set_option maxHeartbeats 4000000 in
set_option maxRecDepth 100000 in
theorem off_loop {M : Mx} {E : Ev} {z : Option Nat} (C : Cx M E yX7_offer.cls cX7_offer 5 none 0 0 0 0) {post : Unit → Gh → Prop} {G0 : Gh} {b room : Nat} {m : Rnk} {x : Nat} {v : Int64} (hx : x < 65521) (hrm : 1 ≤ room ∧ room ≤ 300) (hml : m.length < room) (hkm : ∀ c ∈ m, c.1 < 65521) (hend : ∀ G, isRnk E G b room (rIns m (x, v)) → (∀ j, (j < b ∨ b + 3 ≤ j) → G j = G0 j) → post () G) : ∀ (t p : Nat), p ≤ m.length → p < t → ∀ (G : Gh) (fk : Nat → Int32) (fn : Nat → Int64), G b = cO 7 [.ref (ga E (b + 1)), .ref (ga E (b + 2)), .int (nI m.length)] → G (b + 1) = cI E room fk → G (b + 2) = cJ E room fn → rMid m p fk fn → rPos m v m.length = rPos m v p → (∀ j, (j < b ∨ b + 3 ≤ j) → G j = G0 j) → V M E 5 (QE M E (fun _ : Unit => none) z 0 0 post) z 0 0 G 45 [some (.ref (ga E b)), some (.int (nI x)), some (.long v), none, some (.int (nI p))] [] := by
  intro t
  induction t with
  | zero => intro p _ h; omega
  | succ t ih =>
    intro p hpl ht G fk fn hb0 hb1 hb2 hmid hpos hfr
    refine v_iload C dX7_offer_45 rfl ?_
    first | refine v_ifn_le C 102 dX7_offer_47 (by decide) (by omega) (fun h47 => ?_) (fun h47 => ?_) | refine v_if_le C 102 dX7_offer_47 (by decide) (fun h47 => ?_) (fun h47 => ?_)
    · skip
      have hpp : rPos m v m.length = p := by
        rw [hpos]
        first
          | (have hz : p = 0 := by omega
             rw [hz]; rfl)
          | exact rPos_stop (by omega) hcp (Int64.not_lt.mpr h60)
      refine v_aload_n C dX7_offer_102 rfl ?_
      refine gf_X7_9 C dX7_offer_103 (by assumption) ?_
      refine v_iload C dX7_offer_106 rfl ?_
      refine v_iload_n C dX7_offer_108 rfl ?_
      refine v_iast C dX7_offer_109 (by assumption) (by omega) (by omega) (fun G hG109 hF109 => ?_)
      first | replace hb0 := (hF109 _ (by omega)).trans hb0 | replace hb0 := hG109 | skip
      first | replace hb1 := (hF109 _ (by omega)).trans hb1 | replace hb1 := hG109 | skip
      first | replace hb2 := (hF109 _ (by omega)).trans hb2 | replace hb2 := hG109 | skip
      refine v_aload_n C dX7_offer_110 rfl ?_
      refine gf_X7_15 C dX7_offer_111 (by assumption) ?_
      refine v_iload C dX7_offer_114 rfl ?_
      refine v_lload_n C dX7_offer_116 rfl ?_
      refine v_last C dX7_offer_117 (by assumption) (by omega) (by omega) (fun G hG117 hF117 => ?_)
      first | replace hb0 := (hF117 _ (by omega)).trans hb0 | replace hb0 := hG117 | skip
      first | replace hb1 := (hF117 _ (by omega)).trans hb1 | replace hb1 := hG117 | skip
      first | replace hb2 := (hF117 _ (by omega)).trans hb2 | replace hb2 := hG117 | skip
      refine v_aload_n C dX7_offer_118 rfl ?_
      refine v_dup C dX7_offer_119 rfl ?_
      refine gf_X7_19 C dX7_offer_120 (by assumption) ?_
      refine v_iconst (v := nI 1) C dX7_offer_123 (by decide) ?_
      first | refine v_iaddn C dX7_offer_124 ?_ | refine v_iadd C dX7_offer_124 ?_
      refine pf_X7_19 C dX7_offer_125 (by assumption) (fun G hG125 hF125 => ?_)
      first | replace hb0 := (hF125 _ (by omega)).trans hb0 | replace hb0 := hG125 | skip
      first | replace hb1 := (hF125 _ (by omega)).trans hb1 | replace hb1 := hG125 | skip
      first | replace hb2 := (hF125 _ (by omega)).trans hb2 | replace hb2 := hG125 | skip
      refine v_vret C dX7_offer_128 ?_
      refine hend G ⟨_, _, ?_, hb1, hb2, ?_, ⟨?_, hrm⟩, fun c hcm => ?_⟩ (fun j hj => by rw [hF125 j (by omega), hF117 j (by omega), hF109 j (by omega)]; exact hfr j hj)
      · unfold rIns; rw [List.length_insertIdx_of_le_length (rPos_le _ _ _)]; exact hb0
      · unfold rIns; rw [hpp]; exact rMid_end (c0 := (x, v)) hmid hpl
      · unfold rIns; rw [List.length_insertIdx_of_le_length (rPos_le _ _ _)]; omega
      · unfold rIns at hcm
        rcases (List.mem_insertIdx (rPos_le _ _ _)).mp hcm with q | q
        · rw [q]; exact hx
        · exact hkm c q
    · skip
      have hcp : m[p - 1]? = some m[p - 1] := List.getElem?_eq_getElem (by omega)
      have hrp := hmid.1 (p - 1) _ (by omega) hcp
      refine v_aload_n C dX7_offer_50 rfl ?_
      refine gf_X7_15 C dX7_offer_51 (by assumption) ?_
      refine v_iload C dX7_offer_54 rfl ?_
      refine v_iconst (v := nI 1) C dX7_offer_56 (by decide) ?_
      first | refine v_isubn C dX7_offer_57 (by omega) ?_ | refine v_isub C dX7_offer_57 ?_
      refine v_lald C dX7_offer_58 (by assumption) (by omega) (by omega) hrp.2 ?_
      refine v_lload_n C dX7_offer_59 rfl ?_
      refine v_lcmp_ge C 102 dX7_offer_60 dX7_offer_61 (by decide) (fun h60 => ?_) (fun h60 => ?_)
      · skip
        have hpp : rPos m v m.length = p := by
          rw [hpos]
          first
            | (have hz : p = 0 := by omega
               rw [hz]; rfl)
            | exact rPos_stop (by omega) hcp (Int64.not_lt.mpr h60)
        refine v_aload_n C dX7_offer_102 rfl ?_
        refine gf_X7_9 C dX7_offer_103 (by assumption) ?_
        refine v_iload C dX7_offer_106 rfl ?_
        refine v_iload_n C dX7_offer_108 rfl ?_
        refine v_iast C dX7_offer_109 (by assumption) (by omega) (by omega) (fun G hG109 hF109 => ?_)
        first | replace hb0 := (hF109 _ (by omega)).trans hb0 | replace hb0 := hG109 | skip
        first | replace hb1 := (hF109 _ (by omega)).trans hb1 | replace hb1 := hG109 | skip
        first | replace hb2 := (hF109 _ (by omega)).trans hb2 | replace hb2 := hG109 | skip
        refine v_aload_n C dX7_offer_110 rfl ?_
        refine gf_X7_15 C dX7_offer_111 (by assumption) ?_
        refine v_iload C dX7_offer_114 rfl ?_
        refine v_lload_n C dX7_offer_116 rfl ?_
        refine v_last C dX7_offer_117 (by assumption) (by omega) (by omega) (fun G hG117 hF117 => ?_)
        first | replace hb0 := (hF117 _ (by omega)).trans hb0 | replace hb0 := hG117 | skip
        first | replace hb1 := (hF117 _ (by omega)).trans hb1 | replace hb1 := hG117 | skip
        first | replace hb2 := (hF117 _ (by omega)).trans hb2 | replace hb2 := hG117 | skip
        refine v_aload_n C dX7_offer_118 rfl ?_
        refine v_dup C dX7_offer_119 rfl ?_
        refine gf_X7_19 C dX7_offer_120 (by assumption) ?_
        refine v_iconst (v := nI 1) C dX7_offer_123 (by decide) ?_
        first | refine v_iaddn C dX7_offer_124 ?_ | refine v_iadd C dX7_offer_124 ?_
        refine pf_X7_19 C dX7_offer_125 (by assumption) (fun G hG125 hF125 => ?_)
        first | replace hb0 := (hF125 _ (by omega)).trans hb0 | replace hb0 := hG125 | skip
        first | replace hb1 := (hF125 _ (by omega)).trans hb1 | replace hb1 := hG125 | skip
        first | replace hb2 := (hF125 _ (by omega)).trans hb2 | replace hb2 := hG125 | skip
        refine v_vret C dX7_offer_128 ?_
        refine hend G ⟨_, _, ?_, hb1, hb2, ?_, ⟨?_, hrm⟩, fun c hcm => ?_⟩ (fun j hj => by rw [hF125 j (by omega), hF117 j (by omega), hF109 j (by omega)]; exact hfr j hj)
        · unfold rIns; rw [List.length_insertIdx_of_le_length (rPos_le _ _ _)]; exact hb0
        · unfold rIns; rw [hpp]; exact rMid_end (c0 := (x, v)) hmid hpl
        · unfold rIns; rw [List.length_insertIdx_of_le_length (rPos_le _ _ _)]; omega
        · unfold rIns at hcm
          rcases (List.mem_insertIdx (rPos_le _ _ _)).mp hcm with q | q
          · rw [q]; exact hx
          · exact hkm c q
      · skip
        refine v_aload_n C dX7_offer_64 rfl ?_
        refine gf_X7_9 C dX7_offer_65 (by assumption) ?_
        refine v_iload C dX7_offer_68 rfl ?_
        refine v_aload_n C dX7_offer_70 rfl ?_
        refine gf_X7_9 C dX7_offer_71 (by assumption) ?_
        refine v_iload C dX7_offer_74 rfl ?_
        refine v_iconst (v := nI 1) C dX7_offer_76 (by decide) ?_
        first | refine v_isubn C dX7_offer_77 (by omega) ?_ | refine v_isub C dX7_offer_77 ?_
        refine v_iald C dX7_offer_78 (by assumption) (by omega) (by omega) rfl ?_
        refine v_iast C dX7_offer_79 (by assumption) (by omega) (by omega) (fun G hG79 hF79 => ?_)
        first | replace hb0 := (hF79 _ (by omega)).trans hb0 | replace hb0 := hG79 | skip
        first | replace hb1 := (hF79 _ (by omega)).trans hb1 | replace hb1 := hG79 | skip
        first | replace hb2 := (hF79 _ (by omega)).trans hb2 | replace hb2 := hG79 | skip
        refine v_aload_n C dX7_offer_80 rfl ?_
        refine gf_X7_15 C dX7_offer_81 (by assumption) ?_
        refine v_iload C dX7_offer_84 rfl ?_
        refine v_aload_n C dX7_offer_86 rfl ?_
        refine gf_X7_15 C dX7_offer_87 (by assumption) ?_
        refine v_iload C dX7_offer_90 rfl ?_
        refine v_iconst (v := nI 1) C dX7_offer_92 (by decide) ?_
        first | refine v_isubn C dX7_offer_93 (by omega) ?_ | refine v_isub C dX7_offer_93 ?_
        refine v_lald C dX7_offer_94 (by assumption) (by omega) (by omega) rfl ?_
        refine v_last C dX7_offer_95 (by assumption) (by omega) (by omega) (fun G hG95 hF95 => ?_)
        first | replace hb0 := (hF95 _ (by omega)).trans hb0 | replace hb0 := hG95 | skip
        first | replace hb1 := (hF95 _ (by omega)).trans hb1 | replace hb1 := hG95 | skip
        first | replace hb2 := (hF95 _ (by omega)).trans hb2 | replace hb2 := hG95 | skip
        first | refine v_iinc_4 C dX7_offer_96 (nI_dec (by omega)) (by decide) (by first | rfl | assumption) ?_ | refine v_iinc_4 C dX7_offer_96 rfl (by decide) (by first | rfl | assumption) ?_
        refine v_goto C 45 dX7_offer_99 (by decide) ?_
        exact ih (p - 1) (by omega) (by omega) G _ _ hb0 hb1 hb2 (rMid_step hmid (by omega)) (by rw [hpos]; exact rPos_lt (by omega) hcp (Int64.not_le.mp h60)) (fun j hj => by rw [hF95 j (by omega), hF79 j (by omega)]; exact hfr j hj)
set_option maxHeartbeats 4000000 in
set_option maxRecDepth 100000 in
theorem c_Rnk_offer (l : Launch) (E : Ev) (z : Option Nat) {G : Gh} {b room : Nat} {l0 : Rnk} {x : Nat} {v : Int64} (hx : x < 65521) (hc : isRnk E G b room l0) : K_X7_offer l E z G [.ref (ga E b), .int (nI x), .long v] (fun _ G2 => isRnk E G2 b room (rOffer room l0 (x, v)) ∧ ∀ j, (j < b ∨ b + 3 ≤ j) → G2 j = G j) := by
  refine Fc.of rfl [some (.ref (ga E b)), some (.int (nI x)), some (.long v), none, none] 1 rfl (Nat.le_of_ble_eq_true rfl) ?_
  intro M hM0 hini C
  subst hM0
  obtain ⟨fk, fn, hb0, hb1, hb2, hrep, hwf, hkp⟩ := id hc
  refine v_aload_n C dX7_offer_0 rfl ?_
  refine gf_X7_19 C dX7_offer_1 (by assumption) ?_
  refine v_aload_n C dX7_offer_4 rfl ?_
  refine gf_X7_9 C dX7_offer_5 (by assumption) ?_
  first | refine v_alen_cI C dX7_offer_8 (by assumption) ?_ | refine v_alen_cJ C dX7_offer_8 (by assumption) ?_
  refine v_icmpn_lt C 39 dX7_offer_9 (by decide) (by omega) (by omega) (fun h9 => ?_) (fun h9 => ?_)
  · skip
    refine v_aload_n C dX7_offer_39 rfl ?_
    refine gf_X7_19 C dX7_offer_40 (by assumption) ?_
    refine v_istore_4 C dX7_offer_43 (by decide) (by first | rfl | assumption) ?_
    first
      | (have e9 : rOffer room l0 (x, v) = rIns l0 (x, v) := by unfold rOffer; rw [if_neg (by omega)]
         rw [e9]
         exact off_loop C hx hwf.2 (by omega) hkp (fun G h1 h2 => ⟨h1, h2⟩) (l0.length + 1) l0.length (by omega) (by omega) G fk fn hb0 hb1 hb2 ⟨fun j c _ hjc => hrep j c hjc, fun j c hj hjc => by have := (List.getElem?_eq_some_iff.mp hjc).1; omega⟩ rfl (fun _ _ => rfl))
      | (have e9 : rOffer room l0 (x, v) = rIns l0.dropLast (x, v) := by unfold rOffer; rw [if_pos h9, hcl]; simp only []; rw [if_pos h24]
         have hdl : l0.dropLast.length = l0.length - 1 := List.length_dropLast
         rw [e9, ← hdl]
         exact off_loop C hx hwf.2 (by omega) (fun c hcm => hkp c ((List.dropLast_sublist l0).subset hcm)) (fun G h1 h2 => ⟨h1, fun j hj => h2 j hj⟩) (l0.length + 1) l0.dropLast.length (Nat.le_refl _) (by omega) G fk fn (by rw [hdl]; exact hb0) hb1 hb2 ⟨fun j c hj hjc => hrep j c (by rw [List.getElem?_dropLast, if_pos (by omega)] at hjc; exact hjc), fun j c hj hjc => by have := (List.getElem?_eq_some_iff.mp hjc).1; omega⟩ rfl (fun j hj => hF36 j (by omega)))
  · skip
    have hcl : l0[l0.length - 1]? = some l0[l0.length - 1] := List.getElem?_eq_getElem (by omega)
    refine v_aload_n C dX7_offer_12 rfl ?_
    refine gf_X7_15 C dX7_offer_13 (by assumption) ?_
    refine v_aload_n C dX7_offer_16 rfl ?_
    refine gf_X7_19 C dX7_offer_17 (by assumption) ?_
    refine v_iconst (v := nI 1) C dX7_offer_20 (by decide) ?_
    first | refine v_isubn C dX7_offer_21 (by omega) ?_ | refine v_isub C dX7_offer_21 ?_
    refine v_lald C dX7_offer_22 (by assumption) (by omega) (by omega) (hrep _ _ hcl).2 ?_
    refine v_lload_n C dX7_offer_23 rfl ?_
    refine v_lcmp_lt C 29 dX7_offer_24 dX7_offer_25 (by decide) (fun h24 => ?_) (fun h24 => ?_)
    · skip
      refine v_aload_n C dX7_offer_29 rfl ?_
      refine v_dup C dX7_offer_30 rfl ?_
      refine gf_X7_19 C dX7_offer_31 (by assumption) ?_
      refine v_iconst (v := nI 1) C dX7_offer_34 (by decide) ?_
      first | refine v_isubn C dX7_offer_35 (by omega) ?_ | refine v_isub C dX7_offer_35 ?_
      refine pf_X7_19 C dX7_offer_36 (by assumption) (fun G hG36 hF36 => ?_)
      first | replace hb0 := (hF36 _ (by omega)).trans hb0 | replace hb0 := hG36 | skip
      first | replace hb1 := (hF36 _ (by omega)).trans hb1 | replace hb1 := hG36 | skip
      first | replace hb2 := (hF36 _ (by omega)).trans hb2 | replace hb2 := hG36 | skip
      refine v_aload_n C dX7_offer_39 rfl ?_
      refine gf_X7_19 C dX7_offer_40 (by assumption) ?_
      refine v_istore_4 C dX7_offer_43 (by decide) (by first | rfl | assumption) ?_
      first
        | (have e9 : rOffer room l0 (x, v) = rIns l0 (x, v) := by unfold rOffer; rw [if_neg (by omega)]
           rw [e9]
           exact off_loop C hx hwf.2 (by omega) hkp (fun G h1 h2 => ⟨h1, h2⟩) (l0.length + 1) l0.length (by omega) (by omega) G fk fn hb0 hb1 hb2 ⟨fun j c _ hjc => hrep j c hjc, fun j c hj hjc => by have := (List.getElem?_eq_some_iff.mp hjc).1; omega⟩ rfl (fun _ _ => rfl))
        | (have e9 : rOffer room l0 (x, v) = rIns l0.dropLast (x, v) := by unfold rOffer; rw [if_pos h9, hcl]; simp only []; rw [if_pos h24]
           have hdl : l0.dropLast.length = l0.length - 1 := List.length_dropLast
           rw [e9, ← hdl]
           exact off_loop C hx hwf.2 (by omega) (fun c hcm => hkp c ((List.dropLast_sublist l0).subset hcm)) (fun G h1 h2 => ⟨h1, fun j hj => h2 j hj⟩) (l0.length + 1) l0.dropLast.length (Nat.le_refl _) (by omega) G fk fn (by rw [hdl]; exact hb0) hb1 hb2 ⟨fun j c hj hjc => hrep j c (by rw [List.getElem?_dropLast, if_pos (by omega)] at hjc; exact hjc), fun j c hj hjc => by have := (List.getElem?_eq_some_iff.mp hjc).1; omega⟩ rfl (fun j hj => hF36 j (by omega)))
    · skip
      refine v_vret C dX7_offer_28 ?_
      have e9 : rOffer room l0 (x, v) = l0 := by unfold rOffer; rw [if_pos h9, hcl]; simp only []; rw [if_neg h24]
      rw [e9]
      exact ⟨hc, fun _ _ => rfl⟩

