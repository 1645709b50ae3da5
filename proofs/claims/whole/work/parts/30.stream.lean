/-! Stream (class 9) and its parts -/
abbrev Str : Type := Nat × (Nat → Nat → Nat) × (Nat → Nat → Nat) × Ctr × Nat × Ctr × Cnt × Bool
def zN (S : Str) : Nat := S.1
def zP (S : Str) : Nat → Nat → Nat := S.2.1
def zC (S : Str) : Nat → Nat → Nat := S.2.2.1
def zM (S : Str) : Ctr := S.2.2.2.1
def zT (S : Str) : Nat := S.2.2.2.2.1
def zS (S : Str) : Ctr := S.2.2.2.2.2.1
def zK (S : Str) : Cnt := S.2.2.2.2.2.2.1
def zG (S : Str) : Bool := S.2.2.2.2.2.2.2
def skf (E : Ev) (s : Nat) : Nat → Option Nat := fun i => match i with
  | 0 => some (ga E (s + 1))
  | 1 => some (ga E (s + 3))
  | 2 => some (ga E (s + 5))
  | 3 => some (ga E (s + 12))
  | _ => some (ga E (s + 23))
def isStr (E : Ev) (G : Gh) (s fam P W R lim room : Nat) (S : Str) : Prop := G s = cO 9 [.ref (ga E (s + 1)), .ref (ga E (s + 3)), .ref (ga E (s + 5)), .ref (ga E (s + 12)), .ref (ga E (s + 19)), .ref (ga E (s + 22)), .long (lN (zN S))] ∧ isGrid E G (s + 1) fam false R W (zP S) ∧ isGrid E G (s + 3) fam true R W (zC S) ∧ isMis E G (s + 5) P lim (zM S) (zT S) ∧ isSav E G (s + 12) P lim (zS S) ∧ isCnt E G (s + 19) P room (zK S) (zG S) ∧ G (s + 22) = cR E 4 5 (skf E s) ∧ G (s + 23) = cO 0 [.ref (ga E (s + 1)), .ref (ga E (s + 3)), .ref (ga E (s + 5)), .ref (ga E (s + 12))]
theorem isStr.keep {E : Ev} {G G2 : Gh} {s fam P W R lim room : Nat} {S : Str} (h : isStr E G s fam P W R lim room S) (hf : ∀ j, s ≤ j → j < s + 24 → G2 j = G j) : isStr E G2 s fam P W R lim room S := by
  obtain ⟨h0, h1, h2, h3, h4, h5, h6, h7⟩ := h
  exact ⟨(hf _ (by omega) (by omega)).trans h0, h1.keep (fun j a b => hf j (by omega) (by omega)), h2.keep (fun j a b => hf j (by omega) (by omega)), h3.keep (fun j a b => hf j (by omega) (by omega)), h4.keep (fun j a b => hf j (by omega) (by omega)), h5.keep (fun j a b => hf j (by omega) (by omega)), (hf _ (by omega) (by omega)).trans h6, (hf _ (by omega) (by omega)).trans h7⟩
def bdS (R W lim : Nat) (S : Str) : Prop := (∀ r, r < R → ∀ c, c < W → zP S r c < 2 ^ 62) ∧ (∀ r, r < R → ∀ c, c < W → zC S r c < 2 ^ 62) ∧ (∀ c ∈ zM S, c.2.1 < 2 ^ 62) ∧ (zM S).length ≤ lim ∧ (∀ c ∈ zS S, c.2.1 < 2 ^ 62) ∧ (zS S).length ≤ lim
theorem isGrid.rc {E : Ev} {G : Gh} {b fam : Nat} {cf : Bool} {R W : Nat} {D : Nat → Nat → Nat} (h : isGrid E G b fam cf R W D) : G b = cO 4 [.ref (ga E fam), .int (bI cf), .ref (ga E (b + 1))] := by
  obtain ⟨f, h0, h1⟩ := h
  exact h0
theorem isCnt.rc {E : Ev} {G : Gh} {b P room : Nat} {l : Cnt} {g : Bool} (h : isCnt E G b P room l g) : G b = cO 2 [.ref (ga E (b + 1)), .ref (ga E (b + 2)), .int (nI l.length), .int (bI g)] := by
  obtain ⟨fk, fn, h0, h1⟩ := h
  exact h0
def strTake (P W R : Nat) (A B : Nat → Nat) (lim room : Nat) (S : Str) (x t : Nat) : Str := (zN S + t, gTake false (fun r => hsh P W (A r) (B r) x) (gEst P W R A B (zP S) x) t (zP S), gTake true (fun r => hsh P W (A r) (B r) x) (gEst P W R A B (zC S) x) t (zC S), (mTake lim (zM S) (zT S) x t).1, (mTake lim (zM S) (zT S) x t).2, sTake lim (zS S) x t, (cTake room (zK S, zG S) x t).1, (cTake room (zK S, zG S) x t).2)
def strEmpty : Str := (0, fun _ _ => 0, fun _ _ => 0, [], 0, [], [], false)

set_option maxHeartbeats 4000000 in
set_option maxRecDepth 100000 in
theorem c_Str_take (l : Launch) (E : Ev) {G : Gh} {s fam P W R lim room : Nat} {A B : Nat → Nat} {S : Str} {x t : Nat} (hx : x < P) (ht1 : 1 ≤ t) (ht2 : t ≤ 1000) (hbd : bdS R W lim S) (hfs : fam + 3 ≤ s) (hF : isFam E G fam P W R A B) (hst : isStr E G s fam P W R lim room S) : K_X10_take l E none G [.ref (ga E s), .int (nI x), .int (nI t)] (fun _ G2 => isStr E G2 s fam P W R lim room (strTake P W R A B lim room S x t) ∧ ∀ j, (j < s ∨ s + 24 ≤ j) → G2 j = G j) := by
  refine Fc.of rfl [some (.ref (ga E s)), some (.int (nI x)), some (.int (nI t))] 0 rfl (Nat.le_of_ble_eq_true rfl) ?_
  intro M hM0 hini C
  subst hM0
  obtain ⟨hs0, hg1, hg2, hms, hsv, hct, hs22, hs23⟩ := id hst
  have hrng := hF.choose_spec.choose_spec.2.2.2.2.2.1
  have hRW := RW_le (R := R) (W := W) (by omega) (by omega)
  obtain ⟨hbp, hbc, hbm, hml, hbs, hsl⟩ := id hbd
  refine v_aload_n C dX10_take_0 rfl ?_
  refine v_dup C dX10_take_1 rfl ?_
  refine gf_X10_65 C dX10_take_2 (by assumption) ?_
  refine v_iload_n C dX10_take_5 rfl ?_
  first | refine v_i2ln C dX10_take_6 (by omega) ?_ | refine v_i2l C dX10_take_6 rfl ?_
  first | refine v_laddn C dX10_take_7 ?_ | refine v_ladd C dX10_take_7 ?_
  refine pf_X10_65 C dX10_take_8 (by assumption) (fun G hG8 hF8 => ?_)
  first | replace hs0 := (hF8 _ (by omega)).trans hs0 | replace hs0 := hG8 | skip
  first | replace hs22 := (hF8 _ (by omega)).trans hs22 | replace hs22 := hG8 | skip
  first | replace hs23 := (hF8 _ (by omega)).trans hs23 | replace hs23 := hG8 | skip
  replace hF := hF.keep (fun j a b => hF8 j (by omega))
  replace hg1 := hg1.keep (fun j a b => hF8 j (by omega))
  replace hg2 := hg2.keep (fun j a b => hF8 j (by omega))
  replace hms := hms.keep (fun j a b => hF8 j (by omega))
  replace hsv := hsv.keep (fun j a b => hF8 j (by omega))
  replace hct := hct.keep (fun j a b => hF8 j (by omega))
  refine v_aload_n C dX10_take_11 rfl ?_
  refine gf_X10_14 C dX10_take_12 (by assumption) ?_
  refine v_iload_n C dX10_take_15 rfl ?_
  refine v_iload_n C dX10_take_16 rfl ?_
  refine mc_X10_69 C dX10_take_17 (hg1.rc) (c_Grid_take _ E none hx ht2 (by omega) hbp hF hg1) rfl (fun r17 G17 hp17 => ?_)
  obtain ⟨hg1, hfr17⟩ := hp17
  replace hs0 := (hfr17 _ (by omega)).trans hs0
  replace hs22 := (hfr17 _ (by omega)).trans hs22
  replace hs23 := (hfr17 _ (by omega)).trans hs23
  replace hF := hF.keep (fun j a b => hfr17 j (by omega))
  replace hg2 := hg2.keep (fun j a b => hfr17 j (by omega))
  replace hms := hms.keep (fun j a b => hfr17 j (by omega))
  replace hsv := hsv.keep (fun j a b => hfr17 j (by omega))
  replace hct := hct.keep (fun j a b => hfr17 j (by omega))
  refine v_aload_n C dX10_take_20 rfl ?_
  refine gf_X10_20 C dX10_take_21 (by assumption) ?_
  refine v_iload_n C dX10_take_24 rfl ?_
  refine v_iload_n C dX10_take_25 rfl ?_
  refine mc_X10_69 C dX10_take_26 (hg2.rc) (c_Grid_take _ E none hx ht2 (by omega) hbc hF hg2) rfl (fun r26 G26 hp26 => ?_)
  obtain ⟨hg2, hfr26⟩ := hp26
  replace hs0 := (hfr26 _ (by omega)).trans hs0
  replace hs22 := (hfr26 _ (by omega)).trans hs22
  replace hs23 := (hfr26 _ (by omega)).trans hs23
  replace hF := hF.keep (fun j a b => hfr26 j (by omega))
  replace hg1 := hg1.keep (fun j a b => hfr26 j (by omega))
  replace hms := hms.keep (fun j a b => hfr26 j (by omega))
  replace hsv := hsv.keep (fun j a b => hfr26 j (by omega))
  replace hct := hct.keep (fun j a b => hfr26 j (by omega))
  refine v_aload_n C dX10_take_29 rfl ?_
  refine gf_X10_34 C dX10_take_30 (by assumption) ?_
  refine v_iload_n C dX10_take_33 rfl ?_
  refine v_iload_n C dX10_take_34 rfl ?_
  refine mc_X10_72 C dX10_take_35 (hms.1) (c_Mis_take _ E hx ht1 ht2 hml hbm hms) rfl (fun r35 G35 hp35 => ?_)
  obtain ⟨hms, hfr35⟩ := hp35
  replace hs0 := (hfr35 _ (by omega)).trans hs0
  replace hs22 := (hfr35 _ (by omega)).trans hs22
  replace hs23 := (hfr35 _ (by omega)).trans hs23
  replace hF := hF.keep (fun j a b => hfr35 j (by omega))
  replace hg1 := hg1.keep (fun j a b => hfr35 j (by omega))
  replace hg2 := hg2.keep (fun j a b => hfr35 j (by omega))
  replace hsv := hsv.keep (fun j a b => hfr35 j (by omega))
  replace hct := hct.keep (fun j a b => hfr35 j (by omega))
  refine v_aload_n C dX10_take_38 rfl ?_
  refine gf_X10_41 C dX10_take_39 (by assumption) ?_
  refine v_iload_n C dX10_take_42 rfl ?_
  refine v_iload_n C dX10_take_43 rfl ?_
  refine mc_X10_73 C dX10_take_44 (hsv.1) (c_Sav_take _ E hx ht2 hsl hbs hsv) rfl (fun r44 G44 hp44 => ?_)
  obtain ⟨hsv, hfr44⟩ := hp44
  replace hs0 := (hfr44 _ (by omega)).trans hs0
  replace hs22 := (hfr44 _ (by omega)).trans hs22
  replace hs23 := (hfr44 _ (by omega)).trans hs23
  replace hF := hF.keep (fun j a b => hfr44 j (by omega))
  replace hg1 := hg1.keep (fun j a b => hfr44 j (by omega))
  replace hg2 := hg2.keep (fun j a b => hfr44 j (by omega))
  replace hms := hms.keep (fun j a b => hfr44 j (by omega))
  replace hct := hct.keep (fun j a b => hfr44 j (by omega))
  refine v_aload_n C dX10_take_47 rfl ?_
  refine gf_X10_50 C dX10_take_48 (by assumption) ?_
  refine v_iload_n C dX10_take_51 rfl ?_
  refine v_iload_n C dX10_take_52 rfl ?_
  first | refine v_i2ln C dX10_take_53 (by omega) ?_ | refine v_i2l C dX10_take_53 rfl ?_
  refine mc_X10_74 C dX10_take_54 (hct.rc) (c_Cnt_take _ E hx hct) rfl (fun r54 G54 hp54 => ?_)
  obtain ⟨hct, hfr54⟩ := hp54
  replace hs0 := (hfr54 _ (by omega)).trans hs0
  replace hs22 := (hfr54 _ (by omega)).trans hs22
  replace hs23 := (hfr54 _ (by omega)).trans hs23
  replace hF := hF.keep (fun j a b => hfr54 j (by omega))
  replace hg1 := hg1.keep (fun j a b => hfr54 j (by omega))
  replace hg2 := hg2.keep (fun j a b => hfr54 j (by omega))
  replace hms := hms.keep (fun j a b => hfr54 j (by omega))
  replace hsv := hsv.keep (fun j a b => hfr54 j (by omega))
  refine v_vret C dX10_take_57 ?_
  refine ⟨⟨hs0, hg1, hg2, hms, hsv, hct, hs22, hs23⟩, fun j hj => ?_⟩
  rw [hfr54 j (by omega), hfr44 j (by omega), hfr35 j (by omega), hfr26 j (by omega), hfr17 j (by omega), hF8 j (by omega)]

set_option maxHeartbeats 4000000 in
set_option maxRecDepth 100000 in
theorem c_Str_makeEmpty (l : Launch) (E : Ev) (z : Option Nat) {G : Gh} {s fam P W R lim room : Nat} {A B : Nat → Nat} {S : Str} (hfs : fam + 3 ≤ s) (hF : isFam E G fam P W R A B) (hst : isStr E G s fam P W R lim room S) : K_X10_makeEmpty l E z G [.ref (ga E s)] (fun _ G2 => isStr E G2 s fam P W R lim room strEmpty ∧ ∀ j, (j < s ∨ s + 24 ≤ j) → G2 j = G j) := by
  refine Fc.of rfl [some (.ref (ga E s))] 0 rfl (Nat.le_of_ble_eq_true rfl) ?_
  intro M hM0 hini C
  subst hM0
  obtain ⟨hs0, hg1, hg2, hms, hsv, hct, hs22, hs23⟩ := id hst
  have hrng := hF.choose_spec.choose_spec.2.2.2.2.2.1
  have hRW := RW_le (R := R) (W := W) (by omega) (by omega)
  refine v_aload_n C dX10_makeEmpty_0 rfl ?_
  refine v_lconst (v := lN 0) C dX10_makeEmpty_1 (by decide) ?_
  refine pf_X10_65 C dX10_makeEmpty_2 (by assumption) (fun G hG2 hF2 => ?_)
  first | replace hs0 := (hF2 _ (by omega)).trans hs0 | replace hs0 := hG2 | skip
  first | replace hs22 := (hF2 _ (by omega)).trans hs22 | replace hs22 := hG2 | skip
  first | replace hs23 := (hF2 _ (by omega)).trans hs23 | replace hs23 := hG2 | skip
  replace hF := hF.keep (fun j a b => hF2 j (by omega))
  replace hg1 := hg1.keep (fun j a b => hF2 j (by omega))
  replace hg2 := hg2.keep (fun j a b => hF2 j (by omega))
  replace hms := hms.keep (fun j a b => hF2 j (by omega))
  replace hsv := hsv.keep (fun j a b => hF2 j (by omega))
  replace hct := hct.keep (fun j a b => hF2 j (by omega))
  refine v_aload_n C dX10_makeEmpty_5 rfl ?_
  refine gf_X10_14 C dX10_makeEmpty_6 (by assumption) ?_
  refine mc_X10_77 C dX10_makeEmpty_9 (hg1.rc) (c_Grid_makeEmpty _ E z (by omega) hg1) rfl (fun r9 G9 hp9 => ?_)
  obtain ⟨hg1, hfr9⟩ := hp9
  replace hs0 := (hfr9 _ (by omega)).trans hs0
  replace hs22 := (hfr9 _ (by omega)).trans hs22
  replace hs23 := (hfr9 _ (by omega)).trans hs23
  replace hF := hF.keep (fun j a b => hfr9 j (by omega))
  replace hg2 := hg2.keep (fun j a b => hfr9 j (by omega))
  replace hms := hms.keep (fun j a b => hfr9 j (by omega))
  replace hsv := hsv.keep (fun j a b => hfr9 j (by omega))
  replace hct := hct.keep (fun j a b => hfr9 j (by omega))
  refine v_aload_n C dX10_makeEmpty_12 rfl ?_
  refine gf_X10_20 C dX10_makeEmpty_13 (by assumption) ?_
  refine mc_X10_77 C dX10_makeEmpty_16 (hg2.rc) (c_Grid_makeEmpty _ E z (by omega) hg2) rfl (fun r16 G16 hp16 => ?_)
  obtain ⟨hg2, hfr16⟩ := hp16
  replace hs0 := (hfr16 _ (by omega)).trans hs0
  replace hs22 := (hfr16 _ (by omega)).trans hs22
  replace hs23 := (hfr16 _ (by omega)).trans hs23
  replace hF := hF.keep (fun j a b => hfr16 j (by omega))
  replace hg1 := hg1.keep (fun j a b => hfr16 j (by omega))
  replace hms := hms.keep (fun j a b => hfr16 j (by omega))
  replace hsv := hsv.keep (fun j a b => hfr16 j (by omega))
  replace hct := hct.keep (fun j a b => hfr16 j (by omega))
  refine v_aload_n C dX10_makeEmpty_19 rfl ?_
  refine gf_X10_34 C dX10_makeEmpty_20 (by assumption) ?_
  refine mc_X10_80 C dX10_makeEmpty_23 (hms.1) (c_Mis_makeEmpty _ E z hms) rfl (fun r23 G23 hp23 => ?_)
  obtain ⟨hms, hfr23⟩ := hp23
  replace hs0 := (hfr23 _ (by omega)).trans hs0
  replace hs22 := (hfr23 _ (by omega)).trans hs22
  replace hs23 := (hfr23 _ (by omega)).trans hs23
  replace hF := hF.keep (fun j a b => hfr23 j (by omega))
  replace hg1 := hg1.keep (fun j a b => hfr23 j (by omega))
  replace hg2 := hg2.keep (fun j a b => hfr23 j (by omega))
  replace hsv := hsv.keep (fun j a b => hfr23 j (by omega))
  replace hct := hct.keep (fun j a b => hfr23 j (by omega))
  refine v_aload_n C dX10_makeEmpty_26 rfl ?_
  refine gf_X10_41 C dX10_makeEmpty_27 (by assumption) ?_
  refine mc_X10_81 C dX10_makeEmpty_30 (hsv.1) (c_Sav_makeEmpty _ E z hsv) rfl (fun r30 G30 hp30 => ?_)
  obtain ⟨hsv, hfr30⟩ := hp30
  replace hs0 := (hfr30 _ (by omega)).trans hs0
  replace hs22 := (hfr30 _ (by omega)).trans hs22
  replace hs23 := (hfr30 _ (by omega)).trans hs23
  replace hF := hF.keep (fun j a b => hfr30 j (by omega))
  replace hg1 := hg1.keep (fun j a b => hfr30 j (by omega))
  replace hg2 := hg2.keep (fun j a b => hfr30 j (by omega))
  replace hms := hms.keep (fun j a b => hfr30 j (by omega))
  replace hct := hct.keep (fun j a b => hfr30 j (by omega))
  refine v_aload_n C dX10_makeEmpty_33 rfl ?_
  refine gf_X10_50 C dX10_makeEmpty_34 (by assumption) ?_
  refine mc_X10_82 C dX10_makeEmpty_37 (hct.rc) (c_Cnt_makeEmpty _ E z hct) rfl (fun r37 G37 hp37 => ?_)
  obtain ⟨hct, hfr37⟩ := hp37
  replace hs0 := (hfr37 _ (by omega)).trans hs0
  replace hs22 := (hfr37 _ (by omega)).trans hs22
  replace hs23 := (hfr37 _ (by omega)).trans hs23
  replace hF := hF.keep (fun j a b => hfr37 j (by omega))
  replace hg1 := hg1.keep (fun j a b => hfr37 j (by omega))
  replace hg2 := hg2.keep (fun j a b => hfr37 j (by omega))
  replace hms := hms.keep (fun j a b => hfr37 j (by omega))
  replace hsv := hsv.keep (fun j a b => hfr37 j (by omega))
  refine v_vret C dX10_makeEmpty_40 ?_
  refine ⟨⟨hs0, hg1, hg2, hms, hsv, hct, hs22, hs23⟩, fun j hj => ?_⟩
  rw [hfr37 j (by omega), hfr30 j (by omega), hfr23 j (by omega), hfr16 j (by omega), hfr9 j (by omega), hF2 j (by omega)]

set_option maxHeartbeats 4000000 in
set_option maxRecDepth 100000 in
theorem c_Str_become (l : Launch) (E : Ev) {G : Gh} {s s2 fam P W R lim room : Nat} {A B : Nat → Nat} {S S2 : Str} (hdis : s + 24 ≤ s2 ∨ s2 + 24 ≤ s) (hfs : fam + 3 ≤ s) (hF : isFam E G fam P W R A B) (hst : isStr E G s fam P W R lim room S) (hst2 : isStr E G s2 fam P W R lim room S2) : K_X10_become l E none G [.ref (ga E s), .ref (ga E s2)] (fun _ G2 => isStr E G2 s fam P W R lim room S2 ∧ ∀ j, (j < s ∨ s + 24 ≤ j) → G2 j = G j) := by
  refine Fc.of rfl [some (.ref (ga E s)), some (.ref (ga E s2))] 0 rfl (Nat.le_of_ble_eq_true rfl) ?_
  intro M hM0 hini C
  subst hM0
  obtain ⟨hs0, hg1, hg2, hms, hsv, hct, hs22, hs23⟩ := id hst
  have hrng := hF.choose_spec.choose_spec.2.2.2.2.2.1
  have hRW := RW_le (R := R) (W := W) (by omega) (by omega)
  obtain ⟨ho0, ho1, ho2, hom, hov, hot, ho22, ho23⟩ := id hst2
  refine v_aload_n C dX10_become_0 rfl ?_
  refine v_aload_n C dX10_become_1 rfl ?_
  refine gf_X10_65 C dX10_become_2 (by assumption) ?_
  refine pf_X10_65 C dX10_become_5 (by assumption) (fun G hG5 hF5 => ?_)
  first | replace hs0 := (hF5 _ (by omega)).trans hs0 | replace hs0 := hG5 | skip
  first | replace hs22 := (hF5 _ (by omega)).trans hs22 | replace hs22 := hG5 | skip
  first | replace hs23 := (hF5 _ (by omega)).trans hs23 | replace hs23 := hG5 | skip
  first | replace ho0 := (hF5 _ (by omega)).trans ho0 | replace ho0 := hG5 | skip
  replace hF := hF.keep (fun j a b => hF5 j (by omega))
  replace hg1 := hg1.keep (fun j a b => hF5 j (by omega))
  replace hg2 := hg2.keep (fun j a b => hF5 j (by omega))
  replace hms := hms.keep (fun j a b => hF5 j (by omega))
  replace hsv := hsv.keep (fun j a b => hF5 j (by omega))
  replace hct := hct.keep (fun j a b => hF5 j (by omega))
  replace ho1 := ho1.keep (fun j a b => hF5 j (by omega))
  replace ho2 := ho2.keep (fun j a b => hF5 j (by omega))
  replace hom := hom.keep (fun j a b => hF5 j (by omega))
  replace hov := hov.keep (fun j a b => hF5 j (by omega))
  replace hot := hot.keep (fun j a b => hF5 j (by omega))
  refine v_aload_n C dX10_become_8 rfl ?_
  refine gf_X10_14 C dX10_become_9 (by assumption) ?_
  refine v_aload_n C dX10_become_12 rfl ?_
  refine gf_X10_14 C dX10_become_13 (by assumption) ?_
  refine mc_X10_83 C dX10_become_16 (hg1.rc) (c_Grid_become _ E (by omega) hg1 ho1) rfl (fun r16 G16 hp16 => ?_)
  obtain ⟨hg1, hfr16⟩ := hp16
  replace hs0 := (hfr16 _ (by omega)).trans hs0
  replace hs22 := (hfr16 _ (by omega)).trans hs22
  replace hs23 := (hfr16 _ (by omega)).trans hs23
  replace ho0 := (hfr16 _ (by omega)).trans ho0
  replace hF := hF.keep (fun j a b => hfr16 j (by omega))
  replace hg2 := hg2.keep (fun j a b => hfr16 j (by omega))
  replace hms := hms.keep (fun j a b => hfr16 j (by omega))
  replace hsv := hsv.keep (fun j a b => hfr16 j (by omega))
  replace hct := hct.keep (fun j a b => hfr16 j (by omega))
  replace ho1 := ho1.keep (fun j a b => hfr16 j (by omega))
  replace ho2 := ho2.keep (fun j a b => hfr16 j (by omega))
  replace hom := hom.keep (fun j a b => hfr16 j (by omega))
  replace hov := hov.keep (fun j a b => hfr16 j (by omega))
  replace hot := hot.keep (fun j a b => hfr16 j (by omega))
  refine v_aload_n C dX10_become_19 rfl ?_
  refine gf_X10_20 C dX10_become_20 (by assumption) ?_
  refine v_aload_n C dX10_become_23 rfl ?_
  refine gf_X10_20 C dX10_become_24 (by assumption) ?_
  refine mc_X10_83 C dX10_become_27 (hg2.rc) (c_Grid_become _ E (by omega) hg2 ho2) rfl (fun r27 G27 hp27 => ?_)
  obtain ⟨hg2, hfr27⟩ := hp27
  replace hs0 := (hfr27 _ (by omega)).trans hs0
  replace hs22 := (hfr27 _ (by omega)).trans hs22
  replace hs23 := (hfr27 _ (by omega)).trans hs23
  replace ho0 := (hfr27 _ (by omega)).trans ho0
  replace hF := hF.keep (fun j a b => hfr27 j (by omega))
  replace hg1 := hg1.keep (fun j a b => hfr27 j (by omega))
  replace hms := hms.keep (fun j a b => hfr27 j (by omega))
  replace hsv := hsv.keep (fun j a b => hfr27 j (by omega))
  replace hct := hct.keep (fun j a b => hfr27 j (by omega))
  replace ho1 := ho1.keep (fun j a b => hfr27 j (by omega))
  replace ho2 := ho2.keep (fun j a b => hfr27 j (by omega))
  replace hom := hom.keep (fun j a b => hfr27 j (by omega))
  replace hov := hov.keep (fun j a b => hfr27 j (by omega))
  replace hot := hot.keep (fun j a b => hfr27 j (by omega))
  refine v_aload_n C dX10_become_30 rfl ?_
  refine gf_X10_34 C dX10_become_31 (by assumption) ?_
  refine v_aload_n C dX10_become_34 rfl ?_
  refine gf_X10_34 C dX10_become_35 (by assumption) ?_
  refine mc_X10_87 C dX10_become_38 (hms.1) (c_Mis_become _ E (by omega) hms hom) rfl (fun r38 G38 hp38 => ?_)
  obtain ⟨hms, hfr38⟩ := hp38
  replace hs0 := (hfr38 _ (by omega)).trans hs0
  replace hs22 := (hfr38 _ (by omega)).trans hs22
  replace hs23 := (hfr38 _ (by omega)).trans hs23
  replace ho0 := (hfr38 _ (by omega)).trans ho0
  replace hF := hF.keep (fun j a b => hfr38 j (by omega))
  replace hg1 := hg1.keep (fun j a b => hfr38 j (by omega))
  replace hg2 := hg2.keep (fun j a b => hfr38 j (by omega))
  replace hsv := hsv.keep (fun j a b => hfr38 j (by omega))
  replace hct := hct.keep (fun j a b => hfr38 j (by omega))
  replace ho1 := ho1.keep (fun j a b => hfr38 j (by omega))
  replace ho2 := ho2.keep (fun j a b => hfr38 j (by omega))
  replace hom := hom.keep (fun j a b => hfr38 j (by omega))
  replace hov := hov.keep (fun j a b => hfr38 j (by omega))
  replace hot := hot.keep (fun j a b => hfr38 j (by omega))
  refine v_aload_n C dX10_become_41 rfl ?_
  refine gf_X10_41 C dX10_become_42 (by assumption) ?_
  refine v_aload_n C dX10_become_45 rfl ?_
  refine gf_X10_41 C dX10_become_46 (by assumption) ?_
  refine mc_X10_90 C dX10_become_49 (hsv.1) (c_Sav_become _ E (by omega) hsv hov) rfl (fun r49 G49 hp49 => ?_)
  obtain ⟨hsv, hfr49⟩ := hp49
  replace hs0 := (hfr49 _ (by omega)).trans hs0
  replace hs22 := (hfr49 _ (by omega)).trans hs22
  replace hs23 := (hfr49 _ (by omega)).trans hs23
  replace ho0 := (hfr49 _ (by omega)).trans ho0
  replace hF := hF.keep (fun j a b => hfr49 j (by omega))
  replace hg1 := hg1.keep (fun j a b => hfr49 j (by omega))
  replace hg2 := hg2.keep (fun j a b => hfr49 j (by omega))
  replace hms := hms.keep (fun j a b => hfr49 j (by omega))
  replace hct := hct.keep (fun j a b => hfr49 j (by omega))
  replace ho1 := ho1.keep (fun j a b => hfr49 j (by omega))
  replace ho2 := ho2.keep (fun j a b => hfr49 j (by omega))
  replace hom := hom.keep (fun j a b => hfr49 j (by omega))
  replace hov := hov.keep (fun j a b => hfr49 j (by omega))
  replace hot := hot.keep (fun j a b => hfr49 j (by omega))
  refine v_aload_n C dX10_become_52 rfl ?_
  refine gf_X10_50 C dX10_become_53 (by assumption) ?_
  refine v_aload_n C dX10_become_56 rfl ?_
  refine gf_X10_50 C dX10_become_57 (by assumption) ?_
  refine mc_X10_93 C dX10_become_60 (hct.rc) (c_Cnt_become _ E (by omega) hct hot) rfl (fun r60 G60 hp60 => ?_)
  obtain ⟨hct, hfr60⟩ := hp60
  replace hs0 := (hfr60 _ (by omega)).trans hs0
  replace hs22 := (hfr60 _ (by omega)).trans hs22
  replace hs23 := (hfr60 _ (by omega)).trans hs23
  replace ho0 := (hfr60 _ (by omega)).trans ho0
  replace hF := hF.keep (fun j a b => hfr60 j (by omega))
  replace hg1 := hg1.keep (fun j a b => hfr60 j (by omega))
  replace hg2 := hg2.keep (fun j a b => hfr60 j (by omega))
  replace hms := hms.keep (fun j a b => hfr60 j (by omega))
  replace hsv := hsv.keep (fun j a b => hfr60 j (by omega))
  replace ho1 := ho1.keep (fun j a b => hfr60 j (by omega))
  replace ho2 := ho2.keep (fun j a b => hfr60 j (by omega))
  replace hom := hom.keep (fun j a b => hfr60 j (by omega))
  replace hov := hov.keep (fun j a b => hfr60 j (by omega))
  replace hot := hot.keep (fun j a b => hfr60 j (by omega))
  refine v_vret C dX10_become_63 ?_
  refine ⟨⟨hs0, hg1, hg2, hms, hsv, hct, hs22, hs23⟩, fun j hj => ?_⟩
  rw [hfr60 j (by omega), hfr49 j (by omega), hfr38 j (by omega), hfr27 j (by omega), hfr16 j (by omega), hF5 j (by omega)]

set_option maxHeartbeats 4000000 in
set_option maxRecDepth 100000 in
theorem c_Str_becomeSelf (l : Launch) (E : Ev) {G : Gh} {s fam P W R lim room : Nat} {A B : Nat → Nat} {S : Str} (hfs : fam + 3 ≤ s) (hF : isFam E G fam P W R A B) (hst : isStr E G s fam P W R lim room S) : K_X10_become l E none G [.ref (ga E s), .ref (ga E s)] (fun _ G2 => isStr E G2 s fam P W R lim room S ∧ ∀ j, (j < s ∨ s + 24 ≤ j) → G2 j = G j) := by
  refine Fc.of rfl [some (.ref (ga E s)), some (.ref (ga E s))] 0 rfl (Nat.le_of_ble_eq_true rfl) ?_
  intro M hM0 hini C
  subst hM0
  obtain ⟨hs0, hg1, hg2, hms, hsv, hct, hs22, hs23⟩ := id hst
  have hrng := hF.choose_spec.choose_spec.2.2.2.2.2.1
  have hRW := RW_le (R := R) (W := W) (by omega) (by omega)
  refine v_aload_n C dX10_become_0 rfl ?_
  refine v_aload_n C dX10_become_1 rfl ?_
  refine gf_X10_65 C dX10_become_2 (by assumption) ?_
  refine pf_X10_65 C dX10_become_5 (by assumption) (fun G hG5 hF5 => ?_)
  first | replace hs0 := (hF5 _ (by omega)).trans hs0 | replace hs0 := hG5 | skip
  first | replace hs22 := (hF5 _ (by omega)).trans hs22 | replace hs22 := hG5 | skip
  first | replace hs23 := (hF5 _ (by omega)).trans hs23 | replace hs23 := hG5 | skip
  replace hF := hF.keep (fun j a b => hF5 j (by omega))
  replace hg1 := hg1.keep (fun j a b => hF5 j (by omega))
  replace hg2 := hg2.keep (fun j a b => hF5 j (by omega))
  replace hms := hms.keep (fun j a b => hF5 j (by omega))
  replace hsv := hsv.keep (fun j a b => hF5 j (by omega))
  replace hct := hct.keep (fun j a b => hF5 j (by omega))
  refine v_aload_n C dX10_become_8 rfl ?_
  refine gf_X10_14 C dX10_become_9 (by assumption) ?_
  refine v_aload_n C dX10_become_12 rfl ?_
  refine gf_X10_14 C dX10_become_13 (by assumption) ?_
  refine mc_X10_83 C dX10_become_16 (hg1.rc) (c_Grid_become _ E (by omega) hg1 hg1) rfl (fun r16 G16 hp16 => ?_)
  obtain ⟨hg1, hfr16⟩ := hp16
  replace hs0 := (hfr16 _ (by omega)).trans hs0
  replace hs22 := (hfr16 _ (by omega)).trans hs22
  replace hs23 := (hfr16 _ (by omega)).trans hs23
  replace hF := hF.keep (fun j a b => hfr16 j (by omega))
  replace hg2 := hg2.keep (fun j a b => hfr16 j (by omega))
  replace hms := hms.keep (fun j a b => hfr16 j (by omega))
  replace hsv := hsv.keep (fun j a b => hfr16 j (by omega))
  replace hct := hct.keep (fun j a b => hfr16 j (by omega))
  refine v_aload_n C dX10_become_19 rfl ?_
  refine gf_X10_20 C dX10_become_20 (by assumption) ?_
  refine v_aload_n C dX10_become_23 rfl ?_
  refine gf_X10_20 C dX10_become_24 (by assumption) ?_
  refine mc_X10_83 C dX10_become_27 (hg2.rc) (c_Grid_become _ E (by omega) hg2 hg2) rfl (fun r27 G27 hp27 => ?_)
  obtain ⟨hg2, hfr27⟩ := hp27
  replace hs0 := (hfr27 _ (by omega)).trans hs0
  replace hs22 := (hfr27 _ (by omega)).trans hs22
  replace hs23 := (hfr27 _ (by omega)).trans hs23
  replace hF := hF.keep (fun j a b => hfr27 j (by omega))
  replace hg1 := hg1.keep (fun j a b => hfr27 j (by omega))
  replace hms := hms.keep (fun j a b => hfr27 j (by omega))
  replace hsv := hsv.keep (fun j a b => hfr27 j (by omega))
  replace hct := hct.keep (fun j a b => hfr27 j (by omega))
  refine v_aload_n C dX10_become_30 rfl ?_
  refine gf_X10_34 C dX10_become_31 (by assumption) ?_
  refine v_aload_n C dX10_become_34 rfl ?_
  refine gf_X10_34 C dX10_become_35 (by assumption) ?_
  refine mc_X10_87 C dX10_become_38 (hms.1) (c_Mis_becomeSelf _ E hms) rfl (fun r38 G38 hp38 => ?_)
  obtain ⟨hms, hfr38⟩ := hp38
  replace hs0 := (hfr38 _ (by omega)).trans hs0
  replace hs22 := (hfr38 _ (by omega)).trans hs22
  replace hs23 := (hfr38 _ (by omega)).trans hs23
  replace hF := hF.keep (fun j a b => hfr38 j (by omega))
  replace hg1 := hg1.keep (fun j a b => hfr38 j (by omega))
  replace hg2 := hg2.keep (fun j a b => hfr38 j (by omega))
  replace hsv := hsv.keep (fun j a b => hfr38 j (by omega))
  replace hct := hct.keep (fun j a b => hfr38 j (by omega))
  refine v_aload_n C dX10_become_41 rfl ?_
  refine gf_X10_41 C dX10_become_42 (by assumption) ?_
  refine v_aload_n C dX10_become_45 rfl ?_
  refine gf_X10_41 C dX10_become_46 (by assumption) ?_
  refine mc_X10_90 C dX10_become_49 (hsv.1) (c_Sav_becomeSelf _ E hsv) rfl (fun r49 G49 hp49 => ?_)
  obtain ⟨hsv, hfr49⟩ := hp49
  replace hs0 := (hfr49 _ (by omega)).trans hs0
  replace hs22 := (hfr49 _ (by omega)).trans hs22
  replace hs23 := (hfr49 _ (by omega)).trans hs23
  replace hF := hF.keep (fun j a b => hfr49 j (by omega))
  replace hg1 := hg1.keep (fun j a b => hfr49 j (by omega))
  replace hg2 := hg2.keep (fun j a b => hfr49 j (by omega))
  replace hms := hms.keep (fun j a b => hfr49 j (by omega))
  replace hct := hct.keep (fun j a b => hfr49 j (by omega))
  refine v_aload_n C dX10_become_52 rfl ?_
  refine gf_X10_50 C dX10_become_53 (by assumption) ?_
  refine v_aload_n C dX10_become_56 rfl ?_
  refine gf_X10_50 C dX10_become_57 (by assumption) ?_
  refine mc_X10_93 C dX10_become_60 (hct.rc) (c_Cnt_becomeSelf _ E hct) rfl (fun r60 G60 hp60 => ?_)
  obtain ⟨hct, hfr60⟩ := hp60
  replace hs0 := (hfr60 _ (by omega)).trans hs0
  replace hs22 := (hfr60 _ (by omega)).trans hs22
  replace hs23 := (hfr60 _ (by omega)).trans hs23
  replace hF := hF.keep (fun j a b => hfr60 j (by omega))
  replace hg1 := hg1.keep (fun j a b => hfr60 j (by omega))
  replace hg2 := hg2.keep (fun j a b => hfr60 j (by omega))
  replace hms := hms.keep (fun j a b => hfr60 j (by omega))
  replace hsv := hsv.keep (fun j a b => hfr60 j (by omega))
  refine v_vret C dX10_become_63 ?_
  refine ⟨⟨hs0, hg1, hg2, hms, hsv, hct, hs22, hs23⟩, fun j hj => ?_⟩
  rw [hfr60 j (by omega), hfr49 j (by omega), hfr38 j (by omega), hfr27 j (by omega), hfr16 j (by omega), hF5 j (by omega)]

def svSpec (lim : Nat) (u m : Ctr) : Prop := ∃ rem : Ctr, (m ++ rem).Perm u ∧ m.length = min lim u.length ∧ (∀ c ∈ m, ∀ r ∈ rem, wk r c) ∧ srt m m.length
def strPut (lim room : Nat) (S S2 : Str) (sv : Ctr) : Str := (zN S + zN S2, fun r c => zP S r c + zP S2 r c, fun r c => zC S r c + zC S2 r c, (mPut lim (zM S) (zM S2) (zT S) (zT S2)).1, (mPut lim (zM S) (zM S2) (zT S) (zT S2)).2, sv, (cPutk room (zK S) (zG S || zG S2) (zK S2) (zK S2).length).1, (cPutk room (zK S) (zG S || zG S2) (zK S2) (zK S2).length).2)

set_option maxHeartbeats 4000000 in
set_option maxRecDepth 100000 in
theorem c_Str_put (l : Launch) (E : Ev) {G : Gh} {s s2 fam P W R lim room : Nat} {A B : Nat → Nat} {S S2 : Str} (hdis : s + 24 ≤ s2 ∨ s2 + 24 ≤ s) (hml : (zM S).length ≤ lim) (hml2 : (zM S2).length ≤ lim) (hbm : ∀ c ∈ mAdd (zM S) (zM S2), c.2.1 < 2 ^ 62) (hsl : (zS S).length ≤ lim) (hsl2 : (zS S2).length ≤ lim) (hbs : ∀ c ∈ sU lim (zS S) (zS S2) (zS S2).length, c.2.1 < 2 ^ 62) (hfs : fam + 3 ≤ s) (hF : isFam E G fam P W R A B) (hst : isStr E G s fam P W R lim room S) (hst2 : isStr E G s2 fam P W R lim room S2) : K_X10_putTogether l E none G [.ref (ga E s), .ref (ga E s2)] (fun _ G2 => ∃ sv, svSpec lim (sU lim (zS S) (zS S2) (zS S2).length) sv ∧ isStr E G2 s fam P W R lim room (strPut lim room S S2 sv) ∧ ∀ j, (j < s ∨ s + 24 ≤ j) → G2 j = G j) := by
  refine Fc.of rfl [some (.ref (ga E s)), some (.ref (ga E s2))] 0 rfl (Nat.le_of_ble_eq_true rfl) ?_
  intro M hM0 hini C
  subst hM0
  obtain ⟨hs0, hg1, hg2, hms, hsv, hct, hs22, hs23⟩ := id hst
  have hrng := hF.choose_spec.choose_spec.2.2.2.2.2.1
  have hRW := RW_le (R := R) (W := W) (by omega) (by omega)
  obtain ⟨ho0, ho1, ho2, hom, hov, hot, ho22, ho23⟩ := id hst2
  refine v_aload_n C dX10_putTogether_0 rfl ?_
  refine v_dup C dX10_putTogether_1 rfl ?_
  refine gf_X10_65 C dX10_putTogether_2 (by assumption) ?_
  refine v_aload_n C dX10_putTogether_5 rfl ?_
  refine gf_X10_65 C dX10_putTogether_6 (by assumption) ?_
  first | refine v_laddn C dX10_putTogether_9 ?_ | refine v_ladd C dX10_putTogether_9 ?_
  refine pf_X10_65 C dX10_putTogether_10 (by assumption) (fun G hG10 hF10 => ?_)
  first | replace hs0 := (hF10 _ (by omega)).trans hs0 | replace hs0 := hG10 | skip
  first | replace hs22 := (hF10 _ (by omega)).trans hs22 | replace hs22 := hG10 | skip
  first | replace hs23 := (hF10 _ (by omega)).trans hs23 | replace hs23 := hG10 | skip
  first | replace ho0 := (hF10 _ (by omega)).trans ho0 | replace ho0 := hG10 | skip
  replace hF := hF.keep (fun j a b => hF10 j (by omega))
  replace hg1 := hg1.keep (fun j a b => hF10 j (by omega))
  replace hg2 := hg2.keep (fun j a b => hF10 j (by omega))
  replace hms := hms.keep (fun j a b => hF10 j (by omega))
  replace hsv := hsv.keep (fun j a b => hF10 j (by omega))
  replace hct := hct.keep (fun j a b => hF10 j (by omega))
  replace ho1 := ho1.keep (fun j a b => hF10 j (by omega))
  replace ho2 := ho2.keep (fun j a b => hF10 j (by omega))
  replace hom := hom.keep (fun j a b => hF10 j (by omega))
  replace hov := hov.keep (fun j a b => hF10 j (by omega))
  replace hot := hot.keep (fun j a b => hF10 j (by omega))
  refine v_aload_n C dX10_putTogether_13 rfl ?_
  refine gf_X10_14 C dX10_putTogether_14 (by assumption) ?_
  refine v_aload_n C dX10_putTogether_17 rfl ?_
  refine gf_X10_14 C dX10_putTogether_18 (by assumption) ?_
  refine mc_X10_96 C dX10_putTogether_21 (hg1.rc) (c_Grid_put _ E none (by omega) (by omega) hg1 ho1) rfl (fun r21 G21 hp21 => ?_)
  obtain ⟨hg1, hfr21⟩ := hp21
  replace hs0 := (hfr21 _ (by omega)).trans hs0
  replace hs22 := (hfr21 _ (by omega)).trans hs22
  replace hs23 := (hfr21 _ (by omega)).trans hs23
  replace ho0 := (hfr21 _ (by omega)).trans ho0
  replace hF := hF.keep (fun j a b => hfr21 j (by omega))
  replace hg2 := hg2.keep (fun j a b => hfr21 j (by omega))
  replace hms := hms.keep (fun j a b => hfr21 j (by omega))
  replace hsv := hsv.keep (fun j a b => hfr21 j (by omega))
  replace hct := hct.keep (fun j a b => hfr21 j (by omega))
  replace ho1 := ho1.keep (fun j a b => hfr21 j (by omega))
  replace ho2 := ho2.keep (fun j a b => hfr21 j (by omega))
  replace hom := hom.keep (fun j a b => hfr21 j (by omega))
  replace hov := hov.keep (fun j a b => hfr21 j (by omega))
  replace hot := hot.keep (fun j a b => hfr21 j (by omega))
  refine v_aload_n C dX10_putTogether_24 rfl ?_
  refine gf_X10_20 C dX10_putTogether_25 (by assumption) ?_
  refine v_aload_n C dX10_putTogether_28 rfl ?_
  refine gf_X10_20 C dX10_putTogether_29 (by assumption) ?_
  refine mc_X10_96 C dX10_putTogether_32 (hg2.rc) (c_Grid_put _ E none (by omega) (by omega) hg2 ho2) rfl (fun r32 G32 hp32 => ?_)
  obtain ⟨hg2, hfr32⟩ := hp32
  replace hs0 := (hfr32 _ (by omega)).trans hs0
  replace hs22 := (hfr32 _ (by omega)).trans hs22
  replace hs23 := (hfr32 _ (by omega)).trans hs23
  replace ho0 := (hfr32 _ (by omega)).trans ho0
  replace hF := hF.keep (fun j a b => hfr32 j (by omega))
  replace hg1 := hg1.keep (fun j a b => hfr32 j (by omega))
  replace hms := hms.keep (fun j a b => hfr32 j (by omega))
  replace hsv := hsv.keep (fun j a b => hfr32 j (by omega))
  replace hct := hct.keep (fun j a b => hfr32 j (by omega))
  replace ho1 := ho1.keep (fun j a b => hfr32 j (by omega))
  replace ho2 := ho2.keep (fun j a b => hfr32 j (by omega))
  replace hom := hom.keep (fun j a b => hfr32 j (by omega))
  replace hov := hov.keep (fun j a b => hfr32 j (by omega))
  replace hot := hot.keep (fun j a b => hfr32 j (by omega))
  refine v_aload_n C dX10_putTogether_35 rfl ?_
  refine gf_X10_34 C dX10_putTogether_36 (by assumption) ?_
  refine v_aload_n C dX10_putTogether_39 rfl ?_
  refine gf_X10_34 C dX10_putTogether_40 (by assumption) ?_
  refine mc_X10_99 C dX10_putTogether_43 (hms.1) (c_Mis_put _ E (by omega) hml hml2 hbm hms hom) rfl (fun r43 G43 hp43 => ?_)
  obtain ⟨hms, hfr43⟩ := hp43
  replace hs0 := (hfr43 _ (by omega)).trans hs0
  replace hs22 := (hfr43 _ (by omega)).trans hs22
  replace hs23 := (hfr43 _ (by omega)).trans hs23
  replace ho0 := (hfr43 _ (by omega)).trans ho0
  replace hF := hF.keep (fun j a b => hfr43 j (by omega))
  replace hg1 := hg1.keep (fun j a b => hfr43 j (by omega))
  replace hg2 := hg2.keep (fun j a b => hfr43 j (by omega))
  replace hsv := hsv.keep (fun j a b => hfr43 j (by omega))
  replace hct := hct.keep (fun j a b => hfr43 j (by omega))
  replace ho1 := ho1.keep (fun j a b => hfr43 j (by omega))
  replace ho2 := ho2.keep (fun j a b => hfr43 j (by omega))
  replace hom := hom.keep (fun j a b => hfr43 j (by omega))
  replace hov := hov.keep (fun j a b => hfr43 j (by omega))
  replace hot := hot.keep (fun j a b => hfr43 j (by omega))
  refine v_aload_n C dX10_putTogether_46 rfl ?_
  refine gf_X10_41 C dX10_putTogether_47 (by assumption) ?_
  refine v_aload_n C dX10_putTogether_50 rfl ?_
  refine gf_X10_41 C dX10_putTogether_51 (by assumption) ?_
  refine mc_X10_101 C dX10_putTogether_54 (hsv.1) (c_Sav_put _ E (by omega) hsl hsl2 hbs hsv hov) rfl (fun r54 G54 hp54 => ?_)
  obtain ⟨sv, rem, hsv, hsv1, hsv2, hsv3, hsv4, hfr54⟩ := hp54
  replace hs0 := (hfr54 _ (by omega)).trans hs0
  replace hs22 := (hfr54 _ (by omega)).trans hs22
  replace hs23 := (hfr54 _ (by omega)).trans hs23
  replace ho0 := (hfr54 _ (by omega)).trans ho0
  replace hF := hF.keep (fun j a b => hfr54 j (by omega))
  replace hg1 := hg1.keep (fun j a b => hfr54 j (by omega))
  replace hg2 := hg2.keep (fun j a b => hfr54 j (by omega))
  replace hms := hms.keep (fun j a b => hfr54 j (by omega))
  replace hct := hct.keep (fun j a b => hfr54 j (by omega))
  replace ho1 := ho1.keep (fun j a b => hfr54 j (by omega))
  replace ho2 := ho2.keep (fun j a b => hfr54 j (by omega))
  replace hom := hom.keep (fun j a b => hfr54 j (by omega))
  replace hov := hov.keep (fun j a b => hfr54 j (by omega))
  replace hot := hot.keep (fun j a b => hfr54 j (by omega))
  refine v_aload_n C dX10_putTogether_57 rfl ?_
  refine gf_X10_50 C dX10_putTogether_58 (by assumption) ?_
  refine v_aload_n C dX10_putTogether_61 rfl ?_
  refine gf_X10_50 C dX10_putTogether_62 (by assumption) ?_
  refine mc_X10_103 C dX10_putTogether_65 (hct.rc) (c_Cnt_put _ E (by omega) hct hot) rfl (fun r65 G65 hp65 => ?_)
  obtain ⟨hct, hfr65⟩ := hp65
  replace hs0 := (hfr65 _ (by omega)).trans hs0
  replace hs22 := (hfr65 _ (by omega)).trans hs22
  replace hs23 := (hfr65 _ (by omega)).trans hs23
  replace ho0 := (hfr65 _ (by omega)).trans ho0
  replace hF := hF.keep (fun j a b => hfr65 j (by omega))
  replace hg1 := hg1.keep (fun j a b => hfr65 j (by omega))
  replace hg2 := hg2.keep (fun j a b => hfr65 j (by omega))
  replace hms := hms.keep (fun j a b => hfr65 j (by omega))
  replace hsv := hsv.keep (fun j a b => hfr65 j (by omega))
  replace ho1 := ho1.keep (fun j a b => hfr65 j (by omega))
  replace ho2 := ho2.keep (fun j a b => hfr65 j (by omega))
  replace hom := hom.keep (fun j a b => hfr65 j (by omega))
  replace hov := hov.keep (fun j a b => hfr65 j (by omega))
  replace hot := hot.keep (fun j a b => hfr65 j (by omega))
  refine v_vret C dX10_putTogether_68 ?_
  refine ⟨sv, ⟨rem, hsv1, hsv2, hsv3, hsv4⟩, ⟨hs0, hg1, hg2, hms, hsv, hct, hs22, hs23⟩, fun j hj => ?_⟩
  rw [hfr65 j (by omega), hfr54 j (by omega), hfr43 j (by omega), hfr32 j (by omega), hfr21 j (by omega), hF10 j (by omega)]

set_option maxHeartbeats 4000000 in
set_option maxRecDepth 100000 in
theorem c_Str_putSelf (l : Launch) (E : Ev) {G : Gh} {s fam P W R lim room : Nat} {A B : Nat → Nat} {S : Str} (hml : (zM S).length ≤ lim) (hbm : ∀ c ∈ mAdd (zM S) (zM S), c.2.1 < 2 ^ 62) (hsl : (zS S).length ≤ lim) (hbs : ∀ c ∈ sU lim (zS S) (zS S) (zS S).length, c.2.1 < 2 ^ 62) (hfs : fam + 3 ≤ s) (hF : isFam E G fam P W R A B) (hst : isStr E G s fam P W R lim room S) : K_X10_putTogether l E none G [.ref (ga E s), .ref (ga E s)] (fun _ G2 => ∃ sv, svSpec lim (sU lim (zS S) (zS S) (zS S).length) sv ∧ isStr E G2 s fam P W R lim room (strPut lim room S S sv) ∧ ∀ j, (j < s ∨ s + 24 ≤ j) → G2 j = G j) := by
  refine Fc.of rfl [some (.ref (ga E s)), some (.ref (ga E s))] 0 rfl (Nat.le_of_ble_eq_true rfl) ?_
  intro M hM0 hini C
  subst hM0
  obtain ⟨hs0, hg1, hg2, hms, hsv, hct, hs22, hs23⟩ := id hst
  have hrng := hF.choose_spec.choose_spec.2.2.2.2.2.1
  have hRW := RW_le (R := R) (W := W) (by omega) (by omega)
  refine v_aload_n C dX10_putTogether_0 rfl ?_
  refine v_dup C dX10_putTogether_1 rfl ?_
  refine gf_X10_65 C dX10_putTogether_2 (by assumption) ?_
  refine v_aload_n C dX10_putTogether_5 rfl ?_
  refine gf_X10_65 C dX10_putTogether_6 (by assumption) ?_
  first | refine v_laddn C dX10_putTogether_9 ?_ | refine v_ladd C dX10_putTogether_9 ?_
  refine pf_X10_65 C dX10_putTogether_10 (by assumption) (fun G hG10 hF10 => ?_)
  first | replace hs0 := (hF10 _ (by omega)).trans hs0 | replace hs0 := hG10 | skip
  first | replace hs22 := (hF10 _ (by omega)).trans hs22 | replace hs22 := hG10 | skip
  first | replace hs23 := (hF10 _ (by omega)).trans hs23 | replace hs23 := hG10 | skip
  replace hF := hF.keep (fun j a b => hF10 j (by omega))
  replace hg1 := hg1.keep (fun j a b => hF10 j (by omega))
  replace hg2 := hg2.keep (fun j a b => hF10 j (by omega))
  replace hms := hms.keep (fun j a b => hF10 j (by omega))
  replace hsv := hsv.keep (fun j a b => hF10 j (by omega))
  replace hct := hct.keep (fun j a b => hF10 j (by omega))
  refine v_aload_n C dX10_putTogether_13 rfl ?_
  refine gf_X10_14 C dX10_putTogether_14 (by assumption) ?_
  refine v_aload_n C dX10_putTogether_17 rfl ?_
  refine gf_X10_14 C dX10_putTogether_18 (by assumption) ?_
  refine mc_X10_96 C dX10_putTogether_21 (hg1.rc) (c_Grid_put _ E none (by omega) (by omega) hg1 hg1) rfl (fun r21 G21 hp21 => ?_)
  obtain ⟨hg1, hfr21⟩ := hp21
  replace hs0 := (hfr21 _ (by omega)).trans hs0
  replace hs22 := (hfr21 _ (by omega)).trans hs22
  replace hs23 := (hfr21 _ (by omega)).trans hs23
  replace hF := hF.keep (fun j a b => hfr21 j (by omega))
  replace hg2 := hg2.keep (fun j a b => hfr21 j (by omega))
  replace hms := hms.keep (fun j a b => hfr21 j (by omega))
  replace hsv := hsv.keep (fun j a b => hfr21 j (by omega))
  replace hct := hct.keep (fun j a b => hfr21 j (by omega))
  refine v_aload_n C dX10_putTogether_24 rfl ?_
  refine gf_X10_20 C dX10_putTogether_25 (by assumption) ?_
  refine v_aload_n C dX10_putTogether_28 rfl ?_
  refine gf_X10_20 C dX10_putTogether_29 (by assumption) ?_
  refine mc_X10_96 C dX10_putTogether_32 (hg2.rc) (c_Grid_put _ E none (by omega) (by omega) hg2 hg2) rfl (fun r32 G32 hp32 => ?_)
  obtain ⟨hg2, hfr32⟩ := hp32
  replace hs0 := (hfr32 _ (by omega)).trans hs0
  replace hs22 := (hfr32 _ (by omega)).trans hs22
  replace hs23 := (hfr32 _ (by omega)).trans hs23
  replace hF := hF.keep (fun j a b => hfr32 j (by omega))
  replace hg1 := hg1.keep (fun j a b => hfr32 j (by omega))
  replace hms := hms.keep (fun j a b => hfr32 j (by omega))
  replace hsv := hsv.keep (fun j a b => hfr32 j (by omega))
  replace hct := hct.keep (fun j a b => hfr32 j (by omega))
  refine v_aload_n C dX10_putTogether_35 rfl ?_
  refine gf_X10_34 C dX10_putTogether_36 (by assumption) ?_
  refine v_aload_n C dX10_putTogether_39 rfl ?_
  refine gf_X10_34 C dX10_putTogether_40 (by assumption) ?_
  refine mc_X10_99 C dX10_putTogether_43 (hms.1) (c_Mis_putSelf _ E hml hbm hms) rfl (fun r43 G43 hp43 => ?_)
  obtain ⟨hms, hfr43⟩ := hp43
  replace hs0 := (hfr43 _ (by omega)).trans hs0
  replace hs22 := (hfr43 _ (by omega)).trans hs22
  replace hs23 := (hfr43 _ (by omega)).trans hs23
  replace hF := hF.keep (fun j a b => hfr43 j (by omega))
  replace hg1 := hg1.keep (fun j a b => hfr43 j (by omega))
  replace hg2 := hg2.keep (fun j a b => hfr43 j (by omega))
  replace hsv := hsv.keep (fun j a b => hfr43 j (by omega))
  replace hct := hct.keep (fun j a b => hfr43 j (by omega))
  refine v_aload_n C dX10_putTogether_46 rfl ?_
  refine gf_X10_41 C dX10_putTogether_47 (by assumption) ?_
  refine v_aload_n C dX10_putTogether_50 rfl ?_
  refine gf_X10_41 C dX10_putTogether_51 (by assumption) ?_
  refine mc_X10_101 C dX10_putTogether_54 (hsv.1) (c_Sav_putSelf _ E hsl hbs hsv) rfl (fun r54 G54 hp54 => ?_)
  obtain ⟨sv, rem, hsv, hsv1, hsv2, hsv3, hsv4, hfr54⟩ := hp54
  replace hs0 := (hfr54 _ (by omega)).trans hs0
  replace hs22 := (hfr54 _ (by omega)).trans hs22
  replace hs23 := (hfr54 _ (by omega)).trans hs23
  replace hF := hF.keep (fun j a b => hfr54 j (by omega))
  replace hg1 := hg1.keep (fun j a b => hfr54 j (by omega))
  replace hg2 := hg2.keep (fun j a b => hfr54 j (by omega))
  replace hms := hms.keep (fun j a b => hfr54 j (by omega))
  replace hct := hct.keep (fun j a b => hfr54 j (by omega))
  refine v_aload_n C dX10_putTogether_57 rfl ?_
  refine gf_X10_50 C dX10_putTogether_58 (by assumption) ?_
  refine v_aload_n C dX10_putTogether_61 rfl ?_
  refine gf_X10_50 C dX10_putTogether_62 (by assumption) ?_
  refine mc_X10_103 C dX10_putTogether_65 (hct.rc) (c_Cnt_putSelf _ E hct) rfl (fun r65 G65 hp65 => ?_)
  obtain ⟨hct, hfr65⟩ := hp65
  replace hs0 := (hfr65 _ (by omega)).trans hs0
  replace hs22 := (hfr65 _ (by omega)).trans hs22
  replace hs23 := (hfr65 _ (by omega)).trans hs23
  replace hF := hF.keep (fun j a b => hfr65 j (by omega))
  replace hg1 := hg1.keep (fun j a b => hfr65 j (by omega))
  replace hg2 := hg2.keep (fun j a b => hfr65 j (by omega))
  replace hms := hms.keep (fun j a b => hfr65 j (by omega))
  replace hsv := hsv.keep (fun j a b => hfr65 j (by omega))
  refine v_vret C dX10_putTogether_68 ?_
  refine ⟨sv, ⟨rem, hsv1, hsv2, hsv3, hsv4⟩, ⟨hs0, hg1, hg2, hms, hsv, hct, hs22, hs23⟩, fun j hj => ?_⟩
  rw [hfr65 j (by omega), hfr54 j (by omega), hfr43 j (by omega), hfr32 j (by omega), hfr21 j (by omega), hF10 j (by omega)]

