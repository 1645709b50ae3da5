/-! Best (class 0); what a stream is sure of -/
def lmax (x y : Int64) : Int64 := if y < x then x else y
def lmin (x y : Int64) : Int64 := if y < x then y else x
def bLow (m sl : Int64) : Int64 := lmax (lmax (lN 0) (lN 0)) (lmax m sl)
def bHigh (mh sh ph ch : Int64) : Int64 := if lmin mh sh = lN 0 then lN 0 else lmin (lmin mh sh) (lmin ph ch)

set_option maxHeartbeats 4000000 in
set_option maxRecDepth 100000 in
theorem c_Best_low (l : Launch) (E : Ev) (z : Option Nat) {G : Gh} {s fam P W R lim room : Nat} {A B : Nat → Nat} {S : Str} {x : Nat} (hx : x < P) (hF : isFam E G fam P W R A B) (hst : isStr E G s fam P W R lim room S) : K_X0_low l E z G [.ref (ga E (s + 23)), .int (nI x)] (fun r G2 => r = bLow (lN (numOf (zM S) x)) (sLow (zS S) x) ∧ G = G2) := by
  refine Fc.of rfl [some (.ref (ga E (s + 23))), some (.int (nI x)), none, none] 2 rfl (Nat.le_of_ble_eq_true rfl) ?_
  intro M hM0 hini C
  subst hM0
  obtain ⟨hs0, hg1, hg2, hms, hsv, hct, hs22, hs23⟩ := id hst
  have hrng := hF.choose_spec.choose_spec.2.2.2.2.2.1
  refine v_aload_n C dX0_low_0 rfl ?_
  refine gf_X0_7 C dX0_low_1 (by assumption) ?_
  refine v_iload_n C dX0_low_4 rfl ?_
  refine mc_X0_33 C dX0_low_5 (hg1.rc) (c_Grid_low _ E z) rfl (fun r5 G5 hp5 => ?_)
  obtain ⟨rfl, rfl⟩ := hp5
  refine v_aload_n C dX0_low_8 rfl ?_
  refine gf_X0_13 C dX0_low_9 (by assumption) ?_
  refine v_iload_n C dX0_low_12 rfl ?_
  refine mc_X0_33 C dX0_low_13 (hg2.rc) (c_Grid_low _ E z) rfl (fun r13 G13 hp13 => ?_)
  obtain ⟨rfl, rfl⟩ := hp13
  refine mc_X0_36 C dX0_low_16 rfl ?_
  refine v_topl (show _ = lmax _ _ from rfl) ?_
  refine v_lstore_2 C dX0_low_19 (by decide) (by first | rfl | assumption) ?_
  refine v_lload_n C dX0_low_20 rfl ?_
  refine v_aload_n C dX0_low_21 rfl ?_
  refine gf_X0_16 C dX0_low_22 (by assumption) ?_
  refine v_iload_n C dX0_low_25 rfl ?_
  refine mc_X0_42 C dX0_low_26 (hms.1) (c_Mis_low _ E z hx hms) rfl (fun r26 G26 hp26 => ?_)
  obtain ⟨rfl, rfl⟩ := hp26
  refine v_aload_n C dX0_low_29 rfl ?_
  refine gf_X0_20 C dX0_low_30 (by assumption) ?_
  refine v_iload_n C dX0_low_33 rfl ?_
  refine mc_X0_45 C dX0_low_34 (hsv.1) (c_Sav_low _ E z hx hsv) rfl (fun r34 G34 hp34 => ?_)
  obtain ⟨rfl, rfl⟩ := hp34
  refine mc_X0_36 C dX0_low_37 rfl ?_
  refine v_topl (show _ = lmax _ _ from rfl) ?_
  refine mc_X0_36 C dX0_low_40 rfl ?_
  refine v_topl (show _ = lmax _ _ from rfl) ?_
  refine v_lret C dX0_low_43 ?_
  exact ⟨rfl, rfl⟩

set_option maxHeartbeats 4000000 in
set_option maxRecDepth 100000 in
theorem c_Best_high (l : Launch) (E : Ev) (z : Option Nat) {G : Gh} {s fam P W R lim room : Nat} {A B : Nat → Nat} {S : Str} {x : Nat} (hx : x < P) (hbp : ∀ r, r < R → ∀ c, c < W → zP S r c < 2 ^ 62) (hbc : ∀ r, r < R → ∀ c, c < W → zC S r c < 2 ^ 62) (hF : isFam E G fam P W R A B) (hst : isStr E G s fam P W R lim room S) : K_X0_high l E z G [.ref (ga E (s + 23)), .int (nI x)] (fun r G2 => r = bHigh (lN (numOf (zM S) x + zT S)) (lN (sEst lim (zS S) x)) (lN (gEst P W R A B (zP S) x)) (lN (gEst P W R A B (zC S) x)) ∧ G = G2) := by
  refine Fc.of rfl [some (.ref (ga E (s + 23))), some (.int (nI x)), none, none] 2 rfl (Nat.le_of_ble_eq_true rfl) ?_
  intro M hM0 hini C
  subst hM0
  obtain ⟨hs0, hg1, hg2, hms, hsv, hct, hs22, hs23⟩ := id hst
  have hrng := hF.choose_spec.choose_spec.2.2.2.2.2.1
  refine v_aload_n C dX0_high_0 rfl ?_
  refine gf_X0_16 C dX0_high_1 (by assumption) ?_
  refine v_iload_n C dX0_high_4 rfl ?_
  refine mc_X0_48 C dX0_high_5 (hms.1) (c_Mis_high _ E z hx hms) rfl (fun r5 G5 hp5 => ?_)
  obtain ⟨rfl, rfl⟩ := hp5
  refine v_aload_n C dX0_high_8 rfl ?_
  refine gf_X0_20 C dX0_high_9 (by assumption) ?_
  refine v_iload_n C dX0_high_12 rfl ?_
  refine mc_X0_49 C dX0_high_13 (hsv.1) (c_Sav_high _ E z hx hsv) rfl (fun r13 G13 hp13 => ?_)
  obtain ⟨rfl, rfl⟩ := hp13
  refine mc_X0_50 C dX0_high_16 rfl ?_
  refine v_topl (show _ = lmin _ _ from rfl) ?_
  refine v_lstore_2 C dX0_high_19 (by decide) (by first | rfl | assumption) ?_
  refine v_lload_n C dX0_high_20 rfl ?_
  refine v_lconst (v := lN 0) C dX0_high_21 (by decide) ?_
  refine v_lcmp_ne C 28 dX0_high_22 dX0_high_23 (by decide) (fun h22 => ?_) (fun h22 => ?_)
  · skip
    refine v_lload_n C dX0_high_28 rfl ?_
    refine v_aload_n C dX0_high_29 rfl ?_
    refine gf_X0_7 C dX0_high_30 (by assumption) ?_
    refine v_iload_n C dX0_high_33 rfl ?_
    refine mc_X0_53 C dX0_high_34 (hg1.rc) (c_Grid_high _ E z hx hbp hF hg1) rfl (fun r34 G34 hp34 => ?_)
    obtain ⟨rfl, rfl⟩ := hp34
    refine v_aload_n C dX0_high_37 rfl ?_
    refine gf_X0_13 C dX0_high_38 (by assumption) ?_
    refine v_iload_n C dX0_high_41 rfl ?_
    refine mc_X0_53 C dX0_high_42 (hg2.rc) (c_Grid_high _ E z hx hbc hF hg2) rfl (fun r42 G42 hp42 => ?_)
    obtain ⟨rfl, rfl⟩ := hp42
    refine mc_X0_50 C dX0_high_45 rfl ?_
    refine v_topl (show _ = lmin _ _ from rfl) ?_
    refine mc_X0_50 C dX0_high_48 rfl ?_
    refine v_topl (show _ = lmin _ _ from rfl) ?_
    refine v_lret C dX0_high_51 ?_
    exact ⟨by unfold bHigh; rw [if_neg h22], rfl⟩
  · skip
    refine v_lconst (v := lN 0) C dX0_high_26 (by decide) ?_
    refine v_lret C dX0_high_27 ?_
    exact ⟨by unfold bHigh; rw [if_pos h22], rfl⟩

set_option maxHeartbeats 4000000 in
set_option maxRecDepth 100000 in
theorem c_Best_guess (l : Launch) (E : Ev) (z : Option Nat) {G : Gh} {s fam P W R lim room : Nat} {A B : Nat → Nat} {S : Str} {x : Nat} (hx : x < P) (hbp : ∀ r, r < R → ∀ c, c < W → zP S r c < 2 ^ 62) (hbc : ∀ r, r < R → ∀ c, c < W → zC S r c < 2 ^ 62) (hF : isFam E G fam P W R A B) (hst : isStr E G s fam P W R lim room S) : K_X0_guess l E z G [.ref (ga E (s + 23)), .int (nI x)] (fun r G2 => r = (bLow (lN (numOf (zM S) x)) (sLow (zS S) x) + bHigh (lN (numOf (zM S) x + zT S)) (lN (sEst lim (zS S) x)) (lN (gEst P W R A B (zP S) x)) (lN (gEst P W R A B (zC S) x))) / 2 ∧ G = G2) := by
  refine Fc.of rfl [some (.ref (ga E (s + 23))), some (.int (nI x))] 0 rfl (Nat.le_of_ble_eq_true rfl) ?_
  intro M hM0 hini C
  subst hM0
  obtain ⟨hs0, hg1, hg2, hms, hsv, hct, hs22, hs23⟩ := id hst
  have hrng := hF.choose_spec.choose_spec.2.2.2.2.2.1
  refine v_aload_n C dX0_guess_0 rfl ?_
  refine v_iload_n C dX0_guess_1 rfl ?_
  refine mc_X0_24 C dX0_guess_2 (by assumption) (c_Best_low _ E z hx hF hst) rfl (fun r2 G2 hp2 => ?_)
  obtain ⟨rfl, rfl⟩ := hp2
  refine v_aload_n C dX0_guess_5 rfl ?_
  refine v_iload_n C dX0_guess_6 rfl ?_
  refine mc_X0_28 C dX0_guess_7 (by assumption) (c_Best_high _ E z hx hbp hbc hF hst) rfl (fun r7 G7 hp7 => ?_)
  obtain ⟨rfl, rfl⟩ := hp7
  refine v_ladd C dX0_guess_10 ?_
  refine v_ldc2 C tw813 dX0_guess_11 ?_
  refine v_ldiv C dX0_guess_14 (by decide) ?_
  refine v_lret C dX0_guess_15 ?_
  exact ⟨rfl, rfl⟩

def holdsC (lo hi : Nat → Int64) (l : Cnt) : Bool := l.all (fun c => !(decide (lN c.2 < lo c.1)) && !(decide (hi c.1 < lN c.2)))
theorem holdsC_no {lo hi : Nat → Int64} {l : Cnt} {i : Nat} {c : Nat × Nat} (h : l[i]? = some c) (hn : lN c.2 < lo c.1 ∨ hi c.1 < lN c.2) : holdsC lo hi l = false := by
  unfold holdsC
  rw [List.all_eq_false]
  refine ⟨c, List.mem_of_getElem? h, ?_⟩
  rcases hn with q | q <;> simp [q]
theorem holdsC_yes {lo hi : Nat → Int64} {l : Cnt} (h : ∀ (i : Nat) (c : Nat × Nat), l[i]? = some c → ¬ lN c.2 < lo c.1 ∧ ¬ hi c.1 < lN c.2) : holdsC lo hi l = true := by
  unfold holdsC
  rw [List.all_eq_true]
  intro c hc
  obtain ⟨i, hi⟩ := List.getElem?_of_mem hc
  obtain ⟨q1, q2⟩ := h i c hi
  simp [q1, q2]

set_option maxHeartbeats 4000000 in
set_option maxRecDepth 100000 in
theorem hold_plain {M : Mx} {E : Ev} {z : Option Nat} (C : Cx M E yX10_holdsCounts.cls cX10_holdsCounts 6 (some .boolean) 5 109 0 0) {post : Bool → Gh → Prop} {G : Gh} {s fam P W R lim room : Nat} {A B : Nat → Nat} {S : Str} (hbp : ∀ r, r < R → ∀ c, c < W → zP S r c < 2 ^ 62) (hbc : ∀ r, r < R → ∀ c, c < W → zC S r c < 2 ^ 62) (hF : isFam E G fam P W R A B) (hst : isStr E G s fam P W R lim room S) (hend : ∀ {v : Bool}, v = holdsC (fun _ => lN 0) (fun x => lN (gEst P W R A B (zP S) x)) (zK S) → post v G) : ∀ (t i : Nat), i ≤ (zK S).length → (zK S).length - i < t → ∀ (x3 x4 x5 : Option Value), lo_c x3 = true → (∀ (j : Nat) (c : Nat × Nat), j < i → (zK S)[j]? = some c → ¬ lN c.2 < (fun _ => lN 0) c.1 ∧ ¬ (fun x => lN (gEst P W R A B (zP S) x)) c.1 < lN c.2) → V M E 6 (QE M E (fun r : Bool => some (.int (bI r))) z 0 0 post) z 0 0 G 2 [some (.ref (ga E s)), some (.ref (ga E (s + 1))), some (.int (nI i)), x3, x4, x5] [] := by
  obtain ⟨hs0, hg1, hg2, hms, hsv, hct, hs22, hs23⟩ := id hst
  have hrng := hF.choose_spec.choose_spec.2.2.2.2.2.1
  obtain ⟨kk, kn, hk0, hk1, hk2, hkrep, hkwf, hkkp, hksr⟩ := id hct
  intro t
  induction t with
  | zero => intro i _ h; omega
  | succ t ih =>
    intro i hi ht x3 x4 x5 hx3 hok
    refine v_iload_n C dX10_holdsCounts_2 rfl ?_
    refine v_aload_n C dX10_holdsCounts_3 rfl ?_
    refine gf_X10_50 C dX10_holdsCounts_4 (by assumption) ?_
    refine gf_X10_129 C dX10_holdsCounts_7 (by assumption) ?_
    refine v_icmpn_ge C 68 dX10_holdsCounts_10 (by decide) (by omega) (by omega) (fun h10 => ?_) (fun h10 => ?_)
    · skip
      refine v_iconst (v := bI true) C dX10_holdsCounts_68 (by decide) ?_
      refine v_zret C dX10_holdsCounts_69 ?_
      exact hend (holdsC_yes (lo := (fun _ => lN 0)) (hi := (fun x => lN (gEst P W R A B (zP S) x))) (fun j c hjc => hok j c (by have := (List.getElem?_eq_some_iff.mp hjc).1; omega) hjc)).symm
    · skip
      have hci : (zK S)[i]? = some (zK S)[i] := List.getElem?_eq_getElem h10
      have hxk := hkkp _ (List.mem_of_getElem? hci)
      have hrj := hkrep i _ hci
      refine v_aload_n C dX10_holdsCounts_13 rfl ?_
      refine gf_X10_50 C dX10_holdsCounts_14 (by assumption) ?_
      refine gf_X10_132 C dX10_holdsCounts_17 (by assumption) ?_
      refine v_iload_n C dX10_holdsCounts_20 rfl ?_
      refine v_iald C dX10_holdsCounts_21 (by assumption) (by omega) (by omega) hrj.1 ?_
      refine v_istore_3 C dX10_holdsCounts_22 (by decide) (by first | rfl | assumption) ?_
      refine v_aload_n C dX10_holdsCounts_23 rfl ?_
      refine gf_X10_50 C dX10_holdsCounts_24 (by assumption) ?_
      refine gf_X10_136 C dX10_holdsCounts_27 (by assumption) ?_
      refine v_iload_n C dX10_holdsCounts_30 rfl ?_
      refine v_lald C dX10_holdsCounts_31 (by assumption) (by omega) (by omega) hrj.2 ?_
      refine v_lstore_4 C dX10_holdsCounts_32 (by decide) (by first | rfl | assumption) ?_
      refine v_aload_n C dX10_holdsCounts_34 rfl ?_
      refine v_iload_n C dX10_holdsCounts_35 rfl ?_
      refine mc_X10_140_X4 C dX10_holdsCounts_36 (hg1.rc) (c_Grid_low _ E z) rfl (fun r36 G36 hp36 => ?_)
      obtain ⟨rfl, rfl⟩ := hp36
      refine v_lload C dX10_holdsCounts_41 rfl ?_
      refine v_lcmp_gt C 60 dX10_holdsCounts_43 dX10_holdsCounts_44 (by decide) (fun h43 => ?_) (fun h43 => ?_)
      · skip
        refine v_iconst (v := bI false) C dX10_holdsCounts_60 (by decide) ?_
        refine v_zret C dX10_holdsCounts_61 ?_
        first
          | exact hend (holdsC_no (lo := (fun _ => lN 0)) (hi := (fun x => lN (gEst P W R A B (zP S) x))) hci (Or.inl h43)).symm
          | exact hend (holdsC_no (lo := (fun _ => lN 0)) (hi := (fun x => lN (gEst P W R A B (zP S) x))) hci (Or.inr (Int64.not_le.mp h56))).symm
      · skip
        refine v_aload_n C dX10_holdsCounts_47 rfl ?_
        refine v_iload_n C dX10_holdsCounts_48 rfl ?_
        refine mc_X10_144_X4 C dX10_holdsCounts_49 (hg1.rc) (c_Grid_high _ E z hxk hbp hF hg1) rfl (fun r49 G49 hp49 => ?_)
        obtain ⟨rfl, rfl⟩ := hp49
        refine v_lload C dX10_holdsCounts_54 rfl ?_
        refine v_lcmp_ge C 62 dX10_holdsCounts_56 dX10_holdsCounts_57 (by decide) (fun h56 => ?_) (fun h56 => ?_)
        · skip
          first | refine v_iinc_2 C dX10_holdsCounts_62 (nI_1 _) (by decide) (by first | rfl | assumption) ?_ | refine v_iinc_2 C dX10_holdsCounts_62 rfl (by decide) (by first | rfl | assumption) ?_
          refine v_goto C 2 dX10_holdsCounts_65 (by decide) ?_
          refine ih (i + 1) (by omega) (by omega) _ _ _ rfl (fun j c hj hjc => ?_)
          rcases Nat.lt_or_ge j i with q | q
          · exact hok j c q hjc
          · have e9 : j = i := by omega
            subst e9; rw [hci] at hjc; cases hjc; exact ⟨h43, Int64.not_lt.mpr h56⟩
        · skip
          refine v_iconst (v := bI false) C dX10_holdsCounts_60 (by decide) ?_
          refine v_zret C dX10_holdsCounts_61 ?_
          first
            | exact hend (holdsC_no (lo := (fun _ => lN 0)) (hi := (fun x => lN (gEst P W R A B (zP S) x))) hci (Or.inl h43)).symm
            | exact hend (holdsC_no (lo := (fun _ => lN 0)) (hi := (fun x => lN (gEst P W R A B (zP S) x))) hci (Or.inr (Int64.not_le.mp h56))).symm
set_option maxHeartbeats 4000000 in
set_option maxRecDepth 100000 in
theorem c_Str_holds_plain (l : Launch) (E : Ev) (z : Option Nat) {G : Gh} {s fam P W R lim room : Nat} {A B : Nat → Nat} {S : Str} (hbp : ∀ r, r < R → ∀ c, c < W → zP S r c < 2 ^ 62) (hbc : ∀ r, r < R → ∀ c, c < W → zC S r c < 2 ^ 62) (hF : isFam E G fam P W R A B) (hst : isStr E G s fam P W R lim room S) : K_X10_holdsCounts l E z G [.ref (ga E s), .ref (ga E (s + 1))] (fun r G2 => r = holdsC (fun _ => lN 0) (fun x => lN (gEst P W R A B (zP S) x)) (zK S) ∧ G = G2) := by
  refine Fc.of rfl [some (.ref (ga E s)), some (.ref (ga E (s + 1))), none, none, none, none] 4 rfl (Nat.le_of_ble_eq_true rfl) ?_
  intro M hM0 hini C
  subst hM0
  obtain ⟨hs0, hg1, hg2, hms, hsv, hct, hs22, hs23⟩ := id hst
  have hrng := hF.choose_spec.choose_spec.2.2.2.2.2.1
  obtain ⟨kk, kn, hk0, hk1, hk2, hkrep, hkwf, hkkp, hksr⟩ := id hct
  refine v_iconst (v := nI 0) C dX10_holdsCounts_0 (by decide) ?_
  refine v_istore_2 C dX10_holdsCounts_1 (by decide) (by first | rfl | assumption) ?_
  exact hold_plain C hbp hbc hF hst (fun h => ⟨h, rfl⟩) ((zK S).length + 1) 0 (by omega) (by omega) _ _ _ rfl (fun j _ h => absurd h (Nat.not_lt_zero j))

set_option maxHeartbeats 4000000 in
set_option maxRecDepth 100000 in
theorem hold_careful {M : Mx} {E : Ev} {z : Option Nat} (C : Cx M E yX10_holdsCounts.cls cX10_holdsCounts 6 (some .boolean) 5 109 0 0) {post : Bool → Gh → Prop} {G : Gh} {s fam P W R lim room : Nat} {A B : Nat → Nat} {S : Str} (hbp : ∀ r, r < R → ∀ c, c < W → zP S r c < 2 ^ 62) (hbc : ∀ r, r < R → ∀ c, c < W → zC S r c < 2 ^ 62) (hF : isFam E G fam P W R A B) (hst : isStr E G s fam P W R lim room S) (hend : ∀ {v : Bool}, v = holdsC (fun _ => lN 0) (fun x => lN (gEst P W R A B (zC S) x)) (zK S) → post v G) : ∀ (t i : Nat), i ≤ (zK S).length → (zK S).length - i < t → ∀ (x3 x4 x5 : Option Value), lo_c x3 = true → (∀ (j : Nat) (c : Nat × Nat), j < i → (zK S)[j]? = some c → ¬ lN c.2 < (fun _ => lN 0) c.1 ∧ ¬ (fun x => lN (gEst P W R A B (zC S) x)) c.1 < lN c.2) → V M E 6 (QE M E (fun r : Bool => some (.int (bI r))) z 0 0 post) z 0 0 G 2 [some (.ref (ga E s)), some (.ref (ga E (s + 3))), some (.int (nI i)), x3, x4, x5] [] := by
  obtain ⟨hs0, hg1, hg2, hms, hsv, hct, hs22, hs23⟩ := id hst
  have hrng := hF.choose_spec.choose_spec.2.2.2.2.2.1
  obtain ⟨kk, kn, hk0, hk1, hk2, hkrep, hkwf, hkkp, hksr⟩ := id hct
  intro t
  induction t with
  | zero => intro i _ h; omega
  | succ t ih =>
    intro i hi ht x3 x4 x5 hx3 hok
    refine v_iload_n C dX10_holdsCounts_2 rfl ?_
    refine v_aload_n C dX10_holdsCounts_3 rfl ?_
    refine gf_X10_50 C dX10_holdsCounts_4 (by assumption) ?_
    refine gf_X10_129 C dX10_holdsCounts_7 (by assumption) ?_
    refine v_icmpn_ge C 68 dX10_holdsCounts_10 (by decide) (by omega) (by omega) (fun h10 => ?_) (fun h10 => ?_)
    · skip
      refine v_iconst (v := bI true) C dX10_holdsCounts_68 (by decide) ?_
      refine v_zret C dX10_holdsCounts_69 ?_
      exact hend (holdsC_yes (lo := (fun _ => lN 0)) (hi := (fun x => lN (gEst P W R A B (zC S) x))) (fun j c hjc => hok j c (by have := (List.getElem?_eq_some_iff.mp hjc).1; omega) hjc)).symm
    · skip
      have hci : (zK S)[i]? = some (zK S)[i] := List.getElem?_eq_getElem h10
      have hxk := hkkp _ (List.mem_of_getElem? hci)
      have hrj := hkrep i _ hci
      refine v_aload_n C dX10_holdsCounts_13 rfl ?_
      refine gf_X10_50 C dX10_holdsCounts_14 (by assumption) ?_
      refine gf_X10_132 C dX10_holdsCounts_17 (by assumption) ?_
      refine v_iload_n C dX10_holdsCounts_20 rfl ?_
      refine v_iald C dX10_holdsCounts_21 (by assumption) (by omega) (by omega) hrj.1 ?_
      refine v_istore_3 C dX10_holdsCounts_22 (by decide) (by first | rfl | assumption) ?_
      refine v_aload_n C dX10_holdsCounts_23 rfl ?_
      refine gf_X10_50 C dX10_holdsCounts_24 (by assumption) ?_
      refine gf_X10_136 C dX10_holdsCounts_27 (by assumption) ?_
      refine v_iload_n C dX10_holdsCounts_30 rfl ?_
      refine v_lald C dX10_holdsCounts_31 (by assumption) (by omega) (by omega) hrj.2 ?_
      refine v_lstore_4 C dX10_holdsCounts_32 (by decide) (by first | rfl | assumption) ?_
      refine v_aload_n C dX10_holdsCounts_34 rfl ?_
      refine v_iload_n C dX10_holdsCounts_35 rfl ?_
      refine mc_X10_140_X4 C dX10_holdsCounts_36 (hg2.rc) (c_Grid_low _ E z) rfl (fun r36 G36 hp36 => ?_)
      obtain ⟨rfl, rfl⟩ := hp36
      refine v_lload C dX10_holdsCounts_41 rfl ?_
      refine v_lcmp_gt C 60 dX10_holdsCounts_43 dX10_holdsCounts_44 (by decide) (fun h43 => ?_) (fun h43 => ?_)
      · skip
        refine v_iconst (v := bI false) C dX10_holdsCounts_60 (by decide) ?_
        refine v_zret C dX10_holdsCounts_61 ?_
        first
          | exact hend (holdsC_no (lo := (fun _ => lN 0)) (hi := (fun x => lN (gEst P W R A B (zC S) x))) hci (Or.inl h43)).symm
          | exact hend (holdsC_no (lo := (fun _ => lN 0)) (hi := (fun x => lN (gEst P W R A B (zC S) x))) hci (Or.inr (Int64.not_le.mp h56))).symm
      · skip
        refine v_aload_n C dX10_holdsCounts_47 rfl ?_
        refine v_iload_n C dX10_holdsCounts_48 rfl ?_
        refine mc_X10_144_X4 C dX10_holdsCounts_49 (hg2.rc) (c_Grid_high _ E z hxk hbc hF hg2) rfl (fun r49 G49 hp49 => ?_)
        obtain ⟨rfl, rfl⟩ := hp49
        refine v_lload C dX10_holdsCounts_54 rfl ?_
        refine v_lcmp_ge C 62 dX10_holdsCounts_56 dX10_holdsCounts_57 (by decide) (fun h56 => ?_) (fun h56 => ?_)
        · skip
          first | refine v_iinc_2 C dX10_holdsCounts_62 (nI_1 _) (by decide) (by first | rfl | assumption) ?_ | refine v_iinc_2 C dX10_holdsCounts_62 rfl (by decide) (by first | rfl | assumption) ?_
          refine v_goto C 2 dX10_holdsCounts_65 (by decide) ?_
          refine ih (i + 1) (by omega) (by omega) _ _ _ rfl (fun j c hj hjc => ?_)
          rcases Nat.lt_or_ge j i with q | q
          · exact hok j c q hjc
          · have e9 : j = i := by omega
            subst e9; rw [hci] at hjc; cases hjc; exact ⟨h43, Int64.not_lt.mpr h56⟩
        · skip
          refine v_iconst (v := bI false) C dX10_holdsCounts_60 (by decide) ?_
          refine v_zret C dX10_holdsCounts_61 ?_
          first
            | exact hend (holdsC_no (lo := (fun _ => lN 0)) (hi := (fun x => lN (gEst P W R A B (zC S) x))) hci (Or.inl h43)).symm
            | exact hend (holdsC_no (lo := (fun _ => lN 0)) (hi := (fun x => lN (gEst P W R A B (zC S) x))) hci (Or.inr (Int64.not_le.mp h56))).symm
set_option maxHeartbeats 4000000 in
set_option maxRecDepth 100000 in
theorem c_Str_holds_careful (l : Launch) (E : Ev) (z : Option Nat) {G : Gh} {s fam P W R lim room : Nat} {A B : Nat → Nat} {S : Str} (hbp : ∀ r, r < R → ∀ c, c < W → zP S r c < 2 ^ 62) (hbc : ∀ r, r < R → ∀ c, c < W → zC S r c < 2 ^ 62) (hF : isFam E G fam P W R A B) (hst : isStr E G s fam P W R lim room S) : K_X10_holdsCounts l E z G [.ref (ga E s), .ref (ga E (s + 3))] (fun r G2 => r = holdsC (fun _ => lN 0) (fun x => lN (gEst P W R A B (zC S) x)) (zK S) ∧ G = G2) := by
  refine Fc.of rfl [some (.ref (ga E s)), some (.ref (ga E (s + 3))), none, none, none, none] 4 rfl (Nat.le_of_ble_eq_true rfl) ?_
  intro M hM0 hini C
  subst hM0
  obtain ⟨hs0, hg1, hg2, hms, hsv, hct, hs22, hs23⟩ := id hst
  have hrng := hF.choose_spec.choose_spec.2.2.2.2.2.1
  obtain ⟨kk, kn, hk0, hk1, hk2, hkrep, hkwf, hkkp, hksr⟩ := id hct
  refine v_iconst (v := nI 0) C dX10_holdsCounts_0 (by decide) ?_
  refine v_istore_2 C dX10_holdsCounts_1 (by decide) (by first | rfl | assumption) ?_
  exact hold_careful C hbp hbc hF hst (fun h => ⟨h, rfl⟩) ((zK S).length + 1) 0 (by omega) (by omega) _ _ _ rfl (fun j _ h => absurd h (Nat.not_lt_zero j))

set_option maxHeartbeats 4000000 in
set_option maxRecDepth 100000 in
theorem hold_misra {M : Mx} {E : Ev} {z : Option Nat} (C : Cx M E yX10_holdsCounts.cls cX10_holdsCounts 6 (some .boolean) 5 109 0 0) {post : Bool → Gh → Prop} {G : Gh} {s fam P W R lim room : Nat} {A B : Nat → Nat} {S : Str} (hbp : ∀ r, r < R → ∀ c, c < W → zP S r c < 2 ^ 62) (hbc : ∀ r, r < R → ∀ c, c < W → zC S r c < 2 ^ 62) (hF : isFam E G fam P W R A B) (hst : isStr E G s fam P W R lim room S) (hend : ∀ {v : Bool}, v = holdsC (fun x => lN (numOf (zM S) x)) (fun x => lN (numOf (zM S) x + zT S)) (zK S) → post v G) : ∀ (t i : Nat), i ≤ (zK S).length → (zK S).length - i < t → ∀ (x3 x4 x5 : Option Value), lo_c x3 = true → (∀ (j : Nat) (c : Nat × Nat), j < i → (zK S)[j]? = some c → ¬ lN c.2 < (fun x => lN (numOf (zM S) x)) c.1 ∧ ¬ (fun x => lN (numOf (zM S) x + zT S)) c.1 < lN c.2) → V M E 6 (QE M E (fun r : Bool => some (.int (bI r))) z 0 0 post) z 0 0 G 2 [some (.ref (ga E s)), some (.ref (ga E (s + 5))), some (.int (nI i)), x3, x4, x5] [] := by
  obtain ⟨hs0, hg1, hg2, hms, hsv, hct, hs22, hs23⟩ := id hst
  have hrng := hF.choose_spec.choose_spec.2.2.2.2.2.1
  obtain ⟨kk, kn, hk0, hk1, hk2, hkrep, hkwf, hkkp, hksr⟩ := id hct
  intro t
  induction t with
  | zero => intro i _ h; omega
  | succ t ih =>
    intro i hi ht x3 x4 x5 hx3 hok
    refine v_iload_n C dX10_holdsCounts_2 rfl ?_
    refine v_aload_n C dX10_holdsCounts_3 rfl ?_
    refine gf_X10_50 C dX10_holdsCounts_4 (by assumption) ?_
    refine gf_X10_129 C dX10_holdsCounts_7 (by assumption) ?_
    refine v_icmpn_ge C 68 dX10_holdsCounts_10 (by decide) (by omega) (by omega) (fun h10 => ?_) (fun h10 => ?_)
    · skip
      refine v_iconst (v := bI true) C dX10_holdsCounts_68 (by decide) ?_
      refine v_zret C dX10_holdsCounts_69 ?_
      exact hend (holdsC_yes (lo := (fun x => lN (numOf (zM S) x))) (hi := (fun x => lN (numOf (zM S) x + zT S))) (fun j c hjc => hok j c (by have := (List.getElem?_eq_some_iff.mp hjc).1; omega) hjc)).symm
    · skip
      have hci : (zK S)[i]? = some (zK S)[i] := List.getElem?_eq_getElem h10
      have hxk := hkkp _ (List.mem_of_getElem? hci)
      have hrj := hkrep i _ hci
      refine v_aload_n C dX10_holdsCounts_13 rfl ?_
      refine gf_X10_50 C dX10_holdsCounts_14 (by assumption) ?_
      refine gf_X10_132 C dX10_holdsCounts_17 (by assumption) ?_
      refine v_iload_n C dX10_holdsCounts_20 rfl ?_
      refine v_iald C dX10_holdsCounts_21 (by assumption) (by omega) (by omega) hrj.1 ?_
      refine v_istore_3 C dX10_holdsCounts_22 (by decide) (by first | rfl | assumption) ?_
      refine v_aload_n C dX10_holdsCounts_23 rfl ?_
      refine gf_X10_50 C dX10_holdsCounts_24 (by assumption) ?_
      refine gf_X10_136 C dX10_holdsCounts_27 (by assumption) ?_
      refine v_iload_n C dX10_holdsCounts_30 rfl ?_
      refine v_lald C dX10_holdsCounts_31 (by assumption) (by omega) (by omega) hrj.2 ?_
      refine v_lstore_4 C dX10_holdsCounts_32 (by decide) (by first | rfl | assumption) ?_
      refine v_aload_n C dX10_holdsCounts_34 rfl ?_
      refine v_iload_n C dX10_holdsCounts_35 rfl ?_
      refine mc_X10_140_X6 C dX10_holdsCounts_36 (hms.1) (c_Mis_low _ E z hxk hms) rfl (fun r36 G36 hp36 => ?_)
      obtain ⟨rfl, rfl⟩ := hp36
      refine v_lload C dX10_holdsCounts_41 rfl ?_
      refine v_lcmp_gt C 60 dX10_holdsCounts_43 dX10_holdsCounts_44 (by decide) (fun h43 => ?_) (fun h43 => ?_)
      · skip
        refine v_iconst (v := bI false) C dX10_holdsCounts_60 (by decide) ?_
        refine v_zret C dX10_holdsCounts_61 ?_
        first
          | exact hend (holdsC_no (lo := (fun x => lN (numOf (zM S) x))) (hi := (fun x => lN (numOf (zM S) x + zT S))) hci (Or.inl h43)).symm
          | exact hend (holdsC_no (lo := (fun x => lN (numOf (zM S) x))) (hi := (fun x => lN (numOf (zM S) x + zT S))) hci (Or.inr (Int64.not_le.mp h56))).symm
      · skip
        refine v_aload_n C dX10_holdsCounts_47 rfl ?_
        refine v_iload_n C dX10_holdsCounts_48 rfl ?_
        refine mc_X10_144_X6 C dX10_holdsCounts_49 (hms.1) (c_Mis_high _ E z hxk hms) rfl (fun r49 G49 hp49 => ?_)
        obtain ⟨rfl, rfl⟩ := hp49
        refine v_lload C dX10_holdsCounts_54 rfl ?_
        refine v_lcmp_ge C 62 dX10_holdsCounts_56 dX10_holdsCounts_57 (by decide) (fun h56 => ?_) (fun h56 => ?_)
        · skip
          first | refine v_iinc_2 C dX10_holdsCounts_62 (nI_1 _) (by decide) (by first | rfl | assumption) ?_ | refine v_iinc_2 C dX10_holdsCounts_62 rfl (by decide) (by first | rfl | assumption) ?_
          refine v_goto C 2 dX10_holdsCounts_65 (by decide) ?_
          refine ih (i + 1) (by omega) (by omega) _ _ _ rfl (fun j c hj hjc => ?_)
          rcases Nat.lt_or_ge j i with q | q
          · exact hok j c q hjc
          · have e9 : j = i := by omega
            subst e9; rw [hci] at hjc; cases hjc; exact ⟨h43, Int64.not_lt.mpr h56⟩
        · skip
          refine v_iconst (v := bI false) C dX10_holdsCounts_60 (by decide) ?_
          refine v_zret C dX10_holdsCounts_61 ?_
          first
            | exact hend (holdsC_no (lo := (fun x => lN (numOf (zM S) x))) (hi := (fun x => lN (numOf (zM S) x + zT S))) hci (Or.inl h43)).symm
            | exact hend (holdsC_no (lo := (fun x => lN (numOf (zM S) x))) (hi := (fun x => lN (numOf (zM S) x + zT S))) hci (Or.inr (Int64.not_le.mp h56))).symm
set_option maxHeartbeats 4000000 in
set_option maxRecDepth 100000 in
theorem c_Str_holds_misra (l : Launch) (E : Ev) (z : Option Nat) {G : Gh} {s fam P W R lim room : Nat} {A B : Nat → Nat} {S : Str} (hbp : ∀ r, r < R → ∀ c, c < W → zP S r c < 2 ^ 62) (hbc : ∀ r, r < R → ∀ c, c < W → zC S r c < 2 ^ 62) (hF : isFam E G fam P W R A B) (hst : isStr E G s fam P W R lim room S) : K_X10_holdsCounts l E z G [.ref (ga E s), .ref (ga E (s + 5))] (fun r G2 => r = holdsC (fun x => lN (numOf (zM S) x)) (fun x => lN (numOf (zM S) x + zT S)) (zK S) ∧ G = G2) := by
  refine Fc.of rfl [some (.ref (ga E s)), some (.ref (ga E (s + 5))), none, none, none, none] 4 rfl (Nat.le_of_ble_eq_true rfl) ?_
  intro M hM0 hini C
  subst hM0
  obtain ⟨hs0, hg1, hg2, hms, hsv, hct, hs22, hs23⟩ := id hst
  have hrng := hF.choose_spec.choose_spec.2.2.2.2.2.1
  obtain ⟨kk, kn, hk0, hk1, hk2, hkrep, hkwf, hkkp, hksr⟩ := id hct
  refine v_iconst (v := nI 0) C dX10_holdsCounts_0 (by decide) ?_
  refine v_istore_2 C dX10_holdsCounts_1 (by decide) (by first | rfl | assumption) ?_
  exact hold_misra C hbp hbc hF hst (fun h => ⟨h, rfl⟩) ((zK S).length + 1) 0 (by omega) (by omega) _ _ _ rfl (fun j _ h => absurd h (Nat.not_lt_zero j))

set_option maxHeartbeats 4000000 in
set_option maxRecDepth 100000 in
theorem hold_saving {M : Mx} {E : Ev} {z : Option Nat} (C : Cx M E yX10_holdsCounts.cls cX10_holdsCounts 6 (some .boolean) 5 109 0 0) {post : Bool → Gh → Prop} {G : Gh} {s fam P W R lim room : Nat} {A B : Nat → Nat} {S : Str} (hbp : ∀ r, r < R → ∀ c, c < W → zP S r c < 2 ^ 62) (hbc : ∀ r, r < R → ∀ c, c < W → zC S r c < 2 ^ 62) (hF : isFam E G fam P W R A B) (hst : isStr E G s fam P W R lim room S) (hend : ∀ {v : Bool}, v = holdsC (fun x => sLow (zS S) x) (fun x => lN (sEst lim (zS S) x)) (zK S) → post v G) : ∀ (t i : Nat), i ≤ (zK S).length → (zK S).length - i < t → ∀ (x3 x4 x5 : Option Value), lo_c x3 = true → (∀ (j : Nat) (c : Nat × Nat), j < i → (zK S)[j]? = some c → ¬ lN c.2 < (fun x => sLow (zS S) x) c.1 ∧ ¬ (fun x => lN (sEst lim (zS S) x)) c.1 < lN c.2) → V M E 6 (QE M E (fun r : Bool => some (.int (bI r))) z 0 0 post) z 0 0 G 2 [some (.ref (ga E s)), some (.ref (ga E (s + 12))), some (.int (nI i)), x3, x4, x5] [] := by
  obtain ⟨hs0, hg1, hg2, hms, hsv, hct, hs22, hs23⟩ := id hst
  have hrng := hF.choose_spec.choose_spec.2.2.2.2.2.1
  obtain ⟨kk, kn, hk0, hk1, hk2, hkrep, hkwf, hkkp, hksr⟩ := id hct
  intro t
  induction t with
  | zero => intro i _ h; omega
  | succ t ih =>
    intro i hi ht x3 x4 x5 hx3 hok
    refine v_iload_n C dX10_holdsCounts_2 rfl ?_
    refine v_aload_n C dX10_holdsCounts_3 rfl ?_
    refine gf_X10_50 C dX10_holdsCounts_4 (by assumption) ?_
    refine gf_X10_129 C dX10_holdsCounts_7 (by assumption) ?_
    refine v_icmpn_ge C 68 dX10_holdsCounts_10 (by decide) (by omega) (by omega) (fun h10 => ?_) (fun h10 => ?_)
    · skip
      refine v_iconst (v := bI true) C dX10_holdsCounts_68 (by decide) ?_
      refine v_zret C dX10_holdsCounts_69 ?_
      exact hend (holdsC_yes (lo := (fun x => sLow (zS S) x)) (hi := (fun x => lN (sEst lim (zS S) x))) (fun j c hjc => hok j c (by have := (List.getElem?_eq_some_iff.mp hjc).1; omega) hjc)).symm
    · skip
      have hci : (zK S)[i]? = some (zK S)[i] := List.getElem?_eq_getElem h10
      have hxk := hkkp _ (List.mem_of_getElem? hci)
      have hrj := hkrep i _ hci
      refine v_aload_n C dX10_holdsCounts_13 rfl ?_
      refine gf_X10_50 C dX10_holdsCounts_14 (by assumption) ?_
      refine gf_X10_132 C dX10_holdsCounts_17 (by assumption) ?_
      refine v_iload_n C dX10_holdsCounts_20 rfl ?_
      refine v_iald C dX10_holdsCounts_21 (by assumption) (by omega) (by omega) hrj.1 ?_
      refine v_istore_3 C dX10_holdsCounts_22 (by decide) (by first | rfl | assumption) ?_
      refine v_aload_n C dX10_holdsCounts_23 rfl ?_
      refine gf_X10_50 C dX10_holdsCounts_24 (by assumption) ?_
      refine gf_X10_136 C dX10_holdsCounts_27 (by assumption) ?_
      refine v_iload_n C dX10_holdsCounts_30 rfl ?_
      refine v_lald C dX10_holdsCounts_31 (by assumption) (by omega) (by omega) hrj.2 ?_
      refine v_lstore_4 C dX10_holdsCounts_32 (by decide) (by first | rfl | assumption) ?_
      refine v_aload_n C dX10_holdsCounts_34 rfl ?_
      refine v_iload_n C dX10_holdsCounts_35 rfl ?_
      refine mc_X10_140_X8 C dX10_holdsCounts_36 (hsv.1) (c_Sav_low _ E z hxk hsv) rfl (fun r36 G36 hp36 => ?_)
      obtain ⟨rfl, rfl⟩ := hp36
      refine v_lload C dX10_holdsCounts_41 rfl ?_
      refine v_lcmp_gt C 60 dX10_holdsCounts_43 dX10_holdsCounts_44 (by decide) (fun h43 => ?_) (fun h43 => ?_)
      · skip
        refine v_iconst (v := bI false) C dX10_holdsCounts_60 (by decide) ?_
        refine v_zret C dX10_holdsCounts_61 ?_
        first
          | exact hend (holdsC_no (lo := (fun x => sLow (zS S) x)) (hi := (fun x => lN (sEst lim (zS S) x))) hci (Or.inl h43)).symm
          | exact hend (holdsC_no (lo := (fun x => sLow (zS S) x)) (hi := (fun x => lN (sEst lim (zS S) x))) hci (Or.inr (Int64.not_le.mp h56))).symm
      · skip
        refine v_aload_n C dX10_holdsCounts_47 rfl ?_
        refine v_iload_n C dX10_holdsCounts_48 rfl ?_
        refine mc_X10_144_X8 C dX10_holdsCounts_49 (hsv.1) (c_Sav_high _ E z hxk hsv) rfl (fun r49 G49 hp49 => ?_)
        obtain ⟨rfl, rfl⟩ := hp49
        refine v_lload C dX10_holdsCounts_54 rfl ?_
        refine v_lcmp_ge C 62 dX10_holdsCounts_56 dX10_holdsCounts_57 (by decide) (fun h56 => ?_) (fun h56 => ?_)
        · skip
          first | refine v_iinc_2 C dX10_holdsCounts_62 (nI_1 _) (by decide) (by first | rfl | assumption) ?_ | refine v_iinc_2 C dX10_holdsCounts_62 rfl (by decide) (by first | rfl | assumption) ?_
          refine v_goto C 2 dX10_holdsCounts_65 (by decide) ?_
          refine ih (i + 1) (by omega) (by omega) _ _ _ rfl (fun j c hj hjc => ?_)
          rcases Nat.lt_or_ge j i with q | q
          · exact hok j c q hjc
          · have e9 : j = i := by omega
            subst e9; rw [hci] at hjc; cases hjc; exact ⟨h43, Int64.not_lt.mpr h56⟩
        · skip
          refine v_iconst (v := bI false) C dX10_holdsCounts_60 (by decide) ?_
          refine v_zret C dX10_holdsCounts_61 ?_
          first
            | exact hend (holdsC_no (lo := (fun x => sLow (zS S) x)) (hi := (fun x => lN (sEst lim (zS S) x))) hci (Or.inl h43)).symm
            | exact hend (holdsC_no (lo := (fun x => sLow (zS S) x)) (hi := (fun x => lN (sEst lim (zS S) x))) hci (Or.inr (Int64.not_le.mp h56))).symm
set_option maxHeartbeats 4000000 in
set_option maxRecDepth 100000 in
theorem c_Str_holds_saving (l : Launch) (E : Ev) (z : Option Nat) {G : Gh} {s fam P W R lim room : Nat} {A B : Nat → Nat} {S : Str} (hbp : ∀ r, r < R → ∀ c, c < W → zP S r c < 2 ^ 62) (hbc : ∀ r, r < R → ∀ c, c < W → zC S r c < 2 ^ 62) (hF : isFam E G fam P W R A B) (hst : isStr E G s fam P W R lim room S) : K_X10_holdsCounts l E z G [.ref (ga E s), .ref (ga E (s + 12))] (fun r G2 => r = holdsC (fun x => sLow (zS S) x) (fun x => lN (sEst lim (zS S) x)) (zK S) ∧ G = G2) := by
  refine Fc.of rfl [some (.ref (ga E s)), some (.ref (ga E (s + 12))), none, none, none, none] 4 rfl (Nat.le_of_ble_eq_true rfl) ?_
  intro M hM0 hini C
  subst hM0
  obtain ⟨hs0, hg1, hg2, hms, hsv, hct, hs22, hs23⟩ := id hst
  have hrng := hF.choose_spec.choose_spec.2.2.2.2.2.1
  obtain ⟨kk, kn, hk0, hk1, hk2, hkrep, hkwf, hkkp, hksr⟩ := id hct
  refine v_iconst (v := nI 0) C dX10_holdsCounts_0 (by decide) ?_
  refine v_istore_2 C dX10_holdsCounts_1 (by decide) (by first | rfl | assumption) ?_
  exact hold_saving C hbp hbc hF hst (fun h => ⟨h, rfl⟩) ((zK S).length + 1) 0 (by omega) (by omega) _ _ _ rfl (fun j _ h => absurd h (Nat.not_lt_zero j))

def carC (f g : Nat → Nat) (l : Cnt) : Bool := l.all (fun c => decide (lN (f c.1) ≤ lN (g c.1)))
set_option maxHeartbeats 4000000 in
set_option maxRecDepth 100000 in
theorem care_loop {M : Mx} {E : Ev} {z : Option Nat} (C : Cx M E yX10_carefulIsNotAbovePlain.cls cX10_carefulIsNotAbovePlain 3 (some .boolean) 2 48 0 0) {post : Bool → Gh → Prop} {G : Gh} {s fam P W R lim room : Nat} {A B : Nat → Nat} {S : Str} (hbp : ∀ r, r < R → ∀ c, c < W → zP S r c < 2 ^ 62) (hbc : ∀ r, r < R → ∀ c, c < W → zC S r c < 2 ^ 62) (hF : isFam E G fam P W R A B) (hst : isStr E G s fam P W R lim room S) (hend : ∀ {v : Bool}, v = carC (gEst P W R A B (zC S)) (gEst P W R A B (zP S)) (zK S) → post v G) : ∀ (t i : Nat), i ≤ (zK S).length → (zK S).length - i < t → ∀ (x2 : Option Value), (∀ (j : Nat) (c : Nat × Nat), j < i → (zK S)[j]? = some c → lN ((gEst P W R A B (zC S)) c.1) ≤ lN ((gEst P W R A B (zP S)) c.1)) → V M E 3 (QE M E (fun r : Bool => some (.int (bI r))) z 0 0 post) z 0 0 G 2 [some (.ref (ga E s)), some (.int (nI i)), x2] [] := by
  obtain ⟨hs0, hg1, hg2, hms, hsv, hct, hs22, hs23⟩ := id hst
  have hrng := hF.choose_spec.choose_spec.2.2.2.2.2.1
  obtain ⟨kk, kn, hk0, hk1, hk2, hkrep, hkwf, hkkp, hksr⟩ := id hct
  intro t
  induction t with
  | zero => intro i _ h; omega
  | succ t ih =>
    intro i hi ht x2 hok
    refine v_iload_n C dX10_carefulIsNotAbovePlain_2 rfl ?_
    refine v_aload_n C dX10_carefulIsNotAbovePlain_3 rfl ?_
    refine gf_X10_50 C dX10_carefulIsNotAbovePlain_4 (by assumption) ?_
    refine gf_X10_129 C dX10_carefulIsNotAbovePlain_7 (by assumption) ?_
    refine v_icmpn_ge C 51 dX10_carefulIsNotAbovePlain_10 (by decide) (by omega) (by omega) (fun h10 => ?_) (fun h10 => ?_)
    · skip
      refine v_iconst (v := bI true) C dX10_carefulIsNotAbovePlain_51 (by decide) ?_
      refine v_zret C dX10_carefulIsNotAbovePlain_52 ?_
      refine hend ?_
      symm
      unfold carC
      rw [List.all_eq_true]
      intro c hc
      obtain ⟨j, hjc⟩ := List.getElem?_of_mem hc
      have := hok j c (by have := (List.getElem?_eq_some_iff.mp hjc).1; omega) hjc
      simpa using this
    · skip
      have hci : (zK S)[i]? = some (zK S)[i] := List.getElem?_eq_getElem h10
      have hxk := hkkp _ (List.mem_of_getElem? hci)
      have hrj := hkrep i _ hci
      refine v_aload_n C dX10_carefulIsNotAbovePlain_13 rfl ?_
      refine gf_X10_50 C dX10_carefulIsNotAbovePlain_14 (by assumption) ?_
      refine gf_X10_132 C dX10_carefulIsNotAbovePlain_17 (by assumption) ?_
      refine v_iload_n C dX10_carefulIsNotAbovePlain_20 rfl ?_
      refine v_iald C dX10_carefulIsNotAbovePlain_21 (by assumption) (by omega) (by omega) hrj.1 ?_
      refine v_istore_2 C dX10_carefulIsNotAbovePlain_22 (by decide) (by first | rfl | assumption) ?_
      refine v_aload_n C dX10_carefulIsNotAbovePlain_23 rfl ?_
      refine gf_X10_20 C dX10_carefulIsNotAbovePlain_24 (by assumption) ?_
      refine v_iload_n C dX10_carefulIsNotAbovePlain_27 rfl ?_
      refine mc_X10_147 C dX10_carefulIsNotAbovePlain_28 (hg2.rc) (c_Grid_guess _ E z hxk hbc hF hg2) rfl (fun r28 G28 hp28 => ?_)
      obtain ⟨rfl, rfl⟩ := hp28
      refine v_aload_n C dX10_carefulIsNotAbovePlain_31 rfl ?_
      refine gf_X10_14 C dX10_carefulIsNotAbovePlain_32 (by assumption) ?_
      refine v_iload_n C dX10_carefulIsNotAbovePlain_35 rfl ?_
      refine mc_X10_147 C dX10_carefulIsNotAbovePlain_36 (hg1.rc) (c_Grid_guess _ E z hxk hbp hF hg1) rfl (fun r36 G36 hp36 => ?_)
      obtain ⟨rfl, rfl⟩ := hp36
      refine v_lcmp_le C 45 dX10_carefulIsNotAbovePlain_39 dX10_carefulIsNotAbovePlain_40 (by decide) (fun h39 => ?_) (fun h39 => ?_)
      · skip
        first | refine v_iinc_1 C dX10_carefulIsNotAbovePlain_45 (nI_1 _) (by decide) (by first | rfl | assumption) ?_ | refine v_iinc_1 C dX10_carefulIsNotAbovePlain_45 rfl (by decide) (by first | rfl | assumption) ?_
        refine v_goto C 2 dX10_carefulIsNotAbovePlain_48 (by decide) ?_
        refine ih (i + 1) (by omega) (by omega) _ (fun j c hj hjc => ?_)
        rcases Nat.lt_or_ge j i with q | q
        · exact hok j c q hjc
        · have e9 : j = i := by omega
          subst e9; rw [hci] at hjc; cases hjc; exact h39
      · skip
        refine v_iconst (v := bI false) C dX10_carefulIsNotAbovePlain_43 (by decide) ?_
        refine v_zret C dX10_carefulIsNotAbovePlain_44 ?_
        refine hend ?_
        symm
        unfold carC
        rw [List.all_eq_false]
        exact ⟨_, List.mem_of_getElem? hci, by simpa using h39⟩
set_option maxHeartbeats 4000000 in
set_option maxRecDepth 100000 in
theorem c_Str_care (l : Launch) (E : Ev) (z : Option Nat) {G : Gh} {s fam P W R lim room : Nat} {A B : Nat → Nat} {S : Str} (hbp : ∀ r, r < R → ∀ c, c < W → zP S r c < 2 ^ 62) (hbc : ∀ r, r < R → ∀ c, c < W → zC S r c < 2 ^ 62) (hF : isFam E G fam P W R A B) (hst : isStr E G s fam P W R lim room S) : K_X10_carefulIsNotAbovePlain l E z G [.ref (ga E s)] (fun r G2 => r = carC (gEst P W R A B (zC S)) (gEst P W R A B (zP S)) (zK S) ∧ G = G2) := by
  refine Fc.of rfl [some (.ref (ga E s)), none, none] 2 rfl (Nat.le_of_ble_eq_true rfl) ?_
  intro M hM0 hini C
  subst hM0
  obtain ⟨hs0, hg1, hg2, hms, hsv, hct, hs22, hs23⟩ := id hst
  have hrng := hF.choose_spec.choose_spec.2.2.2.2.2.1
  obtain ⟨kk, kn, hk0, hk1, hk2, hkrep, hkwf, hkkp, hksr⟩ := id hct
  refine v_iconst (v := nI 0) C dX10_carefulIsNotAbovePlain_0 (by decide) ?_
  refine v_istore_1 C dX10_carefulIsNotAbovePlain_1 (by decide) (by first | rfl | assumption) ?_
  exact care_loop C hbp hbc hF hst (fun h => ⟨h, rfl⟩) ((zK S).length + 1) 0 (by omega) (by omega) _ (fun j _ h => absurd h (Nat.not_lt_zero j))

def sAudit (P W R : Nat) (A B : Nat → Nat) (lim : Nat) (S : Str) : Int32 := if holdsC (fun _ => lN 0) (fun x => lN (gEst P W R A B (zP S) x)) (zK S) = false then nI 1 else if holdsC (fun _ => lN 0) (fun x => lN (gEst P W R A B (zC S) x)) (zK S) = false then nI 2 else if holdsC (fun x => lN (numOf (zM S) x)) (fun x => lN (numOf (zM S) x + zT S)) (zK S) = false then nI 3 else if holdsC (fun x => sLow (zS S) x) (fun x => lN (sEst lim (zS S) x)) (zK S) = false then nI 4 else if carC (gEst P W R A B (zC S)) (gEst P W R A B (zP S)) (zK S) = false then nI 5 else if lN (zN S) < lN ((lim + 1) * zT S) then nI 6 else if lN (cSum (zK S)) = lN (zN S) then nI 0 else nI 7
set_option maxHeartbeats 4000000 in
set_option maxRecDepth 100000 in
theorem fb_tail {M : Mx} {E : Ev} {z : Option Nat} (C : Cx M E yX10_firstBroken.cls cX10_firstBroken 2 (some .int) 6 134 0 0) {post : Int32 → Gh → Prop} {G : Gh} {s fam P W R lim room : Nat} {A B : Nat → Nat} {S : Str} (hbp : ∀ r, r < R → ∀ c, c < W → zP S r c < 2 ^ 62) (hbc : ∀ r, r < R → ∀ c, c < W → zC S r c < 2 ^ 62) (hF : isFam E G fam P W R A B) (hst : isStr E G s fam P W R lim room S) {x1 : Option Value} (hend : ∀ {v : Int32}, ((carC (gEst P W R A B (zC S)) (gEst P W R A B (zP S)) (zK S) = false ∧ v = nI 5) ∨ (carC (gEst P W R A B (zC S)) (gEst P W R A B (zP S)) (zK S) = true ∧ lN (zN S) < lN ((lim + 1) * zT S) ∧ v = nI 6) ∨ (carC (gEst P W R A B (zC S)) (gEst P W R A B (zP S)) (zK S) = true ∧ ¬ lN (zN S) < lN ((lim + 1) * zT S) ∧ lN (cSum (zK S)) = lN (zN S) ∧ v = nI 0) ∨ (carC (gEst P W R A B (zC S)) (gEst P W R A B (zP S)) (zK S) = true ∧ ¬ lN (zN S) < lN ((lim + 1) * zT S) ∧ ¬ lN (cSum (zK S)) = lN (zN S) ∧ v = nI 7)) → post v G) : V M E 2 (QE M E (fun r : Int32 => some (.int r)) z 0 0 post) z 0 0 G 30 [some (.ref (ga E s)), x1] [] := by
  obtain ⟨hs0, hg1, hg2, hms, hsv, hct, hs22, hs23⟩ := id hst
  have hrng := hF.choose_spec.choose_spec.2.2.2.2.2.1
  obtain ⟨kk, kn, hk0, hk1, hk2, hkrep, hkwf, hkkp, hksr⟩ := id hct
  refine v_aload_n C dX10_firstBroken_30 rfl ?_
  refine mc_X10_109 C dX10_firstBroken_31 (by assumption) (c_Str_care _ E z hbp hbc hF hst) rfl (fun r31 G31 hp31 => ?_)
  obtain ⟨rfl, rfl⟩ := hp31
  first | refine v_ifb_ne C 39 dX10_firstBroken_34 (by decide) (fun h34 => ?_) (fun h34 => ?_) | refine v_ifn_ne C 39 dX10_firstBroken_34 (by decide) (by omega) (fun h34 => ?_) (fun h34 => ?_) | refine v_if_ne C 39 dX10_firstBroken_34 (by decide) (fun h34 => ?_) (fun h34 => ?_)
  · skip
    have hm0 := hms.1
    have hmc := hms.2.rc
    have hmw : cwf (zM S) P lim := hms.2.choose_spec.choose_spec.choose_spec.2.2.2.2.2.2
    have hlm := hmw.1
    refine v_aload_n C dX10_firstBroken_39 rfl ?_
    refine gf_X10_34 C dX10_firstBroken_40 (by assumption) ?_
    refine gf_X10_113 C dX10_firstBroken_43 (by assumption) ?_
    refine gf_X10_117 C dX10_firstBroken_46 (by assumption) ?_
    refine v_iconst (v := nI 1) C dX10_firstBroken_49 (by decide) ?_
    first | refine v_iaddn C dX10_firstBroken_50 ?_ | refine v_iadd C dX10_firstBroken_50 ?_
    first | refine v_i2ln C dX10_firstBroken_51 (by omega) ?_ | refine v_i2l C dX10_firstBroken_51 rfl ?_
    refine v_aload_n C dX10_firstBroken_52 rfl ?_
    refine gf_X10_34 C dX10_firstBroken_53 (by assumption) ?_
    refine gf_X10_122 C dX10_firstBroken_56 (by assumption) ?_
    first | refine v_lmuln C dX10_firstBroken_59 ?_ | refine v_lmul C dX10_firstBroken_59 ?_
    refine v_aload_n C dX10_firstBroken_60 rfl ?_
    refine gf_X10_65 C dX10_firstBroken_61 (by assumption) ?_
    refine v_lcmp_le C 71 dX10_firstBroken_64 dX10_firstBroken_65 (by decide) (fun h64 => ?_) (fun h64 => ?_)
    · skip
      refine v_aload_n C dX10_firstBroken_71 rfl ?_
      refine gf_X10_50 C dX10_firstBroken_72 (by assumption) ?_
      refine mc_X10_125 C dX10_firstBroken_75 (hct.rc) (c_Cnt_together _ E z hct) rfl (fun r75 G75 hp75 => ?_)
      obtain ⟨rfl, rfl⟩ := hp75
      refine v_aload_n C dX10_firstBroken_78 rfl ?_
      refine gf_X10_65 C dX10_firstBroken_79 (by assumption) ?_
      refine v_lcmp_ne C 90 dX10_firstBroken_82 dX10_firstBroken_83 (by decide) (fun h82 => ?_) (fun h82 => ?_)
      · skip
        refine v_bipush (v := nI 7) C dX10_firstBroken_90 (by decide) ?_
        refine v_iret C dX10_firstBroken_92 ?_
        first
          | exact hend (Or.inr (Or.inr (Or.inl ⟨h34, Int64.not_lt.mpr h64, h82, rfl⟩)))
          | exact hend (Or.inr (Or.inr (Or.inr ⟨h34, Int64.not_lt.mpr h64, h82, rfl⟩)))
      · skip
        refine v_iconst (v := nI 0) C dX10_firstBroken_86 (by decide) ?_
        refine v_goto C 92 dX10_firstBroken_87 (by decide) ?_
        refine v_iret C dX10_firstBroken_92 ?_
        first
          | exact hend (Or.inr (Or.inr (Or.inl ⟨h34, Int64.not_lt.mpr h64, h82, rfl⟩)))
          | exact hend (Or.inr (Or.inr (Or.inr ⟨h34, Int64.not_lt.mpr h64, h82, rfl⟩)))
    · skip
      refine v_bipush (v := nI 6) C dX10_firstBroken_68 (by decide) ?_
      refine v_iret C dX10_firstBroken_70 ?_
      exact hend (Or.inr (Or.inl ⟨h34, Int64.not_le.mp h64, rfl⟩))
  · skip
    refine v_iconst (v := nI 5) C dX10_firstBroken_37 (by decide) ?_
    refine v_iret C dX10_firstBroken_38 ?_
    exact hend (Or.inl ⟨h34, rfl⟩)
set_option maxHeartbeats 4000000 in
set_option maxRecDepth 100000 in
theorem c_Str_firstBroken (l : Launch) (E : Ev) (z : Option Nat) {G : Gh} {s fam P W R lim room : Nat} {A B : Nat → Nat} {S : Str} (hbp : ∀ r, r < R → ∀ c, c < W → zP S r c < 2 ^ 62) (hbc : ∀ r, r < R → ∀ c, c < W → zC S r c < 2 ^ 62) (hF : isFam E G fam P W R A B) (hst : isStr E G s fam P W R lim room S) : K_X10_firstBroken l E z G [.ref (ga E s)] (fun r G2 => r = sAudit P W R A B lim S ∧ G = G2) := by
  refine Fc.of rfl [some (.ref (ga E s)), none] 1 rfl (Nat.le_of_ble_eq_true rfl) ?_
  intro M hM0 hini C
  subst hM0
  obtain ⟨hs0, hg1, hg2, hms, hsv, hct, hs22, hs23⟩ := id hst
  have hrng := hF.choose_spec.choose_spec.2.2.2.2.2.1
  obtain ⟨kk, kn, hk0, hk1, hk2, hkrep, hkwf, hkkp, hksr⟩ := id hct
  refine v_iconst (v := nI 0) C dX10_firstBroken_0 (by decide) ?_
  refine v_istore_1 C dX10_firstBroken_1 (by decide) (by first | rfl | assumption) ?_
  refine v_iload_n C dX10_firstBroken_2 rfl ?_
  refine v_iconst (v := nI 3) C dX10_firstBroken_3 (by decide) ?_
  refine v_icmpn_gt C 30 dX10_firstBroken_4 (by decide) (by omega) (by omega) (fun h4 => by exfalso; first | omega | exact absurd h4 (by decide) | (have h9 := of_decide_eq_true h4; omega) | (have h9 := of_decide_eq_false h4; omega) | contradiction | simp_all) (fun h4 => ?_)
  refine v_aload_n C dX10_firstBroken_7 rfl ?_
  refine v_aload_n C dX10_firstBroken_8 rfl ?_
  refine gf_X10_56 C dX10_firstBroken_9 (by assumption) ?_
  refine v_iload_n C dX10_firstBroken_12 rfl ?_
  refine v_aald (v := some (ga E (s + 1))) C dX10_firstBroken_13 hs22 rfl (by omega) (by omega) rfl ?_
  show V _ _ _ _ _ _ _ _ _ _ (.ref (ga E (s + 1)) :: _)
  refine mc_X10_105 C dX10_firstBroken_14 (by assumption) (c_Str_holds_plain _ E z hbp hbc hF hst) rfl (fun r14 G14 hp14 => ?_)
  obtain ⟨rfl, rfl⟩ := hp14
  first | refine v_ifb_ne C 24 dX10_firstBroken_17 (by decide) (fun h17 => ?_) (fun h17 => ?_) | refine v_ifn_ne C 24 dX10_firstBroken_17 (by decide) (by omega) (fun h17 => ?_) (fun h17 => ?_) | refine v_if_ne C 24 dX10_firstBroken_17 (by decide) (fun h17 => ?_) (fun h17 => ?_)
  · skip
    have hh0 := h17
    first | refine v_iinc_1 C dX10_firstBroken_24 (nI_1 _) (by decide) (by first | rfl | assumption) ?_ | refine v_iinc_1 C dX10_firstBroken_24 rfl (by decide) (by first | rfl | assumption) ?_
    refine v_goto C 2 dX10_firstBroken_27 (by decide) ?_
    refine v_iload_n C dX10_firstBroken_2 rfl ?_
    refine v_iconst (v := nI 3) C dX10_firstBroken_3 (by decide) ?_
    refine v_icmpn_gt C 30 dX10_firstBroken_4 (by decide) (by omega) (by omega) (fun h4 => by exfalso; first | omega | exact absurd h4 (by decide) | (have h9 := of_decide_eq_true h4; omega) | (have h9 := of_decide_eq_false h4; omega) | contradiction | simp_all) (fun h4 => ?_)
    refine v_aload_n C dX10_firstBroken_7 rfl ?_
    refine v_aload_n C dX10_firstBroken_8 rfl ?_
    refine gf_X10_56 C dX10_firstBroken_9 (by assumption) ?_
    refine v_iload_n C dX10_firstBroken_12 rfl ?_
    refine v_aald (v := some (ga E (s + 3))) C dX10_firstBroken_13 hs22 rfl (by omega) (by omega) rfl ?_
    show V _ _ _ _ _ _ _ _ _ _ (.ref (ga E (s + 3)) :: _)
    refine mc_X10_105 C dX10_firstBroken_14 (by assumption) (c_Str_holds_careful _ E z hbp hbc hF hst) rfl (fun r14 G14 hp14 => ?_)
    obtain ⟨rfl, rfl⟩ := hp14
    first | refine v_ifb_ne C 24 dX10_firstBroken_17 (by decide) (fun h17 => ?_) (fun h17 => ?_) | refine v_ifn_ne C 24 dX10_firstBroken_17 (by decide) (by omega) (fun h17 => ?_) (fun h17 => ?_) | refine v_if_ne C 24 dX10_firstBroken_17 (by decide) (fun h17 => ?_) (fun h17 => ?_)
    · skip
      have hh1 := h17
      first | refine v_iinc_1 C dX10_firstBroken_24 (nI_1 _) (by decide) (by first | rfl | assumption) ?_ | refine v_iinc_1 C dX10_firstBroken_24 rfl (by decide) (by first | rfl | assumption) ?_
      refine v_goto C 2 dX10_firstBroken_27 (by decide) ?_
      refine v_iload_n C dX10_firstBroken_2 rfl ?_
      refine v_iconst (v := nI 3) C dX10_firstBroken_3 (by decide) ?_
      refine v_icmpn_gt C 30 dX10_firstBroken_4 (by decide) (by omega) (by omega) (fun h4 => by exfalso; first | omega | exact absurd h4 (by decide) | (have h9 := of_decide_eq_true h4; omega) | (have h9 := of_decide_eq_false h4; omega) | contradiction | simp_all) (fun h4 => ?_)
      refine v_aload_n C dX10_firstBroken_7 rfl ?_
      refine v_aload_n C dX10_firstBroken_8 rfl ?_
      refine gf_X10_56 C dX10_firstBroken_9 (by assumption) ?_
      refine v_iload_n C dX10_firstBroken_12 rfl ?_
      refine v_aald (v := some (ga E (s + 5))) C dX10_firstBroken_13 hs22 rfl (by omega) (by omega) rfl ?_
      show V _ _ _ _ _ _ _ _ _ _ (.ref (ga E (s + 5)) :: _)
      refine mc_X10_105 C dX10_firstBroken_14 (by assumption) (c_Str_holds_misra _ E z hbp hbc hF hst) rfl (fun r14 G14 hp14 => ?_)
      obtain ⟨rfl, rfl⟩ := hp14
      first | refine v_ifb_ne C 24 dX10_firstBroken_17 (by decide) (fun h17 => ?_) (fun h17 => ?_) | refine v_ifn_ne C 24 dX10_firstBroken_17 (by decide) (by omega) (fun h17 => ?_) (fun h17 => ?_) | refine v_if_ne C 24 dX10_firstBroken_17 (by decide) (fun h17 => ?_) (fun h17 => ?_)
      · skip
        have hh2 := h17
        first | refine v_iinc_1 C dX10_firstBroken_24 (nI_1 _) (by decide) (by first | rfl | assumption) ?_ | refine v_iinc_1 C dX10_firstBroken_24 rfl (by decide) (by first | rfl | assumption) ?_
        refine v_goto C 2 dX10_firstBroken_27 (by decide) ?_
        refine v_iload_n C dX10_firstBroken_2 rfl ?_
        refine v_iconst (v := nI 3) C dX10_firstBroken_3 (by decide) ?_
        refine v_icmpn_gt C 30 dX10_firstBroken_4 (by decide) (by omega) (by omega) (fun h4 => by exfalso; first | omega | exact absurd h4 (by decide) | (have h9 := of_decide_eq_true h4; omega) | (have h9 := of_decide_eq_false h4; omega) | contradiction | simp_all) (fun h4 => ?_)
        refine v_aload_n C dX10_firstBroken_7 rfl ?_
        refine v_aload_n C dX10_firstBroken_8 rfl ?_
        refine gf_X10_56 C dX10_firstBroken_9 (by assumption) ?_
        refine v_iload_n C dX10_firstBroken_12 rfl ?_
        refine v_aald (v := some (ga E (s + 12))) C dX10_firstBroken_13 hs22 rfl (by omega) (by omega) rfl ?_
        show V _ _ _ _ _ _ _ _ _ _ (.ref (ga E (s + 12)) :: _)
        refine mc_X10_105 C dX10_firstBroken_14 (by assumption) (c_Str_holds_saving _ E z hbp hbc hF hst) rfl (fun r14 G14 hp14 => ?_)
        obtain ⟨rfl, rfl⟩ := hp14
        first | refine v_ifb_ne C 24 dX10_firstBroken_17 (by decide) (fun h17 => ?_) (fun h17 => ?_) | refine v_ifn_ne C 24 dX10_firstBroken_17 (by decide) (by omega) (fun h17 => ?_) (fun h17 => ?_) | refine v_if_ne C 24 dX10_firstBroken_17 (by decide) (fun h17 => ?_) (fun h17 => ?_)
        · skip
          have hh3 := h17
          first | refine v_iinc_1 C dX10_firstBroken_24 (nI_1 _) (by decide) (by first | rfl | assumption) ?_ | refine v_iinc_1 C dX10_firstBroken_24 rfl (by decide) (by first | rfl | assumption) ?_
          refine v_goto C 2 dX10_firstBroken_27 (by decide) ?_
          refine v_iload_n C dX10_firstBroken_2 rfl ?_
          refine v_iconst (v := nI 3) C dX10_firstBroken_3 (by decide) ?_
          refine v_icmpn_gt C 30 dX10_firstBroken_4 (by decide) (by omega) (by omega) (fun h4 => ?_) (fun h4 => by exfalso; first | omega | exact absurd h4 (by decide) | (have h9 := of_decide_eq_true h4; omega) | (have h9 := of_decide_eq_false h4; omega) | contradiction | simp_all)
          refine fb_tail C hbp hbc hF hst (fun hv => ?_)
          refine ⟨?_, rfl⟩
          unfold sAudit
          rw [if_neg (by rw [hh0]; decide), if_neg (by rw [hh1]; decide), if_neg (by rw [hh2]; decide), if_neg (by rw [hh3]; decide)]
          rcases hv with ⟨q1, q2⟩ | ⟨q1, q2, q3⟩ | ⟨q1, q2, q3, q4⟩ | ⟨q1, q2, q3, q4⟩
          · rw [if_pos q1]; exact q2
          · rw [if_neg (by rw [q1]; decide), if_pos q2]; exact q3
          · rw [if_neg (by rw [q1]; decide), if_neg q2, if_pos q3]; exact q4
          · rw [if_neg (by rw [q1]; decide), if_neg q2, if_neg q3]; exact q4
        · skip
          refine v_iload_n C dX10_firstBroken_20 rfl ?_
          refine v_iconst (v := nI 1) C dX10_firstBroken_21 (by decide) ?_
          first | refine v_iaddn C dX10_firstBroken_22 ?_ | refine v_iadd C dX10_firstBroken_22 ?_
          refine v_iret C dX10_firstBroken_23 ?_
          refine ⟨?_, rfl⟩
          unfold sAudit
          rw [if_neg (by rw [hh0]; decide)]
          rw [if_neg (by rw [hh1]; decide)]
          rw [if_neg (by rw [hh2]; decide)]
          rw [if_pos h17]
      · skip
        refine v_iload_n C dX10_firstBroken_20 rfl ?_
        refine v_iconst (v := nI 1) C dX10_firstBroken_21 (by decide) ?_
        first | refine v_iaddn C dX10_firstBroken_22 ?_ | refine v_iadd C dX10_firstBroken_22 ?_
        refine v_iret C dX10_firstBroken_23 ?_
        refine ⟨?_, rfl⟩
        unfold sAudit
        rw [if_neg (by rw [hh0]; decide)]
        rw [if_neg (by rw [hh1]; decide)]
        rw [if_pos h17]
    · skip
      refine v_iload_n C dX10_firstBroken_20 rfl ?_
      refine v_iconst (v := nI 1) C dX10_firstBroken_21 (by decide) ?_
      first | refine v_iaddn C dX10_firstBroken_22 ?_ | refine v_iadd C dX10_firstBroken_22 ?_
      refine v_iret C dX10_firstBroken_23 ?_
      refine ⟨?_, rfl⟩
      unfold sAudit
      rw [if_neg (by rw [hh0]; decide)]
      rw [if_pos h17]
  · skip
    refine v_iload_n C dX10_firstBroken_20 rfl ?_
    refine v_iconst (v := nI 1) C dX10_firstBroken_21 (by decide) ?_
    first | refine v_iaddn C dX10_firstBroken_22 ?_ | refine v_iadd C dX10_firstBroken_22 ?_
    refine v_iret C dX10_firstBroken_23 ?_
    refine ⟨?_, rfl⟩
    unfold sAudit
    rw [if_pos h17]

