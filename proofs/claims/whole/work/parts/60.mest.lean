def eLow (f : Nat → Int64) : Nat → Int64
  | 0 => f 0
  | k + 1 => if f (k + 1) ≤ eLow f k then eLow f k else f (k + 1)
def eHigh (f : Nat → Int64) : Nat → Int64
  | 0 => f 0
  | k + 1 => if eHigh f k ≤ f (k + 1) then eHigh f k else f (k + 1)
theorem lmax_toInt (x y : Int64) : (lmax x y).toInt = max x.toInt y.toInt := by
  unfold lmax
  split <;> rename_i h <;> rw [Int64.lt_iff_toInt_lt] at h <;> omega
theorem lmin_toInt (x y : Int64) : (lmin x y).toInt = min x.toInt y.toInt := by
  unfold lmin
  split <;> rename_i h <;> rw [Int64.lt_iff_toInt_lt] at h <;> omega
theorem eLow_toInt (f : Nat → Int64) (k : Nat) : (eLow f (k + 1)).toInt = max (eLow f k).toInt (f (k + 1)).toInt := by
  show (if f (k + 1) ≤ eLow f k then eLow f k else f (k + 1)).toInt = _
  split <;> rename_i h <;> rw [Int64.le_iff_toInt_le] at h <;> omega
theorem eHigh_toInt (f : Nat → Int64) (k : Nat) : (eHigh f (k + 1)).toInt = min (eHigh f k).toInt (f (k + 1)).toInt := by
  show (if eHigh f k ≤ f (k + 1) then eHigh f k else f (k + 1)).toInt = _
  split <;> rename_i h <;> rw [Int64.le_iff_toInt_le] at h <;> omega
theorem eLow_all {P W R : Nat} {A B : Nat → Nat} {lim : Nat} {S : Str} {x : Nat} : eLow (fun q => kLow P W R A B lim S q x) 3 = kLow P W R A B lim S 4 x := by
  apply Int64.toInt_inj.mp
  show _ = (bLow (lN (numOf (zM S) x)) (sLow (zS S) x)).toInt
  unfold bLow
  rw [eLow_toInt, eLow_toInt, eLow_toInt, lmax_toInt, lmax_toInt, lmax_toInt]
  show max (max (max (lN 0).toInt (lN 0).toInt) (lN (numOf (zM S) x)).toInt) (sLow (zS S) x).toInt = _
  omega
theorem eHigh_all {P W R : Nat} {A B : Nat → Nat} {lim : Nat} {S : Str} {x : Nat} (h1 : gEst P W R A B (zP S) x < 2 ^ 63) (h2 : gEst P W R A B (zC S) x < 2 ^ 63) (h3 : numOf (zM S) x + zT S < 2 ^ 63) (h4 : sEst lim (zS S) x < 2 ^ 63) : eHigh (fun q => kHigh P W R A B lim S q x) 3 = kHigh P W R A B lim S 4 x := by
  apply Int64.toInt_inj.mp
  show _ = (bHigh (lN (numOf (zM S) x + zT S)) (lN (sEst lim (zS S) x)) (lN (gEst P W R A B (zP S) x)) (lN (gEst P W R A B (zC S) x))).toInt
  unfold bHigh
  rw [eHigh_toInt, eHigh_toInt, eHigh_toInt]
  show min (min (min (lN (gEst P W R A B (zP S) x)).toInt (lN (gEst P W R A B (zC S) x)).toInt) (lN (numOf (zM S) x + zT S)).toInt) (lN (sEst lim (zS S) x)).toInt = _
  have e1 := lN_toInt63 h1
  have e2 := lN_toInt63 h2
  have e3 := lN_toInt63 h3
  have e4 := lN_toInt63 h4
  have e5 : (lN 0).toInt = 0 := lN_toInt63 (by decide)
  split
  · rename_i h
    have h9 := congrArg Int64.toInt h
    rw [lmin_toInt] at h9
    omega
  · rw [lmin_toInt, lmin_toInt, lmin_toInt]
    omega
theorem okS.est {P W R : Nat} {A B : Nat → Nat} {lim : Nat} {S : Str} (h : okS W R S) (hW : 0 < W) (hR : 0 < R) (x : Nat) : gEst P W R A B (zP S) x ≤ zN S ∧ gEst P W R A B (zC S) x ≤ zN S ∧ numOf (zM S) x + zT S ≤ zN S ∧ sEst lim (zS S) x ≤ zN S := by
  obtain ⟨h0, h1, h2, h3, h4⟩ := h
  refine ⟨gEst_le h1 hW hR x, gEst_le h2 hW hR x, ?_, ?_⟩
  · cases hk : kix (zM S) x with
    | none => rw [numOf_none hk]; have := h3.1; omega
    | some i =>
      obtain ⟨c, q1, q2, q3⟩ := kix_some hk
      rw [numOf_some hk q1]
      exact (h3.2 c (List.mem_of_getElem? q1)).2.1
  · cases hk : kix (zS S) x with
    | none =>
      rw [sEst_none hk]
      unfold sLeast
      split
      · cases hc9 : (zS S)[0]? with
        | none => exact Nat.zero_le _
        | some c => exact h4.1 c (List.mem_of_getElem? hc9)
      · exact Nat.zero_le _
    | some i =>
      obtain ⟨c, q1, q2, q3⟩ := kix_some hk
      rw [sEst_some hk q1]
      exact h4.1 c (List.mem_of_getElem? q1)

set_option maxHeartbeats 4000000 in
set_option maxRecDepth 100000 in
theorem est_loop {M : Mx} {E : Ev} {z : Option Nat} (C : Cx M E yX12_estimated.cls cX12_estimated 14 (some .long) 4 100 0 0) {post : Int64 → Gh → Prop} {G : Gh} {P W R lim rq po : Nat} {A B : Nat → Nat} {Y : Nat → Str} {s x d : Nat} (hs : s < 4) (hx : x < P) (hd3 : d < 3) (hok : ∀ k, k < 4 → okS W R (Y k)) (hd : isMd E G P W R lim rq po A B Y)
    (kend : ∀ x10 x12, V M E 14 (QE M E (fun r : Int64 => some (.long r)) z 0 0 post) z 0 0 G 106 [some (.ref (ga E 104)), some (.int (nI s)), some (.int (nI 4)), some (.int (nI x)), some (.int (nI d)), some (.long (eLow (fun q => kLow P W R A B lim (Y s) q x) 3)), none, some (.long (eHigh (fun q => kHigh P W R A B lim (Y s) q x) 3)), none, some (.int (nI (3 + 1))), x10, none, x12, none] []) : ∀ (t k : Nat), k ≤ 3 → 3 - k < t → ∀ x10 x12, V M E 14 (QE M E (fun r : Int64 => some (.long r)) z 0 0 post) z 0 0 G 38 [some (.ref (ga E 104)), some (.int (nI s)), some (.int (nI 4)), some (.int (nI x)), some (.int (nI d)), some (.long (eLow (fun q => kLow P W R A B lim (Y s) q x) k)), none, some (.long (eHigh (fun q => kHigh P W R A B lim (Y s) q x) k)), none, some (.int (nI (k + 1))), x10, none, x12, none] [] := by
  have ho := hd.1.rc
  intro t
  induction t with
  | zero => intro k _ h; omega
  | succ t ih =>
    intro k hk ht x10 x12
    refine v_iload C dX12_estimated_38 rfl ?_
    refine v_iconst (v := nI 4) C dX12_estimated_40 (by decide) ?_
    refine v_icmpn_ge C 106 dX12_estimated_41 (by decide) (by omega) (by omega) (fun h41 => ?_) (fun h41 => ?_)
    · skip
      have e9 : k = 3 := by omega
      subst e9
      exact kend x10 x12
    · skip
      refine v_aload_n C dX12_estimated_44 rfl ?_
      refine v_iload_n C dX12_estimated_45 rfl ?_
      refine v_iload C dX12_estimated_46 rfl ?_
      refine v_iload_n C dX12_estimated_48 rfl ?_
      refine v_iconst (v := nI 1) C dX12_estimated_49 (by decide) ?_
      refine mc_X12_190 C dX12_estimated_50 (hd.1.rc) (c_Mo_one _ E z (q := k + 1) (d := 1) hs (by omega) hx (by omega) hok hd) rfl (fun r50 G50 hp50 => ?_)
      obtain ⟨hr50, rfl⟩ := hp50
      subst hr50
      refine v_lstore_10 C dX12_estimated_53 (by decide) (by first | rfl | assumption) ?_
      refine v_aload_n C dX12_estimated_55 rfl ?_
      refine v_iload_n C dX12_estimated_56 rfl ?_
      refine v_iload C dX12_estimated_57 rfl ?_
      refine v_iload_n C dX12_estimated_59 rfl ?_
      refine v_iconst (v := nI 2) C dX12_estimated_60 (by decide) ?_
      refine mc_X12_190 C dX12_estimated_61 (hd.1.rc) (c_Mo_one _ E z (q := k + 1) (d := 2) hs (by omega) hx (by omega) hok hd) rfl (fun r61 G61 hp61 => ?_)
      obtain ⟨hr61, rfl⟩ := hp61
      subst hr61
      refine v_lstore_12 C dX12_estimated_64 (by decide) (by first | rfl | assumption) ?_
      refine v_lload C dX12_estimated_66 rfl ?_
      refine v_lload C dX12_estimated_68 rfl ?_
      refine v_lcmp_le C 79 dX12_estimated_70 dX12_estimated_71 (by decide) (fun h70 => ?_) (fun h70 => ?_)
      · skip
        refine v_lload C dX12_estimated_79 rfl ?_
        refine v_lstore_5 C dX12_estimated_81 (by decide) (by first | rfl | assumption) ?_
        refine v_lload C dX12_estimated_83 rfl ?_
        refine v_lload C dX12_estimated_85 rfl ?_
        refine v_lcmp_ge C 96 dX12_estimated_87 dX12_estimated_88 (by decide) (fun h87 => ?_) (fun h87 => ?_)
        · skip
          refine v_lload C dX12_estimated_96 rfl ?_
          refine v_lstore_7 C dX12_estimated_98 (by decide) (by first | rfl | assumption) ?_
          first | refine v_iinc_9 C dX12_estimated_100 (nI_1 _) (by decide) (by first | rfl | assumption) ?_ | refine v_iinc_9 C dX12_estimated_100 rfl (by decide) (by first | rfl | assumption) ?_
          refine v_goto C 38 dX12_estimated_103 (by decide) ?_
          have e1 : eLow (fun q => kLow P W R A B lim (Y s) q x) (k + 1) = if kOne P W R A B lim (Y s) (k + 1) x 1 ≤ eLow (fun q => kLow P W R A B lim (Y s) q x) k then eLow (fun q => kLow P W R A B lim (Y s) q x) k else kOne P W R A B lim (Y s) (k + 1) x 1 := rfl
          have e2 : eHigh (fun q => kHigh P W R A B lim (Y s) q x) (k + 1) = if eHigh (fun q => kHigh P W R A B lim (Y s) q x) k ≤ kOne P W R A B lim (Y s) (k + 1) x 2 then eHigh (fun q => kHigh P W R A B lim (Y s) q x) k else kOne P W R A B lim (Y s) (k + 1) x 2 := rfl
          have key := ih (k + 1) (by omega) (by omega) (some (.long (kOne P W R A B lim (Y s) (k + 1) x 1))) (some (.long (kOne P W R A B lim (Y s) (k + 1) x 2)))
          first
            | (rw [if_pos h70] at e1; rw [if_pos h87] at e2; rw [e1, e2] at key; exact key)
            | (rw [if_pos h70] at e1; rw [if_neg h87] at e2; rw [e1, e2] at key; exact key)
            | (rw [if_neg h70] at e1; rw [if_pos h87] at e2; rw [e1, e2] at key; exact key)
            | (rw [if_neg h70] at e1; rw [if_neg h87] at e2; rw [e1, e2] at key; exact key)
        · skip
          refine v_lload C dX12_estimated_91 rfl ?_
          refine v_goto C 98 dX12_estimated_93 (by decide) ?_
          refine v_lstore_7 C dX12_estimated_98 (by decide) (by first | rfl | assumption) ?_
          first | refine v_iinc_9 C dX12_estimated_100 (nI_1 _) (by decide) (by first | rfl | assumption) ?_ | refine v_iinc_9 C dX12_estimated_100 rfl (by decide) (by first | rfl | assumption) ?_
          refine v_goto C 38 dX12_estimated_103 (by decide) ?_
          have e1 : eLow (fun q => kLow P W R A B lim (Y s) q x) (k + 1) = if kOne P W R A B lim (Y s) (k + 1) x 1 ≤ eLow (fun q => kLow P W R A B lim (Y s) q x) k then eLow (fun q => kLow P W R A B lim (Y s) q x) k else kOne P W R A B lim (Y s) (k + 1) x 1 := rfl
          have e2 : eHigh (fun q => kHigh P W R A B lim (Y s) q x) (k + 1) = if eHigh (fun q => kHigh P W R A B lim (Y s) q x) k ≤ kOne P W R A B lim (Y s) (k + 1) x 2 then eHigh (fun q => kHigh P W R A B lim (Y s) q x) k else kOne P W R A B lim (Y s) (k + 1) x 2 := rfl
          have key := ih (k + 1) (by omega) (by omega) (some (.long (kOne P W R A B lim (Y s) (k + 1) x 1))) (some (.long (kOne P W R A B lim (Y s) (k + 1) x 2)))
          first
            | (rw [if_pos h70] at e1; rw [if_pos h87] at e2; rw [e1, e2] at key; exact key)
            | (rw [if_pos h70] at e1; rw [if_neg h87] at e2; rw [e1, e2] at key; exact key)
            | (rw [if_neg h70] at e1; rw [if_pos h87] at e2; rw [e1, e2] at key; exact key)
            | (rw [if_neg h70] at e1; rw [if_neg h87] at e2; rw [e1, e2] at key; exact key)
      · skip
        refine v_lload C dX12_estimated_74 rfl ?_
        refine v_goto C 81 dX12_estimated_76 (by decide) ?_
        refine v_lstore_5 C dX12_estimated_81 (by decide) (by first | rfl | assumption) ?_
        refine v_lload C dX12_estimated_83 rfl ?_
        refine v_lload C dX12_estimated_85 rfl ?_
        refine v_lcmp_ge C 96 dX12_estimated_87 dX12_estimated_88 (by decide) (fun h87 => ?_) (fun h87 => ?_)
        · skip
          refine v_lload C dX12_estimated_96 rfl ?_
          refine v_lstore_7 C dX12_estimated_98 (by decide) (by first | rfl | assumption) ?_
          first | refine v_iinc_9 C dX12_estimated_100 (nI_1 _) (by decide) (by first | rfl | assumption) ?_ | refine v_iinc_9 C dX12_estimated_100 rfl (by decide) (by first | rfl | assumption) ?_
          refine v_goto C 38 dX12_estimated_103 (by decide) ?_
          have e1 : eLow (fun q => kLow P W R A B lim (Y s) q x) (k + 1) = if kOne P W R A B lim (Y s) (k + 1) x 1 ≤ eLow (fun q => kLow P W R A B lim (Y s) q x) k then eLow (fun q => kLow P W R A B lim (Y s) q x) k else kOne P W R A B lim (Y s) (k + 1) x 1 := rfl
          have e2 : eHigh (fun q => kHigh P W R A B lim (Y s) q x) (k + 1) = if eHigh (fun q => kHigh P W R A B lim (Y s) q x) k ≤ kOne P W R A B lim (Y s) (k + 1) x 2 then eHigh (fun q => kHigh P W R A B lim (Y s) q x) k else kOne P W R A B lim (Y s) (k + 1) x 2 := rfl
          have key := ih (k + 1) (by omega) (by omega) (some (.long (kOne P W R A B lim (Y s) (k + 1) x 1))) (some (.long (kOne P W R A B lim (Y s) (k + 1) x 2)))
          first
            | (rw [if_pos h70] at e1; rw [if_pos h87] at e2; rw [e1, e2] at key; exact key)
            | (rw [if_pos h70] at e1; rw [if_neg h87] at e2; rw [e1, e2] at key; exact key)
            | (rw [if_neg h70] at e1; rw [if_pos h87] at e2; rw [e1, e2] at key; exact key)
            | (rw [if_neg h70] at e1; rw [if_neg h87] at e2; rw [e1, e2] at key; exact key)
        · skip
          refine v_lload C dX12_estimated_91 rfl ?_
          refine v_goto C 98 dX12_estimated_93 (by decide) ?_
          refine v_lstore_7 C dX12_estimated_98 (by decide) (by first | rfl | assumption) ?_
          first | refine v_iinc_9 C dX12_estimated_100 (nI_1 _) (by decide) (by first | rfl | assumption) ?_ | refine v_iinc_9 C dX12_estimated_100 rfl (by decide) (by first | rfl | assumption) ?_
          refine v_goto C 38 dX12_estimated_103 (by decide) ?_
          have e1 : eLow (fun q => kLow P W R A B lim (Y s) q x) (k + 1) = if kOne P W R A B lim (Y s) (k + 1) x 1 ≤ eLow (fun q => kLow P W R A B lim (Y s) q x) k then eLow (fun q => kLow P W R A B lim (Y s) q x) k else kOne P W R A B lim (Y s) (k + 1) x 1 := rfl
          have e2 : eHigh (fun q => kHigh P W R A B lim (Y s) q x) (k + 1) = if eHigh (fun q => kHigh P W R A B lim (Y s) q x) k ≤ kOne P W R A B lim (Y s) (k + 1) x 2 then eHigh (fun q => kHigh P W R A B lim (Y s) q x) k else kOne P W R A B lim (Y s) (k + 1) x 2 := rfl
          have key := ih (k + 1) (by omega) (by omega) (some (.long (kOne P W R A B lim (Y s) (k + 1) x 1))) (some (.long (kOne P W R A B lim (Y s) (k + 1) x 2)))
          first
            | (rw [if_pos h70] at e1; rw [if_pos h87] at e2; rw [e1, e2] at key; exact key)
            | (rw [if_pos h70] at e1; rw [if_neg h87] at e2; rw [e1, e2] at key; exact key)
            | (rw [if_neg h70] at e1; rw [if_pos h87] at e2; rw [e1, e2] at key; exact key)
            | (rw [if_neg h70] at e1; rw [if_neg h87] at e2; rw [e1, e2] at key; exact key)
set_option maxHeartbeats 4000000 in
set_option maxRecDepth 100000 in
theorem c_Mo_estimated (l : Launch) (E : Ev) (z : Option Nat) {G : Gh} {P W R lim rq po : Nat} {A B : Nat → Nat} {Y : Nat → Str} {s q x d : Nat} (hs : s < 4) (hq5 : q < 5) (hx : x < P) (hd3 : d < 3) (hok : ∀ k, k < 4 → okS W R (Y k)) (hd : isMd E G P W R lim rq po A B Y) : K_X12_estimated l E z G [.ref (ga E 104), .int (nI s), .int (nI q), .int (nI x), .int (nI d)] (fun r G2 => r = kOne P W R A B lim (Y s) q x d ∧ G = G2) := by
  refine Fc.of rfl [some (.ref (ga E 104)), some (.int (nI s)), some (.int (nI q)), some (.int (nI x)), some (.int (nI d)), none, none, none, none, none, none, none, none, none] 9 rfl (Nat.le_of_ble_eq_true rfl) ?_
  intro M hM0 hini C
  subst hM0
  have ho := hd.1.rc
  have hrg := hd.1.hl.1
  rcases Nat.lt_or_ge q 4 with hq4 | hq4
  · skip
    refine v_iload_n C dX12_estimated_0 rfl ?_
    refine v_iconst (v := nI 4) C dX12_estimated_1 (by decide) ?_
    refine v_icmpn_ge C 15 dX12_estimated_2 (by decide) (by omega) (by omega) (fun h2 => by exfalso; first | omega | exact absurd h2 (by decide) | (have h9 := of_decide_eq_true h2; omega) | (have h9 := of_decide_eq_false h2; omega) | contradiction | simp_all) (fun h2 => ?_)
    refine v_aload_n C dX12_estimated_5 rfl ?_
    refine v_iload_n C dX12_estimated_6 rfl ?_
    refine v_iload_n C dX12_estimated_7 rfl ?_
    refine v_iload_n C dX12_estimated_8 rfl ?_
    refine v_iload C dX12_estimated_9 rfl ?_
    refine mc_X12_190 C dX12_estimated_11 (hd.1.rc) (c_Mo_one _ E z hs hq4 hx hd3 hok hd) rfl (fun r11 G11 hp11 => ?_)
    obtain ⟨hr11, rfl⟩ := hp11
    subst hr11
    refine v_lret C dX12_estimated_14 ?_
    exact ⟨rfl, rfl⟩
  · obtain rfl : q = 4 := by omega
    refine v_iload_n C dX12_estimated_0 rfl ?_
    refine v_iconst (v := nI 4) C dX12_estimated_1 (by decide) ?_
    refine v_icmpn_ge C 15 dX12_estimated_2 (by decide) (by omega) (by omega) (fun h2 => ?_) (fun h2 => by exfalso; first | omega | exact absurd h2 (by decide) | (have h9 := of_decide_eq_true h2; omega) | (have h9 := of_decide_eq_false h2; omega) | contradiction | simp_all)
    refine v_aload_n C dX12_estimated_15 rfl ?_
    refine v_iload_n C dX12_estimated_16 rfl ?_
    refine v_iconst (v := nI 0) C dX12_estimated_17 (by decide) ?_
    refine v_iload_n C dX12_estimated_18 rfl ?_
    refine v_iconst (v := nI 1) C dX12_estimated_19 (by decide) ?_
    refine mc_X12_190 C dX12_estimated_20 (hd.1.rc) (c_Mo_one _ E z (q := 0) (d := 1) hs (by omega) hx (by omega) hok hd) rfl (fun r20 G20 hp20 => ?_)
    obtain ⟨hr20, rfl⟩ := hp20
    subst hr20
    refine v_lstore_5 C dX12_estimated_23 (by decide) (by first | rfl | assumption) ?_
    refine v_aload_n C dX12_estimated_25 rfl ?_
    refine v_iload_n C dX12_estimated_26 rfl ?_
    refine v_iconst (v := nI 0) C dX12_estimated_27 (by decide) ?_
    refine v_iload_n C dX12_estimated_28 rfl ?_
    refine v_iconst (v := nI 2) C dX12_estimated_29 (by decide) ?_
    refine mc_X12_190 C dX12_estimated_30 (hd.1.rc) (c_Mo_one _ E z (q := 0) (d := 2) hs (by omega) hx (by omega) hok hd) rfl (fun r30 G30 hp30 => ?_)
    obtain ⟨hr30, rfl⟩ := hp30
    subst hr30
    refine v_lstore_7 C dX12_estimated_33 (by decide) (by first | rfl | assumption) ?_
    refine v_iconst (v := nI 1) C dX12_estimated_35 (by decide) ?_
    refine v_istore_9 C dX12_estimated_36 (by decide) (by first | rfl | assumption) ?_
    refine est_loop C hs hx hd3 hok hd ?_ 4 0 (by omega) (by omega) none none
    intro x10 x12
    have hb := (hok s hs).est (P := P) (A := A) (B := B) (lim := lim) (by omega) (by omega) x
    have hn9 := (hok s hs).1
    unfold N15 at hn9
    rw [eLow_all, eHigh_all (by omega) (by omega) (by omega) (by omega)]
    rcases (show d = 0 ∨ d = 1 ∨ d = 2 by omega) with rfl | rfl | rfl
    · skip
      refine v_iload C dX12_estimated_106 rfl ?_
      refine v_iconst (v := nI 1) C dX12_estimated_108 (by decide) ?_
      refine v_icmpn_ne C 117 dX12_estimated_109 (by decide) (by omega) (by omega) (fun h109 => ?_) (fun h109 => by exfalso; first | omega | exact absurd h109 (by decide) | (have h9 := of_decide_eq_true h109; omega) | (have h9 := of_decide_eq_false h109; omega) | contradiction | simp_all)
      refine v_iload C dX12_estimated_117 rfl ?_
      refine v_iconst (v := nI 2) C dX12_estimated_119 (by decide) ?_
      refine v_icmpn_ne C 128 dX12_estimated_120 (by decide) (by omega) (by omega) (fun h120 => ?_) (fun h120 => by exfalso; first | omega | exact absurd h120 (by decide) | (have h9 := of_decide_eq_true h120; omega) | (have h9 := of_decide_eq_false h120; omega) | contradiction | simp_all)
      refine v_lload C dX12_estimated_128 rfl ?_
      refine v_lload C dX12_estimated_130 rfl ?_
      refine v_ladd C dX12_estimated_132 ?_
      refine v_ldc2 C tw825 dX12_estimated_133 ?_
      refine v_ldiv C dX12_estimated_136 (by decide) ?_
      refine v_lret C dX12_estimated_137 ?_
      exact ⟨rfl, rfl⟩
    · skip
      refine v_iload C dX12_estimated_106 rfl ?_
      refine v_iconst (v := nI 1) C dX12_estimated_108 (by decide) ?_
      refine v_icmpn_ne C 117 dX12_estimated_109 (by decide) (by omega) (by omega) (fun h109 => by exfalso; first | omega | exact absurd h109 (by decide) | (have h9 := of_decide_eq_true h109; omega) | (have h9 := of_decide_eq_false h109; omega) | contradiction | simp_all) (fun h109 => ?_)
      refine v_lload C dX12_estimated_112 rfl ?_
      refine v_goto C 137 dX12_estimated_114 (by decide) ?_
      refine v_lret C dX12_estimated_137 ?_
      exact ⟨rfl, rfl⟩
    · skip
      refine v_iload C dX12_estimated_106 rfl ?_
      refine v_iconst (v := nI 1) C dX12_estimated_108 (by decide) ?_
      refine v_icmpn_ne C 117 dX12_estimated_109 (by decide) (by omega) (by omega) (fun h109 => ?_) (fun h109 => by exfalso; first | omega | exact absurd h109 (by decide) | (have h9 := of_decide_eq_true h109; omega) | (have h9 := of_decide_eq_false h109; omega) | contradiction | simp_all)
      refine v_iload C dX12_estimated_117 rfl ?_
      refine v_iconst (v := nI 2) C dX12_estimated_119 (by decide) ?_
      refine v_icmpn_ne C 128 dX12_estimated_120 (by decide) (by omega) (by omega) (fun h120 => by exfalso; first | omega | exact absurd h120 (by decide) | (have h9 := of_decide_eq_true h120; omega) | (have h9 := of_decide_eq_false h120; omega) | contradiction | simp_all) (fun h120 => ?_)
      refine v_lload C dX12_estimated_123 rfl ?_
      refine v_goto C 137 dX12_estimated_125 (by decide) ?_
      refine v_lret C dX12_estimated_137 ?_
      exact ⟨rfl, rfl⟩

theorem iin_no {x : Int32} {n k : Nat} (h : iin x n = false) (hk : k < n) (hn : n < 2 ^ 31) : ¬ x = nI k := fun e => by
  subst e
  unfold iin at h
  have h9 := of_decide_eq_false h
  rw [nI_toInt (by omega)] at h9
  omega
theorem nI_ne {a b : Nat} (ha : a < 2 ^ 31) (hb : b < 2 ^ 31) (h : a ≠ b) : ¬ nI a = nI b := fun e => by
  have := congrArg Int32.toInt e
  rw [nI_toInt (by omega), nI_toInt (by omega)] at this
  omega

set_option maxHeartbeats 4000000 in
set_option maxRecDepth 100000 in
theorem c_Mo_estimate (l : Launch) (E : Ev) (z : Option Nat) {G : Gh} {P W R lim rq po : Nat} {A B : Nat → Nat} {Y : Nat → Str} {x1 x2 x3 x4 : Int32} (hok : ∀ k, k < 4 → okS W R (Y k)) (hd : isMd E G P W R lim rq po A B Y) : K_X12_estimate l E z G [.ref (ga E 104), .int x1, .int x2, .int x3, .int x4] (fun r G2 => r = oEst P W R A B lim Y x1 x2 x3 x4 ∧ G = G2) := by
  refine Fc.of rfl [some (.ref (ga E 104)), some (.int x1), some (.int x2), some (.int x3), some (.int x4)] 0 rfl (Nat.le_of_ble_eq_true rfl) ?_
  intro M hM0 hini C
  subst hM0
  obtain ⟨hm, ⟨ft, h7, hft⟩, ⟨fp, hp, hip⟩, ⟨fq, hq, hiq⟩, hMm, hMs, hMc⟩ := id hd
  replace hft : ∀ q, q < 4 → ft q = lN (zN (Y q)) := hft
  replace hip : ∀ q r c, q < 4 → r < R → c < W → fp (2048 * q + 256 * r + c) = lN (zP (Y q) r c) := hip
  replace hiq : ∀ q r c, q < 4 → r < R → c < W → fq (2048 * q + 256 * r + c) = lN (zC (Y q) r c) := hiq
  obtain ⟨fa, fb, ho, k5, k6, hfa, hfb, hrg, hlim, hab⟩ := id hm
  cases hi1 : iin x1 4 with
  | false =>
    refine v_iload_n C dX12_estimate_0 rfl ?_
    refine mc_X12_146 C dX12_estimate_1 (c_Mo_isStream _ E z) rfl (fun r1 G1 hp1 => ?_)
    obtain ⟨hr1, rfl⟩ := hp1
    rw [hi1] at hr1
    subst hr1
    first | refine v_ifb_eq C 46 dX12_estimate_4 (by decide) (fun h4 => ?_) (fun h4 => by exfalso; first | omega | exact absurd h4 (by decide) | (have h9 := of_decide_eq_true h4; omega) | (have h9 := of_decide_eq_false h4; omega) | contradiction | simp_all) | refine v_ifn_eq C 46 dX12_estimate_4 (by decide) (by omega) (fun h4 => ?_) (fun h4 => by exfalso; first | omega | exact absurd h4 (by decide) | (have h9 := of_decide_eq_true h4; omega) | (have h9 := of_decide_eq_false h4; omega) | contradiction | simp_all) | refine v_if_eq C 46 dX12_estimate_4 (by decide) (fun h4 => ?_) (fun h4 => by exfalso; first | omega | exact absurd h4 (by decide) | (have h9 := of_decide_eq_true h4; omega) | (have h9 := of_decide_eq_false h4; omega) | contradiction | simp_all)
    refine v_ldc2 C tw824 dX12_estimate_46 ?_
    refine v_lret C dX12_estimate_49 ?_
    exact ⟨by unfold oEst; rw [if_neg (by rw [hi1]; decide)], rfl⟩
  | true =>
    obtain ⟨s, hs, rfl⟩ := iin_of hi1 (by decide)
    have hsx : ix (nI s) = s := ix_nI (by omega)
    cases hi5 : iin x2 5 with
    | false =>
      refine v_iload_n C dX12_estimate_0 rfl ?_
      refine mc_X12_146 C dX12_estimate_1 (c_Mo_isStream _ E z) rfl (fun r1 G1 hp1 => ?_)
      obtain ⟨hr1, rfl⟩ := hp1
      rw [hi1] at hr1
      subst hr1
      first | refine v_ifb_eq C 46 dX12_estimate_4 (by decide) (fun h4 => by exfalso; first | omega | exact absurd h4 (by decide) | (have h9 := of_decide_eq_true h4; omega) | (have h9 := of_decide_eq_false h4; omega) | contradiction | simp_all) (fun h4 => ?_) | refine v_ifn_eq C 46 dX12_estimate_4 (by decide) (by omega) (fun h4 => by exfalso; first | omega | exact absurd h4 (by decide) | (have h9 := of_decide_eq_true h4; omega) | (have h9 := of_decide_eq_false h4; omega) | contradiction | simp_all) (fun h4 => ?_) | refine v_if_eq C 46 dX12_estimate_4 (by decide) (fun h4 => by exfalso; first | omega | exact absurd h4 (by decide) | (have h9 := of_decide_eq_true h4; omega) | (have h9 := of_decide_eq_false h4; omega) | contradiction | simp_all) (fun h4 => ?_)
      refine v_iload_n C dX12_estimate_7 rfl ?_
      refine v_iconst (v := nI 0) C dX12_estimate_8 (by decide) ?_
      refine v_iconst (v := nI 4) C dX12_estimate_9 (by decide) ?_
      refine mc_X12_101 C dX12_estimate_10 (c_Mo_in _ E z) rfl (fun r10 G10 hp10 => ?_)
      obtain ⟨hr10, rfl⟩ := hp10
      rw [inn_iin (n := 5) (by omega) (by omega), hi5] at hr10
      subst hr10
      first | refine v_ifb_eq C 46 dX12_estimate_13 (by decide) (fun h13 => ?_) (fun h13 => by exfalso; first | omega | exact absurd h13 (by decide) | (have h9 := of_decide_eq_true h13; omega) | (have h9 := of_decide_eq_false h13; omega) | contradiction | simp_all) | refine v_ifn_eq C 46 dX12_estimate_13 (by decide) (by omega) (fun h13 => ?_) (fun h13 => by exfalso; first | omega | exact absurd h13 (by decide) | (have h9 := of_decide_eq_true h13; omega) | (have h9 := of_decide_eq_false h13; omega) | contradiction | simp_all) | refine v_if_eq C 46 dX12_estimate_13 (by decide) (fun h13 => ?_) (fun h13 => by exfalso; first | omega | exact absurd h13 (by decide) | (have h9 := of_decide_eq_true h13; omega) | (have h9 := of_decide_eq_false h13; omega) | contradiction | simp_all)
      refine v_ldc2 C tw824 dX12_estimate_46 ?_
      refine v_lret C dX12_estimate_49 ?_
      exact ⟨by unfold oEst; rw [if_pos hi1]; rw [if_neg (by rw [hi5]; decide)], rfl⟩
    | true =>
      obtain ⟨q, hq5, rfl⟩ := iin_of hi5 (by decide)
      have hqx : ix (nI q) = q := ix_nI (by omega)
      cases hi2 : iin x3 P with
      | false =>
        refine v_iload_n C dX12_estimate_0 rfl ?_
        refine mc_X12_146 C dX12_estimate_1 (c_Mo_isStream _ E z) rfl (fun r1 G1 hp1 => ?_)
        obtain ⟨hr1, rfl⟩ := hp1
        rw [hi1] at hr1
        subst hr1
        first | refine v_ifb_eq C 46 dX12_estimate_4 (by decide) (fun h4 => by exfalso; first | omega | exact absurd h4 (by decide) | (have h9 := of_decide_eq_true h4; omega) | (have h9 := of_decide_eq_false h4; omega) | contradiction | simp_all) (fun h4 => ?_) | refine v_ifn_eq C 46 dX12_estimate_4 (by decide) (by omega) (fun h4 => by exfalso; first | omega | exact absurd h4 (by decide) | (have h9 := of_decide_eq_true h4; omega) | (have h9 := of_decide_eq_false h4; omega) | contradiction | simp_all) (fun h4 => ?_) | refine v_if_eq C 46 dX12_estimate_4 (by decide) (fun h4 => by exfalso; first | omega | exact absurd h4 (by decide) | (have h9 := of_decide_eq_true h4; omega) | (have h9 := of_decide_eq_false h4; omega) | contradiction | simp_all) (fun h4 => ?_)
        refine v_iload_n C dX12_estimate_7 rfl ?_
        refine v_iconst (v := nI 0) C dX12_estimate_8 (by decide) ?_
        refine v_iconst (v := nI 4) C dX12_estimate_9 (by decide) ?_
        refine mc_X12_101 C dX12_estimate_10 (c_Mo_in _ E z) rfl (fun r10 G10 hp10 => ?_)
        obtain ⟨hr10, rfl⟩ := hp10
        rw [inn_iin (n := 5) (by omega) (by omega), hi5] at hr10
        subst hr10
        first | refine v_ifb_eq C 46 dX12_estimate_13 (by decide) (fun h13 => by exfalso; first | omega | exact absurd h13 (by decide) | (have h9 := of_decide_eq_true h13; omega) | (have h9 := of_decide_eq_false h13; omega) | contradiction | simp_all) (fun h13 => ?_) | refine v_ifn_eq C 46 dX12_estimate_13 (by decide) (by omega) (fun h13 => by exfalso; first | omega | exact absurd h13 (by decide) | (have h9 := of_decide_eq_true h13; omega) | (have h9 := of_decide_eq_false h13; omega) | contradiction | simp_all) (fun h13 => ?_) | refine v_if_eq C 46 dX12_estimate_13 (by decide) (fun h13 => by exfalso; first | omega | exact absurd h13 (by decide) | (have h9 := of_decide_eq_true h13; omega) | (have h9 := of_decide_eq_false h13; omega) | contradiction | simp_all) (fun h13 => ?_)
        refine v_aload_n C dX12_estimate_16 rfl ?_
        refine v_iload_n C dX12_estimate_17 rfl ?_
        refine mc_X12_105 C dX12_estimate_18 (by assumption) (c_Mo_isKey _ E z hm) rfl (fun r18 G18 hp18 => ?_)
        obtain ⟨hr18, rfl⟩ := hp18
        rw [hi2] at hr18
        subst hr18
        first | refine v_ifb_eq C 46 dX12_estimate_21 (by decide) (fun h21 => ?_) (fun h21 => by exfalso; first | omega | exact absurd h21 (by decide) | (have h9 := of_decide_eq_true h21; omega) | (have h9 := of_decide_eq_false h21; omega) | contradiction | simp_all) | refine v_ifn_eq C 46 dX12_estimate_21 (by decide) (by omega) (fun h21 => ?_) (fun h21 => by exfalso; first | omega | exact absurd h21 (by decide) | (have h9 := of_decide_eq_true h21; omega) | (have h9 := of_decide_eq_false h21; omega) | contradiction | simp_all) | refine v_if_eq C 46 dX12_estimate_21 (by decide) (fun h21 => ?_) (fun h21 => by exfalso; first | omega | exact absurd h21 (by decide) | (have h9 := of_decide_eq_true h21; omega) | (have h9 := of_decide_eq_false h21; omega) | contradiction | simp_all)
        refine v_ldc2 C tw824 dX12_estimate_46 ?_
        refine v_lret C dX12_estimate_49 ?_
        exact ⟨by unfold oEst; rw [if_pos hi1]; rw [if_pos hi5]; rw [if_neg (by rw [hi2]; decide)], rfl⟩
      | true =>
        obtain ⟨x, hx, rfl⟩ := iin_of hi2 (by omega)
        have hxx : ix (nI x) = x := ix_nI (by omega)
        cases hi6 : iin x4 3 with
        | false =>
          refine v_iload_n C dX12_estimate_0 rfl ?_
          refine mc_X12_146 C dX12_estimate_1 (c_Mo_isStream _ E z) rfl (fun r1 G1 hp1 => ?_)
          obtain ⟨hr1, rfl⟩ := hp1
          rw [hi1] at hr1
          subst hr1
          first | refine v_ifb_eq C 46 dX12_estimate_4 (by decide) (fun h4 => by exfalso; first | omega | exact absurd h4 (by decide) | (have h9 := of_decide_eq_true h4; omega) | (have h9 := of_decide_eq_false h4; omega) | contradiction | simp_all) (fun h4 => ?_) | refine v_ifn_eq C 46 dX12_estimate_4 (by decide) (by omega) (fun h4 => by exfalso; first | omega | exact absurd h4 (by decide) | (have h9 := of_decide_eq_true h4; omega) | (have h9 := of_decide_eq_false h4; omega) | contradiction | simp_all) (fun h4 => ?_) | refine v_if_eq C 46 dX12_estimate_4 (by decide) (fun h4 => by exfalso; first | omega | exact absurd h4 (by decide) | (have h9 := of_decide_eq_true h4; omega) | (have h9 := of_decide_eq_false h4; omega) | contradiction | simp_all) (fun h4 => ?_)
          refine v_iload_n C dX12_estimate_7 rfl ?_
          refine v_iconst (v := nI 0) C dX12_estimate_8 (by decide) ?_
          refine v_iconst (v := nI 4) C dX12_estimate_9 (by decide) ?_
          refine mc_X12_101 C dX12_estimate_10 (c_Mo_in _ E z) rfl (fun r10 G10 hp10 => ?_)
          obtain ⟨hr10, rfl⟩ := hp10
          rw [inn_iin (n := 5) (by omega) (by omega), hi5] at hr10
          subst hr10
          first | refine v_ifb_eq C 46 dX12_estimate_13 (by decide) (fun h13 => by exfalso; first | omega | exact absurd h13 (by decide) | (have h9 := of_decide_eq_true h13; omega) | (have h9 := of_decide_eq_false h13; omega) | contradiction | simp_all) (fun h13 => ?_) | refine v_ifn_eq C 46 dX12_estimate_13 (by decide) (by omega) (fun h13 => by exfalso; first | omega | exact absurd h13 (by decide) | (have h9 := of_decide_eq_true h13; omega) | (have h9 := of_decide_eq_false h13; omega) | contradiction | simp_all) (fun h13 => ?_) | refine v_if_eq C 46 dX12_estimate_13 (by decide) (fun h13 => by exfalso; first | omega | exact absurd h13 (by decide) | (have h9 := of_decide_eq_true h13; omega) | (have h9 := of_decide_eq_false h13; omega) | contradiction | simp_all) (fun h13 => ?_)
          refine v_aload_n C dX12_estimate_16 rfl ?_
          refine v_iload_n C dX12_estimate_17 rfl ?_
          refine mc_X12_105 C dX12_estimate_18 (by assumption) (c_Mo_isKey _ E z hm) rfl (fun r18 G18 hp18 => ?_)
          obtain ⟨hr18, rfl⟩ := hp18
          rw [hi2] at hr18
          subst hr18
          first | refine v_ifb_eq C 46 dX12_estimate_21 (by decide) (fun h21 => by exfalso; first | omega | exact absurd h21 (by decide) | (have h9 := of_decide_eq_true h21; omega) | (have h9 := of_decide_eq_false h21; omega) | contradiction | simp_all) (fun h21 => ?_) | refine v_ifn_eq C 46 dX12_estimate_21 (by decide) (by omega) (fun h21 => by exfalso; first | omega | exact absurd h21 (by decide) | (have h9 := of_decide_eq_true h21; omega) | (have h9 := of_decide_eq_false h21; omega) | contradiction | simp_all) (fun h21 => ?_) | refine v_if_eq C 46 dX12_estimate_21 (by decide) (fun h21 => by exfalso; first | omega | exact absurd h21 (by decide) | (have h9 := of_decide_eq_true h21; omega) | (have h9 := of_decide_eq_false h21; omega) | contradiction | simp_all) (fun h21 => ?_)
          refine v_iload C dX12_estimate_24 rfl ?_
          refine v_iconst (v := nI 0) C dX12_estimate_26 (by decide) ?_
          refine v_iconst (v := nI 2) C dX12_estimate_27 (by decide) ?_
          refine mc_X12_101 C dX12_estimate_28 (c_Mo_in _ E z) rfl (fun r28 G28 hp28 => ?_)
          obtain ⟨hr28, rfl⟩ := hp28
          rw [inn_iin (n := 3) (by omega) (by omega), hi6] at hr28
          subst hr28
          first | refine v_ifb_eq C 46 dX12_estimate_31 (by decide) (fun h31 => ?_) (fun h31 => by exfalso; first | omega | exact absurd h31 (by decide) | (have h9 := of_decide_eq_true h31; omega) | (have h9 := of_decide_eq_false h31; omega) | contradiction | simp_all) | refine v_ifn_eq C 46 dX12_estimate_31 (by decide) (by omega) (fun h31 => ?_) (fun h31 => by exfalso; first | omega | exact absurd h31 (by decide) | (have h9 := of_decide_eq_true h31; omega) | (have h9 := of_decide_eq_false h31; omega) | contradiction | simp_all) | refine v_if_eq C 46 dX12_estimate_31 (by decide) (fun h31 => ?_) (fun h31 => by exfalso; first | omega | exact absurd h31 (by decide) | (have h9 := of_decide_eq_true h31; omega) | (have h9 := of_decide_eq_false h31; omega) | contradiction | simp_all)
          refine v_ldc2 C tw824 dX12_estimate_46 ?_
          refine v_lret C dX12_estimate_49 ?_
          exact ⟨by unfold oEst; rw [if_pos hi1]; rw [if_pos hi5]; rw [if_pos hi2]; rw [if_neg (iin_no hi6 (by decide) (by decide))]; rw [if_neg (iin_no hi6 (by decide) (by decide))]; rw [if_neg (iin_no hi6 (by decide) (by decide))], rfl⟩
        | true =>
          obtain ⟨d, hd3, rfl⟩ := iin_of hi6 (by decide)
          refine v_iload_n C dX12_estimate_0 rfl ?_
          refine mc_X12_146 C dX12_estimate_1 (c_Mo_isStream _ E z) rfl (fun r1 G1 hp1 => ?_)
          obtain ⟨hr1, rfl⟩ := hp1
          rw [hi1] at hr1
          subst hr1
          first | refine v_ifb_eq C 46 dX12_estimate_4 (by decide) (fun h4 => by exfalso; first | omega | exact absurd h4 (by decide) | (have h9 := of_decide_eq_true h4; omega) | (have h9 := of_decide_eq_false h4; omega) | contradiction | simp_all) (fun h4 => ?_) | refine v_ifn_eq C 46 dX12_estimate_4 (by decide) (by omega) (fun h4 => by exfalso; first | omega | exact absurd h4 (by decide) | (have h9 := of_decide_eq_true h4; omega) | (have h9 := of_decide_eq_false h4; omega) | contradiction | simp_all) (fun h4 => ?_) | refine v_if_eq C 46 dX12_estimate_4 (by decide) (fun h4 => by exfalso; first | omega | exact absurd h4 (by decide) | (have h9 := of_decide_eq_true h4; omega) | (have h9 := of_decide_eq_false h4; omega) | contradiction | simp_all) (fun h4 => ?_)
          refine v_iload_n C dX12_estimate_7 rfl ?_
          refine v_iconst (v := nI 0) C dX12_estimate_8 (by decide) ?_
          refine v_iconst (v := nI 4) C dX12_estimate_9 (by decide) ?_
          refine mc_X12_101 C dX12_estimate_10 (c_Mo_in _ E z) rfl (fun r10 G10 hp10 => ?_)
          obtain ⟨hr10, rfl⟩ := hp10
          rw [inn_iin (n := 5) (by omega) (by omega), hi5] at hr10
          subst hr10
          first | refine v_ifb_eq C 46 dX12_estimate_13 (by decide) (fun h13 => by exfalso; first | omega | exact absurd h13 (by decide) | (have h9 := of_decide_eq_true h13; omega) | (have h9 := of_decide_eq_false h13; omega) | contradiction | simp_all) (fun h13 => ?_) | refine v_ifn_eq C 46 dX12_estimate_13 (by decide) (by omega) (fun h13 => by exfalso; first | omega | exact absurd h13 (by decide) | (have h9 := of_decide_eq_true h13; omega) | (have h9 := of_decide_eq_false h13; omega) | contradiction | simp_all) (fun h13 => ?_) | refine v_if_eq C 46 dX12_estimate_13 (by decide) (fun h13 => by exfalso; first | omega | exact absurd h13 (by decide) | (have h9 := of_decide_eq_true h13; omega) | (have h9 := of_decide_eq_false h13; omega) | contradiction | simp_all) (fun h13 => ?_)
          refine v_aload_n C dX12_estimate_16 rfl ?_
          refine v_iload_n C dX12_estimate_17 rfl ?_
          refine mc_X12_105 C dX12_estimate_18 (by assumption) (c_Mo_isKey _ E z hm) rfl (fun r18 G18 hp18 => ?_)
          obtain ⟨hr18, rfl⟩ := hp18
          rw [hi2] at hr18
          subst hr18
          first | refine v_ifb_eq C 46 dX12_estimate_21 (by decide) (fun h21 => by exfalso; first | omega | exact absurd h21 (by decide) | (have h9 := of_decide_eq_true h21; omega) | (have h9 := of_decide_eq_false h21; omega) | contradiction | simp_all) (fun h21 => ?_) | refine v_ifn_eq C 46 dX12_estimate_21 (by decide) (by omega) (fun h21 => by exfalso; first | omega | exact absurd h21 (by decide) | (have h9 := of_decide_eq_true h21; omega) | (have h9 := of_decide_eq_false h21; omega) | contradiction | simp_all) (fun h21 => ?_) | refine v_if_eq C 46 dX12_estimate_21 (by decide) (fun h21 => by exfalso; first | omega | exact absurd h21 (by decide) | (have h9 := of_decide_eq_true h21; omega) | (have h9 := of_decide_eq_false h21; omega) | contradiction | simp_all) (fun h21 => ?_)
          refine v_iload C dX12_estimate_24 rfl ?_
          refine v_iconst (v := nI 0) C dX12_estimate_26 (by decide) ?_
          refine v_iconst (v := nI 2) C dX12_estimate_27 (by decide) ?_
          refine mc_X12_101 C dX12_estimate_28 (c_Mo_in _ E z) rfl (fun r28 G28 hp28 => ?_)
          obtain ⟨hr28, rfl⟩ := hp28
          rw [inn_iin (n := 3) (by omega) (by omega), hi6] at hr28
          subst hr28
          first | refine v_ifb_eq C 46 dX12_estimate_31 (by decide) (fun h31 => by exfalso; first | omega | exact absurd h31 (by decide) | (have h9 := of_decide_eq_true h31; omega) | (have h9 := of_decide_eq_false h31; omega) | contradiction | simp_all) (fun h31 => ?_) | refine v_ifn_eq C 46 dX12_estimate_31 (by decide) (by omega) (fun h31 => by exfalso; first | omega | exact absurd h31 (by decide) | (have h9 := of_decide_eq_true h31; omega) | (have h9 := of_decide_eq_false h31; omega) | contradiction | simp_all) (fun h31 => ?_) | refine v_if_eq C 46 dX12_estimate_31 (by decide) (fun h31 => by exfalso; first | omega | exact absurd h31 (by decide) | (have h9 := of_decide_eq_true h31; omega) | (have h9 := of_decide_eq_false h31; omega) | contradiction | simp_all) (fun h31 => ?_)
          refine v_aload_n C dX12_estimate_34 rfl ?_
          refine v_iload_n C dX12_estimate_35 rfl ?_
          refine v_iload_n C dX12_estimate_36 rfl ?_
          refine v_iload_n C dX12_estimate_37 rfl ?_
          refine v_iload C dX12_estimate_38 rfl ?_
          refine mc_X12_196 C dX12_estimate_40 (by assumption) (c_Mo_estimated _ E z hs hq5 hx hd3 hok hd) rfl (fun r40 G40 hp40 => ?_)
          obtain ⟨hr40, rfl⟩ := hp40
          subst hr40
          refine v_goto C 49 dX12_estimate_43 (by decide) ?_
          refine v_lret C dX12_estimate_49 ?_
          refine ⟨?_, rfl⟩
          unfold oEst
          rw [if_pos hi1, if_pos hi5, if_pos hi2, hsx, hqx, hxx]
          rcases (show d = 0 ∨ d = 1 ∨ d = 2 by omega) with rfl | rfl | rfl
          · rw [if_pos rfl]; rfl
          · rw [if_neg (nI_ne (by decide) (by decide) (by decide)), if_pos rfl]; rfl
          · rw [if_neg (nI_ne (by decide) (by decide) (by decide)), if_neg (nI_ne (by decide) (by decide) (by decide)), if_pos rfl]; rfl

