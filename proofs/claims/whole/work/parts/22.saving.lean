/-! Saving (class 8): held -/
def isSav (E : Ev) (G : Gh) (b P lim : Nat) (l : Ctr) : Prop := G b = cO 8 [.ref (ga E (b + 1))] ∧ isCtr E G (b + 1) P lim l
theorem isSav.keep {E : Ev} {G G2 : Gh} {b P lim : Nat} {l : Ctr} (h : isSav E G b P lim l) (hf : ∀ j, b ≤ j → j < b + 7 → G2 j = G j) : isSav E G2 b P lim l := ⟨(hf _ (by omega) (by omega)).trans h.1, h.2.keep (fun j a b => hf j (by omega) (by omega))⟩
def sLeast (lim : Nat) (l : Ctr) : Nat := if lim ≤ l.length then (match l[0]? with | none => 0 | some c => c.2.1) else 0
def sEst (lim : Nat) (l : Ctr) (x : Nat) : Nat := match kix l x with
  | none => sLeast lim l
  | some i => match l[i]? with
    | none => 0
    | some c => c.2.1
def sErr (lim : Nat) (l : Ctr) (x : Nat) : Nat := match kix l x with
  | none => sLeast lim l
  | some i => match l[i]? with
    | none => 0
    | some c => c.2.2
def sLow (l : Ctr) (x : Nat) : Int64 := match kix l x with
  | none => lN 0
  | some i => match l[i]? with
    | none => lN 0
    | some c => lN c.2.1 - lN c.2.2
theorem sEst_none {lim : Nat} {l : Ctr} {x : Nat} (h : kix l x = none) : sEst lim l x = sLeast lim l := by unfold sEst; rw [h]
theorem sErr_none {lim : Nat} {l : Ctr} {x : Nat} (h : kix l x = none) : sErr lim l x = sLeast lim l := by unfold sErr; rw [h]
theorem sLow_none {l : Ctr} {x : Nat} (h : kix l x = none) : sLow l x = lN 0 := by unfold sLow; rw [h]
theorem sEst_some {lim : Nat} {l : Ctr} {x i : Nat} {c : Nat × Nat × Nat} (h : kix l x = some i) (hc : l[i]? = some c) : sEst lim l x = c.2.1 := by unfold sEst; rw [h]; simp only []; rw [hc]
theorem sErr_some {lim : Nat} {l : Ctr} {x i : Nat} {c : Nat × Nat × Nat} (h : kix l x = some i) (hc : l[i]? = some c) : sErr lim l x = c.2.2 := by unfold sErr; rw [h]; simp only []; rw [hc]
theorem sLow_some {l : Ctr} {x i : Nat} {c : Nat × Nat × Nat} (h : kix l x = some i) (hc : l[i]? = some c) : sLow l x = lN c.2.1 - lN c.2.2 := by unfold sLow; rw [h]; simp only []; rw [hc]

set_option maxHeartbeats 4000000 in
set_option maxRecDepth 100000 in
theorem c_Sav_least (l : Launch) (E : Ev) (z : Option Nat) {G : Gh} {b P lim : Nat} {l0 : Ctr} (hm : isSav E G b P lim l0) : K_X8_least l E z G [.ref (ga E b)] (fun r G2 => r = lN (sLeast lim l0) ∧ G = G2) := by
  refine Fc.of rfl [some (.ref (ga E b))] 0 rfl (Nat.le_of_ble_eq_true rfl) ?_
  intro M hM0 hini C
  subst hM0
  obtain ⟨hm0, hc⟩ := id hm
  obtain ⟨fk, fn, fe, hb0, hb1, hb2, hb3, hks, hrep, hwf, hkp, hnd⟩ := id hc
  refine v_aload_n C dX8_least_0 rfl ?_
  refine gf_X8_12 C dX8_least_1 (by assumption) ?_
  refine mc_X8_18 C dX8_least_4 (by assumption) (c_Ctr_isFull _ E z hc) rfl (fun r4 G4 hp4 => ?_)
  obtain ⟨rfl, rfl⟩ := hp4
  first | refine v_ifb_eq C 22 dX8_least_7 (by decide) (fun h7 => ?_) (fun h7 => ?_) | refine v_ifn_eq C 22 dX8_least_7 (by decide) (by omega) (fun h7 => ?_) (fun h7 => ?_) | refine v_if_eq C 22 dX8_least_7 (by decide) (fun h7 => ?_) (fun h7 => ?_)
  · skip
    refine v_lconst (v := lN 0) C dX8_least_22 (by decide) ?_
    refine v_lret C dX8_least_23 ?_
    first
      | (have hfu : ¬ lim ≤ l0.length := by simpa using h7
         exact ⟨by unfold sLeast; rw [if_neg hfu], rfl⟩)
      | exact ⟨by unfold sLeast; rw [if_pos hfu, hci], rfl⟩
  · skip
    have hfu : lim ≤ l0.length := by simpa using h7
    have hci : l0[0]? = some l0[0] := List.getElem?_eq_getElem (by omega)
    refine v_aload_n C dX8_least_10 rfl ?_
    refine gf_X8_12 C dX8_least_11 (by assumption) ?_
    refine gf_X8_22 C dX8_least_14 (by assumption) ?_
    refine v_iconst (v := nI 0) C dX8_least_17 (by decide) ?_
    refine v_lald C dX8_least_18 (by assumption) (by omega) (by omega) (hrep 0 _ hci).2.1 ?_
    refine v_goto C 23 dX8_least_19 (by decide) ?_
    refine v_lret C dX8_least_23 ?_
    first
      | (have hfu : ¬ lim ≤ l0.length := by simpa using h7
         exact ⟨by unfold sLeast; rw [if_neg hfu], rfl⟩)
      | exact ⟨by unfold sLeast; rw [if_pos hfu, hci], rfl⟩

set_option maxHeartbeats 4000000 in
set_option maxRecDepth 100000 in
theorem c_Sav_guess (l : Launch) (E : Ev) (z : Option Nat) {G : Gh} {b P lim : Nat} {l0 : Ctr} {x : Nat} (hx : x < P) (hm : isSav E G b P lim l0) : K_X8_guess l E z G [.ref (ga E b), .int (nI x)] (fun r G2 => r = lN (sEst lim l0 x) ∧ G = G2) := by
  refine Fc.of rfl [some (.ref (ga E b)), some (.int (nI x)), none] 1 rfl (Nat.le_of_ble_eq_true rfl) ?_
  intro M hM0 hini C
  subst hM0
  obtain ⟨hm0, hc⟩ := id hm
  obtain ⟨fk, fn, fe, hb0, hb1, hb2, hb3, hks, hrep, hwf, hkp, hnd⟩ := id hc
  refine v_aload_n C dX8_guess_0 rfl ?_
  refine gf_X8_12 C dX8_guess_1 (by assumption) ?_
  refine v_iload_n C dX8_guess_4 rfl ?_
  refine mc_X8_26 C dX8_guess_5 (by assumption) (c_Ctr_find _ E z hx hc) rfl (fun r5 G5 hp5 => ?_)
  obtain ⟨hr5, rfl⟩ := hp5
  rcases kix_cases hr5 with ⟨hk, rfl⟩ | ⟨i, c, hk, rfl, hci, hcx, hil⟩
  · skip
    refine v_istore_2 C dX8_guess_8 (by decide) rfl ?_
    refine v_iload_n C dX8_guess_9 rfl ?_
    refine v_if_ge C 20 dX8_guess_10 (by decide) (fun h10 => by exfalso; first | omega | exact absurd h10 (by decide) | (have h9 := of_decide_eq_true h10; omega) | (have h9 := of_decide_eq_false h10; omega) | contradiction | simp_all) (fun h10 => ?_)
    refine v_aload_n C dX8_guess_13 rfl ?_
    refine mc_X8_30 C dX8_guess_14 (by assumption) (c_Sav_least _ E z hm) rfl (fun r14 G14 hp14 => ?_)
    obtain ⟨rfl, rfl⟩ := hp14
    refine v_goto C 29 dX8_guess_17 (by decide) ?_
    refine v_lret C dX8_guess_29 ?_
    exact ⟨by rw [sEst_none hk], rfl⟩
  · skip
    refine v_istore_2 C dX8_guess_8 (by decide) rfl ?_
    refine v_iload_n C dX8_guess_9 rfl ?_
    first | refine v_ifn_ge C 20 dX8_guess_10 (by decide) (by omega) (fun h10 => ?_) (fun h10 => by exfalso; first | omega | exact absurd h10 (by decide) | (have h9 := of_decide_eq_true h10; omega) | (have h9 := of_decide_eq_false h10; omega) | contradiction | simp_all) | refine v_if_ge C 20 dX8_guess_10 (by decide) (fun h10 => ?_) (fun h10 => by exfalso; first | omega | exact absurd h10 (by decide) | (have h9 := of_decide_eq_true h10; omega) | (have h9 := of_decide_eq_false h10; omega) | contradiction | simp_all)
    refine v_aload_n C dX8_guess_20 rfl ?_
    refine gf_X8_12 C dX8_guess_21 (by assumption) ?_
    refine gf_X8_22 C dX8_guess_24 (by assumption) ?_
    refine v_iload_n C dX8_guess_27 rfl ?_
    refine v_lald C dX8_guess_28 (by assumption) (by omega) (by omega) (hrep i c hci).2.1 ?_
    refine v_lret C dX8_guess_29 ?_
    exact ⟨by rw [sEst_some hk hci], rfl⟩

set_option maxHeartbeats 4000000 in
set_option maxRecDepth 100000 in
theorem c_Sav_low (l : Launch) (E : Ev) (z : Option Nat) {G : Gh} {b P lim : Nat} {l0 : Ctr} {x : Nat} (hx : x < P) (hm : isSav E G b P lim l0) : K_X8_low l E z G [.ref (ga E b), .int (nI x)] (fun r G2 => r = sLow l0 x ∧ G = G2) := by
  refine Fc.of rfl [some (.ref (ga E b)), some (.int (nI x)), none] 1 rfl (Nat.le_of_ble_eq_true rfl) ?_
  intro M hM0 hini C
  subst hM0
  obtain ⟨hm0, hc⟩ := id hm
  obtain ⟨fk, fn, fe, hb0, hb1, hb2, hb3, hks, hrep, hwf, hkp, hnd⟩ := id hc
  refine v_aload_n C dX8_low_0 rfl ?_
  refine gf_X8_12 C dX8_low_1 (by assumption) ?_
  refine v_iload_n C dX8_low_4 rfl ?_
  refine mc_X8_26 C dX8_low_5 (by assumption) (c_Ctr_find _ E z hx hc) rfl (fun r5 G5 hp5 => ?_)
  obtain ⟨hr5, rfl⟩ := hp5
  rcases kix_cases hr5 with ⟨hk, rfl⟩ | ⟨i, c, hk, rfl, hci, hcx, hil⟩
  · skip
    refine v_istore_2 C dX8_low_8 (by decide) rfl ?_
    refine v_iload_n C dX8_low_9 rfl ?_
    refine v_if_ge C 17 dX8_low_10 (by decide) (fun h10 => by exfalso; first | omega | exact absurd h10 (by decide) | (have h9 := of_decide_eq_true h10; omega) | (have h9 := of_decide_eq_false h10; omega) | contradiction | simp_all) (fun h10 => ?_)
    refine v_lconst (v := lN 0) C dX8_low_13 (by decide) ?_
    refine v_goto C 36 dX8_low_14 (by decide) ?_
    refine v_lret C dX8_low_36 ?_
    exact ⟨by rw [sLow_none hk], rfl⟩
  · skip
    refine v_istore_2 C dX8_low_8 (by decide) rfl ?_
    refine v_iload_n C dX8_low_9 rfl ?_
    first | refine v_ifn_ge C 17 dX8_low_10 (by decide) (by omega) (fun h10 => ?_) (fun h10 => by exfalso; first | omega | exact absurd h10 (by decide) | (have h9 := of_decide_eq_true h10; omega) | (have h9 := of_decide_eq_false h10; omega) | contradiction | simp_all) | refine v_if_ge C 17 dX8_low_10 (by decide) (fun h10 => ?_) (fun h10 => by exfalso; first | omega | exact absurd h10 (by decide) | (have h9 := of_decide_eq_true h10; omega) | (have h9 := of_decide_eq_false h10; omega) | contradiction | simp_all)
    refine v_aload_n C dX8_low_17 rfl ?_
    refine gf_X8_12 C dX8_low_18 (by assumption) ?_
    refine gf_X8_22 C dX8_low_21 (by assumption) ?_
    refine v_iload_n C dX8_low_24 rfl ?_
    refine v_lald C dX8_low_25 (by assumption) (by omega) (by omega) (hrep i c hci).2.1 ?_
    refine v_aload_n C dX8_low_26 rfl ?_
    refine gf_X8_12 C dX8_low_27 (by assumption) ?_
    refine gf_X8_34 C dX8_low_30 (by assumption) ?_
    refine v_iload_n C dX8_low_33 rfl ?_
    refine v_lald C dX8_low_34 (by assumption) (by omega) (by omega) (hrep i c hci).2.2 ?_
    refine v_lsub C dX8_low_35 ?_
    refine v_lret C dX8_low_36 ?_
    exact ⟨by rw [sLow_some hk hci], rfl⟩

set_option maxHeartbeats 4000000 in
set_option maxRecDepth 100000 in
theorem c_Sav_high (l : Launch) (E : Ev) (z : Option Nat) {G : Gh} {b P lim : Nat} {l0 : Ctr} {x : Nat} (hx : x < P) (hm : isSav E G b P lim l0) : K_X8_high l E z G [.ref (ga E b), .int (nI x)] (fun r G2 => r = lN (sEst lim l0 x) ∧ G = G2) := by
  refine Fc.of rfl [some (.ref (ga E b)), some (.int (nI x))] 0 rfl (Nat.le_of_ble_eq_true rfl) ?_
  intro M hM0 hini C
  subst hM0
  obtain ⟨hm0, hc⟩ := id hm
  obtain ⟨fk, fn, fe, hb0, hb1, hb2, hb3, hks, hrep, hwf, hkp, hnd⟩ := id hc
  refine v_aload_n C dX8_high_0 rfl ?_
  refine v_iload_n C dX8_high_1 rfl ?_
  refine mc_X8_37 C dX8_high_2 (by assumption) (c_Sav_guess _ E z hx hm) rfl (fun r2 G2 hp2 => ?_)
  obtain ⟨rfl, rfl⟩ := hp2
  refine v_lret C dX8_high_5 ?_
  exact ⟨rfl, rfl⟩

def sPb (l : Ctr) (n : Nat) : Nat := l.findIdx (fun c => decide (n < c.2.1))
set_option maxHeartbeats 4000000 in
set_option maxRecDepth 100000 in
theorem pb_loop {M : Mx} {E : Ev} {z : Option Nat} (C : Cx M E yX8_placeBehind.cls cX8_placeBehind 4 (some .int) 0 0 0 0) {post : Int32 → Gh → Prop} {G : Gh} {b P lim : Nat} {l0 : Ctr} {n : Nat} (hn62 : n < 2 ^ 63) (hn : ∀ c ∈ l0, c.2.1 < 2 ^ 62) (hm : isSav E G b P lim l0) (hend : ∀ {i : Nat}, i = sPb l0 n → post (nI i) G) : ∀ (t i : Nat), i ≤ l0.length → l0.length - i < t → (∀ j c, j < i → l0[j]? = some c → c.2.1 ≤ n) → V M E 4 (QE M E (fun r : Int32 => some (.int r)) z 0 0 post) z 0 0 G 2 [some (.ref (ga E b)), some (.long (lN n)), none, some (.int (nI i))] [] := by
  obtain ⟨hm0, hc⟩ := id hm
  obtain ⟨fk, fn, fe, hb0, hb1, hb2, hb3, hks, hrep, hwf, hkp, hnd⟩ := id hc
  intro t
  induction t with
  | zero => intro i _ h; omega
  | succ t ih =>
    intro i hi ht hno
    refine v_iload_n C dX8_placeBehind_2 rfl ?_
    refine v_aload_n C dX8_placeBehind_3 rfl ?_
    refine gf_X8_12 C dX8_placeBehind_4 (by assumption) ?_
    refine gf_X8_53 C dX8_placeBehind_7 (by assumption) ?_
    refine v_icmpn_ge C 33 dX8_placeBehind_10 (by decide) (by omega) (by omega) (fun h10 => ?_) (fun h10 => ?_)
    · skip
      refine v_iload_n C dX8_placeBehind_33 rfl ?_
      refine v_iret C dX8_placeBehind_34 ?_
      refine hend ?_
      unfold sPb
      first
        | (have e : i = l0.length := by omega
           subst e
           symm
           rw [List.findIdx_eq_length]
           intro c hc
           obtain ⟨j, hj⟩ := List.getElem?_of_mem hc
           have := hno j c (List.getElem?_eq_some_iff.mp hj).1 hj
           simpa using this)
        | (symm
           rw [List.findIdx_eq h10]
           refine ⟨by simpa using h23, fun j hj => ?_⟩
           have := hno j _ hj (List.getElem?_eq_getElem (by omega))
           simpa using this)
    · skip
      have hci : l0[i]? = some l0[i] := List.getElem?_eq_getElem h10
      have hni := hn _ (List.mem_of_getElem? hci)
      refine v_aload_n C dX8_placeBehind_13 rfl ?_
      refine gf_X8_12 C dX8_placeBehind_14 (by assumption) ?_
      refine gf_X8_22 C dX8_placeBehind_17 (by assumption) ?_
      refine v_iload_n C dX8_placeBehind_20 rfl ?_
      refine v_lald C dX8_placeBehind_21 (by assumption) (by omega) (by omega) (hrep i _ hci).2.1 ?_
      refine v_lload_n C dX8_placeBehind_22 rfl ?_
      refine v_lcmpn_gt C 33 dX8_placeBehind_23 dX8_placeBehind_24 (by decide) (by omega) (by omega) (fun h23 => ?_) (fun h23 => ?_)
      · skip
        refine v_iload_n C dX8_placeBehind_33 rfl ?_
        refine v_iret C dX8_placeBehind_34 ?_
        refine hend ?_
        unfold sPb
        first
          | (have e : i = l0.length := by omega
             subst e
             symm
             rw [List.findIdx_eq_length]
             intro c hc
             obtain ⟨j, hj⟩ := List.getElem?_of_mem hc
             have := hno j c (List.getElem?_eq_some_iff.mp hj).1 hj
             simpa using this)
          | (symm
             rw [List.findIdx_eq h10]
             refine ⟨by simpa using h23, fun j hj => ?_⟩
             have := hno j _ hj (List.getElem?_eq_getElem (by omega))
             simpa using this)
      · skip
        first | refine v_iinc_3 C dX8_placeBehind_27 (nI_1 _) (by decide) rfl ?_ | refine v_iinc_3 C dX8_placeBehind_27 rfl (by decide) rfl ?_
        refine v_goto C 2 dX8_placeBehind_30 (by decide) ?_
        refine ih (i + 1) (by omega) (by omega) (fun j c hj hjc => ?_)
        rcases Nat.lt_or_ge j i with q | q
        · exact hno j c q hjc
        · have : j = i := by omega
          subst this; rw [hci] at hjc; cases hjc; exact h23
set_option maxHeartbeats 4000000 in
set_option maxRecDepth 100000 in
theorem c_Sav_pb (l : Launch) (E : Ev) (z : Option Nat) {G : Gh} {b P lim : Nat} {l0 : Ctr} {n : Nat} (hn62 : n < 2 ^ 63) (hn : ∀ c ∈ l0, c.2.1 < 2 ^ 62) (hm : isSav E G b P lim l0) : K_X8_placeBehind l E z G [.ref (ga E b), .long (lN n)] (fun r G2 => r = nI (sPb l0 n) ∧ G = G2) := by
  refine Fc.of rfl [some (.ref (ga E b)), some (.long (lN n)), none, none] 1 rfl (Nat.le_of_ble_eq_true rfl) ?_
  intro M hM0 hini C
  subst hM0
  obtain ⟨hm0, hc⟩ := id hm
  obtain ⟨fk, fn, fe, hb0, hb1, hb2, hb3, hks, hrep, hwf, hkp, hnd⟩ := id hc
  refine v_iconst (v := nI 0) C dX8_placeBehind_0 (by decide) ?_
  refine v_istore_3 C dX8_placeBehind_1 (by decide) rfl ?_
  exact pb_loop C hn62 hn hm (fun h => ⟨by rw [h], rfl⟩) (l0.length + 1) 0 (by omega) (by omega) (fun j _ h => absurd h (Nat.not_lt_zero j))

def sIns (l : Ctr) (x n e : Nat) : Ctr := l.insertIdx (sPb l n) (x, n, e)
def sTake (lim : Nat) (l : Ctr) (x t : Nat) : Ctr := match kix l x with
  | some i => sIns (l.eraseIdx i) x (sEst lim l x + t) (sErr lim l x)
  | none => if lim ≤ l.length then sIns (l.eraseIdx 0) x (sLeast lim l + t) (sLeast lim l) else sIns l x (sLeast lim l + t) (sLeast lim l)
theorem sPb_le (l : Ctr) (n : Nat) : sPb l n ≤ l.length := List.findIdx_le_length
theorem sLeast_lt {lim N : Nat} {l : Ctr} (h : ∀ c ∈ l, c.2.1 < N) (hN : 0 < N) : sLeast lim l < N := by
  unfold sLeast
  split
  · cases hc : l[0]? with
    | none => exact hN
    | some c => exact h c (List.mem_of_getElem? hc)
  · exact hN
theorem del_notin {l : Ctr} (hn : (ckeys l).Nodup) {i : Nat} {c : Nat × Nat × Nat} (hc : l[i]? = some c) : ∀ d ∈ l.eraseIdx i, d.1 ≠ c.1 := fun d hd => (del_key hn hc (List.mem_map.mpr ⟨d, hd, rfl⟩)).2

set_option maxHeartbeats 4000000 in
set_option maxRecDepth 100000 in
theorem c_Sav_take (l : Launch) (E : Ev) {G : Gh} {b P lim : Nat} {l0 : Ctr} {x t : Nat} (hx : x < P) (ht2 : t ≤ 1000) (hll : l0.length ≤ lim) (hn : ∀ c ∈ l0, c.2.1 < 2 ^ 62) (hm : isSav E G b P lim l0) : K_X8_take l E none G [.ref (ga E b), .int (nI x), .int (nI t)] (fun _ G2 => isSav E G2 b P lim (sTake lim l0 x t) ∧ ∀ j, (j < b ∨ b + 7 ≤ j) → G2 j = G j) := by
  refine Fc.of rfl [some (.ref (ga E b)), some (.int (nI x)), some (.int (nI t)), none, none, none, none, none, none, none] 7 rfl (Nat.le_of_ble_eq_true rfl) ?_
  intro M hM0 hini C
  subst hM0
  obtain ⟨hm0, hc⟩ := id hm
  obtain ⟨fk, fn, fe, hb0, hb1, hb2, hb3, hks, hrep, hwf, hkp, hnd⟩ := id hc
  refine v_aload_n C dX8_take_0 rfl ?_
  refine gf_X8_12 C dX8_take_1 (by assumption) ?_
  refine v_iload_n C dX8_take_4 rfl ?_
  refine mc_X8_26 C dX8_take_5 (by assumption) (c_Ctr_find _ E none hx hc) rfl (fun r5 G5 hp5 => ?_)
  obtain ⟨hr5, rfl⟩ := hp5
  rcases kix_cases hr5 with ⟨hk, rfl⟩ | ⟨i, c, hk, rfl, hci, hcx, hil⟩
  · skip
    refine v_istore_3 C dX8_take_8 (by decide) rfl ?_
    have hln : sLeast lim l0 < 2 ^ 62 := sLeast_lt hn (by decide)
    refine v_iload_n C dX8_take_9 rfl ?_
    refine v_if_ge C 20 dX8_take_10 (by decide) (fun h10 => by exfalso; first | omega | exact absurd h10 (by decide) | (have h9 := of_decide_eq_true h10; omega) | (have h9 := of_decide_eq_false h10; omega) | contradiction | simp_all) (fun h10 => ?_)
    refine v_aload_n C dX8_take_13 rfl ?_
    refine mc_X8_30 C dX8_take_14 (by assumption) (c_Sav_least _ E none hm) rfl (fun r14 G14 hp14 => ?_)
    obtain ⟨rfl, rfl⟩ := hp14
    refine v_goto C 29 dX8_take_17 (by decide) ?_
    refine v_lstore_4 C dX8_take_29 (by decide) rfl ?_
    refine v_iload_n C dX8_take_31 rfl ?_
    refine v_if_ge C 40 dX8_take_32 (by decide) (fun h32 => by exfalso; first | omega | exact absurd h32 (by decide) | (have h9 := of_decide_eq_true h32; omega) | (have h9 := of_decide_eq_false h32; omega) | contradiction | simp_all) (fun h32 => ?_)
    refine v_lload C dX8_take_35 rfl ?_
    refine v_goto C 49 dX8_take_37 (by decide) ?_
    refine v_lstore_6 C dX8_take_49 (by decide) rfl ?_
    refine v_iload_n C dX8_take_51 rfl ?_
    refine v_if_ge C 67 dX8_take_52 (by decide) (fun h52 => by exfalso; first | omega | exact absurd h52 (by decide) | (have h9 := of_decide_eq_true h52; omega) | (have h9 := of_decide_eq_false h52; omega) | contradiction | simp_all) (fun h52 => ?_)
    refine v_aload_n C dX8_take_55 rfl ?_
    refine gf_X8_12 C dX8_take_56 (by assumption) ?_
    refine mc_X8_18 C dX8_take_59 (by assumption) (c_Ctr_isFull _ E none hc) rfl (fun r59 G59 hp59 => ?_)
    obtain ⟨rfl, rfl⟩ := hp59
    rcases Nat.lt_or_ge l0.length lim with q | q
    · skip
      have hfu : ¬ lim ≤ l0.length := by omega
      first | refine v_ifb_eq C 67 dX8_take_62 (by decide) (fun h62 => ?_) (fun h62 => by exfalso; first | omega | exact absurd h62 (by decide) | (have h9 := of_decide_eq_true h62; omega) | (have h9 := of_decide_eq_false h62; omega) | contradiction | simp_all) | refine v_ifn_eq C 67 dX8_take_62 (by decide) (by omega) (fun h62 => ?_) (fun h62 => by exfalso; first | omega | exact absurd h62 (by decide) | (have h9 := of_decide_eq_true h62; omega) | (have h9 := of_decide_eq_false h62; omega) | contradiction | simp_all) | refine v_if_eq C 67 dX8_take_62 (by decide) (fun h62 => ?_) (fun h62 => by exfalso; first | omega | exact absurd h62 (by decide) | (have h9 := of_decide_eq_true h62; omega) | (have h9 := of_decide_eq_false h62; omega) | contradiction | simp_all)
      refine v_iload_n C dX8_take_67 rfl ?_
      refine v_if_lt C 79 dX8_take_68 (by decide) (fun h68 => ?_) (fun h68 => by exfalso; first | omega | exact absurd h68 (by decide) | (have h9 := of_decide_eq_true h68; omega) | (have h9 := of_decide_eq_false h68; omega) | contradiction | simp_all)
      refine v_lload C dX8_take_79 rfl ?_
      refine v_iload_n C dX8_take_81 rfl ?_
      first | refine v_i2ln C dX8_take_82 (by omega) ?_ | refine v_i2l C dX8_take_82 rfl ?_
      first | refine v_laddn C dX8_take_83 ?_ | refine v_ladd C dX8_take_83 ?_
      refine v_lstore_8 C dX8_take_84 (by decide) rfl ?_
      refine v_aload_n C dX8_take_86 rfl ?_
      refine gf_X8_12 C dX8_take_87 (by assumption) ?_
      refine v_aload_n C dX8_take_90 rfl ?_
      refine v_lload C dX8_take_91 rfl ?_
      refine mc_X8_45 C dX8_take_93 (by assumption) (c_Sav_pb _ E none (n := sLeast lim l0 + t) (by omega) (hn) hm) rfl (fun r93 G93 hp93 => ?_)
      obtain ⟨rfl, rfl⟩ := hp93
      refine v_iload_n C dX8_take_96 rfl ?_
      refine v_lload C dX8_take_97 rfl ?_
      refine v_lload C dX8_take_99 rfl ?_
      refine mc_X8_49 C dX8_take_101 (by assumption) (c_Ctr_insert _ E (i := sPb (l0) (sLeast lim l0 + t)) (sPb_le _ _) (by omega) hx (fun d hd => kix_none hk d hd) hm.2) rfl (fun r101 G101 hp101 => ?_)
      obtain ⟨hc101, hfr101⟩ := hp101
      refine v_vret C dX8_take_104 ?_
      refine ⟨?_, fun j hj => hfr101 j (by omega)⟩
      have e : sTake lim l0 x t = sIns l0 x (sLeast lim l0 + t) (sLeast lim l0) := by unfold sTake; rw [hk]; simp only []; rw [if_neg hfu]
      rw [e]
      exact ⟨(hfr101 _ (by omega)).trans hm0, hc101⟩
    · skip
      first | refine v_ifb_eq C 67 dX8_take_62 (by decide) (fun h62 => by exfalso; first | omega | exact absurd h62 (by decide) | (have h9 := of_decide_eq_true h62; omega) | (have h9 := of_decide_eq_false h62; omega) | contradiction | simp_all) (fun h62 => ?_) | refine v_ifn_eq C 67 dX8_take_62 (by decide) (by omega) (fun h62 => by exfalso; first | omega | exact absurd h62 (by decide) | (have h9 := of_decide_eq_true h62; omega) | (have h9 := of_decide_eq_false h62; omega) | contradiction | simp_all) (fun h62 => ?_) | refine v_if_eq C 67 dX8_take_62 (by decide) (fun h62 => by exfalso; first | omega | exact absurd h62 (by decide) | (have h9 := of_decide_eq_true h62; omega) | (have h9 := of_decide_eq_false h62; omega) | contradiction | simp_all) (fun h62 => ?_)
      have hfu : lim ≤ l0.length := by simpa using h62
      have hc0 : l0[0]? = some l0[0] := List.getElem?_eq_getElem (by omega)
      have hdl : (l0.eraseIdx 0).length = l0.length - 1 := List.length_eraseIdx_of_lt (by omega)
      refine v_iconst (v := nI 0) C dX8_take_65 (by decide) ?_
      refine v_istore_3 C dX8_take_66 (by decide) rfl ?_
      refine v_iload_n C dX8_take_67 rfl ?_
      first | refine v_ifn_lt C 79 dX8_take_68 (by decide) (by omega) (fun h68 => by exfalso; first | omega | exact absurd h68 (by decide) | (have h9 := of_decide_eq_true h68; omega) | (have h9 := of_decide_eq_false h68; omega) | contradiction | simp_all) (fun h68 => ?_) | refine v_if_lt C 79 dX8_take_68 (by decide) (fun h68 => by exfalso; first | omega | exact absurd h68 (by decide) | (have h9 := of_decide_eq_true h68; omega) | (have h9 := of_decide_eq_false h68; omega) | contradiction | simp_all) (fun h68 => ?_)
      refine v_aload_n C dX8_take_71 rfl ?_
      refine gf_X8_12 C dX8_take_72 (by assumption) ?_
      refine v_iload_n C dX8_take_75 rfl ?_
      refine mc_X8_41 C dX8_take_76 (by assumption) (c_Ctr_remove _ E (i := 0) (by omega) hc) rfl (fun r76 G76 hp76 => ?_)
      obtain ⟨hc76, hfr76⟩ := hp76
      have hm0 := (hfr76 _ (by omega)).trans hm0
      have hs76 : isSav E G76 b P lim (l0.eraseIdx 0) := ⟨hm0, hc76⟩
      have hb0 := hc76.rc
      refine v_lload C dX8_take_79 rfl ?_
      refine v_iload_n C dX8_take_81 rfl ?_
      first | refine v_i2ln C dX8_take_82 (by omega) ?_ | refine v_i2l C dX8_take_82 rfl ?_
      first | refine v_laddn C dX8_take_83 ?_ | refine v_ladd C dX8_take_83 ?_
      refine v_lstore_8 C dX8_take_84 (by decide) rfl ?_
      refine v_aload_n C dX8_take_86 rfl ?_
      refine gf_X8_12 C dX8_take_87 (by assumption) ?_
      refine v_aload_n C dX8_take_90 rfl ?_
      refine v_lload C dX8_take_91 rfl ?_
      refine mc_X8_45 C dX8_take_93 (by assumption) (c_Sav_pb _ E none (n := sLeast lim l0 + t) (by omega) (fun d hd => hn d (mem_del hd)) hs76) rfl (fun r93 G93 hp93 => ?_)
      obtain ⟨rfl, rfl⟩ := hp93
      refine v_iload_n C dX8_take_96 rfl ?_
      refine v_lload C dX8_take_97 rfl ?_
      refine v_lload C dX8_take_99 rfl ?_
      refine mc_X8_49 C dX8_take_101 (by assumption) (c_Ctr_insert _ E (i := sPb (l0.eraseIdx 0) (sLeast lim l0 + t)) (sPb_le _ _) (by omega) hx (fun d hd => kix_none hk d (mem_del hd)) hs76.2) rfl (fun r101 G101 hp101 => ?_)
      obtain ⟨hc101, hfr101⟩ := hp101
      refine v_vret C dX8_take_104 ?_
      refine ⟨?_, fun j hj => by rw [hfr101 j (by omega), hfr76 j (by omega)]⟩
      have e : sTake lim l0 x t = sIns (l0.eraseIdx 0) x (sLeast lim l0 + t) (sLeast lim l0) := by unfold sTake; rw [hk]; simp only []; rw [if_pos hfu]
      rw [e]
      exact ⟨(hfr101 _ (by omega)).trans hm0, hc101⟩
  · skip
    refine v_istore_3 C dX8_take_8 (by decide) rfl ?_
    have hln : sEst lim l0 x < 2 ^ 62 := by rw [sEst_some hk hci]; exact hn _ (List.mem_of_getElem? hci)
    have hdl : (l0.eraseIdx i).length = l0.length - 1 := List.length_eraseIdx_of_lt hil
    refine v_iload_n C dX8_take_9 rfl ?_
    first | refine v_ifn_ge C 20 dX8_take_10 (by decide) (by omega) (fun h10 => ?_) (fun h10 => by exfalso; first | omega | exact absurd h10 (by decide) | (have h9 := of_decide_eq_true h10; omega) | (have h9 := of_decide_eq_false h10; omega) | contradiction | simp_all) | refine v_if_ge C 20 dX8_take_10 (by decide) (fun h10 => ?_) (fun h10 => by exfalso; first | omega | exact absurd h10 (by decide) | (have h9 := of_decide_eq_true h10; omega) | (have h9 := of_decide_eq_false h10; omega) | contradiction | simp_all)
    refine v_aload_n C dX8_take_20 rfl ?_
    refine gf_X8_12 C dX8_take_21 (by assumption) ?_
    refine gf_X8_22 C dX8_take_24 (by assumption) ?_
    refine v_iload_n C dX8_take_27 rfl ?_
    refine v_lald C dX8_take_28 (by assumption) (by omega) (by omega) ((hrep i c hci).2.1.trans (by rw [← sEst_some (lim := lim) hk hci])) ?_
    refine v_lstore_4 C dX8_take_29 (by decide) rfl ?_
    refine v_iload_n C dX8_take_31 rfl ?_
    first | refine v_ifn_ge C 40 dX8_take_32 (by decide) (by omega) (fun h32 => ?_) (fun h32 => by exfalso; first | omega | exact absurd h32 (by decide) | (have h9 := of_decide_eq_true h32; omega) | (have h9 := of_decide_eq_false h32; omega) | contradiction | simp_all) | refine v_if_ge C 40 dX8_take_32 (by decide) (fun h32 => ?_) (fun h32 => by exfalso; first | omega | exact absurd h32 (by decide) | (have h9 := of_decide_eq_true h32; omega) | (have h9 := of_decide_eq_false h32; omega) | contradiction | simp_all)
    refine v_aload_n C dX8_take_40 rfl ?_
    refine gf_X8_12 C dX8_take_41 (by assumption) ?_
    refine gf_X8_34 C dX8_take_44 (by assumption) ?_
    refine v_iload_n C dX8_take_47 rfl ?_
    refine v_lald C dX8_take_48 (by assumption) (by omega) (by omega) ((hrep i c hci).2.2.trans (by rw [← sErr_some (lim := lim) hk hci])) ?_
    refine v_lstore_6 C dX8_take_49 (by decide) rfl ?_
    refine v_iload_n C dX8_take_51 rfl ?_
    first | refine v_ifn_ge C 67 dX8_take_52 (by decide) (by omega) (fun h52 => ?_) (fun h52 => by exfalso; first | omega | exact absurd h52 (by decide) | (have h9 := of_decide_eq_true h52; omega) | (have h9 := of_decide_eq_false h52; omega) | contradiction | simp_all) | refine v_if_ge C 67 dX8_take_52 (by decide) (fun h52 => ?_) (fun h52 => by exfalso; first | omega | exact absurd h52 (by decide) | (have h9 := of_decide_eq_true h52; omega) | (have h9 := of_decide_eq_false h52; omega) | contradiction | simp_all)
    refine v_iload_n C dX8_take_67 rfl ?_
    first | refine v_ifn_lt C 79 dX8_take_68 (by decide) (by omega) (fun h68 => by exfalso; first | omega | exact absurd h68 (by decide) | (have h9 := of_decide_eq_true h68; omega) | (have h9 := of_decide_eq_false h68; omega) | contradiction | simp_all) (fun h68 => ?_) | refine v_if_lt C 79 dX8_take_68 (by decide) (fun h68 => by exfalso; first | omega | exact absurd h68 (by decide) | (have h9 := of_decide_eq_true h68; omega) | (have h9 := of_decide_eq_false h68; omega) | contradiction | simp_all) (fun h68 => ?_)
    refine v_aload_n C dX8_take_71 rfl ?_
    refine gf_X8_12 C dX8_take_72 (by assumption) ?_
    refine v_iload_n C dX8_take_75 rfl ?_
    refine mc_X8_41 C dX8_take_76 (by assumption) (c_Ctr_remove _ E (i := i) (by omega) hc) rfl (fun r76 G76 hp76 => ?_)
    obtain ⟨hc76, hfr76⟩ := hp76
    have hm0 := (hfr76 _ (by omega)).trans hm0
    have hs76 : isSav E G76 b P lim (l0.eraseIdx i) := ⟨hm0, hc76⟩
    have hb0 := hc76.rc
    refine v_lload C dX8_take_79 rfl ?_
    refine v_iload_n C dX8_take_81 rfl ?_
    first | refine v_i2ln C dX8_take_82 (by omega) ?_ | refine v_i2l C dX8_take_82 rfl ?_
    first | refine v_laddn C dX8_take_83 ?_ | refine v_ladd C dX8_take_83 ?_
    refine v_lstore_8 C dX8_take_84 (by decide) rfl ?_
    refine v_aload_n C dX8_take_86 rfl ?_
    refine gf_X8_12 C dX8_take_87 (by assumption) ?_
    refine v_aload_n C dX8_take_90 rfl ?_
    refine v_lload C dX8_take_91 rfl ?_
    refine mc_X8_45 C dX8_take_93 (by assumption) (c_Sav_pb _ E none (n := sEst lim l0 x + t) (by omega) (fun d hd => hn d (mem_del hd)) hs76) rfl (fun r93 G93 hp93 => ?_)
    obtain ⟨rfl, rfl⟩ := hp93
    refine v_iload_n C dX8_take_96 rfl ?_
    refine v_lload C dX8_take_97 rfl ?_
    refine v_lload C dX8_take_99 rfl ?_
    refine mc_X8_49 C dX8_take_101 (by assumption) (c_Ctr_insert _ E (i := sPb (l0.eraseIdx i) (sEst lim l0 x + t)) (sPb_le _ _) (by omega) hx (fun d hd => by rw [← hcx]; exact del_notin hnd hci d hd) hs76.2) rfl (fun r101 G101 hp101 => ?_)
    obtain ⟨hc101, hfr101⟩ := hp101
    refine v_vret C dX8_take_104 ?_
    refine ⟨?_, fun j hj => by rw [hfr101 j (by omega), hfr76 j (by omega)]⟩
    have e : sTake lim l0 x t = sIns (l0.eraseIdx i) x (sEst lim l0 x + t) (sErr lim l0 x) := by unfold sTake; rw [hk]
    rw [e]
    exact ⟨(hfr101 _ (by omega)).trans hm0, hc101⟩

set_option maxHeartbeats 4000000 in
set_option maxRecDepth 100000 in
theorem c_Sav_makeEmpty (l : Launch) (E : Ev) (z : Option Nat) {G : Gh} {b P lim : Nat} {l0 : Ctr} (hm : isSav E G b P lim l0) : K_X8_makeEmpty l E z G [.ref (ga E b)] (fun _ G2 => isSav E G2 b P lim [] ∧ ∀ j, (j < b ∨ b + 7 ≤ j) → G2 j = G j) := by
  refine Fc.of rfl [some (.ref (ga E b))] 0 rfl (Nat.le_of_ble_eq_true rfl) ?_
  intro M hM0 hini C
  subst hM0
  obtain ⟨hm0, hc⟩ := id hm
  obtain ⟨fk, fn, fe, hb0, hb1, hb2, hb3, hks, hrep, hwf, hkp, hnd⟩ := id hc
  refine v_aload_n C dX8_makeEmpty_0 rfl ?_
  refine gf_X8_12 C dX8_makeEmpty_1 (by assumption) ?_
  refine mc_X8_57 C dX8_makeEmpty_4 (by assumption) (c_Ctr_makeEmpty _ E z hc) rfl (fun r4 G4 hp4 => ?_)
  obtain ⟨hc4, hfr4⟩ := hp4
  refine v_vret C dX8_makeEmpty_7 ?_
  exact ⟨⟨(hfr4 _ (by omega)).trans hm0, hc4⟩, fun j hj => hfr4 j (by omega)⟩

set_option maxHeartbeats 4000000 in
set_option maxRecDepth 100000 in
theorem c_Sav_becomeSelf (l : Launch) (E : Ev) {G : Gh} {b P lim : Nat} {l0 : Ctr} (hm : isSav E G b P lim l0) : K_X8_become l E none G [.ref (ga E b), .ref (ga E b)] (fun _ G2 => isSav E G2 b P lim l0 ∧ ∀ j, (j < b ∨ b + 7 ≤ j) → G2 j = G j) := by
  refine Fc.of rfl [some (.ref (ga E b)), some (.ref (ga E b))] 0 rfl (Nat.le_of_ble_eq_true rfl) ?_
  intro M hM0 hini C
  subst hM0
  obtain ⟨hm0, hc⟩ := id hm
  obtain ⟨fk, fn, fe, hb0, hb1, hb2, hb3, hks, hrep, hwf, hkp, hnd⟩ := id hc
  refine v_aload_n C dX8_become_0 rfl ?_
  refine gf_X8_12 C dX8_become_1 (by assumption) ?_
  refine v_aload_n C dX8_become_4 rfl ?_
  refine gf_X8_12 C dX8_become_5 (by assumption) ?_
  refine mc_X8_60 C dX8_become_8 (by assumption) (c_Ctr_becomeSelf _ E hc) rfl (fun r8 G8 hp8 => ?_)
  obtain ⟨hc8, hfr8⟩ := hp8
  refine v_vret C dX8_become_11 ?_
  exact ⟨⟨(hfr8 _ (by omega)).trans hm0, hc8⟩, fun j hj => hfr8 j (by omega)⟩

set_option maxHeartbeats 4000000 in
set_option maxRecDepth 100000 in
theorem c_Sav_become (l : Launch) (E : Ev) {G : Gh} {b b2 P lim : Nat} {l0 l2 : Ctr} (hdis : b + 7 ≤ b2 ∨ b2 + 7 ≤ b) (hm : isSav E G b P lim l0) (hm2 : isSav E G b2 P lim l2) : K_X8_become l E none G [.ref (ga E b), .ref (ga E b2)] (fun _ G2 => isSav E G2 b P lim l2 ∧ ∀ j, (j < b ∨ b + 7 ≤ j) → G2 j = G j) := by
  refine Fc.of rfl [some (.ref (ga E b)), some (.ref (ga E b2))] 0 rfl (Nat.le_of_ble_eq_true rfl) ?_
  intro M hM0 hini C
  subst hM0
  obtain ⟨hm0, hc⟩ := id hm
  obtain ⟨fk, fn, fe, hb0, hb1, hb2, hb3, hks, hrep, hwf, hkp, hnd⟩ := id hc
  obtain ⟨hd, hc2⟩ := id hm2
  refine v_aload_n C dX8_become_0 rfl ?_
  refine gf_X8_12 C dX8_become_1 (by assumption) ?_
  refine v_aload_n C dX8_become_4 rfl ?_
  refine gf_X8_12 C dX8_become_5 (by assumption) ?_
  refine mc_X8_60 C dX8_become_8 (by assumption) (c_Ctr_become _ E (by omega) hc hc2) rfl (fun r8 G8 hp8 => ?_)
  obtain ⟨hc8, hfr8⟩ := hp8
  refine v_vret C dX8_become_11 ?_
  exact ⟨⟨(hfr8 _ (by omega)).trans hm0, hc8⟩, fun j hj => hfr8 j (by omega)⟩

