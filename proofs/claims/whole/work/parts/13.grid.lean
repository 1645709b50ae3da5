/-! Grid (class 4): family, careful, cells -/
def gm (f : Nat → Nat) : Nat → Nat
  | 0 => f 0
  | n + 1 => min (gm f n) (f (n + 1))
theorem gm_le (f : Nat → Nat) : ∀ n, gm f (n + 1) ≤ gm f n := fun n => Nat.min_le_left _ _
theorem gm_zero {f : Nat → Nat} {m : Nat} (h : gm f m = 0) : ∀ k, gm f (m + k) = 0
  | 0 => h
  | k + 1 => by
    have := gm_zero h k
    have h2 := gm_le f (m + k)
    show gm f (m + k + 1) = 0
    omega
theorem gm_bd {f : Nat → Nat} {N : Nat} (h0 : f 0 < N) : ∀ m, gm f m < N
  | 0 => h0
  | m + 1 => Nat.lt_of_le_of_lt (gm_le f m) (gm_bd h0 m)
theorem lN_min {a b : Nat} (ha : a < 2 ^ 63) (hb : b < 2 ^ 63) : (if lN b < lN a then lN b else lN a) = lN (min a b) := by
  by_cases h : b < a
  · rw [if_pos ((lN_lt63 hb ha).mpr h)]; congr 1; omega
  · rw [if_neg (fun z => h ((lN_lt63 hb ha).mp z))]; congr 1; omega
theorem lN_max {a b : Nat} (ha : a < 2 ^ 63) (hb : b < 2 ^ 63) : (if lN b < lN a then lN a else lN b) = lN (max a b) := by
  by_cases h : b < a
  · rw [if_pos ((lN_lt63 hb ha).mpr h)]; congr 1; omega
  · rw [if_neg (fun z => h ((lN_lt63 hb ha).mp z))]; congr 1; omega
theorem rc_div {r c W : Nat} (h : c < W) : (r * W + c) / W = r := by
  rw [Nat.mul_comm, Nat.mul_add_div (by omega), Nat.div_eq_of_lt h, Nat.add_zero]
theorem rc_mod {r c W : Nat} (h : c < W) : (r * W + c) % W = c := by
  rw [Nat.mul_comm, Nat.mul_add_mod, Nat.mod_eq_of_lt h]
theorem rc_lt {r c R W : Nat} (hr : r < R) (hc : c < W) : r * W + c < R * W := by
  have h1 : (r + 1) * W ≤ R * W := Nat.mul_le_mul_right W hr
  rw [Nat.succ_mul] at h1
  omega
theorem rc_of {i R W : Nat} (h : i < R * W) : i / W < R ∧ (0 < W → i % W < W) ∧ i = i / W * W + i % W := by
  refine ⟨Nat.div_lt_of_lt_mul (by rw [Nat.mul_comm]; exact h), fun hw => Nat.mod_lt _ hw, ?_⟩
  have := Nat.div_add_mod i W
  rw [Nat.mul_comm] at this
  omega
theorem hsh_lt {P W a b x : Nat} (h : 0 < W) : hsh P W a b x < W := Nat.mod_lt _ h
def isGrid (E : Ev) (G : Gh) (b fam : Nat) (cf : Bool) (R W : Nat) (D : Nat → Nat → Nat) : Prop := ∃ fc : Nat → Int64, G b = cO 4 [.ref (ga E fam), .int (bI cf), .ref (ga E (b + 1))] ∧ G (b + 1) = cJ E (R * W) fc ∧ ∀ i, i < R * W → fc i = lN (D (i / W) (i % W))
theorem isGrid.at {E : Ev} {G : Gh} {b fam : Nat} {cf : Bool} {R W : Nat} {D : Nat → Nat → Nat} {fc : Nat → Int64} (h : ∀ i, i < R * W → fc i = lN (D (i / W) (i % W))) {r c : Nat} (hr : r < R) (hc : c < W) : fc (r * W + c) = lN (D r c) := by
  rw [h _ (rc_lt hr hc), rc_div hc, rc_mod hc]
theorem RW_le {R W : Nat} (h1 : R ≤ 8) (h2 : W ≤ 256) : R * W ≤ 2048 := Nat.mul_le_mul h1 h2

set_option maxHeartbeats 4000000 in
set_option maxRecDepth 100000 in
theorem c_Grid_at (l : Launch) (E : Ev) (z : Option Nat) {G : Gh} {b fam P W R : Nat} {A B : Nat → Nat} {cf : Bool} {D : Nat → Nat → Nat} {row col : Nat} (hrow : row < R) (hc : col < W) (hF : isFam E G fam P W R A B) (hg : isGrid E G b fam cf R W D) : K_X4_at l E z G [.ref (ga E b), .int (nI row), .int (nI col)] (fun r G2 => r = lN (D row col) ∧ G = G2) := by
  refine Fc.of rfl [some (.ref (ga E b)), some (.int (nI row)), some (.int (nI col))] 0 rfl (Nat.le_of_ble_eq_true rfl) ?_
  intro M hM0 hini C
  subst hM0
  obtain ⟨fa, fb, hb0, hb1, hb2, hfa, hfb, hr, hab⟩ := id hF
  obtain ⟨fc, hg0, hg1, hfc⟩ := id hg
  have hRW := RW_le (R := R) (W := W) (by omega) (by omega)
  refine v_aload_n C dX4_at_0 rfl ?_
  refine gf_X4_26 C dX4_at_1 (by assumption) ?_
  refine v_iload_n C dX4_at_4 rfl ?_
  refine v_aload_n C dX4_at_5 rfl ?_
  refine gf_X4_7 C dX4_at_6 (by assumption) ?_
  refine gf_X4_23 C dX4_at_9 (by assumption) ?_
  first | refine v_imuln C dX4_at_12 ?_ | refine v_imul C dX4_at_12 ?_
  refine v_iload_n C dX4_at_13 rfl ?_
  first | refine v_iaddn C dX4_at_14 ?_ | refine v_iadd C dX4_at_14 ?_
  have hi := rc_lt hrow hc
  refine v_lald C dX4_at_15 (by assumption) (by omega) (by omega) (isGrid.at (E := E) (G := G) (b := b) (fam := fam) (cf := cf) hfc hrow hc) ?_
  refine v_lret C dX4_at_16 ?_
  exact ⟨rfl, rfl⟩

set_option maxHeartbeats 4000000 in
set_option maxRecDepth 100000 in
theorem c_Grid_low (l : Launch) (E : Ev) (z : Option Nat) {G : Gh} {b : Nat} {x : Int32}  : K_X4_low l E z G [.ref (ga E b), .int x] (fun r G2 => r = lN 0 ∧ G = G2) := by
  refine Fc.of rfl [some (.ref (ga E b)), some (.int x)] 0 rfl (Nat.le_of_ble_eq_true rfl) ?_
  intro M hM0 hini C
  subst hM0
  refine v_lconst (v := lN 0) C dX4_low_0 (by decide) ?_
  refine v_lret C dX4_low_1 ?_
  exact ⟨rfl, rfl⟩

def gEst (P W R : Nat) (A B : Nat → Nat) (D : Nat → Nat → Nat) (x : Nat) : Nat := gm (fun r => D r (hsh P W (A r) (B r) x)) (R - 1)
set_option maxHeartbeats 4000000 in
set_option maxRecDepth 100000 in
theorem guess_loop {M : Mx} {E : Ev} {z : Option Nat} (C : Cx M E yX4_guess.cls cX4_guess 5 (some .long) 1 24 0 0) {post : Int64 → Gh → Prop} {G : Gh} {b fam P W R : Nat} {A B : Nat → Nat} {cf : Bool} {D : Nat → Nat → Nat} {x : Nat} (hx : x < P) (hB : ∀ r, r < R → ∀ c, c < W → D r c < 2 ^ 62) (hF : isFam E G fam P W R A B) (hg : isGrid E G b fam cf R W D) {f : Nat → Nat} (hfd : f = fun r => D r (hsh P W (A r) (B r) x)) (hend : ∀ {v : Int64}, v = lN (gm f (R - 1)) → post v G) : ∀ (t k : Nat), k + 1 ≤ R → R - k < t → V M E 5 (QE M E (fun r : Int64 => some (.long r)) z 0 0 post) z 0 0 G 18 [some (.ref (ga E b)), some (.int (nI x)), some (.long (lN (gm f k))), none, some (.int (nI (k + 1)))] [] := by
  obtain ⟨fa, fb, hb0, hb1, hb2, hfa, hfb, hr, hab⟩ := id hF
  obtain ⟨fc, hg0, hg1, hfc⟩ := id hg
  have hRW := RW_le (R := R) (W := W) (by omega) (by omega)
  have h0 : f 0 < 2 ^ 62 := by rw [hfd]; exact hB 0 (by omega) _ (hsh_lt (by omega))
  have hs : ∀ k, f (k + 1) = D (k + 1) (hsh P W (A (k + 1)) (B (k + 1)) x) := fun k => by rw [hfd]
  intro t
  induction t with
  | zero => intro k _ h; omega
  | succ t ih =>
    intro k hk ht
    refine v_iload C dX4_guess_18 rfl ?_
    refine v_aload_n C dX4_guess_20 rfl ?_
    refine gf_X4_7 C dX4_guess_21 (by assumption) ?_
    refine gf_X4_17 C dX4_guess_24 (by assumption) ?_
    refine v_icmpn_ge C 63 dX4_guess_27 (by decide) (by omega) (by omega) (fun h27 => ?_) (fun h27 => ?_)
    · skip
      refine v_lload_n C dX4_guess_63 rfl ?_
      refine v_lret C dX4_guess_64 ?_
      first
        | (refine hend ?_; have e : R - 1 = k := by omega
           rw [e]; done)
        | (refine hend ?_; have e : gm f k = 0 := by omega
           have e2 := gm_zero e (R - 1 - k)
           rw [show k + (R - 1 - k) = R - 1 by omega] at e2
           rw [e, e2]; done)
    · skip
      refine v_lload_n C dX4_guess_30 rfl ?_
      refine v_lconst (v := lN 0) C dX4_guess_31 (by decide) ?_
      have hbd := gm_bd h0 k
      refine v_lcmpn_le C 63 dX4_guess_32 dX4_guess_33 (by decide) (by omega) (by omega) (fun h32 => ?_) (fun h32 => ?_)
      · skip
        refine v_lload_n C dX4_guess_63 rfl ?_
        refine v_lret C dX4_guess_64 ?_
        first
          | (refine hend ?_; have e : R - 1 = k := by omega
             rw [e]; done)
          | (refine hend ?_; have e : gm f k = 0 := by omega
             have e2 := gm_zero e (R - 1 - k)
             rw [show k + (R - 1 - k) = R - 1 by omega] at e2
             rw [e, e2]; done)
      · skip
        refine v_lload_n C dX4_guess_36 rfl ?_
        refine v_aload_n C dX4_guess_37 rfl ?_
        refine v_iload C dX4_guess_38 rfl ?_
        refine v_aload_n C dX4_guess_40 rfl ?_
        refine gf_X4_7 C dX4_guess_41 (by assumption) ?_
        refine v_iload C dX4_guess_44 rfl ?_
        refine v_iload_n C dX4_guess_46 rfl ?_
        refine mc_X4_30 C dX4_guess_47 (by assumption) (c_Fam_column _ E z (row := k + 1) (x := x) (by omega) hx hF) rfl (fun r47 G47 hp47 => ?_)
        obtain ⟨rfl, rfl⟩ := hp47
        refine mc_X4_34 C dX4_guess_50 (by assumption) (c_Grid_at _ E z (row := k + 1) (col := hsh P W (A (k + 1)) (B (k + 1)) x) (by omega) (hsh_lt (by omega)) hF hg) rfl (fun r50 G50 hp50 => ?_)
        obtain ⟨rfl, rfl⟩ := hp50
        refine mc_X4_38 C dX4_guess_53 rfl ?_
        refine v_topl (lN_min (by have := gm_bd h0 k; omega) (by have := hB (k + 1) (by omega) (hsh P W (A (k + 1)) (B (k + 1)) x) (hsh_lt (by omega)); omega)) ?_
        refine v_lstore_2 C dX4_guess_56 (by decide) rfl ?_
        first | refine v_iinc_4 C dX4_guess_57 (nI_1 _) (by decide) rfl ?_ | refine v_iinc_4 C dX4_guess_57 rfl (by decide) rfl ?_
        refine v_goto C 18 dX4_guess_60 (by decide) ?_
        rw [← hs k]
        exact ih (k + 1) (by omega) (by omega)
set_option maxHeartbeats 4000000 in
set_option maxRecDepth 100000 in
theorem c_Grid_guess (l : Launch) (E : Ev) (z : Option Nat) {G : Gh} {b fam P W R : Nat} {A B : Nat → Nat} {cf : Bool} {D : Nat → Nat → Nat} {x : Nat} (hx : x < P) (hB : ∀ r, r < R → ∀ c, c < W → D r c < 2 ^ 62) (hF : isFam E G fam P W R A B) (hg : isGrid E G b fam cf R W D) : K_X4_guess l E z G [.ref (ga E b), .int (nI x)] (fun r G2 => r = lN (gEst P W R A B D x) ∧ G = G2) := by
  refine Fc.of rfl [some (.ref (ga E b)), some (.int (nI x)), none, none, none] 3 rfl (Nat.le_of_ble_eq_true rfl) ?_
  intro M hM0 hini C
  subst hM0
  obtain ⟨fa, fb, hb0, hb1, hb2, hfa, hfb, hr, hab⟩ := id hF
  obtain ⟨fc, hg0, hg1, hfc⟩ := id hg
  have hRW := RW_le (R := R) (W := W) (by omega) (by omega)
  refine v_aload_n C dX4_guess_0 rfl ?_
  refine v_iconst (v := nI 0) C dX4_guess_1 (by decide) ?_
  refine v_aload_n C dX4_guess_2 rfl ?_
  refine gf_X4_7 C dX4_guess_3 (by assumption) ?_
  refine v_iconst (v := nI 0) C dX4_guess_6 (by decide) ?_
  refine v_iload_n C dX4_guess_7 rfl ?_
  refine mc_X4_30 C dX4_guess_8 (by assumption) (c_Fam_column _ E z (row := 0) (x := x) (by omega) hx hF) rfl (fun r8 G8 hp8 => ?_)
  obtain ⟨rfl, rfl⟩ := hp8
  refine mc_X4_34 C dX4_guess_11 (by assumption) (c_Grid_at _ E z (row := 0) (col := hsh P W (A (0)) (B (0)) x) (by omega) (hsh_lt (by omega)) hF hg) rfl (fun r11 G11 hp11 => ?_)
  obtain ⟨rfl, rfl⟩ := hp11
  refine v_lstore_2 C dX4_guess_14 (by decide) rfl ?_
  refine v_iconst (v := nI 1) C dX4_guess_15 (by decide) ?_
  refine v_istore_4 C dX4_guess_16 (by decide) rfl ?_
  exact guess_loop C hx hB hF hg rfl (fun h => ⟨h, rfl⟩) (R + 1) 0 (by omega) (by omega)

set_option maxHeartbeats 4000000 in
set_option maxRecDepth 100000 in
theorem c_Grid_high (l : Launch) (E : Ev) (z : Option Nat) {G : Gh} {b fam P W R : Nat} {A B : Nat → Nat} {cf : Bool} {D : Nat → Nat → Nat} {x : Nat} (hx : x < P) (hB : ∀ r, r < R → ∀ c, c < W → D r c < 2 ^ 62) (hF : isFam E G fam P W R A B) (hg : isGrid E G b fam cf R W D) : K_X4_high l E z G [.ref (ga E b), .int (nI x)] (fun r G2 => r = lN (gEst P W R A B D x) ∧ G = G2) := by
  refine Fc.of rfl [some (.ref (ga E b)), some (.int (nI x))] 0 rfl (Nat.le_of_ble_eq_true rfl) ?_
  intro M hM0 hini C
  subst hM0
  obtain ⟨fa, fb, hb0, hb1, hb2, hfa, hfb, hr, hab⟩ := id hF
  obtain ⟨fc, hg0, hg1, hfc⟩ := id hg
  have hRW := RW_le (R := R) (W := W) (by omega) (by omega)
  refine v_aload_n C dX4_high_0 rfl ?_
  refine v_iload_n C dX4_high_1 rfl ?_
  refine mc_X4_44 C dX4_high_2 (by assumption) (c_Grid_guess _ E z hx hB hF hg) rfl (fun r2 G2 hp2 => ?_)
  obtain ⟨rfl, rfl⟩ := hp2
  refine v_lret C dX4_high_5 ?_
  exact ⟨rfl, rfl⟩

def gTake (cf : Bool) (h : Nat → Nat) (g t : Nat) (D : Nat → Nat → Nat) : Nat → Nat → Nat := fun r c => if c = h r then (if cf then max (D r c) (g + t) else D r c + t) else D r c
def gPart (k : Nat) (D' D : Nat → Nat → Nat) : Nat → Nat → Nat := fun r c => if r < k then D' r c else D r c
theorem gPart_step {fc : Nat → Int64} {R W k : Nat} {D' D : Nat → Nat → Nat} {hk : Nat} {v : Int64} (h : ∀ i, i < R * W → fc i = lN (gPart k D' D (i / W) (i % W))) (hc : hk < W) (hv : v = lN (D' k hk)) (hne : ∀ c, c ≠ hk → D' k c = D k c) : ∀ i, i < R * W → fu fc (k * W + hk) v i = lN (gPart (k + 1) D' D (i / W) (i % W)) := by
  intro i hi
  by_cases e : i = k * W + hk
  · subst e
    rw [fu_self, hv, rc_div hc, rc_mod hc]
    unfold gPart
    rw [if_pos (Nat.lt_succ_self k)]
  · rw [fu_ne _ _ e, h i hi]
    congr 1
    unfold gPart
    by_cases e1 : i / W < k
    · rw [if_pos e1, if_pos (by omega)]
    · rw [if_neg e1]
      by_cases e2 : i / W = k
      · rw [if_pos (by omega), e2, hne]
        intro z
        have := (rc_of hi).2.2
        rw [e2, z] at this
        exact e this
      · rw [if_neg (by omega)]

theorem isFam.mono {E : Ev} {G G2 : Gh} {b P W R : Nat} {A B : Nat → Nat} (h : isFam E G b P W R A B) {i : Nat} (hf : ∀ j, j ≠ i → G2 j = G j) (hi : i < b ∨ b + 3 ≤ i) : isFam E G2 b P W R A B := by
  obtain ⟨fa, fb, h0, h1, h2, h3⟩ := h
  exact ⟨fa, fb, (hf _ (by omega)).trans h0, (hf _ (by omega)).trans h1, (hf _ (by omega)).trans h2, h3⟩
theorem isFam.keep {E : Ev} {G G2 : Gh} {b P W R : Nat} {A B : Nat → Nat} (h : isFam E G b P W R A B) (hf : ∀ j, b ≤ j → j < b + 3 → G2 j = G j) : isFam E G2 b P W R A B := by
  obtain ⟨fa, fb, h0, h1, h2, h3⟩ := h
  exact ⟨fa, fb, (hf _ (by omega) (by omega)).trans h0, (hf _ (by omega) (by omega)).trans h1, (hf _ (by omega) (by omega)).trans h2, h3⟩
theorem isGrid.keep {E : Ev} {G G2 : Gh} {b fam : Nat} {cf : Bool} {R W : Nat} {D : Nat → Nat → Nat} (h : isGrid E G b fam cf R W D) (hf : ∀ j, b ≤ j → j < b + 2 → G2 j = G j) : isGrid E G2 b fam cf R W D := by
  obtain ⟨fc, h0, h1, h2⟩ := h
  exact ⟨fc, (hf _ (by omega) (by omega)).trans h0, (hf _ (by omega) (by omega)).trans h1, h2⟩
set_option maxHeartbeats 4000000 in
set_option maxRecDepth 100000 in
theorem gtake_loop {M : Mx} {E : Ev} {z : Option Nat} (C : Cx M E yX4_take.cls cX4_take 7 none 2 48 0 0) {post : Unit → Gh → Prop} {G0 : Gh} {b fam P W R : Nat} {A B : Nat → Nat} {cf : Bool} {D : Nat → Nat → Nat} {x t g gl : Nat} (hx : x < P) (ht1 : t ≤ 1000) (hg1k : g < 2 ^ 62) (hgl : cf = true → gl = g + t) (hgl0 : gl ≤ g + t) (hdis : b + 2 ≤ fam ∨ fam + 3 ≤ b) (hB : ∀ r, r < R → ∀ c, c < W → D r c < 2 ^ 62) (hend : ∀ G, isGrid E G b fam cf R W (gTake cf (fun r => hsh P W (A r) (B r) x) g t D) → (∀ j, j ≠ b + 1 → G j = G0 j) → post () G) : ∀ (u k : Nat), k ≤ R → R - k < u → ∀ (G : Gh) (fc : Nat → Int64) (pl : Option Value), lo_c pl = true → isFam E G fam P W R A B → G b = cO 4 [.ref (ga E fam), .int (bI cf), .ref (ga E (b + 1))] → G (b + 1) = cJ E (R * W) fc → (∀ i, i < R * W → fc i = lN (gPart k (gTake cf (fun r => hsh P W (A r) (B r) x) g t D) D (i / W) (i % W))) → (∀ j, j ≠ b + 1 → G j = G0 j) → V M E 7 (QE M E (fun _ : Unit => none) z 0 0 post) z 0 0 G 23 [some (.ref (ga E b)), some (.int (nI x)), some (.int (nI t)), some (.long (lN gl)), none, some (.int (nI k)), pl] [] := by
  intro u
  induction u with
  | zero => intro k _ h; omega
  | succ u ih =>
    intro k hk hu G fc pl hpl hFm hg0 hg1 hfc hfr
    obtain ⟨fa, fb, hb0, hb1, hb2, hfa, hfb, hr, hab⟩ := id hFm
    have hRW := RW_le (R := R) (W := W) (by omega) (by omega)
    refine v_iload C dX4_take_23 rfl ?_
    refine v_aload_n C dX4_take_25 rfl ?_
    refine gf_X4_7 C dX4_take_26 (by assumption) ?_
    refine gf_X4_17 C dX4_take_29 (by assumption) ?_
    refine v_icmpn_ge C 102 dX4_take_32 (by decide) (by omega) (by omega) (fun h32 => ?_) (fun h32 => ?_)
    · skip
      refine v_vret C dX4_take_102 ?_
      refine hend G ⟨fc, hg0, hg1, fun i hi => ?_⟩ hfr
      rw [hfc i hi]
      congr 1
      unfold gPart
      rw [if_pos (by have := (rc_of hi).1; omega)]
    · skip
      refine v_iload C dX4_take_35 rfl ?_
      refine v_aload_n C dX4_take_37 rfl ?_
      refine gf_X4_7 C dX4_take_38 (by assumption) ?_
      refine gf_X4_23 C dX4_take_41 (by assumption) ?_
      first | refine v_imuln C dX4_take_44 ?_ | refine v_imul C dX4_take_44 ?_
      refine v_aload_n C dX4_take_45 rfl ?_
      refine gf_X4_7 C dX4_take_46 (by assumption) ?_
      refine v_iload C dX4_take_49 rfl ?_
      refine v_iload_n C dX4_take_51 rfl ?_
      refine mc_X4_30 C dX4_take_52 (by assumption) (c_Fam_column _ E z (row := k) (x := x) (by omega) hx hFm) rfl (fun r52 G52 hp52 => ?_)
      obtain ⟨rfl, rfl⟩ := hp52
      first | refine v_iaddn C dX4_take_55 ?_ | refine v_iadd C dX4_take_55 ?_
      have hc : hsh P W (A k) (B k) x < W := hsh_lt (by omega)
      have hi := rc_lt (W := W) (show k < R by omega) hc
      have hat : fc (k * W + hsh P W (A k) (B k) x) = lN (D k (hsh P W (A k) (B k) x)) := by rw [hfc _ hi, rc_div hc, rc_mod hc]; unfold gPart; rw [if_neg (Nat.lt_irrefl k)]
      refine v_istore_6 C dX4_take_56 (by decide) rfl ?_
      refine v_aload_n C dX4_take_58 rfl ?_
      refine gf_X4_26 C dX4_take_59 (by assumption) ?_
      refine v_iload C dX4_take_62 rfl ?_
      refine v_aload_n C dX4_take_64 rfl ?_
      refine gf_X4_13 C dX4_take_65 (by assumption) ?_
      first | refine v_ifb_eq C 85 dX4_take_68 (by decide) (fun h68 => ?_) (fun h68 => ?_) | refine v_ifn_eq C 85 dX4_take_68 (by decide) (by omega) (fun h68 => ?_) (fun h68 => ?_) | refine v_if_eq C 85 dX4_take_68 (by decide) (fun h68 => ?_) (fun h68 => ?_)
      · skip
        refine v_aload_n C dX4_take_85 rfl ?_
        refine gf_X4_26 C dX4_take_86 (by assumption) ?_
        refine v_iload C dX4_take_89 rfl ?_
        refine v_lald C dX4_take_91 (by assumption) (by omega) (by omega) hat ?_
        refine v_iload_n C dX4_take_92 rfl ?_
        first | refine v_i2ln C dX4_take_93 (by omega) ?_ | refine v_i2l C dX4_take_93 rfl ?_
        first | refine v_laddn C dX4_take_94 ?_ | refine v_ladd C dX4_take_94 ?_
        refine v_last C dX4_take_95 (by assumption) (by omega) (by omega) (fun G hG95 hF95 => ?_)
        first | replace hb0 := (hF95 _ (by omega)).trans hb0 | replace hb0 := hG95 | skip
        first | replace hb1 := (hF95 _ (by omega)).trans hb1 | replace hb1 := hG95 | skip
        first | replace hb2 := (hF95 _ (by omega)).trans hb2 | replace hb2 := hG95 | skip
        first | replace hg0 := (hF95 _ (by omega)).trans hg0 | replace hg0 := hG95 | skip
        first | replace hg1 := (hF95 _ (by omega)).trans hg1 | replace hg1 := hG95 | skip
        first | refine v_iinc_5 C dX4_take_96 (nI_1 _) (by decide) rfl ?_ | refine v_iinc_5 C dX4_take_96 rfl (by decide) rfl ?_
        refine v_goto C 23 dX4_take_99 (by decide) ?_
        refine ih (k + 1) (by omega) (by omega) G _ _ rfl (hFm.mono hF95 (by omega)) hg0 hg1 (gPart_step hfc hc ?_ (fun c hne => by unfold gTake; rw [if_neg hne])) (fun j hj => by rw [hF95 j hj]; exact hfr j hj)
        unfold gTake
        rw [if_pos rfl]
        simp [h68]
        try rw [hgl h68]
      · skip
        refine v_aload_n C dX4_take_71 rfl ?_
        refine gf_X4_26 C dX4_take_72 (by assumption) ?_
        refine v_iload C dX4_take_75 rfl ?_
        refine v_lald C dX4_take_77 (by assumption) (by omega) (by omega) hat ?_
        refine v_lload_n C dX4_take_78 rfl ?_
        refine mc_X4_48 C dX4_take_79 rfl ?_
        refine v_topl (lN_max (by have := hB k (by omega) (hsh P W (A k) (B k) x) hc; omega) (by omega)) ?_
        refine v_goto C 95 dX4_take_82 (by decide) ?_
        refine v_last C dX4_take_95 (by assumption) (by omega) (by omega) (fun G hG95 hF95 => ?_)
        first | replace hb0 := (hF95 _ (by omega)).trans hb0 | replace hb0 := hG95 | skip
        first | replace hb1 := (hF95 _ (by omega)).trans hb1 | replace hb1 := hG95 | skip
        first | replace hb2 := (hF95 _ (by omega)).trans hb2 | replace hb2 := hG95 | skip
        first | replace hg0 := (hF95 _ (by omega)).trans hg0 | replace hg0 := hG95 | skip
        first | replace hg1 := (hF95 _ (by omega)).trans hg1 | replace hg1 := hG95 | skip
        first | refine v_iinc_5 C dX4_take_96 (nI_1 _) (by decide) rfl ?_ | refine v_iinc_5 C dX4_take_96 rfl (by decide) rfl ?_
        refine v_goto C 23 dX4_take_99 (by decide) ?_
        refine ih (k + 1) (by omega) (by omega) G _ _ rfl (hFm.mono hF95 (by omega)) hg0 hg1 (gPart_step hfc hc ?_ (fun c hne => by unfold gTake; rw [if_neg hne])) (fun j hj => by rw [hF95 j hj]; exact hfr j hj)
        unfold gTake
        rw [if_pos rfl]
        simp [h68]
        try rw [hgl h68]
set_option maxHeartbeats 4000000 in
set_option maxRecDepth 100000 in
theorem c_Grid_take (l : Launch) (E : Ev) (z : Option Nat) {G : Gh} {b fam P W R : Nat} {A B : Nat → Nat} {cf : Bool} {D : Nat → Nat → Nat} {x t : Nat} (hx : x < P) (ht1 : t ≤ 1000) (hdis : b + 2 ≤ fam ∨ fam + 3 ≤ b) (hB : ∀ r, r < R → ∀ c, c < W → D r c < 2 ^ 62) (hF : isFam E G fam P W R A B) (hg : isGrid E G b fam cf R W D) : K_X4_take l E z G [.ref (ga E b), .int (nI x), .int (nI t)] (fun _ G2 => isGrid E G2 b fam cf R W (gTake cf (fun r => hsh P W (A r) (B r) x) (gEst P W R A B D x) t D) ∧ ∀ j, j ≠ b + 1 → G2 j = G j) := by
  refine Fc.of rfl [some (.ref (ga E b)), some (.int (nI x)), some (.int (nI t)), none, none, none, none] 4 rfl (Nat.le_of_ble_eq_true rfl) ?_
  intro M hM0 hini C
  subst hM0
  obtain ⟨fa, fb, hb0, hb1, hb2, hfa, hfb, hr, hab⟩ := id hF
  obtain ⟨fc, hg0, hg1, hfc⟩ := id hg
  have hRW := RW_le (R := R) (W := W) (by omega) (by omega)
  have hgE : gEst P W R A B D x < 2 ^ 62 := gm_bd (f := fun r => D r (hsh P W (A r) (B r) x)) (hB 0 (by omega) _ (hsh_lt (by omega))) _
  refine v_aload_n C dX4_take_0 rfl ?_
  refine gf_X4_13 C dX4_take_1 (by assumption) ?_
  first | refine v_ifb_eq C 18 dX4_take_4 (by decide) (fun h4 => ?_) (fun h4 => ?_) | refine v_ifn_eq C 18 dX4_take_4 (by decide) (by omega) (fun h4 => ?_) (fun h4 => ?_) | refine v_if_eq C 18 dX4_take_4 (by decide) (fun h4 => ?_) (fun h4 => ?_)
  · skip
    refine v_lconst (v := lN 0) C dX4_take_18 (by decide) ?_
    refine v_lstore_3 C dX4_take_19 (by decide) rfl ?_
    refine v_iconst (v := nI 0) C dX4_take_20 (by decide) ?_
    refine v_istore_5 C dX4_take_21 (by decide) rfl ?_
    first
      | exact gtake_loop C hx ht1 (g := gEst P W R A B D x) (gl := gEst P W R A B D x + t) hgE (fun h => by first | rfl | (rw [h4] at h; cases h)) (by omega) hdis hB (fun G h1 h2 => ⟨h1, h2⟩) (R + 1) 0 (by omega) (by omega) G fc none rfl hF hg0 hg1 (fun i hi => by rw [hfc i hi]; unfold gPart; rw [if_neg (Nat.not_lt_zero _)]) (fun _ _ => rfl)
      | exact gtake_loop C hx ht1 (g := gEst P W R A B D x) (gl := 0) hgE (fun h => by first | rfl | (rw [h4] at h; cases h)) (by omega) hdis hB (fun G h1 h2 => ⟨h1, h2⟩) (R + 1) 0 (by omega) (by omega) G fc none rfl hF hg0 hg1 (fun i hi => by rw [hfc i hi]; unfold gPart; rw [if_neg (Nat.not_lt_zero _)]) (fun _ _ => rfl)
  · skip
    refine v_aload_n C dX4_take_7 rfl ?_
    refine v_iload_n C dX4_take_8 rfl ?_
    refine mc_X4_44 C dX4_take_9 (by assumption) (c_Grid_guess _ E z hx hB hF hg) rfl (fun r9 G9 hp9 => ?_)
    obtain ⟨rfl, rfl⟩ := hp9
    refine v_iload_n C dX4_take_12 rfl ?_
    first | refine v_i2ln C dX4_take_13 (by omega) ?_ | refine v_i2l C dX4_take_13 rfl ?_
    first | refine v_laddn C dX4_take_14 ?_ | refine v_ladd C dX4_take_14 ?_
    refine v_goto C 19 dX4_take_15 (by decide) ?_
    refine v_lstore_3 C dX4_take_19 (by decide) rfl ?_
    refine v_iconst (v := nI 0) C dX4_take_20 (by decide) ?_
    refine v_istore_5 C dX4_take_21 (by decide) rfl ?_
    first
      | exact gtake_loop C hx ht1 (g := gEst P W R A B D x) (gl := gEst P W R A B D x + t) hgE (fun h => by first | rfl | (rw [h4] at h; cases h)) (by omega) hdis hB (fun G h1 h2 => ⟨h1, h2⟩) (R + 1) 0 (by omega) (by omega) G fc none rfl hF hg0 hg1 (fun i hi => by rw [hfc i hi]; unfold gPart; rw [if_neg (Nat.not_lt_zero _)]) (fun _ _ => rfl)
      | exact gtake_loop C hx ht1 (g := gEst P W R A B D x) (gl := 0) hgE (fun h => by first | rfl | (rw [h4] at h; cases h)) (by omega) hdis hB (fun G h1 h2 => ⟨h1, h2⟩) (R + 1) 0 (by omega) (by omega) G fc none rfl hF hg0 hg1 (fun i hi => by rw [hfc i hi]; unfold gPart; rw [if_neg (Nat.not_lt_zero _)]) (fun _ _ => rfl)

set_option maxHeartbeats 4000000 in
set_option maxRecDepth 100000 in
theorem c_Grid_makeEmpty (l : Launch) (E : Ev) (z : Option Nat) {G : Gh} {b fam W R : Nat} {cf : Bool} {D : Nat → Nat → Nat} (hRW : R * W ≤ 2048) (hg : isGrid E G b fam cf R W D) : K_X4_makeEmpty l E z G [.ref (ga E b)] (fun _ G2 => isGrid E G2 b fam cf R W (fun _ _ => 0) ∧ ∀ j, j ≠ b + 1 → G2 j = G j) := by
  refine Fc.of rfl [some (.ref (ga E b))] 0 rfl (Nat.le_of_ble_eq_true rfl) ?_
  intro M hM0 hini C
  subst hM0
  obtain ⟨fc, hg0, hg1, hfc⟩ := id hg
  refine v_aload_n C dX4_makeEmpty_0 rfl ?_
  refine gf_X4_26 C dX4_makeEmpty_1 (by assumption) ?_
  refine v_lconst (v := lN 0) C dX4_makeEmpty_4 (by decide) ?_
  refine mc_X4_51 C dX4_makeEmpty_5 (c_fill _ E z (by omega) hg1) rfl (fun r5 G5 hp5 => ?_)
  obtain ⟨f2, h1, h2, h3⟩ := hp5
  refine v_vret C dX4_makeEmpty_8 ?_
  exact ⟨⟨f2, (h2 _ (by omega)).trans hg0, h1, fun i hi => h3 i hi⟩, h2⟩

set_option maxHeartbeats 4000000 in
set_option maxRecDepth 100000 in
theorem c_Grid_become (l : Launch) (E : Ev) {G : Gh} {b b2 fam W R : Nat} {cf cf2 : Bool} {D D2 : Nat → Nat → Nat} (hRW : R * W ≤ 2048) (hg : isGrid E G b fam cf R W D) (hg2 : isGrid E G b2 fam cf2 R W D2) : K_X4_become l E none G [.ref (ga E b), .ref (ga E b2)] (fun _ G2 => isGrid E G2 b fam cf R W D2 ∧ ∀ j, j ≠ b + 1 → G2 j = G j) := by
  refine Fc.of rfl [some (.ref (ga E b)), some (.ref (ga E b2))] 0 rfl (Nat.le_of_ble_eq_true rfl) ?_
  intro M hM0 hini C
  subst hM0
  obtain ⟨fc, hg0, hg1, hfc⟩ := id hg
  obtain ⟨fd, hd0, hd1, hfd⟩ := id hg2
  refine v_aload_n C dX4_become_0 rfl ?_
  refine gf_X4_26 C dX4_become_1 (by assumption) ?_
  refine v_iconst (v := nI 0) C dX4_become_4 (by decide) ?_
  refine v_aload_n C dX4_become_5 rfl ?_
  refine gf_X4_26 C dX4_become_6 (by assumption) ?_
  refine v_iconst (v := nI 0) C dX4_become_9 (by decide) ?_
  refine v_aload_n C dX4_become_10 rfl ?_
  refine gf_X4_26 C dX4_become_11 (by assumption) ?_
  first | refine v_alen_cI C dX4_become_14 (by assumption) ?_ | refine v_alen_cJ C dX4_become_14 (by assumption) ?_
  refine v_cpyJ C tw355 dX4_become_15 hd1 hg1 (by omega) (by omega) (by omega) (by omega) (Nat.le_of_ble_eq_true rfl) (Nat.le_of_ble_eq_true rfl) (fun G hG15 hF15 => ?_)
  refine v_vret C dX4_become_18 ?_
  refine ⟨⟨_, (hF15 _ (by omega)).trans hg0, hG15, fun i hi => ?_⟩, hF15⟩
  unfold va_cpy
  rw [if_pos (by omega), show 0 + (i - 0) = i by omega]
  exact hfd i hi

set_option maxHeartbeats 4000000 in
set_option maxRecDepth 100000 in
theorem gput_loop {M : Mx} {E : Ev} {z : Option Nat} (C : Cx M E yX4_putTogether.cls cX4_putTogether 3 none 0 0 0 0) {post : Unit → Gh → Prop} {G0 : Gh} {b b2 fam fam2 W R : Nat} {cf cf2 : Bool} {D D2 : Nat → Nat → Nat} (hdis : b2 = b ∨ b + 2 ≤ b2 ∨ b2 + 2 ≤ b) (hRW : R * W ≤ 2048) (hend : ∀ G, isGrid E G b fam cf R W (fun r c => D r c + D2 r c) → (∀ j, j ≠ b + 1 → G j = G0 j) → post () G) : ∀ (u k : Nat), k ≤ R * W → R * W - k < u → ∀ (G : Gh) (fc fd : Nat → Int64), G b = cO 4 [.ref (ga E fam), .int (bI cf), .ref (ga E (b + 1))] → G b2 = cO 4 [.ref (ga E fam2), .int (bI cf2), .ref (ga E (b2 + 1))] → G (b + 1) = cJ E (R * W) fc → G (b2 + 1) = cJ E (R * W) fd → (∀ i, i < R * W → fc i = if i < k then lN (D (i / W) (i % W) + D2 (i / W) (i % W)) else lN (D (i / W) (i % W))) → (∀ i, k ≤ i → i < R * W → fd i = lN (D2 (i / W) (i % W))) → (∀ j, j ≠ b + 1 → G j = G0 j) → V M E 3 (QE M E (fun _ : Unit => none) z 0 0 post) z 0 0 G 2 [some (.ref (ga E b)), some (.ref (ga E b2)), some (.int (nI k))] [] := by
  intro u
  induction u with
  | zero => intro k _ h; omega
  | succ u ih =>
    intro k hk hu G fc fd hg0 hd0 hg1 hd1 hfc hfd hfr
    refine v_iload_n C dX4_putTogether_2 rfl ?_
    refine v_aload_n C dX4_putTogether_3 rfl ?_
    refine gf_X4_26 C dX4_putTogether_4 (by assumption) ?_
    first | refine v_alen_cI C dX4_putTogether_7 (by assumption) ?_ | refine v_alen_cJ C dX4_putTogether_7 (by assumption) ?_
    refine v_icmpn_ge C 32 dX4_putTogether_8 (by decide) (by omega) (by omega) (fun h8 => ?_) (fun h8 => ?_)
    · skip
      refine v_vret C dX4_putTogether_32 ?_
      refine hend G ⟨fc, hg0, hg1, fun i hi => ?_⟩ hfr
      rw [hfc i hi, if_pos (by omega)]
    · skip
      have hg1b := hg1
      refine v_aload_n C dX4_putTogether_11 rfl ?_
      refine gf_X4_26 C dX4_putTogether_12 (by assumption) ?_
      refine v_iload_n C dX4_putTogether_15 rfl ?_
      refine v_dup2 C dX4_putTogether_16 rfl rfl ?_
      refine v_lald C dX4_putTogether_17 (by assumption) (by omega) (by omega) rfl ?_
      refine v_aload_n C dX4_putTogether_18 rfl ?_
      refine gf_X4_26 C dX4_putTogether_19 (by assumption) ?_
      refine v_iload_n C dX4_putTogether_22 rfl ?_
      refine v_lald C dX4_putTogether_23 (by assumption) (by omega) (by omega) rfl ?_
      first | refine v_laddn C dX4_putTogether_24 ?_ | refine v_ladd C dX4_putTogether_24 ?_
      refine v_last C dX4_putTogether_25 (by assumption) (by omega) (by omega) (fun G hG25 hF25 => ?_)
      first | replace hg0 := (hF25 _ (by omega)).trans hg0 | replace hg0 := hG25 | skip
      first | replace hg1 := (hF25 _ (by omega)).trans hg1 | replace hg1 := hG25 | skip
      first | replace hd0 := (hF25 _ (by omega)).trans hd0 | replace hd0 := hG25 | skip
      first | refine v_iinc_2 C dX4_putTogether_26 (nI_1 _) (by decide) rfl ?_ | refine v_iinc_2 C dX4_putTogether_26 rfl (by decide) rfl ?_
      refine v_goto C 2 dX4_putTogether_29 (by decide) ?_
      refine ih (k + 1) (by omega) (by omega) G _ (if b2 = b then fu fc k (fc k + fd k) else fd) hg0 ?_ hg1 ?_ (fun i hi => ?_) (fun i hi1 hi2 => ?_) (fun j hj => by rw [hF25 j hj]; exact hfr j hj)
      · exact hd0
      · by_cases e : b2 = b
        · subst e; rw [if_pos rfl]; exact hg1
        · rw [if_neg e, hF25 _ (by omega)]; exact hd1
      · by_cases e : i = k
        · subst e
          rw [fu_self, if_pos (by omega), hfc i hi, if_neg (by omega), hfd i (by omega) hi, lN_add]
        · rw [fu_ne _ _ e, hfc i hi]
          by_cases e2 : i < k
          · rw [if_pos e2, if_pos (by omega)]
          · rw [if_neg e2, if_neg (by omega)]
      · by_cases e : b2 = b
        · subst e
          rw [if_pos rfl, fu_ne _ _ (by omega)]
          have e3 : fc = fd := by have := hg1b.symm.trans hd1; unfold cJ at this; injection this with this; injection this with this; injection this with this e4; injection e4 with e5 e6; injection e6 with e7; injection e7
          rw [e3]; exact hfd i (by omega) hi2
        · rw [if_neg e]; exact hfd i (by omega) hi2
set_option maxHeartbeats 4000000 in
set_option maxRecDepth 100000 in
theorem c_Grid_put (l : Launch) (E : Ev) (z : Option Nat) {G : Gh} {b b2 fam W R : Nat} {cf cf2 : Bool} {D D2 : Nat → Nat → Nat} (hdis : b2 = b ∨ b + 2 ≤ b2 ∨ b2 + 2 ≤ b) (hRW : R * W ≤ 2048) (hg : isGrid E G b fam cf R W D) (hg2 : isGrid E G b2 fam cf2 R W D2) : K_X4_putTogether l E z G [.ref (ga E b), .ref (ga E b2)] (fun _ G2 => isGrid E G2 b fam cf R W (fun r c => D r c + D2 r c) ∧ ∀ j, j ≠ b + 1 → G2 j = G j) := by
  refine Fc.of rfl [some (.ref (ga E b)), some (.ref (ga E b2)), none] 1 rfl (Nat.le_of_ble_eq_true rfl) ?_
  intro M hM0 hini C
  subst hM0
  obtain ⟨fc, hg0, hg1, hfc⟩ := id hg
  obtain ⟨fd, hd0, hd1, hfd⟩ := id hg2
  refine v_iconst (v := nI 0) C dX4_putTogether_0 (by decide) ?_
  refine v_istore_2 C dX4_putTogether_1 (by decide) rfl ?_
  exact gput_loop C hdis hRW (fun G h1 h2 => ⟨h1, h2⟩) (R * W + 1) 0 (by omega) (by omega) G fc fd hg0 hd0 hg1 hd1 (fun i hi => by rw [if_neg (Nat.not_lt_zero _)]; exact hfc i hi) (fun i _ hi => hfd i hi) (fun _ _ => rfl)

