def moG (E : Ev) (G : Gh) (id R W : Nat) (D : Nat → Nat → Nat → Nat) : Prop := ∃ f : Nat → Int64, G id = cJ E 8192 f ∧ ∀ s r c, s < 4 → r < R → c < W → f (2048 * s + 256 * r + c) = lN (D s r c)
theorem moG.keep {E : Ev} {G G2 : Gh} {id R W : Nat} {D : Nat → Nat → Nat → Nat} (h : moG E G id R W D) (hf : G2 id = G id) : moG E G2 id R W D := by
  obtain ⟨f, h0, h1⟩ := h
  exact ⟨f, hf.trans h0, h1⟩

set_option maxHeartbeats 4000000 in
set_option maxRecDepth 100000 in
theorem mlPlain_loop {M : Mx} {E : Ev} {z : Option Nat} (C : Cx M E yX12_leastPlain.cls cX12_leastPlain 8 (some .long) 2 46 0 0) {post : Int64 → Gh → Prop} {G : Gh} {P W R lim rp po : Nat} {A B : Nat → Nat} {D : Nat → Nat → Nat → Nat} {s x : Nat} (hs : s < 4) (hx : x < P) (hB : ∀ r, r < R → ∀ c, c < W → D s r c < 2 ^ 62) (hm : isMo E G P W R lim rp po A B) (hg : moG E G 108 R W D) {f : Nat → Nat} (hfe : ∀ r, f r = D s r (hsh P W (A r) (B r) x)) (hend : ∀ {v : Int64}, v = lN (gm f (R - 1)) → post v G) : ∀ (t k : Nat), k + 1 ≤ R → R - k < t → ∀ (x6 x7 : Option Value), V M E 8 (QE M E (fun r : Int64 => some (.long r)) z 0 0 post) z 0 0 G 16 [some (.ref (ga E 104)), some (.int (nI s)), some (.int (nI x)), some (.long (lN (gm f k))), none, some (.int (nI (k + 1))), x6, x7] [] := by
  obtain ⟨fa, fb, ho, h5, h6, hfa, hfb, hrg, hlim, hab⟩ := id hm
  obtain ⟨fg, hg0, hgf⟩ := id hg
  have h0 : f 0 < 2 ^ 62 := by rw [hfe]; exact hB 0 (by omega) _ (hsh_lt (by omega))
  intro t
  induction t with
  | zero => intro k _ h; omega
  | succ t ih =>
    intro k hk ht x6 x7
    refine v_iload C dX12_leastPlain_16 rfl ?_
    refine v_aload_n C dX12_leastPlain_18 rfl ?_
    refine gf_X12_94 C dX12_leastPlain_19 (by assumption) ?_
    refine v_icmpn_ge C 60 dX12_leastPlain_22 (by decide) (by omega) (by omega) (fun h22 => ?_) (fun h22 => ?_)
    · skip
      refine v_lload_n C dX12_leastPlain_60 rfl ?_
      refine v_lret C dX12_leastPlain_61 ?_
      refine hend ?_
      have e9 : R - 1 = k := by omega
      rw [e9]
    · skip
      have hcw : hsh P W (A (k + 1)) (B (k + 1)) x < W := hsh_lt (by omega)
      have hat : fg (2048 * s + 256 * (k + 1) + hsh P W (A (k + 1)) (B (k + 1)) x) = lN (f (k + 1)) := by rw [hgf s (k + 1) _ hs (by omega) hcw, hfe]
      have hbf := gm_bd h0 k
      have hb1 : f (k + 1) < 2 ^ 62 := by rw [hfe]; exact hB (k + 1) (by omega) _ hcw
      refine v_aload_n C dX12_leastPlain_25 rfl ?_
      refine gf_X12_20 C dX12_leastPlain_26 (by assumption) ?_
      refine v_aload_n C dX12_leastPlain_29 rfl ?_
      refine v_iload_n C dX12_leastPlain_30 rfl ?_
      refine v_iload C dX12_leastPlain_31 rfl ?_
      refine v_iload_n C dX12_leastPlain_33 rfl ?_
      refine mc_X12_111 C dX12_leastPlain_34 (by assumption) (c_Mo_cellOf _ E z (s := s) (r := k + 1) (x := x) hs (by omega) hx hm) rfl (fun r34 G34 hp34 => ?_)
      obtain ⟨rfl, rfl⟩ := hp34
      refine v_lald C dX12_leastPlain_37 (by assumption) (by omega) (by omega) hat ?_
      refine v_lstore_6 C dX12_leastPlain_38 (by decide) (by first | rfl | assumption) ?_
      refine v_lload C dX12_leastPlain_40 rfl ?_
      refine v_lload_n C dX12_leastPlain_42 rfl ?_
      refine v_lcmpn_ge C 52 dX12_leastPlain_43 dX12_leastPlain_44 (by decide) (by omega) (by omega) (fun h43 => ?_) (fun h43 => ?_)
      · skip
        refine v_lload_n C dX12_leastPlain_52 rfl ?_
        refine v_lstore_3 C dX12_leastPlain_53 (by decide) (by first | rfl | assumption) ?_
        first | refine v_iinc_5 C dX12_leastPlain_54 (nI_1 _) (by decide) (by first | rfl | assumption) ?_ | refine v_iinc_5 C dX12_leastPlain_54 rfl (by decide) (by first | rfl | assumption) ?_
        refine v_goto C 16 dX12_leastPlain_57 (by decide) ?_
        first
          | (have e9 : gm f (k + 1) = f (k + 1) := by show min _ _ = _; omega
             have key := ih (k + 1) (by omega) (by omega) (some (.long (lN (f (k + 1))))) none
             rw [e9] at key
             exact key)
          | (have e9 : gm f (k + 1) = gm f k := by show min _ _ = _; omega
             have key := ih (k + 1) (by omega) (by omega) (some (.long (lN (f (k + 1))))) none
             rw [e9] at key
             exact key)
      · skip
        refine v_lload C dX12_leastPlain_47 rfl ?_
        refine v_goto C 53 dX12_leastPlain_49 (by decide) ?_
        refine v_lstore_3 C dX12_leastPlain_53 (by decide) (by first | rfl | assumption) ?_
        first | refine v_iinc_5 C dX12_leastPlain_54 (nI_1 _) (by decide) (by first | rfl | assumption) ?_ | refine v_iinc_5 C dX12_leastPlain_54 rfl (by decide) (by first | rfl | assumption) ?_
        refine v_goto C 16 dX12_leastPlain_57 (by decide) ?_
        first
          | (have e9 : gm f (k + 1) = f (k + 1) := by show min _ _ = _; omega
             have key := ih (k + 1) (by omega) (by omega) (some (.long (lN (f (k + 1))))) none
             rw [e9] at key
             exact key)
          | (have e9 : gm f (k + 1) = gm f k := by show min _ _ = _; omega
             have key := ih (k + 1) (by omega) (by omega) (some (.long (lN (f (k + 1))))) none
             rw [e9] at key
             exact key)
set_option maxHeartbeats 4000000 in
set_option maxRecDepth 100000 in
theorem c_Mo_leastPlain (l : Launch) (E : Ev) (z : Option Nat) {G : Gh} {P W R lim rp po : Nat} {A B : Nat → Nat} {D : Nat → Nat → Nat → Nat} {s x : Nat} (hs : s < 4) (hx : x < P) (hB : ∀ r, r < R → ∀ c, c < W → D s r c < 2 ^ 62) (hm : isMo E G P W R lim rp po A B) (hg : moG E G 108 R W D) : K_X12_leastPlain l E z G [.ref (ga E 104), .int (nI s), .int (nI x)] (fun r G2 => r = lN (gEst P W R A B (D s) x) ∧ G = G2) := by
  refine Fc.of rfl [some (.ref (ga E 104)), some (.int (nI s)), some (.int (nI x)), none, none, none, none, none] 5 rfl (Nat.le_of_ble_eq_true rfl) ?_
  intro M hM0 hini C
  subst hM0
  obtain ⟨fa, fb, ho, h5, h6, hfa, hfb, hrg, hlim, hab⟩ := id hm
  obtain ⟨fg, hg0, hgf⟩ := id hg
  refine v_aload_n C dX12_leastPlain_0 rfl ?_
  refine gf_X12_20 C dX12_leastPlain_1 (by assumption) ?_
  refine v_aload_n C dX12_leastPlain_4 rfl ?_
  refine v_iload_n C dX12_leastPlain_5 rfl ?_
  refine v_iconst (v := nI 0) C dX12_leastPlain_6 (by decide) ?_
  refine v_iload_n C dX12_leastPlain_7 rfl ?_
  refine mc_X12_111 C dX12_leastPlain_8 (by assumption) (c_Mo_cellOf _ E z (s := s) (r := 0) (x := x) hs (by omega) hx hm) rfl (fun r8 G8 hp8 => ?_)
  obtain ⟨rfl, rfl⟩ := hp8
  have hcw : hsh P W (A 0) (B 0) x < W := hsh_lt (by omega)
  have hat := hgf s 0 _ hs (by omega) hcw
  refine v_lald C dX12_leastPlain_11 (by assumption) (by omega) (by omega) hat ?_
  refine v_lstore_3 C dX12_leastPlain_12 (by decide) (by first | rfl | assumption) ?_
  refine v_iconst (v := nI 1) C dX12_leastPlain_13 (by decide) ?_
  refine v_istore_5 C dX12_leastPlain_14 (by decide) (by first | rfl | assumption) ?_
  exact mlPlain_loop C hs hx hB hm hg (f := fun r => D s r (hsh P W (A r) (B r) x)) (fun _ => rfl) (fun h => ⟨h, rfl⟩) (R + 1) 0 (by omega) (by omega) _ _

set_option maxHeartbeats 4000000 in
set_option maxRecDepth 100000 in
theorem mlCareful_loop {M : Mx} {E : Ev} {z : Option Nat} (C : Cx M E yX12_leastCareful.cls cX12_leastCareful 8 (some .long) 2 46 0 0) {post : Int64 → Gh → Prop} {G : Gh} {P W R lim rp po : Nat} {A B : Nat → Nat} {D : Nat → Nat → Nat → Nat} {s x : Nat} (hs : s < 4) (hx : x < P) (hB : ∀ r, r < R → ∀ c, c < W → D s r c < 2 ^ 62) (hm : isMo E G P W R lim rp po A B) (hg : moG E G 109 R W D) {f : Nat → Nat} (hfe : ∀ r, f r = D s r (hsh P W (A r) (B r) x)) (hend : ∀ {v : Int64}, v = lN (gm f (R - 1)) → post v G) : ∀ (t k : Nat), k + 1 ≤ R → R - k < t → ∀ (x6 x7 : Option Value), V M E 8 (QE M E (fun r : Int64 => some (.long r)) z 0 0 post) z 0 0 G 16 [some (.ref (ga E 104)), some (.int (nI s)), some (.int (nI x)), some (.long (lN (gm f k))), none, some (.int (nI (k + 1))), x6, x7] [] := by
  obtain ⟨fa, fb, ho, h5, h6, hfa, hfb, hrg, hlim, hab⟩ := id hm
  obtain ⟨fg, hg0, hgf⟩ := id hg
  have h0 : f 0 < 2 ^ 62 := by rw [hfe]; exact hB 0 (by omega) _ (hsh_lt (by omega))
  intro t
  induction t with
  | zero => intro k _ h; omega
  | succ t ih =>
    intro k hk ht x6 x7
    refine v_iload C dX12_leastCareful_16 rfl ?_
    refine v_aload_n C dX12_leastCareful_18 rfl ?_
    refine gf_X12_94 C dX12_leastCareful_19 (by assumption) ?_
    refine v_icmpn_ge C 60 dX12_leastCareful_22 (by decide) (by omega) (by omega) (fun h22 => ?_) (fun h22 => ?_)
    · skip
      refine v_lload_n C dX12_leastCareful_60 rfl ?_
      refine v_lret C dX12_leastCareful_61 ?_
      refine hend ?_
      have e9 : R - 1 = k := by omega
      rw [e9]
    · skip
      have hcw : hsh P W (A (k + 1)) (B (k + 1)) x < W := hsh_lt (by omega)
      have hat : fg (2048 * s + 256 * (k + 1) + hsh P W (A (k + 1)) (B (k + 1)) x) = lN (f (k + 1)) := by rw [hgf s (k + 1) _ hs (by omega) hcw, hfe]
      have hbf := gm_bd h0 k
      have hb1 : f (k + 1) < 2 ^ 62 := by rw [hfe]; exact hB (k + 1) (by omega) _ hcw
      refine v_aload_n C dX12_leastCareful_25 rfl ?_
      refine gf_X12_23 C dX12_leastCareful_26 (by assumption) ?_
      refine v_aload_n C dX12_leastCareful_29 rfl ?_
      refine v_iload_n C dX12_leastCareful_30 rfl ?_
      refine v_iload C dX12_leastCareful_31 rfl ?_
      refine v_iload_n C dX12_leastCareful_33 rfl ?_
      refine mc_X12_111 C dX12_leastCareful_34 (by assumption) (c_Mo_cellOf _ E z (s := s) (r := k + 1) (x := x) hs (by omega) hx hm) rfl (fun r34 G34 hp34 => ?_)
      obtain ⟨rfl, rfl⟩ := hp34
      refine v_lald C dX12_leastCareful_37 (by assumption) (by omega) (by omega) hat ?_
      refine v_lstore_6 C dX12_leastCareful_38 (by decide) (by first | rfl | assumption) ?_
      refine v_lload C dX12_leastCareful_40 rfl ?_
      refine v_lload_n C dX12_leastCareful_42 rfl ?_
      refine v_lcmpn_ge C 52 dX12_leastCareful_43 dX12_leastCareful_44 (by decide) (by omega) (by omega) (fun h43 => ?_) (fun h43 => ?_)
      · skip
        refine v_lload_n C dX12_leastCareful_52 rfl ?_
        refine v_lstore_3 C dX12_leastCareful_53 (by decide) (by first | rfl | assumption) ?_
        first | refine v_iinc_5 C dX12_leastCareful_54 (nI_1 _) (by decide) (by first | rfl | assumption) ?_ | refine v_iinc_5 C dX12_leastCareful_54 rfl (by decide) (by first | rfl | assumption) ?_
        refine v_goto C 16 dX12_leastCareful_57 (by decide) ?_
        first
          | (have e9 : gm f (k + 1) = f (k + 1) := by show min _ _ = _; omega
             have key := ih (k + 1) (by omega) (by omega) (some (.long (lN (f (k + 1))))) none
             rw [e9] at key
             exact key)
          | (have e9 : gm f (k + 1) = gm f k := by show min _ _ = _; omega
             have key := ih (k + 1) (by omega) (by omega) (some (.long (lN (f (k + 1))))) none
             rw [e9] at key
             exact key)
      · skip
        refine v_lload C dX12_leastCareful_47 rfl ?_
        refine v_goto C 53 dX12_leastCareful_49 (by decide) ?_
        refine v_lstore_3 C dX12_leastCareful_53 (by decide) (by first | rfl | assumption) ?_
        first | refine v_iinc_5 C dX12_leastCareful_54 (nI_1 _) (by decide) (by first | rfl | assumption) ?_ | refine v_iinc_5 C dX12_leastCareful_54 rfl (by decide) (by first | rfl | assumption) ?_
        refine v_goto C 16 dX12_leastCareful_57 (by decide) ?_
        first
          | (have e9 : gm f (k + 1) = f (k + 1) := by show min _ _ = _; omega
             have key := ih (k + 1) (by omega) (by omega) (some (.long (lN (f (k + 1))))) none
             rw [e9] at key
             exact key)
          | (have e9 : gm f (k + 1) = gm f k := by show min _ _ = _; omega
             have key := ih (k + 1) (by omega) (by omega) (some (.long (lN (f (k + 1))))) none
             rw [e9] at key
             exact key)
set_option maxHeartbeats 4000000 in
set_option maxRecDepth 100000 in
theorem c_Mo_leastCareful (l : Launch) (E : Ev) (z : Option Nat) {G : Gh} {P W R lim rp po : Nat} {A B : Nat → Nat} {D : Nat → Nat → Nat → Nat} {s x : Nat} (hs : s < 4) (hx : x < P) (hB : ∀ r, r < R → ∀ c, c < W → D s r c < 2 ^ 62) (hm : isMo E G P W R lim rp po A B) (hg : moG E G 109 R W D) : K_X12_leastCareful l E z G [.ref (ga E 104), .int (nI s), .int (nI x)] (fun r G2 => r = lN (gEst P W R A B (D s) x) ∧ G = G2) := by
  refine Fc.of rfl [some (.ref (ga E 104)), some (.int (nI s)), some (.int (nI x)), none, none, none, none, none] 5 rfl (Nat.le_of_ble_eq_true rfl) ?_
  intro M hM0 hini C
  subst hM0
  obtain ⟨fa, fb, ho, h5, h6, hfa, hfb, hrg, hlim, hab⟩ := id hm
  obtain ⟨fg, hg0, hgf⟩ := id hg
  refine v_aload_n C dX12_leastCareful_0 rfl ?_
  refine gf_X12_23 C dX12_leastCareful_1 (by assumption) ?_
  refine v_aload_n C dX12_leastCareful_4 rfl ?_
  refine v_iload_n C dX12_leastCareful_5 rfl ?_
  refine v_iconst (v := nI 0) C dX12_leastCareful_6 (by decide) ?_
  refine v_iload_n C dX12_leastCareful_7 rfl ?_
  refine mc_X12_111 C dX12_leastCareful_8 (by assumption) (c_Mo_cellOf _ E z (s := s) (r := 0) (x := x) hs (by omega) hx hm) rfl (fun r8 G8 hp8 => ?_)
  obtain ⟨rfl, rfl⟩ := hp8
  have hcw : hsh P W (A 0) (B 0) x < W := hsh_lt (by omega)
  have hat := hgf s 0 _ hs (by omega) hcw
  refine v_lald C dX12_leastCareful_11 (by assumption) (by omega) (by omega) hat ?_
  refine v_lstore_3 C dX12_leastCareful_12 (by decide) (by first | rfl | assumption) ?_
  refine v_iconst (v := nI 1) C dX12_leastCareful_13 (by decide) ?_
  refine v_istore_5 C dX12_leastCareful_14 (by decide) (by first | rfl | assumption) ?_
  exact mlCareful_loop C hs hx hB hm hg (f := fun r => D s r (hsh P W (A r) (B r) x)) (fun _ => rfl) (fun h => ⟨h, rfl⟩) (R + 1) 0 (by omega) (by omega) _ _

def lix (ks : List Nat) (x : Nat) : Option Nat := ks.findIdx? (fun c => c == x)
def kJ (b : Nat) (q : Option Nat) : Int32 := match q with
  | none => -1
  | some i => nI (b + i)
theorem lix_kix (l : Ctr) (x : Nat) : lix (ckeys l) x = kix l x := by
  unfold lix ckeys kix
  rw [List.findIdx?_map]
  rfl
theorem lix_hit {ks : List Nat} (hn : ks.Nodup) {i x : Nat} (h : ks[i]? = some x) : lix (ks.take (i + 1)) x = some i := by
  obtain ⟨hl, he⟩ := List.getElem?_eq_some_iff.mp h
  unfold lix
  rw [List.findIdx?_eq_some_iff_getElem]
  refine ⟨by rw [List.length_take]; omega, by rw [List.getElem_take, he]; simp, fun j hj => ?_⟩
  rw [List.getElem_take]
  have hne : ks[j] ≠ ks[i] := by
    rw [List.nodup_iff_pairwise_ne, List.pairwise_iff_getElem] at hn
    exact hn j i (by omega) hl hj
  rw [he] at hne
  simpa using hne
theorem lix_miss {ks : List Nat} {i x y : Nat} (h : ks[i]? = some y) (hne : y ≠ x) : lix (ks.take (i + 1)) x = lix (ks.take i) x := by
  unfold lix
  rw [List.take_add_one, h, List.findIdx?_append]
  have e9 : List.findIdx? (fun c => c == x) (some y).toList = none := by simp [hne]
  rw [e9]
  simp

set_option maxHeartbeats 4000000 in
set_option maxRecDepth 100000 in
theorem misraAt_loop {M : Mx} {E : Ev} {z : Option Nat} (C : Cx M E yX12_misraAt.cls cX12_misraAt 5 (some .int) 0 0 0 0) {post : Int32 → Gh → Prop} {G : Gh} {P W R lim rp po : Nat} {A B : Nat → Nat} {s x : Nat} {ks : List Nat} {fc fk : Nat → Int32} (hs : s < 4) (hx : x < 2 ^ 31) (hc0 : G 110 = cI E 4 fc) (hk0 : G 112 = cI E 256 fk) (hcn : fc s = nI ks.length) (hkr : ∀ (i y : Nat), ks[i]? = some y → fk (64 * s + i) = nI y) (hkl : ks.length ≤ 64) (hkp : ∀ y ∈ ks, y < 2 ^ 31) (hnd : ks.Nodup) (hm : isMo E G P W R lim rp po A B) (hend : ∀ {v : Int32}, v = kJ (64 * s) (lix ks x) → post v G) : ∀ (t i : Nat), i ≤ ks.length → ks.length - i < t → V M E 5 (QE M E (fun r : Int32 => some (.int r)) z 0 0 post) z 0 0 G 8 [some (.ref (ga E 104)), some (.int (nI s)), some (.int (nI x)), some (.int (kJ (64 * s) (lix (ks.take i) x))), some (.int (nI (64 * s + i)))] [] := by
  obtain ⟨fa, fb, ho, h5, h6, hfa, hfb, hrg, hlim, hab⟩ := id hm
  intro t
  induction t with
  | zero => intro i _ h; omega
  | succ t ih =>
    intro i hi ht
    refine v_iload C dX12_misraAt_8 rfl ?_
    refine v_bipush (v := nI 64) C dX12_misraAt_10 (by decide) ?_
    refine v_iload_n C dX12_misraAt_12 rfl ?_
    first | refine v_imuln C dX12_misraAt_13 ?_ | refine v_imul C dX12_misraAt_13 ?_
    refine v_aload_n C dX12_misraAt_14 rfl ?_
    refine gf_X12_26 C dX12_misraAt_15 (by assumption) ?_
    refine v_iload_n C dX12_misraAt_18 rfl ?_
    refine v_iald C dX12_misraAt_19 (by assumption) (by omega) (by omega) hcn ?_
    first | refine v_iaddn C dX12_misraAt_20 ?_ | refine v_iadd C dX12_misraAt_20 ?_
    refine v_icmpn_ge C 48 dX12_misraAt_21 (by decide) (by omega) (by omega) (fun h21 => ?_) (fun h21 => ?_)
    · skip
      refine v_iload_n C dX12_misraAt_48 rfl ?_
      refine v_iret C dX12_misraAt_49 ?_
      refine hend ?_
      have e9 : i = ks.length := by omega
      rw [e9, List.take_length]
    · skip
      have hki : ks[i]? = some ks[i] := List.getElem?_eq_getElem (by omega)
      have hkb := hkp _ (List.mem_of_getElem? hki)
      refine v_aload_n C dX12_misraAt_24 rfl ?_
      refine gf_X12_32 C dX12_misraAt_25 (by assumption) ?_
      refine v_iload C dX12_misraAt_28 rfl ?_
      refine v_iald C dX12_misraAt_30 (by assumption) (by omega) (by omega) (hkr i _ hki) ?_
      refine v_iload_n C dX12_misraAt_31 rfl ?_
      refine v_icmpn_ne C 40 dX12_misraAt_32 (by decide) (by omega) (by omega) (fun h32 => ?_) (fun h32 => ?_)
      · skip
        refine v_iload_n C dX12_misraAt_40 rfl ?_
        refine v_istore_3 C dX12_misraAt_41 (by decide) (by first | rfl | assumption) ?_
        first | refine v_iinc_4 C dX12_misraAt_42 (nI_1 _) (by decide) (by first | rfl | assumption) ?_ | refine v_iinc_4 C dX12_misraAt_42 rfl (by decide) (by first | rfl | assumption) ?_
        refine v_goto C 8 dX12_misraAt_45 (by decide) ?_
        first
          | (have e9 : lix (ks.take (i + 1)) x = lix (ks.take i) x := lix_miss hki h32
             have key := ih (i + 1) (by omega) (by omega)
             rw [e9] at key
             exact key)
          | (have e9 : lix (ks.take (i + 1)) x = some i := lix_hit hnd (by rw [hki, h32])
             have key := ih (i + 1) (by omega) (by omega)
             rw [e9] at key
             exact key)
      · skip
        refine v_iload C dX12_misraAt_35 rfl ?_
        refine v_goto C 41 dX12_misraAt_37 (by decide) ?_
        refine v_istore_3 C dX12_misraAt_41 (by decide) (by first | rfl | assumption) ?_
        first | refine v_iinc_4 C dX12_misraAt_42 (nI_1 _) (by decide) (by first | rfl | assumption) ?_ | refine v_iinc_4 C dX12_misraAt_42 rfl (by decide) (by first | rfl | assumption) ?_
        refine v_goto C 8 dX12_misraAt_45 (by decide) ?_
        first
          | (have e9 : lix (ks.take (i + 1)) x = lix (ks.take i) x := lix_miss hki h32
             have key := ih (i + 1) (by omega) (by omega)
             rw [e9] at key
             exact key)
          | (have e9 : lix (ks.take (i + 1)) x = some i := lix_hit hnd (by rw [hki, h32])
             have key := ih (i + 1) (by omega) (by omega)
             rw [e9] at key
             exact key)
set_option maxHeartbeats 4000000 in
set_option maxRecDepth 100000 in
theorem c_Mo_misraAt (l : Launch) (E : Ev) (z : Option Nat) {G : Gh} {P W R lim rp po : Nat} {A B : Nat → Nat} {s x : Nat} {ks : List Nat} {fc fk : Nat → Int32} (hs : s < 4) (hx : x < 2 ^ 31) (hc0 : G 110 = cI E 4 fc) (hk0 : G 112 = cI E 256 fk) (hcn : fc s = nI ks.length) (hkr : ∀ (i y : Nat), ks[i]? = some y → fk (64 * s + i) = nI y) (hkl : ks.length ≤ 64) (hkp : ∀ y ∈ ks, y < 2 ^ 31) (hnd : ks.Nodup) (hm : isMo E G P W R lim rp po A B) : K_X12_misraAt l E z G [.ref (ga E 104), .int (nI s), .int (nI x)] (fun r G2 => r = kJ (64 * s) (lix ks x) ∧ G = G2) := by
  refine Fc.of rfl [some (.ref (ga E 104)), some (.int (nI s)), some (.int (nI x)), none, none] 2 rfl (Nat.le_of_ble_eq_true rfl) ?_
  intro M hM0 hini C
  subst hM0
  obtain ⟨fa, fb, ho, h5, h6, hfa, hfb, hrg, hlim, hab⟩ := id hm
  refine v_iconst (v := -1) C dX12_misraAt_0 (by decide) ?_
  refine v_istore_3 C dX12_misraAt_1 (by decide) (by first | rfl | assumption) ?_
  refine v_bipush (v := nI 64) C dX12_misraAt_2 (by decide) ?_
  refine v_iload_n C dX12_misraAt_4 rfl ?_
  first | refine v_imuln C dX12_misraAt_5 ?_ | refine v_imul C dX12_misraAt_5 ?_
  refine v_istore_4 C dX12_misraAt_6 (by decide) (by first | rfl | assumption) ?_
  exact misraAt_loop C hs hx hc0 hk0 hcn hkr hkl hkp hnd hm (fun h => ⟨h, rfl⟩) (ks.length + 1) 0 (by omega) (by omega)

set_option maxHeartbeats 4000000 in
set_option maxRecDepth 100000 in
theorem savingAt_loop {M : Mx} {E : Ev} {z : Option Nat} (C : Cx M E yX12_savingAt.cls cX12_savingAt 5 (some .int) 0 0 0 0) {post : Int32 → Gh → Prop} {G : Gh} {P W R lim rp po : Nat} {A B : Nat → Nat} {s x : Nat} {ks : List Nat} {fc fk : Nat → Int32} (hs : s < 4) (hx : x < 2 ^ 31) (hc0 : G 114 = cI E 4 fc) (hk0 : G 115 = cI E 256 fk) (hcn : fc s = nI ks.length) (hkr : ∀ (i y : Nat), ks[i]? = some y → fk (64 * s + i) = nI y) (hkl : ks.length ≤ 64) (hkp : ∀ y ∈ ks, y < 2 ^ 31) (hnd : ks.Nodup) (hm : isMo E G P W R lim rp po A B) (hend : ∀ {v : Int32}, v = kJ (64 * s) (lix ks x) → post v G) : ∀ (t i : Nat), i ≤ ks.length → ks.length - i < t → V M E 5 (QE M E (fun r : Int32 => some (.int r)) z 0 0 post) z 0 0 G 8 [some (.ref (ga E 104)), some (.int (nI s)), some (.int (nI x)), some (.int (kJ (64 * s) (lix (ks.take i) x))), some (.int (nI (64 * s + i)))] [] := by
  obtain ⟨fa, fb, ho, h5, h6, hfa, hfb, hrg, hlim, hab⟩ := id hm
  intro t
  induction t with
  | zero => intro i _ h; omega
  | succ t ih =>
    intro i hi ht
    refine v_iload C dX12_savingAt_8 rfl ?_
    refine v_bipush (v := nI 64) C dX12_savingAt_10 (by decide) ?_
    refine v_iload_n C dX12_savingAt_12 rfl ?_
    first | refine v_imuln C dX12_savingAt_13 ?_ | refine v_imul C dX12_savingAt_13 ?_
    refine v_aload_n C dX12_savingAt_14 rfl ?_
    refine gf_X12_38 C dX12_savingAt_15 (by assumption) ?_
    refine v_iload_n C dX12_savingAt_18 rfl ?_
    refine v_iald C dX12_savingAt_19 (by assumption) (by omega) (by omega) hcn ?_
    first | refine v_iaddn C dX12_savingAt_20 ?_ | refine v_iadd C dX12_savingAt_20 ?_
    refine v_icmpn_ge C 48 dX12_savingAt_21 (by decide) (by omega) (by omega) (fun h21 => ?_) (fun h21 => ?_)
    · skip
      refine v_iload_n C dX12_savingAt_48 rfl ?_
      refine v_iret C dX12_savingAt_49 ?_
      refine hend ?_
      have e9 : i = ks.length := by omega
      rw [e9, List.take_length]
    · skip
      have hki : ks[i]? = some ks[i] := List.getElem?_eq_getElem (by omega)
      have hkb := hkp _ (List.mem_of_getElem? hki)
      refine v_aload_n C dX12_savingAt_24 rfl ?_
      refine gf_X12_41 C dX12_savingAt_25 (by assumption) ?_
      refine v_iload C dX12_savingAt_28 rfl ?_
      refine v_iald C dX12_savingAt_30 (by assumption) (by omega) (by omega) (hkr i _ hki) ?_
      refine v_iload_n C dX12_savingAt_31 rfl ?_
      refine v_icmpn_ne C 40 dX12_savingAt_32 (by decide) (by omega) (by omega) (fun h32 => ?_) (fun h32 => ?_)
      · skip
        refine v_iload_n C dX12_savingAt_40 rfl ?_
        refine v_istore_3 C dX12_savingAt_41 (by decide) (by first | rfl | assumption) ?_
        first | refine v_iinc_4 C dX12_savingAt_42 (nI_1 _) (by decide) (by first | rfl | assumption) ?_ | refine v_iinc_4 C dX12_savingAt_42 rfl (by decide) (by first | rfl | assumption) ?_
        refine v_goto C 8 dX12_savingAt_45 (by decide) ?_
        first
          | (have e9 : lix (ks.take (i + 1)) x = lix (ks.take i) x := lix_miss hki h32
             have key := ih (i + 1) (by omega) (by omega)
             rw [e9] at key
             exact key)
          | (have e9 : lix (ks.take (i + 1)) x = some i := lix_hit hnd (by rw [hki, h32])
             have key := ih (i + 1) (by omega) (by omega)
             rw [e9] at key
             exact key)
      · skip
        refine v_iload C dX12_savingAt_35 rfl ?_
        refine v_goto C 41 dX12_savingAt_37 (by decide) ?_
        refine v_istore_3 C dX12_savingAt_41 (by decide) (by first | rfl | assumption) ?_
        first | refine v_iinc_4 C dX12_savingAt_42 (nI_1 _) (by decide) (by first | rfl | assumption) ?_ | refine v_iinc_4 C dX12_savingAt_42 rfl (by decide) (by first | rfl | assumption) ?_
        refine v_goto C 8 dX12_savingAt_45 (by decide) ?_
        first
          | (have e9 : lix (ks.take (i + 1)) x = lix (ks.take i) x := lix_miss hki h32
             have key := ih (i + 1) (by omega) (by omega)
             rw [e9] at key
             exact key)
          | (have e9 : lix (ks.take (i + 1)) x = some i := lix_hit hnd (by rw [hki, h32])
             have key := ih (i + 1) (by omega) (by omega)
             rw [e9] at key
             exact key)
set_option maxHeartbeats 4000000 in
set_option maxRecDepth 100000 in
theorem c_Mo_savingAt (l : Launch) (E : Ev) (z : Option Nat) {G : Gh} {P W R lim rp po : Nat} {A B : Nat → Nat} {s x : Nat} {ks : List Nat} {fc fk : Nat → Int32} (hs : s < 4) (hx : x < 2 ^ 31) (hc0 : G 114 = cI E 4 fc) (hk0 : G 115 = cI E 256 fk) (hcn : fc s = nI ks.length) (hkr : ∀ (i y : Nat), ks[i]? = some y → fk (64 * s + i) = nI y) (hkl : ks.length ≤ 64) (hkp : ∀ y ∈ ks, y < 2 ^ 31) (hnd : ks.Nodup) (hm : isMo E G P W R lim rp po A B) : K_X12_savingAt l E z G [.ref (ga E 104), .int (nI s), .int (nI x)] (fun r G2 => r = kJ (64 * s) (lix ks x) ∧ G = G2) := by
  refine Fc.of rfl [some (.ref (ga E 104)), some (.int (nI s)), some (.int (nI x)), none, none] 2 rfl (Nat.le_of_ble_eq_true rfl) ?_
  intro M hM0 hini C
  subst hM0
  obtain ⟨fa, fb, ho, h5, h6, hfa, hfb, hrg, hlim, hab⟩ := id hm
  refine v_iconst (v := -1) C dX12_savingAt_0 (by decide) ?_
  refine v_istore_3 C dX12_savingAt_1 (by decide) (by first | rfl | assumption) ?_
  refine v_bipush (v := nI 64) C dX12_savingAt_2 (by decide) ?_
  refine v_iload_n C dX12_savingAt_4 rfl ?_
  first | refine v_imuln C dX12_savingAt_5 ?_ | refine v_imul C dX12_savingAt_5 ?_
  refine v_istore_4 C dX12_savingAt_6 (by decide) (by first | rfl | assumption) ?_
  exact savingAt_loop C hs hx hc0 hk0 hcn hkr hkl hkp hnd hm (fun h => ⟨h, rfl⟩) (ks.length + 1) 0 (by omega) (by omega)

set_option maxHeartbeats 4000000 in
set_option maxRecDepth 100000 in
theorem keyAt_loop {M : Mx} {E : Ev} {z : Option Nat} (C : Cx M E yX12_keyAt.cls cX12_keyAt 5 (some .int) 0 0 0 0) {post : Int32 → Gh → Prop} {G : Gh} {P W R lim rp po : Nat} {A B : Nat → Nat} {s x : Nat} {ks : List Nat} {fc fk : Nat → Int32} (hs : s < 4) (hx : x < 2 ^ 31) (hc0 : G 118 = cI E 4 fc) (hk0 : G 120 = cI E 1200 fk) (hcn : fc s = nI ks.length) (hkr : ∀ (i y : Nat), ks[i]? = some y → fk (300 * s + i) = nI y) (hkl : ks.length ≤ 300) (hkp : ∀ y ∈ ks, y < 2 ^ 31) (hnd : ks.Nodup) (hm : isMo E G P W R lim rp po A B) (hend : ∀ {v : Int32}, v = kJ (300 * s) (lix ks x) → post v G) : ∀ (t i : Nat), i ≤ ks.length → ks.length - i < t → V M E 5 (QE M E (fun r : Int32 => some (.int r)) z 0 0 post) z 0 0 G 9 [some (.ref (ga E 104)), some (.int (nI s)), some (.int (nI x)), some (.int (kJ (300 * s) (lix (ks.take i) x))), some (.int (nI (300 * s + i)))] [] := by
  obtain ⟨fa, fb, ho, h5, h6, hfa, hfb, hrg, hlim, hab⟩ := id hm
  intro t
  induction t with
  | zero => intro i _ h; omega
  | succ t ih =>
    intro i hi ht
    refine v_iload C dX12_keyAt_9 rfl ?_
    refine v_sipush (v := nI 300) C dX12_keyAt_11 (by decide) ?_
    refine v_iload_n C dX12_keyAt_14 rfl ?_
    first | refine v_imuln C dX12_keyAt_15 ?_ | refine v_imul C dX12_keyAt_15 ?_
    refine v_aload_n C dX12_keyAt_16 rfl ?_
    refine gf_X12_50 C dX12_keyAt_17 (by assumption) ?_
    refine v_iload_n C dX12_keyAt_20 rfl ?_
    refine v_iald C dX12_keyAt_21 (by assumption) (by omega) (by omega) hcn ?_
    first | refine v_iaddn C dX12_keyAt_22 ?_ | refine v_iadd C dX12_keyAt_22 ?_
    refine v_icmpn_ge C 50 dX12_keyAt_23 (by decide) (by omega) (by omega) (fun h23 => ?_) (fun h23 => ?_)
    · skip
      refine v_iload_n C dX12_keyAt_50 rfl ?_
      refine v_iret C dX12_keyAt_51 ?_
      refine hend ?_
      have e9 : i = ks.length := by omega
      rw [e9, List.take_length]
    · skip
      have hki : ks[i]? = some ks[i] := List.getElem?_eq_getElem (by omega)
      have hkb := hkp _ (List.mem_of_getElem? hki)
      refine v_aload_n C dX12_keyAt_26 rfl ?_
      refine gf_X12_57 C dX12_keyAt_27 (by assumption) ?_
      refine v_iload C dX12_keyAt_30 rfl ?_
      refine v_iald C dX12_keyAt_32 (by assumption) (by omega) (by omega) (hkr i _ hki) ?_
      refine v_iload_n C dX12_keyAt_33 rfl ?_
      refine v_icmpn_ne C 42 dX12_keyAt_34 (by decide) (by omega) (by omega) (fun h34 => ?_) (fun h34 => ?_)
      · skip
        refine v_iload_n C dX12_keyAt_42 rfl ?_
        refine v_istore_3 C dX12_keyAt_43 (by decide) (by first | rfl | assumption) ?_
        first | refine v_iinc_4 C dX12_keyAt_44 (nI_1 _) (by decide) (by first | rfl | assumption) ?_ | refine v_iinc_4 C dX12_keyAt_44 rfl (by decide) (by first | rfl | assumption) ?_
        refine v_goto C 9 dX12_keyAt_47 (by decide) ?_
        first
          | (have e9 : lix (ks.take (i + 1)) x = lix (ks.take i) x := lix_miss hki h34
             have key := ih (i + 1) (by omega) (by omega)
             rw [e9] at key
             exact key)
          | (have e9 : lix (ks.take (i + 1)) x = some i := lix_hit hnd (by rw [hki, h34])
             have key := ih (i + 1) (by omega) (by omega)
             rw [e9] at key
             exact key)
      · skip
        refine v_iload C dX12_keyAt_37 rfl ?_
        refine v_goto C 43 dX12_keyAt_39 (by decide) ?_
        refine v_istore_3 C dX12_keyAt_43 (by decide) (by first | rfl | assumption) ?_
        first | refine v_iinc_4 C dX12_keyAt_44 (nI_1 _) (by decide) (by first | rfl | assumption) ?_ | refine v_iinc_4 C dX12_keyAt_44 rfl (by decide) (by first | rfl | assumption) ?_
        refine v_goto C 9 dX12_keyAt_47 (by decide) ?_
        first
          | (have e9 : lix (ks.take (i + 1)) x = lix (ks.take i) x := lix_miss hki h34
             have key := ih (i + 1) (by omega) (by omega)
             rw [e9] at key
             exact key)
          | (have e9 : lix (ks.take (i + 1)) x = some i := lix_hit hnd (by rw [hki, h34])
             have key := ih (i + 1) (by omega) (by omega)
             rw [e9] at key
             exact key)
set_option maxHeartbeats 4000000 in
set_option maxRecDepth 100000 in
theorem c_Mo_keyAt (l : Launch) (E : Ev) (z : Option Nat) {G : Gh} {P W R lim rp po : Nat} {A B : Nat → Nat} {s x : Nat} {ks : List Nat} {fc fk : Nat → Int32} (hs : s < 4) (hx : x < 2 ^ 31) (hc0 : G 118 = cI E 4 fc) (hk0 : G 120 = cI E 1200 fk) (hcn : fc s = nI ks.length) (hkr : ∀ (i y : Nat), ks[i]? = some y → fk (300 * s + i) = nI y) (hkl : ks.length ≤ 300) (hkp : ∀ y ∈ ks, y < 2 ^ 31) (hnd : ks.Nodup) (hm : isMo E G P W R lim rp po A B) : K_X12_keyAt l E z G [.ref (ga E 104), .int (nI s), .int (nI x)] (fun r G2 => r = kJ (300 * s) (lix ks x) ∧ G = G2) := by
  refine Fc.of rfl [some (.ref (ga E 104)), some (.int (nI s)), some (.int (nI x)), none, none] 2 rfl (Nat.le_of_ble_eq_true rfl) ?_
  intro M hM0 hini C
  subst hM0
  obtain ⟨fa, fb, ho, h5, h6, hfa, hfb, hrg, hlim, hab⟩ := id hm
  refine v_iconst (v := -1) C dX12_keyAt_0 (by decide) ?_
  refine v_istore_3 C dX12_keyAt_1 (by decide) (by first | rfl | assumption) ?_
  refine v_sipush (v := nI 300) C dX12_keyAt_2 (by decide) ?_
  refine v_iload_n C dX12_keyAt_5 rfl ?_
  first | refine v_imuln C dX12_keyAt_6 ?_ | refine v_imul C dX12_keyAt_6 ?_
  refine v_istore_4 C dX12_keyAt_7 (by decide) (by first | rfl | assumption) ?_
  exact keyAt_loop C hs hx hc0 hk0 hcn hkr hkl hkp hnd hm (fun h => ⟨h, rfl⟩) (ks.length + 1) 0 (by omega) (by omega)

