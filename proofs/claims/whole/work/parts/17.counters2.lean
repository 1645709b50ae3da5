theorem ckeys_inj {l : Ctr} (h : (ckeys l).Nodup) {i j : Nat} {c d : Nat × Nat × Nat} (hi : l[i]? = some c) (hj : l[j]? = some d) (e : c.1 = d.1) : i = j := by
  have hi2 : (ckeys l)[i]? = some c.1 := by unfold ckeys; rw [List.getElem?_map, hi]; rfl
  have hj2 : (ckeys l)[j]? = some d.1 := by unfold ckeys; rw [List.getElem?_map, hj]; rfl
  rw [List.nodup_iff_pairwise_ne, List.pairwise_iff_getElem] at h
  obtain ⟨li, ei⟩ := List.getElem?_eq_some_iff.mp hi2
  obtain ⟨lj, ej⟩ := List.getElem?_eq_some_iff.mp hj2
  rcases Nat.lt_trichotomy i j with q | q | q
  · exact absurd (by rw [ei, ej]; exact e) (h i j li lj q)
  · exact q
  · exact absurd (by rw [ei, ej]; exact e.symm) (h j i lj li q)
theorem rep_del {l : Ctr} {fk : Nat → Int32} {fn fe : Nat → Int64} (h : rep l fk fn fe) {i : Nat} (hi : i < l.length) : rep (l.eraseIdx i) (va_cpy fk fk (i + 1) i (l.length - (i + 1))) (va_cpy fn fn (i + 1) i (l.length - (i + 1))) (va_cpy fe fe (i + 1) i (l.length - (i + 1))) := by
  intro j c hj
  rw [List.getElem?_eraseIdx] at hj
  unfold va_cpy
  by_cases h1 : j < i
  · rw [if_pos h1] at hj
    rw [if_neg (by omega), if_neg (by omega), if_neg (by omega)]
    exact h j c hj
  · rw [if_neg h1] at hj
    have hl := (List.getElem?_eq_some_iff.mp hj).1
    rw [if_pos (by omega), if_pos (by omega), if_pos (by omega), show i + 1 + (j - i) = j + 1 by omega]
    exact h _ c hj
theorem mem_del {l : Ctr} {i : Nat} {c : Nat × Nat × Nat} (h : c ∈ l.eraseIdx i) : c ∈ l := List.mem_of_mem_eraseIdx h
theorem cwf_del {l : Ctr} {P lim i : Nat} (h : cwf l P lim) : cwf (l.eraseIdx i) P lim := by
  obtain ⟨h1, h2, h3⟩ := h
  refine ⟨⟨h1.1, h1.2.1, by have := List.length_eraseIdx_le l i; omega, h1.2.2.2⟩, fun c hc => h2 c (mem_del hc), ?_⟩
  exact h3.sublist ((List.eraseIdx_sublist l i).map _)
theorem del_key {l : Ctr} (hn : (ckeys l).Nodup) {i k : Nat} {c : Nat × Nat × Nat} (hc : l[i]? = some c) (hk : k ∈ ckeys (l.eraseIdx i)) : k ∈ ckeys l ∧ k ≠ c.1 := by
  obtain ⟨d, hd, he⟩ := List.mem_map.mp hk
  refine ⟨List.mem_map.mpr ⟨d, mem_del hd, he⟩, fun e => ?_⟩
  obtain ⟨j, hj⟩ := List.getElem?_of_mem hd
  rw [List.getElem?_eraseIdx] at hj
  by_cases h1 : j < i
  · rw [if_pos h1] at hj
    have := ckeys_inj hn hj hc (by rw [he, e])
    omega
  · rw [if_neg h1] at hj
    have := ckeys_inj hn hj hc (by rw [he, e])
    omega
theorem rep_cpy {l : Ctr} {fk gk : Nat → Int32} {fn gn fe ge : Nat → Int64} (h : rep l fk fn fe) : rep l (va_cpy fk gk 0 0 l.length) (va_cpy fn gn 0 0 l.length) (va_cpy fe ge 0 0 l.length) := by
  intro j c hj
  have hl := (List.getElem?_eq_some_iff.mp hj).1
  unfold va_cpy
  rw [if_pos (by omega), if_pos (by omega), if_pos (by omega), show 0 + (j - 0) = j by omega]
  exact h j c hj

set_option maxHeartbeats 4000000 in
set_option maxRecDepth 100000 in
theorem c_Ctr_remove (l : Launch) (E : Ev) {G : Gh} {b P lim : Nat} {l0 : Ctr} {i : Nat} (hi : i < l0.length) (hc : isCtr E G b P lim l0) : K_X1_remove l E none G [.ref (ga E b), .int (nI i)] (fun _ G2 => isCtr E G2 b P lim (l0.eraseIdx i) ∧ ∀ j, (j < b ∨ b + 6 ≤ j) → G2 j = G j) := by
  refine Fc.of rfl [some (.ref (ga E b)), some (.int (nI i))] 0 rfl (Nat.le_of_ble_eq_true rfl) ?_
  intro M hM0 hini C
  subst hM0
  obtain ⟨fk, fn, fe, hb0, hb1, hb2, hb3, hks, hrep, hwf, hkp, hnd⟩ := id hc
  refine v_iload_n C dX1_remove_0 rfl ?_
  first | refine v_ifn_lt C 12 dX1_remove_1 (by decide) (by omega) (fun h1 => by exfalso; first | omega | exact absurd h1 (by decide) | contradiction | simp_all) (fun h1 => ?_) | refine v_if_lt C 12 dX1_remove_1 (by decide) (fun h1 => by exfalso; first | omega | exact absurd h1 (by decide) | contradiction | simp_all) (fun h1 => ?_)
  refine v_iload_n C dX1_remove_4 rfl ?_
  refine v_aload_n C dX1_remove_5 rfl ?_
  refine gf_X1_35 C dX1_remove_6 (by assumption) ?_
  refine v_icmpn_lt C 13 dX1_remove_9 (by decide) (by omega) (by omega) (fun h9 => ?_) (fun h9 => by exfalso; first | omega | exact absurd h9 (by decide) | contradiction | simp_all)
  have hci : l0[i]? = some l0[i] := List.getElem?_eq_getElem hi
  have hck := hkp _ (List.mem_of_getElem? hci)
  refine v_aload_n C dX1_remove_13 rfl ?_
  refine gf_X1_31 C dX1_remove_14 (by assumption) ?_
  refine v_aload_n C dX1_remove_17 rfl ?_
  refine gf_X1_15 C dX1_remove_18 (by assumption) ?_
  refine v_iload_n C dX1_remove_21 rfl ?_
  refine v_iald C dX1_remove_22 (by assumption) (by omega) (by omega) (hrep i _ hci).1 ?_
  refine mc_X1_58 C dX1_remove_23 (hks.rc) (c_KS_drop _ E none (by omega) hck hks) rfl (fun r23 G23 hp23 => ?_)
  obtain ⟨hks, hfr23⟩ := hp23
  have hb0 := (hfr23 _ (by omega)).trans hb0
  have hb1 := (hfr23 _ (by omega)).trans hb1
  have hb2 := (hfr23 _ (by omega)).trans hb2
  have hb3 := (hfr23 _ (by omega)).trans hb3
  refine v_aload_n C dX1_remove_26 rfl ?_
  refine v_iload_n C dX1_remove_27 rfl ?_
  refine v_iconst (v := nI 1) C dX1_remove_28 (by decide) ?_
  first | refine v_iaddn C dX1_remove_29 ?_ | refine v_iadd C dX1_remove_29 ?_
  refine v_iload_n C dX1_remove_30 rfl ?_
  refine mc_X1_48 C dX1_remove_31 (by assumption) (c_Ctr_shift _ E (by omega) (by omega) (by omega) (by omega) hb0 hb1 hb2 hb3) rfl (fun r31 G31 hp31 => ?_)
  obtain ⟨hb0, hb1, hb2, hb3, hfr31⟩ := hp31
  have hks := hks.keep (fun j a b => hfr31 j (by omega))
  refine v_aload_n C dX1_remove_34 rfl ?_
  refine v_dup C dX1_remove_35 rfl ?_
  refine gf_X1_35 C dX1_remove_36 (by assumption) ?_
  refine v_iconst (v := nI 1) C dX1_remove_39 (by decide) ?_
  first | refine v_isubn C dX1_remove_40 (by omega) ?_ | refine v_isub C dX1_remove_40 ?_
  refine pf_X1_35 C dX1_remove_41 (by assumption) (fun G hG41 hF41 => ?_)
  first | replace hb0 := (hF41 _ (by omega)).trans hb0 | replace hb0 := hG41 | skip
  first | replace hb1 := (hF41 _ (by omega)).trans hb1 | replace hb1 := hG41 | skip
  first | replace hb2 := (hF41 _ (by omega)).trans hb2 | replace hb2 := hG41 | skip
  first | replace hb3 := (hF41 _ (by omega)).trans hb3 | replace hb3 := hG41 | skip
  refine v_vret C dX1_remove_44 ?_
  refine ⟨⟨_, _, _, ?_, hb1, hb2, hb3, (hks.keep (fun j a b => hF41 j (by omega))).sub (fun k hk => del_key hnd hci hk), rep_del hrep hi, cwf_del ⟨hwf, hkp, hnd⟩⟩, fun j hj => ?_⟩
  · rw [List.length_eraseIdx_of_lt hi]; exact hb0
  · rw [hF41 j (by omega), hfr31 j (by omega), hfr23 j (by omega)]

set_option maxHeartbeats 4000000 in
set_option maxRecDepth 100000 in
theorem c_Ctr_makeEmpty (l : Launch) (E : Ev) (z : Option Nat) {G : Gh} {b P lim : Nat} {l0 : Ctr} (hc : isCtr E G b P lim l0) : K_X1_makeEmpty l E z G [.ref (ga E b)] (fun _ G2 => isCtr E G2 b P lim [] ∧ ∀ j, (j < b ∨ b + 6 ≤ j) → G2 j = G j) := by
  refine Fc.of rfl [some (.ref (ga E b))] 0 rfl (Nat.le_of_ble_eq_true rfl) ?_
  intro M hM0 hini C
  subst hM0
  obtain ⟨fk, fn, fe, hb0, hb1, hb2, hb3, hks, hrep, hwf, hkp, hnd⟩ := id hc
  refine v_aload_n C dX1_makeEmpty_0 rfl ?_
  refine v_iconst (v := nI 0) C dX1_makeEmpty_1 (by decide) ?_
  refine pf_X1_35 C dX1_makeEmpty_2 (by assumption) (fun G hG2 hF2 => ?_)
  first | replace hb0 := (hF2 _ (by omega)).trans hb0 | replace hb0 := hG2 | skip
  first | replace hb1 := (hF2 _ (by omega)).trans hb1 | replace hb1 := hG2 | skip
  first | replace hb2 := (hF2 _ (by omega)).trans hb2 | replace hb2 := hG2 | skip
  first | replace hb3 := (hF2 _ (by omega)).trans hb3 | replace hb3 := hG2 | skip
  have hks := hks.keep (fun j a b => hF2 j (by omega))
  refine v_aload_n C dX1_makeEmpty_5 rfl ?_
  refine gf_X1_31 C dX1_makeEmpty_6 (by assumption) ?_
  refine mc_X1_71 C dX1_makeEmpty_9 (hks.rc) (c_KS_makeEmpty _ E z (by omega) hks) rfl (fun r9 G9 hp9 => ?_)
  obtain ⟨hks, hfr9⟩ := hp9
  refine v_vret C dX1_makeEmpty_12 ?_
  refine ⟨⟨fk, fn, fe, (hfr9 _ (by omega)).trans hb0, (hfr9 _ (by omega)).trans hb1, (hfr9 _ (by omega)).trans hb2, (hfr9 _ (by omega)).trans hb3, hks.sub (fun k hk => by simp [ckeys] at hk), fun i c h => by simp at h, ⟨⟨hwf.1, hwf.2.1, by simp, hwf.2.2.2⟩, fun c h => by simp at h, by simp [ckeys]⟩⟩, fun j hj => ?_⟩
  rw [hfr9 j (by omega), hF2 j (by omega)]

set_option maxHeartbeats 4000000 in
set_option maxRecDepth 100000 in
theorem c_Ctr_becomeSelf (l : Launch) (E : Ev) {G : Gh} {b P lim : Nat} {l0 : Ctr} (hc : isCtr E G b P lim l0) : K_X1_become l E none G [.ref (ga E b), .ref (ga E b)] (fun _ G2 => isCtr E G2 b P lim l0 ∧ ∀ j, (j < b ∨ b + 6 ≤ j) → G2 j = G j) := by
  refine Fc.of rfl [some (.ref (ga E b)), some (.ref (ga E b))] 0 rfl (Nat.le_of_ble_eq_true rfl) ?_
  intro M hM0 hini C
  subst hM0
  obtain ⟨fk, fn, fe, hb0, hb1, hb2, hb3, hks, hrep, hwf, hkp, hnd⟩ := id hc
  refine v_aload_n C dX1_become_0 rfl ?_
  refine gf_X1_15 C dX1_become_1 (by assumption) ?_
  refine v_iconst (v := nI 0) C dX1_become_4 (by decide) ?_
  refine v_aload_n C dX1_become_5 rfl ?_
  refine gf_X1_15 C dX1_become_6 (by assumption) ?_
  refine v_iconst (v := nI 0) C dX1_become_9 (by decide) ?_
  refine v_aload_n C dX1_become_10 rfl ?_
  refine gf_X1_35 C dX1_become_11 (by assumption) ?_
  refine v_cpyI C tw315 dX1_become_14 hb1 hb1 (by omega) (by omega) (by omega) (by omega) (Nat.le_of_ble_eq_true rfl) (Nat.le_of_ble_eq_true rfl) (fun G hG14 hF14 => ?_)
  first | replace hb0 := (hF14 _ (by omega)).trans hb0 | replace hb0 := hG14 | skip
  first | replace hb1 := (hF14 _ (by omega)).trans hb1 | replace hb1 := hG14 | skip
  first | replace hb2 := (hF14 _ (by omega)).trans hb2 | replace hb2 := hG14 | skip
  first | replace hb3 := (hF14 _ (by omega)).trans hb3 | replace hb3 := hG14 | skip
  refine v_aload_n C dX1_become_17 rfl ?_
  refine gf_X1_19 C dX1_become_18 (by assumption) ?_
  refine v_iconst (v := nI 0) C dX1_become_21 (by decide) ?_
  refine v_aload_n C dX1_become_22 rfl ?_
  refine gf_X1_19 C dX1_become_23 (by assumption) ?_
  refine v_iconst (v := nI 0) C dX1_become_26 (by decide) ?_
  refine v_aload_n C dX1_become_27 rfl ?_
  refine gf_X1_35 C dX1_become_28 (by assumption) ?_
  refine v_cpyJ C tw315 dX1_become_31 hb2 hb2 (by omega) (by omega) (by omega) (by omega) (Nat.le_of_ble_eq_true rfl) (Nat.le_of_ble_eq_true rfl) (fun G hG31 hF31 => ?_)
  first | replace hb0 := (hF31 _ (by omega)).trans hb0 | replace hb0 := hG31 | skip
  first | replace hb1 := (hF31 _ (by omega)).trans hb1 | replace hb1 := hG31 | skip
  first | replace hb2 := (hF31 _ (by omega)).trans hb2 | replace hb2 := hG31 | skip
  first | replace hb3 := (hF31 _ (by omega)).trans hb3 | replace hb3 := hG31 | skip
  refine v_aload_n C dX1_become_34 rfl ?_
  refine gf_X1_23 C dX1_become_35 (by assumption) ?_
  refine v_iconst (v := nI 0) C dX1_become_38 (by decide) ?_
  refine v_aload_n C dX1_become_39 rfl ?_
  refine gf_X1_23 C dX1_become_40 (by assumption) ?_
  refine v_iconst (v := nI 0) C dX1_become_43 (by decide) ?_
  refine v_aload_n C dX1_become_44 rfl ?_
  refine gf_X1_35 C dX1_become_45 (by assumption) ?_
  refine v_cpyJ C tw315 dX1_become_48 hb3 hb3 (by omega) (by omega) (by omega) (by omega) (Nat.le_of_ble_eq_true rfl) (Nat.le_of_ble_eq_true rfl) (fun G hG48 hF48 => ?_)
  first | replace hb0 := (hF48 _ (by omega)).trans hb0 | replace hb0 := hG48 | skip
  first | replace hb1 := (hF48 _ (by omega)).trans hb1 | replace hb1 := hG48 | skip
  first | replace hb2 := (hF48 _ (by omega)).trans hb2 | replace hb2 := hG48 | skip
  first | replace hb3 := (hF48 _ (by omega)).trans hb3 | replace hb3 := hG48 | skip
  refine v_aload_n C dX1_become_51 rfl ?_
  refine v_aload_n C dX1_become_52 rfl ?_
  refine gf_X1_35 C dX1_become_53 (by assumption) ?_
  refine pf_X1_35 C dX1_become_56 (by assumption) (fun G hG56 hF56 => ?_)
  first | replace hb0 := (hF56 _ (by omega)).trans hb0 | replace hb0 := hG56 | skip
  first | replace hb1 := (hF56 _ (by omega)).trans hb1 | replace hb1 := hG56 | skip
  first | replace hb2 := (hF56 _ (by omega)).trans hb2 | replace hb2 := hG56 | skip
  first | replace hb3 := (hF56 _ (by omega)).trans hb3 | replace hb3 := hG56 | skip
  have hks := (((hks.keep (fun j a b => hF14 j (by omega))).keep (fun j a b => hF31 j (by omega))).keep (fun j a b => hF48 j (by omega))).keep (fun j a b => hF56 j (by omega))
  refine v_aload_n C dX1_become_59 rfl ?_
  refine gf_X1_31 C dX1_become_60 (by assumption) ?_
  refine v_aload_n C dX1_become_63 rfl ?_
  refine gf_X1_31 C dX1_become_64 (by assumption) ?_
  refine mc_X1_74 C dX1_become_67 (hks.rc) (c_KS_become _ E (by omega) (fun k hk => by obtain ⟨c, h1, h2⟩ := List.mem_map.mp hk; rw [← h2]; exact hkp c h1) hks hks) rfl (fun r67 G67 hp67 => ?_)
  obtain ⟨hks, hfr67⟩ := hp67
  refine v_vret C dX1_become_70 ?_
  refine ⟨⟨_, _, _, (hfr67 _ (by omega)).trans hb0, (hfr67 _ (by omega)).trans hb1, (hfr67 _ (by omega)).trans hb2, (hfr67 _ (by omega)).trans hb3, hks, rep_cpy hrep, ⟨hwf, hkp, hnd⟩⟩, fun j hj => ?_⟩
  rw [hfr67 j (by omega), hF56 j (by omega), hF48 j (by omega), hF31 j (by omega), hF14 j (by omega)]

set_option maxHeartbeats 4000000 in
set_option maxRecDepth 100000 in
theorem c_Ctr_become (l : Launch) (E : Ev) {G : Gh} {b b2 P lim : Nat} {l0 l2 : Ctr} (hdis : b + 6 ≤ b2 ∨ b2 + 6 ≤ b) (hc : isCtr E G b P lim l0) (hc2 : isCtr E G b2 P lim l2) : K_X1_become l E none G [.ref (ga E b), .ref (ga E b2)] (fun _ G2 => isCtr E G2 b P lim l2 ∧ ∀ j, (j < b ∨ b + 6 ≤ j) → G2 j = G j) := by
  refine Fc.of rfl [some (.ref (ga E b)), some (.ref (ga E b2))] 0 rfl (Nat.le_of_ble_eq_true rfl) ?_
  intro M hM0 hini C
  subst hM0
  obtain ⟨fk, fn, fe, hb0, hb1, hb2, hb3, hks, hrep, hwf, hkp, hnd⟩ := id hc
  obtain ⟨gk, gn, ge, hd0, hd1, hd2, hd3, hks2, hrep2, hwf2, hkp2, hnd2⟩ := id hc2
  refine v_aload_n C dX1_become_0 rfl ?_
  refine gf_X1_15 C dX1_become_1 (by assumption) ?_
  refine v_iconst (v := nI 0) C dX1_become_4 (by decide) ?_
  refine v_aload_n C dX1_become_5 rfl ?_
  refine gf_X1_15 C dX1_become_6 (by assumption) ?_
  refine v_iconst (v := nI 0) C dX1_become_9 (by decide) ?_
  refine v_aload_n C dX1_become_10 rfl ?_
  refine gf_X1_35 C dX1_become_11 (by assumption) ?_
  refine v_cpyI C tw315 dX1_become_14 hd1 hb1 (by omega) (by omega) (by omega) (by omega) (Nat.le_of_ble_eq_true rfl) (Nat.le_of_ble_eq_true rfl) (fun G hG14 hF14 => ?_)
  first | replace hb0 := (hF14 _ (by omega)).trans hb0 | replace hb0 := hG14 | skip
  first | replace hb1 := (hF14 _ (by omega)).trans hb1 | replace hb1 := hG14 | skip
  first | replace hb2 := (hF14 _ (by omega)).trans hb2 | replace hb2 := hG14 | skip
  first | replace hb3 := (hF14 _ (by omega)).trans hb3 | replace hb3 := hG14 | skip
  first | replace hd0 := (hF14 _ (by omega)).trans hd0 | replace hd0 := hG14 | skip
  first | replace hd1 := (hF14 _ (by omega)).trans hd1 | replace hd1 := hG14 | skip
  first | replace hd2 := (hF14 _ (by omega)).trans hd2 | replace hd2 := hG14 | skip
  first | replace hd3 := (hF14 _ (by omega)).trans hd3 | replace hd3 := hG14 | skip
  refine v_aload_n C dX1_become_17 rfl ?_
  refine gf_X1_19 C dX1_become_18 (by assumption) ?_
  refine v_iconst (v := nI 0) C dX1_become_21 (by decide) ?_
  refine v_aload_n C dX1_become_22 rfl ?_
  refine gf_X1_19 C dX1_become_23 (by assumption) ?_
  refine v_iconst (v := nI 0) C dX1_become_26 (by decide) ?_
  refine v_aload_n C dX1_become_27 rfl ?_
  refine gf_X1_35 C dX1_become_28 (by assumption) ?_
  refine v_cpyJ C tw315 dX1_become_31 hd2 hb2 (by omega) (by omega) (by omega) (by omega) (Nat.le_of_ble_eq_true rfl) (Nat.le_of_ble_eq_true rfl) (fun G hG31 hF31 => ?_)
  first | replace hb0 := (hF31 _ (by omega)).trans hb0 | replace hb0 := hG31 | skip
  first | replace hb1 := (hF31 _ (by omega)).trans hb1 | replace hb1 := hG31 | skip
  first | replace hb2 := (hF31 _ (by omega)).trans hb2 | replace hb2 := hG31 | skip
  first | replace hb3 := (hF31 _ (by omega)).trans hb3 | replace hb3 := hG31 | skip
  first | replace hd0 := (hF31 _ (by omega)).trans hd0 | replace hd0 := hG31 | skip
  first | replace hd1 := (hF31 _ (by omega)).trans hd1 | replace hd1 := hG31 | skip
  first | replace hd2 := (hF31 _ (by omega)).trans hd2 | replace hd2 := hG31 | skip
  first | replace hd3 := (hF31 _ (by omega)).trans hd3 | replace hd3 := hG31 | skip
  refine v_aload_n C dX1_become_34 rfl ?_
  refine gf_X1_23 C dX1_become_35 (by assumption) ?_
  refine v_iconst (v := nI 0) C dX1_become_38 (by decide) ?_
  refine v_aload_n C dX1_become_39 rfl ?_
  refine gf_X1_23 C dX1_become_40 (by assumption) ?_
  refine v_iconst (v := nI 0) C dX1_become_43 (by decide) ?_
  refine v_aload_n C dX1_become_44 rfl ?_
  refine gf_X1_35 C dX1_become_45 (by assumption) ?_
  refine v_cpyJ C tw315 dX1_become_48 hd3 hb3 (by omega) (by omega) (by omega) (by omega) (Nat.le_of_ble_eq_true rfl) (Nat.le_of_ble_eq_true rfl) (fun G hG48 hF48 => ?_)
  first | replace hb0 := (hF48 _ (by omega)).trans hb0 | replace hb0 := hG48 | skip
  first | replace hb1 := (hF48 _ (by omega)).trans hb1 | replace hb1 := hG48 | skip
  first | replace hb2 := (hF48 _ (by omega)).trans hb2 | replace hb2 := hG48 | skip
  first | replace hb3 := (hF48 _ (by omega)).trans hb3 | replace hb3 := hG48 | skip
  first | replace hd0 := (hF48 _ (by omega)).trans hd0 | replace hd0 := hG48 | skip
  first | replace hd1 := (hF48 _ (by omega)).trans hd1 | replace hd1 := hG48 | skip
  first | replace hd2 := (hF48 _ (by omega)).trans hd2 | replace hd2 := hG48 | skip
  first | replace hd3 := (hF48 _ (by omega)).trans hd3 | replace hd3 := hG48 | skip
  refine v_aload_n C dX1_become_51 rfl ?_
  refine v_aload_n C dX1_become_52 rfl ?_
  refine gf_X1_35 C dX1_become_53 (by assumption) ?_
  refine pf_X1_35 C dX1_become_56 (by assumption) (fun G hG56 hF56 => ?_)
  first | replace hb0 := (hF56 _ (by omega)).trans hb0 | replace hb0 := hG56 | skip
  first | replace hb1 := (hF56 _ (by omega)).trans hb1 | replace hb1 := hG56 | skip
  first | replace hb2 := (hF56 _ (by omega)).trans hb2 | replace hb2 := hG56 | skip
  first | replace hb3 := (hF56 _ (by omega)).trans hb3 | replace hb3 := hG56 | skip
  first | replace hd0 := (hF56 _ (by omega)).trans hd0 | replace hd0 := hG56 | skip
  first | replace hd1 := (hF56 _ (by omega)).trans hd1 | replace hd1 := hG56 | skip
  first | replace hd2 := (hF56 _ (by omega)).trans hd2 | replace hd2 := hG56 | skip
  first | replace hd3 := (hF56 _ (by omega)).trans hd3 | replace hd3 := hG56 | skip
  have hks := (((hks.keep (fun j a b => hF14 j (by omega))).keep (fun j a b => hF31 j (by omega))).keep (fun j a b => hF48 j (by omega))).keep (fun j a b => hF56 j (by omega))
  have hks2 := (((hks2.keep (fun j a b => hF14 j (by omega))).keep (fun j a b => hF31 j (by omega))).keep (fun j a b => hF48 j (by omega))).keep (fun j a b => hF56 j (by omega))
  refine v_aload_n C dX1_become_59 rfl ?_
  refine gf_X1_31 C dX1_become_60 (by assumption) ?_
  refine v_aload_n C dX1_become_63 rfl ?_
  refine gf_X1_31 C dX1_become_64 (by assumption) ?_
  refine mc_X1_74 C dX1_become_67 (hks.rc) (c_KS_become _ E (by omega) (fun k hk => by obtain ⟨c, h1, h2⟩ := List.mem_map.mp hk; rw [← h2]; exact hkp2 c h1) hks hks2) rfl (fun r67 G67 hp67 => ?_)
  obtain ⟨hks, hfr67⟩ := hp67
  refine v_vret C dX1_become_70 ?_
  refine ⟨⟨_, _, _, (hfr67 _ (by omega)).trans hb0, (hfr67 _ (by omega)).trans hb1, (hfr67 _ (by omega)).trans hb2, (hfr67 _ (by omega)).trans hb3, hks, rep_cpy hrep2, ⟨hwf2, hkp2, hnd2⟩⟩, fun j hj => ?_⟩
  rw [hfr67 j (by omega), hF56 j (by omega), hF48 j (by omega), hF31 j (by omega), hF14 j (by omega)]

def cgt (c : Nat × Nat × Nat) (y x : Nat) : Bool := decide (y < c.2.1 ∨ (c.2.1 = y ∧ x < c.1))
set_option maxHeartbeats 4000000 in
set_option maxRecDepth 100000 in
theorem c_Ctr_isBehind (l : Launch) (E : Ev) (z : Option Nat) {G : Gh} {b lim n i x y : Nat} {a4 : Value} {fk : Nat → Int32} {fn : Nat → Int64} {c : Nat × Nat × Nat} (hc1 : fk i = nI c.1) (hc2 : fn i = lN c.2.1) (h31 : c.1 < 2 ^ 31) (h63 : c.2.1 < 2 ^ 62) (hx : x < 2 ^ 31) (hy : y < 2 ^ 62) (h1 : lim ≤ 64) (h2 : i < 2 * lim) (hb0 : G b = cO 1 [.int (nI lim), .ref (ga E (b + 1)), .ref (ga E (b + 2)), .ref (ga E (b + 3)), a4, .int (nI n)]) (hb1 : G (b + 1) = cI E (2 * lim) fk) (hb2 : G (b + 2) = cJ E (2 * lim) fn) : K_X1_isBehind l E z G [.ref (ga E b), .int (nI i), .long (lN y), .int (nI x)] (fun r G2 => r = cgt c y x ∧ G = G2) := by
  refine Fc.of rfl [some (.ref (ga E b)), some (.int (nI i)), some (.long (lN y)), none, some (.int (nI x))] 0 rfl (Nat.le_of_ble_eq_true rfl) ?_
  intro M hM0 hini C
  subst hM0
  refine v_aload_n C dX1_isBehind_0 rfl ?_
  refine gf_X1_19 C dX1_isBehind_1 (by assumption) ?_
  refine v_iload_n C dX1_isBehind_4 rfl ?_
  refine v_lald C dX1_isBehind_5 (by assumption) (by omega) (by omega) hc2 ?_
  refine v_lload_n C dX1_isBehind_6 rfl ?_
  refine v_lcmpn_gt C 33 dX1_isBehind_7 dX1_isBehind_8 (by decide) (by omega) (by omega) (fun h7 => ?_) (fun h7 => ?_)
  · skip
    refine v_iconst (v := bI true) C dX1_isBehind_33 (by decide) ?_
    refine v_goto C 38 dX1_isBehind_34 (by decide) ?_
    refine v_zret C dX1_isBehind_38 ?_
    refine ⟨?_, rfl⟩; unfold cgt; simp; omega
  · skip
    refine v_aload_n C dX1_isBehind_11 rfl ?_
    refine gf_X1_19 C dX1_isBehind_12 (by assumption) ?_
    refine v_iload_n C dX1_isBehind_15 rfl ?_
    refine v_lald C dX1_isBehind_16 (by assumption) (by omega) (by omega) hc2 ?_
    refine v_lload_n C dX1_isBehind_17 rfl ?_
    refine v_lcmpn_ne C 37 dX1_isBehind_18 dX1_isBehind_19 (by decide) (by omega) (by omega) (fun h18 => ?_) (fun h18 => ?_)
    · skip
      refine v_iconst (v := bI false) C dX1_isBehind_37 (by decide) ?_
      refine v_zret C dX1_isBehind_38 ?_
      refine ⟨?_, rfl⟩; unfold cgt; simp; omega
    · skip
      refine v_aload_n C dX1_isBehind_22 rfl ?_
      refine gf_X1_15 C dX1_isBehind_23 (by assumption) ?_
      refine v_iload_n C dX1_isBehind_26 rfl ?_
      refine v_iald C dX1_isBehind_27 (by assumption) (by omega) (by omega) hc1 ?_
      refine v_iload C dX1_isBehind_28 rfl ?_
      refine v_icmpn_le C 37 dX1_isBehind_30 (by decide) (by omega) (by omega) (fun h30 => ?_) (fun h30 => ?_)
      · skip
        refine v_iconst (v := bI false) C dX1_isBehind_37 (by decide) ?_
        refine v_zret C dX1_isBehind_38 ?_
        refine ⟨?_, rfl⟩; unfold cgt; simp; omega
      · skip
        refine v_iconst (v := bI true) C dX1_isBehind_33 (by decide) ?_
        refine v_goto C 38 dX1_isBehind_34 (by decide) ?_
        refine v_zret C dX1_isBehind_38 ?_
        refine ⟨?_, rfl⟩; unfold cgt; simp; omega

