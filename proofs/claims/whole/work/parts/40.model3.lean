def moM1 (fms fmk : Nat → Int32) (ftk fmn : Nat → Int64) (lim P s : Nat) (l : Ctr) (tk : Nat) : Prop := fms s = nI l.length ∧ ftk s = lN tk ∧ (∀ (i : Nat) (c : Nat × Nat × Nat), l[i]? = some c → fmk (64 * s + i) = nI c.1 ∧ fmn (64 * s + i) = lN c.2.1) ∧ l.length ≤ lim ∧ (∀ c ∈ l, c.1 < P) ∧ (ckeys l).Nodup
def moM (E : Ev) (G : Gh) (lim P : Nat) (Ms : Nat → Ctr) (T : Nat → Nat) : Prop := ∃ (fms fmk : Nat → Int32) (ftk fmn : Nat → Int64), G 110 = cI E 4 fms ∧ G 111 = cJ E 4 ftk ∧ G 112 = cI E 256 fmk ∧ G 113 = cJ E 256 fmn ∧ ∀ s, s < 4 → moM1 fms fmk ftk fmn lim P s (Ms s) (T s)
theorem moM.keep {E : Ev} {G G2 : Gh} {lim P : Nat} {Ms : Nat → Ctr} {T : Nat → Nat} (h : moM E G lim P Ms T) (hf : ∀ j, 110 ≤ j → j < 114 → G2 j = G j) : moM E G2 lim P Ms T := by
  obtain ⟨a, b, c, d, h0, h1, h2, h3, h4⟩ := h
  exact ⟨a, b, c, d, (hf _ (by omega) (by omega)).trans h0, (hf _ (by omega) (by omega)).trans h1, (hf _ (by omega) (by omega)).trans h2, (hf _ (by omega) (by omega)).trans h3, h4⟩
theorem mSub_take {l : Ctr} {i n : Nat} {c : Nat × Nat × Nat} (h : l[i]? = some c) : mSub (l.take (i + 1)) n = if n < c.2.1 then mSub (l.take i) n ++ [(c.1, c.2.1 - n, c.2.2)] else mSub (l.take i) n := by
  unfold mSub
  rw [List.take_add_one, h, List.filter_append, List.map_append]
  by_cases hn : n < c.2.1
  · rw [if_pos hn]; simp [hn]
  · rw [if_neg hn]; simp [hn]
def tkI (l : Ctr) (n i s : Nat) (gk fk : Nat → Int32) (gn fn : Nat → Int64) : Prop := (∀ (j : Nat) (c : Nat × Nat × Nat), (mSub (l.take i) n)[j]? = some c → fk (64 * s + j) = nI c.1 ∧ fn (64 * s + j) = lN c.2.1) ∧ (∀ (j : Nat) (c : Nat × Nat × Nat), i ≤ j → l[j]? = some c → fk (64 * s + j) = nI c.1 ∧ fn (64 * s + j) = lN c.2.1) ∧ ∀ q, (q < 64 * s ∨ 64 * s + 64 ≤ q) → fk q = gk q ∧ fn q = gn q
theorem tkI_no {l : Ctr} {n i s : Nat} {gk fk : Nat → Int32} {gn fn : Nat → Int64} {c : Nat × Nat × Nat} (h : tkI l n i s gk fk gn fn) (hc : l[i]? = some c) (hn : c.2.1 ≤ n) : tkI l n (i + 1) s gk fk gn fn := by
  obtain ⟨h1, h2, h3⟩ := h
  refine ⟨fun j d hj => ?_, fun j d hj hd => h2 j d (by omega) hd, h3⟩
  rw [mSub_take hc, if_neg (by omega)] at hj
  exact h1 j d hj
theorem tkI_yes {l : Ctr} {n i s : Nat} {gk fk : Nat → Int32} {gn fn : Nat → Int64} {c : Nat × Nat × Nat} (h : tkI l n i s gk fk gn fn) (hc : l[i]? = some c) (hn : n < c.2.1) (hl : l.length ≤ 64) : tkI l n (i + 1) s gk (fu fk (64 * s + (mSub (l.take i) n).length) (nI c.1)) gn (fu fn (64 * s + (mSub (l.take i) n).length) (lN (c.2.1 - n))) := by
  obtain ⟨h1, h2, h3⟩ := h
  have hil := (List.getElem?_eq_some_iff.mp hc).1
  have hm := mSub_len (l.take i) n
  rw [List.length_take] at hm
  refine ⟨fun j d hj => ?_, fun j d hj hd => ?_, fun q hq => ?_⟩
  · rw [mSub_take hc, if_pos hn] at hj
    by_cases e9 : j = (mSub (l.take i) n).length
    · subst e9
      rw [List.getElem?_append_right (Nat.le_refl _), Nat.sub_self] at hj
      cases hj
      rw [fu_self, fu_self]
      exact ⟨rfl, rfl⟩
    · have hjl := (List.getElem?_eq_some_iff.mp hj).1
      rw [List.length_append, List.length_singleton] at hjl
      rw [List.getElem?_append_left (by omega)] at hj
      rw [fu_ne _ _ (by omega), fu_ne _ _ (by omega)]
      exact h1 j d hj
  · rw [fu_ne _ _ (by omega), fu_ne _ _ (by omega)]
    exact h2 j d (by omega) hd
  · rw [fu_ne _ _ (by omega), fu_ne _ _ (by omega)]
    exact h3 q hq

set_option maxHeartbeats 4000000 in
set_option maxRecDepth 100000 in
theorem takes_loop {M : Mx} {E : Ev} {z : Option Nat} (C : Cx M E yX12_takes.cls cX12_takes 6 none 0 0 0 0) {post : Unit → Gh → Prop} {G0 : Gh} {P W R lim rp po s n : Nat} {l0 : Ctr} {fa fb fms gk : Nat → Int32} {ftk gn : Nat → Int64} (hs : s < 4) (hn62 : n < 2 ^ 62) (hll : l0.length ≤ 64) (hn0 : ∀ c ∈ l0, c.2.1 < 2 ^ 62) (hfs : fms s = nI l0.length)
    (kend : ∀ (G : Gh) (fk : Nat → Int32) (fn : Nat → Int64), G 104 = moO E P W R lim rp po → G 105 = cI E 8 fa → G 106 = cI E 8 fb → G 110 = cI E 4 fms → G 111 = cJ E 4 ftk → G 112 = cI E 256 fk → G 113 = cJ E 256 fn → (∀ (j : Nat) (c : Nat × Nat × Nat), (mSub l0 n)[j]? = some c → fk (64 * s + j) = nI c.1 ∧ fn (64 * s + j) = lN c.2.1) → (∀ q, (q < 64 * s ∨ 64 * s + 64 ≤ q) → fk q = gk q ∧ fn q = gn q) → (∀ j, j ≠ 112 ∧ j ≠ 113 → G j = G0 j) → V M E 6 (QE M E (fun _ : Unit => none) z 0 0 post) z 0 0 G 86 [some (.ref (ga E 104)), some (.int (nI s)), some (.long (lN n)), none, some (.int (nI (mSub l0 n).length)), some (.int (nI (64 * s + l0.length)))] []) :
    ∀ (t i : Nat), i ≤ l0.length → l0.length - i < t → ∀ (G : Gh) (fk : Nat → Int32) (fn : Nat → Int64), G 104 = moO E P W R lim rp po → G 105 = cI E 8 fa → G 106 = cI E 8 fb → G 110 = cI E 4 fms → G 111 = cJ E 4 ftk → G 112 = cI E 256 fk → G 113 = cJ E 256 fn → tkI l0 n i s gk fk gn fn → (∀ j, j ≠ 112 ∧ j ≠ 113 → G j = G0 j) → V M E 6 (QE M E (fun _ : Unit => none) z 0 0 post) z 0 0 G 9 [some (.ref (ga E 104)), some (.int (nI s)), some (.long (lN n)), none, some (.int (nI (mSub (l0.take i) n).length)), some (.int (nI (64 * s + i)))] [] := by
  intro t
  induction t with
  | zero => intro i _ h; omega
  | succ t ih =>
    intro i hi ht G fk fn ho h5 h6 ha hb hc hd hI hfr
    refine v_iload C dX12_takes_9 rfl ?_
    refine v_bipush (v := nI 64) C dX12_takes_11 (by decide) ?_
    refine v_iload_n C dX12_takes_13 rfl ?_
    first | refine v_imuln C dX12_takes_14 ?_ | refine v_imul C dX12_takes_14 ?_
    refine v_aload_n C dX12_takes_15 rfl ?_
    refine gf_X12_26 C dX12_takes_16 (by assumption) ?_
    refine v_iload_n C dX12_takes_19 rfl ?_
    refine v_iald C dX12_takes_20 (by assumption) (by omega) (by omega) hfs ?_
    first | refine v_iaddn C dX12_takes_21 ?_ | refine v_iadd C dX12_takes_21 ?_
    refine v_icmpn_ge C 86 dX12_takes_22 (by decide) (by omega) (by omega) (fun h22 => ?_) (fun h22 => ?_)
    · skip
      have e9 : i = l0.length := by omega
      subst e9
      rw [List.take_length]
      unfold tkI at hI
      rw [List.take_length] at hI
      exact kend G fk fn ho h5 h6 ha hb hc hd hI.1 hI.2.2 hfr
    · skip
      have hci : l0[i]? = some l0[i] := List.getElem?_eq_getElem (by omega)
      have hri := hI.2.1 i _ (Nat.le_refl _) hci
      have hni := hn0 _ (List.mem_of_getElem? hci)
      have hml := mSub_len (l0.take i) n
      rw [List.length_take] at hml
      refine v_aload_n C dX12_takes_25 rfl ?_
      refine gf_X12_35 C dX12_takes_26 (by assumption) ?_
      refine v_iload C dX12_takes_29 rfl ?_
      refine v_lald C dX12_takes_31 (by assumption) (by omega) (by omega) hri.2 ?_
      refine v_lload_n C dX12_takes_32 rfl ?_
      refine v_lcmpn_le C 80 dX12_takes_33 dX12_takes_34 (by decide) (by omega) (by omega) (fun h33 => ?_) (fun h33 => ?_)
      · skip
        first | refine v_iinc_5 C dX12_takes_80 (nI_1 _) (by decide) (by first | rfl | assumption) ?_ | refine v_iinc_5 C dX12_takes_80 rfl (by decide) (by first | rfl | assumption) ?_
        refine v_goto C 9 dX12_takes_83 (by decide) ?_
        first
          | (have e9 := mSub_take (n := n) hci
             rw [if_neg (show ¬ n < l0[i].2.1 by omega)] at e9
             have key := ih (i + 1) (by omega) (by omega) G _ _ ho h5 h6 ha hb hc hd (tkI_no hI hci h33) hfr
             rw [e9] at key
             exact key)
          | (have e9 := mSub_take (n := n) hci
             rw [if_pos (show n < l0[i].2.1 by omega)] at e9
             have key := ih (i + 1) (by omega) (by omega) G _ _ ho h5 h6 ha hb hc hd (tkI_yes hI hci (by omega) hll) (fun j hj => by rw [hF76 j (by omega), hF55 j (by omega)]; exact hfr j hj)
             rw [e9, List.length_append, List.length_singleton] at key
             exact key)
      · skip
        refine v_aload_n C dX12_takes_37 rfl ?_
        refine gf_X12_32 C dX12_takes_38 (by assumption) ?_
        refine v_bipush (v := nI 64) C dX12_takes_41 (by decide) ?_
        refine v_iload_n C dX12_takes_43 rfl ?_
        first | refine v_imuln C dX12_takes_44 ?_ | refine v_imul C dX12_takes_44 ?_
        refine v_iload C dX12_takes_45 rfl ?_
        first | refine v_iaddn C dX12_takes_47 ?_ | refine v_iadd C dX12_takes_47 ?_
        refine v_aload_n C dX12_takes_48 rfl ?_
        refine gf_X12_32 C dX12_takes_49 (by assumption) ?_
        refine v_iload C dX12_takes_52 rfl ?_
        refine v_iald C dX12_takes_54 (by assumption) (by omega) (by omega) hri.1 ?_
        refine v_iast C dX12_takes_55 (by assumption) (by omega) (by omega) (fun G hG55 hF55 => ?_)
        first | replace ho := (hF55 _ (by omega)).trans ho | replace ho := hG55 | skip
        first | replace h5 := (hF55 _ (by omega)).trans h5 | replace h5 := hG55 | skip
        first | replace h6 := (hF55 _ (by omega)).trans h6 | replace h6 := hG55 | skip
        first | replace ha := (hF55 _ (by omega)).trans ha | replace ha := hG55 | skip
        first | replace hb := (hF55 _ (by omega)).trans hb | replace hb := hG55 | skip
        first | replace hc := (hF55 _ (by omega)).trans hc | replace hc := hG55 | skip
        first | replace hd := (hF55 _ (by omega)).trans hd | replace hd := hG55 | skip
        refine v_aload_n C dX12_takes_56 rfl ?_
        refine gf_X12_35 C dX12_takes_57 (by assumption) ?_
        
        refine v_bipush (v := nI 64) C dX12_takes_60 (by decide) ?_
        refine v_iload_n C dX12_takes_62 rfl ?_
        first | refine v_imuln C dX12_takes_63 ?_ | refine v_imul C dX12_takes_63 ?_
        refine v_iload C dX12_takes_64 rfl ?_
        first | refine v_iaddn C dX12_takes_66 ?_ | refine v_iadd C dX12_takes_66 ?_
        refine v_aload_n C dX12_takes_67 rfl ?_
        refine gf_X12_35 C dX12_takes_68 (by assumption) ?_
        
        refine v_iload C dX12_takes_71 rfl ?_
        refine v_lald C dX12_takes_73 (by assumption) (by omega) (by omega) hri.2 ?_
        refine v_lload_n C dX12_takes_74 rfl ?_
        first | refine v_lsubn C dX12_takes_75 (by omega) ?_ | refine v_lsub C dX12_takes_75 ?_
        refine v_last C dX12_takes_76 (by assumption) (by omega) (by omega) (fun G hG76 hF76 => ?_)
        first | replace ho := (hF76 _ (by omega)).trans ho | replace ho := hG76 | skip
        first | replace h5 := (hF76 _ (by omega)).trans h5 | replace h5 := hG76 | skip
        first | replace h6 := (hF76 _ (by omega)).trans h6 | replace h6 := hG76 | skip
        first | replace ha := (hF76 _ (by omega)).trans ha | replace ha := hG76 | skip
        first | replace hb := (hF76 _ (by omega)).trans hb | replace hb := hG76 | skip
        first | replace hc := (hF76 _ (by omega)).trans hc | replace hc := hG76 | skip
        first | replace hd := (hF76 _ (by omega)).trans hd | replace hd := hG76 | skip
        first | refine v_iinc_4 C dX12_takes_77 (nI_1 _) (by decide) (by first | rfl | assumption) ?_ | refine v_iinc_4 C dX12_takes_77 rfl (by decide) (by first | rfl | assumption) ?_
        first | refine v_iinc_5 C dX12_takes_80 (nI_1 _) (by decide) (by first | rfl | assumption) ?_ | refine v_iinc_5 C dX12_takes_80 rfl (by decide) (by first | rfl | assumption) ?_
        refine v_goto C 9 dX12_takes_83 (by decide) ?_
        first
          | (have e9 := mSub_take (n := n) hci
             rw [if_neg (show ¬ n < l0[i].2.1 by omega)] at e9
             have key := ih (i + 1) (by omega) (by omega) G _ _ ho h5 h6 ha hb hc hd (tkI_no hI hci h33) hfr
             rw [e9] at key
             exact key)
          | (have e9 := mSub_take (n := n) hci
             rw [if_pos (show n < l0[i].2.1 by omega)] at e9
             have key := ih (i + 1) (by omega) (by omega) G _ _ ho h5 h6 ha hb hc hd (tkI_yes hI hci (by omega) hll) (fun j hj => by rw [hF76 j (by omega), hF55 j (by omega)]; exact hfr j hj)
             rw [e9, List.length_append, List.length_singleton] at key
             exact key)
set_option maxHeartbeats 4000000 in
set_option maxRecDepth 100000 in
theorem c_Mo_takes (l : Launch) (E : Ev) (z : Option Nat) {G : Gh} {P W R lim rp po : Nat} {A B : Nat → Nat} {Ms : Nat → Ctr} {T : Nat → Nat} {s n : Nat} (hs : s < 4) (hn62 : n < 2 ^ 62) (hn0 : ∀ c ∈ Ms s, c.2.1 < 2 ^ 62) (hm : isMo E G P W R lim rp po A B) (hM : moM E G lim P Ms T) : K_X12_takes l E z G [.ref (ga E 104), .int (nI s), .long (lN n)] (fun _ G2 => moM E G2 lim P (fu Ms s (mSub (Ms s) n)) (fu T s (T s + n)) ∧ ∀ j, (j < 110 ∨ 114 ≤ j) → G2 j = G j) := by
  refine Fc.of rfl [some (.ref (ga E 104)), some (.int (nI s)), some (.long (lN n)), none, none, none] 2 rfl (Nat.le_of_ble_eq_true rfl) ?_
  intro M hM0 hini C
  subst hM0
  obtain ⟨fa, fb, ho, h5, h6, hfa, hfb, hrg, hlim, hab⟩ := id hm
  obtain ⟨fms, fmk, ftk, fmn, ha, hb, hc, hd, hall⟩ := id hM
  obtain ⟨hfs, hft, hfe, hfl, hfk, hfn⟩ := id (hall s hs)
  refine v_iconst (v := nI 0) C dX12_takes_0 (by decide) ?_
  refine v_istore_4 C dX12_takes_1 (by decide) (by first | rfl | assumption) ?_
  refine v_bipush (v := nI 64) C dX12_takes_3 (by decide) ?_
  refine v_iload_n C dX12_takes_5 rfl ?_
  first | refine v_imuln C dX12_takes_6 ?_ | refine v_imul C dX12_takes_6 ?_
  refine v_istore_5 C dX12_takes_7 (by decide) (by first | rfl | assumption) ?_
  refine takes_loop C hs hn62 (by omega) hn0 hfs ?_ ((Ms s).length + 1) 0 (by omega) (by omega) G fmk fmn ho h5 h6 ha hb hc hd ⟨fun j c hj => by simp [mSub] at hj, fun j c _ hj => hfe j c hj, fun _ _ => ⟨rfl, rfl⟩⟩ (fun _ _ => rfl)
  clear ho h5 h6 ha hb hc hd
  intro G fk fn ho h5 h6 ha hb hc hd hnew hoth hfr
  refine v_aload_n C dX12_takes_86 rfl ?_
  refine gf_X12_26 C dX12_takes_87 (by assumption) ?_
  refine v_iload_n C dX12_takes_90 rfl ?_
  refine v_iload C dX12_takes_91 rfl ?_
  refine v_iast C dX12_takes_93 (by assumption) (by omega) (by omega) (fun G hG93 hF93 => ?_)
  first | replace ho := (hF93 _ (by omega)).trans ho | replace ho := hG93 | skip
  first | replace h5 := (hF93 _ (by omega)).trans h5 | replace h5 := hG93 | skip
  first | replace h6 := (hF93 _ (by omega)).trans h6 | replace h6 := hG93 | skip
  first | replace ha := (hF93 _ (by omega)).trans ha | replace ha := hG93 | skip
  first | replace hb := (hF93 _ (by omega)).trans hb | replace hb := hG93 | skip
  first | replace hc := (hF93 _ (by omega)).trans hc | replace hc := hG93 | skip
  first | replace hd := (hF93 _ (by omega)).trans hd | replace hd := hG93 | skip
  refine v_aload_n C dX12_takes_94 rfl ?_
  refine gf_X12_29 C dX12_takes_95 (by assumption) ?_
  refine v_iload_n C dX12_takes_98 rfl ?_
  refine v_dup2 C dX12_takes_99 rfl rfl ?_
  refine v_lald C dX12_takes_100 (by assumption) (by omega) (by omega) hft ?_
  refine v_lload_n C dX12_takes_101 rfl ?_
  first | refine v_laddn C dX12_takes_102 ?_ | refine v_ladd C dX12_takes_102 ?_
  refine v_last C dX12_takes_103 (by assumption) (by omega) (by omega) (fun G hG103 hF103 => ?_)
  first | replace ho := (hF103 _ (by omega)).trans ho | replace ho := hG103 | skip
  first | replace h5 := (hF103 _ (by omega)).trans h5 | replace h5 := hG103 | skip
  first | replace h6 := (hF103 _ (by omega)).trans h6 | replace h6 := hG103 | skip
  first | replace ha := (hF103 _ (by omega)).trans ha | replace ha := hG103 | skip
  first | replace hb := (hF103 _ (by omega)).trans hb | replace hb := hG103 | skip
  first | replace hc := (hF103 _ (by omega)).trans hc | replace hc := hG103 | skip
  first | replace hd := (hF103 _ (by omega)).trans hd | replace hd := hG103 | skip
  refine v_vret C dX12_takes_104 ?_
  refine ⟨⟨_, fk, _, fn, ha, hb, hc, hd, fun q hq => ?_⟩, fun j hj => by rw [hF103 j (by omega), hF93 j (by omega)]; exact hfr j (by omega)⟩
  by_cases e9 : q = s
  · subst e9
    rw [fu_self, fu_self]
    refine ⟨fu_self _ _ _, fu_self _ _ _, hnew, Nat.le_trans (mSub_len _ _) hfl, fun c hcm => ?_, ?_⟩
    · obtain ⟨d, hd1, hd2, -⟩ := mSub_key hcm
      rw [← hd2]; exact hfk d hd1
    · refine List.Nodup.sublist ?_ hfn
      unfold ckeys mSub
      rw [List.map_map]
      exact (List.filter_sublist (l := Ms q)).map _
  · rw [fu_ne _ _ e9, fu_ne _ _ e9]
    obtain ⟨g1, g2, g3, g4, g5, g6⟩ := hall q hq
    refine ⟨by rw [fu_ne _ _ e9]; exact g1, by rw [fu_ne _ _ e9]; exact g2, fun i c hic => ?_, g4, g5, g6⟩
    have hil := (List.getElem?_eq_some_iff.mp hic).1
    have hold := hoth (64 * q + i) (by omega)
    rw [hold.1, hold.2]
    exact g3 i c hic

