/-! THE CLAIM OUT OF ONE WALK OF THE LAW'S BODY. Your part is whole_start (and what it stands on); all else here is the same for every law, but numbers. -/
def R_law : String := "FrequencySketchesLaw"
def lw_P (b : Addr) (xs : List Int32) (args : Array Value) (s : State) : Prop := args = #[.ref b] ∧ s.IntsAt b xs ∧ xs.length ≤ 2564 ∧ (Jvm.Cond.and given_1 narrow_1).before args s = true
def lw_Q (_ : Array Value) (s : State) (o : Outcome) (t : State) : Prop := o = .returned (some (.int 1)) ∧ Framed s o t [] 600000 7302249
def lw_Z (below : List Frame) (a : Array Value) (s : State) : State → Prop := fun t => ∃ o, t.status = .running ∧ Ended t below o ∧ lw_Q a s o t
/-- the law's own end, with 1 on the stack, nothing written that was there before, its room as the claim has it -/
theorem lw_ret {p : Program} {l : Launch} {e : Env} {s : State} {m : MethodId} {below : List Frame} {meth : Method} {c : Code} {b : Nat} (hx : p.tables.exec = Jvm.exec) (hb : c.code = code) (hr : meth.sig.returnType = ret) (hlocks : meth.locks = false) {pc : Nat} {H : Heap} {ls : Array Slot} (hdg : decode code pc = .ok (.ireturn, 1)) : W p l e room_1 s m #[Value.ref b] below meth c H [] 600000 7302249 (lw_Z below #[Value.ref b] s) (F0 m pc ls [.int 1]) := by
  intro T hT X
  obtain ⟨fs, hret, hrun, hended, hW, hframe⟩ := X.leave (v := some (.int 1)) (hlocks := hlocks) (fun h => by rw [hr] at h; cases h)
  have hmeth' : T.vm.method? m = some meth := X.method'
  refine ⟨T.setFrames fs, ?_, .returned (some (.int 1)), hrun, hended, rfl, ⟨_, rfl⟩, hW, hframe⟩
  jvm_step X.here [X.here.top, hx, hb, hdg, hmeth', hr, ret, narrow_b1]
  (try refine ⟨rfl, ?_⟩); (try refine ⟨rfl, ?_⟩)
  first | (intro acts; rw [hret _ acts rfl rfl rfl]) | rw [hret _ _ rfl rfl rfl]
  exact Steps.refl _
/-- what holds at the law's entry: the machine, the code, the tables' words (any of lw_tbl by 'hts w (by decide +kernel)'), the script of L ints xs at the cell b, what the Statement gives of the start (any of its parts by flat_of_before) -/
def lw_At (p : Program) (s : State) (m : MethodId) (meth : Method) (c : Code) (b L : Nat) (xs : Nat → Int32) : Prop :=
  p.tables.exec = Jvm.exec ∧ c.code = code ∧ meth.sig.returnType = ret ∧ c.maxLocals = 4 ∧ s.vm.findClass R_law = some m.cls ∧ (∀ w ∈ lw_tbl, w.before #[Value.ref b] s = true) ∧ va_X b L xs s s.heap ∧ b < s.heap.size ∧ meth.locks = false ∧ (Jvm.Cond.and given_1 narrow_1).before #[Value.ref b] s = true

def FcX (l : Launch) (y : MethodName) (cc : ByteArray) (nL : Nat) (ret : Option FieldType) (FR LO : Nat) (E : Ev) (z : Option Nat) (G : Gh) (av : List Value) (X : State → Prop) (post : Int32 → Gh → Prop) : Prop :=
  Met l y [.code y cc nL ret] { frames := FR, cells := 0, slots := 0, locals := LO } (va_Pc av (fun U => (gS E G U.heap ∧ zH z U.heap ∧ KB E U ∧ E.2.2 ≤ U.heap.size) ∧ X U)) (Qe E (fun r : Int32 => some (.int r)) z post) 0 0 (eA E)
theorem FcX.of {l : Launch} {y : MethodName} {cc : ByteArray} {nL : Nat} {ret : Option FieldType} {FR LO : Nat} {E : Ev} {z : Option Nat} {G : Gh} {av : List Value} {X : State → Prop} {post : Int32 → Gh → Prop} (hy : plainName y.cls = true) (lo : List (Option Value)) (k : Nat) (hlo : lo_a av ++ List.replicate k none = lo) (hn : (lg_sl av).length ≤ nL)
    (body : ∀ M : Mx, M.2.1 = l → Cx M E y.cls cc nL ret FR LO 0 0 → X M.2.2.2.2.1 → V M E nL (QE M E (fun r : Int32 => some (.int r)) z 0 0 post) z 0 0 G 0 lo []) : FcX l y cc nL ret FR LO E z G av X post := by
  refine Met.ofW (cc := cc) (maxL := nL) (ret := ret) hy rfl ?_
  intro p e s m args below meth c s₁ B hml hv
  obtain ⟨rfl, ⟨hP, hz, hK, hE⟩, hX⟩ := hv
  have hl := lv_entry av (n := nL) hn
  rw [lg_entry_eq]
  generalize (lg_sl av ++ List.replicate (nL - (lg_sl av).length) Slot.unset).toArray = ls at hl ⊢
  have hl2 : lo_has ls nL lo := ⟨hl.1, hl.2.1, fun q hq => hl.2.2 q (lo_a_mem (by
    obtain ⟨i, v⟩ := q
    obtain ⟨h1, h2⟩ := lo_mem.mp hq
    refine lo_mem.mpr ⟨h1, ?_⟩
    rw [← hlo] at h2
    rw [List.getElem?_append] at h2
    split at h2
    · exact h2
    · rw [List.getElem?_replicate] at h2
      split at h2 <;> cases h2))⟩
  exact body (p, l, e, (headSpec [Cond.code y cc nL ret] { frames := FR, cells := 0, slots := 0, locals := LO }).room, s, m, av.toArray, below, meth, c) rfl ⟨B.exec, B.bytes, hml, findClass_of_methodNamed B.named, hK, B.returns, B.notSynchronized, rfl, hE⟩ hX s.heap [] ls hP hz va_S.rf hl2
section VR6
variable {M : Mx} {E : Ev} {own : String} {cc : ByteArray} {nL : Nat} {ret : Option FieldType} {FR LO MC MS : Nat} {Q : State → Prop} {z : Option Nat} {cells slots : Nat} {G : Gh} {pc : Nat} {lo : List (Option Value)} {st : List Value} {b L : Nat} {xs : Nat → Int32}
/-- the script, as the law's start has it -/
def scX (M : Mx) (E : Ev) (b L : Nat) (xs : Nat → Int32) : Prop := va_X b L xs M.2.2.2.2.1 M.2.2.2.2.1.heap ∧ b < M.2.2.2.2.1.heap.size ∧ b < E.2.2 ∧ L < 2 ^ 26
theorem scX.no {M : Mx} {E : Ev} {b L : Nat} {xs : Nat → Int32} (h : scX M E b L xs) : ¬ eA E b := by unfold eA; have := h.2.2.1; omega
theorem v_sld (C : Cx M E own cc nL ret FR LO MC MS) (X : scX M E b L xs) {k : Nat} (hk : k < L) (hd : decode cc pc = .ok (.iaload, 1)) (kk : V M E nL Q z cells slots G (pc + 1) lo (.int (xs k) :: st)) : V M E nL Q z cells slots G pc lo (.int (nI k) :: .ref b :: st) := fun H locs ls h1 h2 h3 h4 =>
  va_sld C.1 C.2.1 X.1 X.2.1 X.no h3 (vp_in_nI hk (by have := X.2.2.2; omega)) hd (by rw [nI_clamp (by have := X.2.2.2; omega)]; exact kk H locs ls h1 h2 h3 h4)
theorem v_slen (C : Cx M E own cc nL ret FR LO MC MS) (X : scX M E b L xs) (hd : decode cc pc = .ok (.arraylength, 1)) (kk : V M E nL Q z cells slots G (pc + 1) lo (.int (nI L) :: st)) : V M E nL Q z cells slots G pc lo (.ref b :: st) := fun H locs ls h1 h2 h3 h4 =>
  va_slen C.1 C.2.1 X.1 X.2.1 X.no h3 hd (kk H locs ls h1 h2 h3 h4)
theorem v_zn (kk : V M E nL Q none cells slots G pc lo st) : V M E nL Q z cells slots G pc lo st := fun H locs ls h1 _ h3 h4 => kk H locs ls h1 zH.no h3 h4
end VR6

set_option maxHeartbeats 4000000 in
set_option maxRecDepth 100000 in
theorem c_L_cell (la : Launch) (E : Ev) (z : Option Nat) {G : Gh} {b L k : Nat} {xs : Nat → Int32} (hk : k < 2 ^ 26) (hbE : b < E.2.2) (hL : L < 2 ^ 26) : FcX la yL_cell cL_cell 2 (some .int) 0 0 E z G [.ref b, .int (nI k)] (fun U => va_X b L xs U U.heap) (fun r G2 => r = (if k < L then xs k else 0) ∧ G = G2) := by
  refine FcX.of rfl [some (.ref b), some (.int (nI k))] 0 rfl (Nat.le_of_ble_eq_true rfl) ?_
  intro M hM0 C hX
  subst hM0
  have X : scX M E b L xs := ⟨hX, by obtain ⟨scr, h1, -⟩ := hX; exact (Array.getElem?_eq_some_iff.mp h1).1, hbE, hL⟩
  have hL9 := X.2.2.2
  refine v_iload_n C dL_cell_0 rfl ?_
  refine v_aload_n C dL_cell_1 rfl ?_
  refine v_slen C X dL_cell_2 ?_
  refine v_icmpn_ge C 12 dL_cell_3 (by decide) (by omega) (by omega) (fun h3 => ?_) (fun h3 => ?_)
  · skip
    refine v_iconst (v := nI 0) C dL_cell_12 (by decide) ?_
    refine v_iret C dL_cell_13 ?_
    refine ⟨?_, rfl⟩
    first
      | rw [if_pos (by omega)]
      | (rw [if_neg (by omega)]; rfl)
  · skip
    refine v_aload_n C dL_cell_6 rfl ?_
    refine v_iload_n C dL_cell_7 rfl ?_
    refine v_sld C X (by omega) dL_cell_8 ?_
    refine v_goto C 13 dL_cell_9 (by decide) ?_
    refine v_iret C dL_cell_13 ?_
    refine ⟨?_, rfl⟩
    first
      | rw [if_pos (by omega)]
      | (rw [if_neg (by omega)]; rfl)
theorem v_cell {M : Mx} {E : Ev} {cc : ByteArray} {nL : Nat} {ret : Option FieldType} {FR LO MC MS : Nat} {Q : State → Prop} {z : Option Nat} {cells slots : Nat} {G : Gh} {pc : Nat} {lo : List (Option Value)} {st : List Value} {b L : Nat} {xs : Nat → Int32} (C : Cx M E RL cc nL ret FR LO MC MS) (X : scX M E b L xs) {k : Nat} (hk : k < 2 ^ 26) (hd : decode cc pc = .ok (.invokestatic 9, 3)) (hr : okr 1 FR 21 LO ((st.map fun v => v.category).sum) cells MC slots MS = true) (kk : V M E nL Q z cells slots G (pc + 3) lo (.int (if k < L then xs k else 0) :: st)) : V M E nL Q z cells slots G pc lo (.int (nI k) :: .ref b :: st) := by
  intro H locs ls hg hz hs hl
  refine v_ran (post := fun r G2 => r = (if k < L then xs k else 0) ∧ G = G2) (rv := fun r : Int32 => some (.int r)) (z' := z) (MC' := 0) (MS' := 0) hs hl (va_runS (As := [.ref b, .int (nI k)]) (rest := st) (n := 2) (Ts := lw_tb2) ⟨C.1, C.2.1, C.2.2.1, C.2.2.2.1, fun w hw => C.2.2.2.2.1.1.use hw⟩ (c_L_cell M.2.1 E z (G := G) (xs := xs) hk X.2.2.1 X.2.2.2) ⟨v_callB C tw515 tw516 tw517 ⟨by decide +kernel, by decide +kernel, (show (parseMethodDescriptor yL_cell.desc).map (fun d => d.parameters.length) = some 2 by decide +kernel)⟩ (okr_1 hr).1 (okr_1 hr).2.1, C.2.2.2.2.1.1.use tw518⟩ ⟨?_, fun U hU hW => ?_⟩ rfl rfl hl.1 rfl (lv_room (okr_1 hr).2.2.1) hd (by rw [C.2.2.2.2.2.2.2.1]; exact (okr_1 hr).2.2.2)) ?_
  · intro a U g mk h
    obtain ⟨h1, ⟨h2, h3, h4, h5⟩, h6⟩ := h
    exact ⟨h1, ⟨h2, h3, KB.same (s := U) (U := U.calling g mk a) rfl h4, h5⟩, h6⟩
  · refine ⟨rfl, ⟨by rw [hU]; exact hg, by rw [hU]; exact hz, C.2.2.2.2.1.moved hW, by rw [hU]; exact Nat.le_trans C.2.2.2.2.2.2.2.2 hs.1⟩, ?_⟩
    obtain ⟨scr, h1, h2, h3⟩ := X.1
    exact ⟨scr, by rw [hU, hs.2.1 b X.2.1 X.no]; exact h1, State.isArrayOf_alike hW.alike h2, h3⟩
  · intro r G' hp
    obtain ⟨rfl, rfl⟩ := hp
    exact kk
theorem v_lawend {p : Program} {l : Launch} {e : Env} {s : State} {m : MethodId} {below : List Frame} {meth : Method} {c : Code} {b : Nat} {E : Ev} (hx : p.tables.exec = Jvm.exec) (hb : c.code = code) (hr : meth.sig.returnType = ret) (hlocks : meth.locks = false) (hE : E.2.2 = s.heap.size) {z : Option Nat} {cells slots : Nat} {G : Gh} {pc : Nat} {lo : List (Option Value)} (hc : cells ≤ 600000) (hs : slots ≤ 7302249) (hd : decode code pc = .ok (.ireturn, 1)) : V (p, l, e, room_1, s, m, #[Value.ref b], below, meth, c) E 4 (lw_Z below #[Value.ref b] s) z cells slots G pc lo [.int 1] := by
  intro H locs ls h1 h2 h3 h4
  refine va_forget (fun q hq => ?_) (fun T hT X => lw_ret hx hb hr hlocks hd T hT (st_wk X hc hs))
  have := h3.2.2 q hq
  unfold eA at this
  rw [hE] at this
  exact this

