section
-- ===== PART A: goes FIRST, ahead of the names: the tables' words, and 'selects' of the private methods out of them =====
/-- a private method of a class that the tables say can be made, by its rows of tables_1 -/
def lw_okq (q : MethodName × Nat) : Prop := (q.1.cls ≠ "java/lang/invoke/MethodHandle" ∧ q.1.cls ≠ "java/lang/invoke/VarHandle") ∧ Cond.instantiable q.1.cls q.2 ∈ tables_1 ∧ Cond.privateMethod q.1 ∈ tables_1 ∧ Cond.instanceMethod q.1 ∈ tables_1
theorem lw_p0 : lw_okq (⟨"FrequencySketches", "allStreamsEmpty", "()Z"⟩, 4) := ⟨⟨by decide +kernel, by decide +kernel⟩, List.mem_of_getElem? (i := 17) (by decide +kernel), List.mem_of_getElem? (i := 291) (by decide +kernel), List.mem_of_getElem? (i := 292) (by decide +kernel)⟩
theorem lw_p1 : lw_okq (⟨"FrequencySketches", "streamAt", "(I)LFrequencySketches$Stream;"⟩, 4) := ⟨⟨by decide +kernel, by decide +kernel⟩, List.mem_of_getElem? (i := 17) (by decide +kernel), List.mem_of_getElem? (i := 315) (by decide +kernel), List.mem_of_getElem? (i := 316) (by decide +kernel)⟩
theorem lw_p2 : lw_okq (⟨"FrequencySketches$Misra", "greatest", "(I)J"⟩, 2) := ⟨⟨by decide +kernel, by decide +kernel⟩, List.mem_of_getElem? (i := 95) (by decide +kernel), List.mem_of_getElem? (i := 360) (by decide +kernel), List.mem_of_getElem? (i := 361) (by decide +kernel)⟩
theorem lw_p3 : lw_okq (⟨"FrequencySketches$Misra", "takeFromAll", "(J)V"⟩, 2) := ⟨⟨by decide +kernel, by decide +kernel⟩, List.mem_of_getElem? (i := 95) (by decide +kernel), List.mem_of_getElem? (i := 365) (by decide +kernel), List.mem_of_getElem? (i := 366) (by decide +kernel)⟩
theorem lw_p4 : lw_okq (⟨"FrequencySketches$Counters", "shift", "(II)V"⟩, 6) := ⟨⟨by decide +kernel, by decide +kernel⟩, List.mem_of_getElem? (i := 101) (by decide +kernel), List.mem_of_getElem? (i := 378) (by decide +kernel), List.mem_of_getElem? (i := 379) (by decide +kernel)⟩
theorem lw_p5 : lw_okq (⟨"FrequencySketches$Counters", "set", "(IIJJ)V"⟩, 6) := ⟨⟨by decide +kernel, by decide +kernel⟩, List.mem_of_getElem? (i := 101) (by decide +kernel), List.mem_of_getElem? (i := 393) (by decide +kernel), List.mem_of_getElem? (i := 394) (by decide +kernel)⟩
theorem lw_p6 : lw_okq (⟨"FrequencySketches$Saving", "placeBehind", "(J)I"⟩, 1) := ⟨⟨by decide +kernel, by decide +kernel⟩, List.mem_of_getElem? (i := 158) (by decide +kernel), List.mem_of_getElem? (i := 412) (by decide +kernel), List.mem_of_getElem? (i := 413) (by decide +kernel)⟩
theorem lw_p7 : lw_okq (⟨"FrequencySketches$Counts", "placeOf", "(I)I"⟩, 4) := ⟨⟨by decide +kernel, by decide +kernel⟩, List.mem_of_getElem? (i := 171) (by decide +kernel), List.mem_of_getElem? (i := 421) (by decide +kernel), List.mem_of_getElem? (i := 422) (by decide +kernel)⟩
theorem lw_p8 : lw_okq (⟨"FrequencySketches$Counts", "isAt", "(II)Z"⟩, 4) := ⟨⟨by decide +kernel, by decide +kernel⟩, List.mem_of_getElem? (i := 171) (by decide +kernel), List.mem_of_getElem? (i := 425) (by decide +kernel), List.mem_of_getElem? (i := 426) (by decide +kernel)⟩
theorem lw_p9 : lw_okq (⟨"FrequencySketches$Saving", "weakest", "()I"⟩, 1) := ⟨⟨by decide +kernel, by decide +kernel⟩, List.mem_of_getElem? (i := 158) (by decide +kernel), List.mem_of_getElem? (i := 523) (by decide +kernel), List.mem_of_getElem? (i := 524) (by decide +kernel)⟩
theorem lw_p10 : lw_okq (⟨"FrequencySketches$Counters", "isBehind", "(IJI)Z"⟩, 6) := ⟨⟨by decide +kernel, by decide +kernel⟩, List.mem_of_getElem? (i := 101) (by decide +kernel), List.mem_of_getElem? (i := 531) (by decide +kernel), List.mem_of_getElem? (i := 532) (by decide +kernel)⟩
theorem lw_p11 : lw_okq (⟨"FrequencySketches", "sketchAt", "(II)LFrequencySketches$Sketch;"⟩, 4) := ⟨⟨by decide +kernel, by decide +kernel⟩, List.mem_of_getElem? (i := 17) (by decide +kernel), List.mem_of_getElem? (i := 548) (by decide +kernel), List.mem_of_getElem? (i := 549) (by decide +kernel)⟩
theorem lw_p12 : lw_okq (⟨"FrequencySketches$Stream", "holdsCounts", "(LFrequencySketches$Sketch;)Z"⟩, 7) := ⟨⟨by decide +kernel, by decide +kernel⟩, List.mem_of_getElem? (i := 72) (by decide +kernel), List.mem_of_getElem? (i := 715) (by decide +kernel), List.mem_of_getElem? (i := 716) (by decide +kernel)⟩
theorem lw_p13 : lw_okq (⟨"FrequencySketches$Stream", "carefulIsNotAbovePlain", "()Z"⟩, 7) := ⟨⟨by decide +kernel, by decide +kernel⟩, List.mem_of_getElem? (i := 72) (by decide +kernel), List.mem_of_getElem? (i := 723) (by decide +kernel), List.mem_of_getElem? (i := 724) (by decide +kernel)⟩
theorem lw_p14 : lw_okq (⟨"FrequencySketchesModel", "isKey", "(I)Z"⟩, 28) := ⟨⟨by decide +kernel, by decide +kernel⟩, List.mem_of_getElem? (i := 735) (by decide +kernel), List.mem_of_getElem? (i := 850) (by decide +kernel), List.mem_of_getElem? (i := 851) (by decide +kernel)⟩
theorem lw_p15 : lw_okq (⟨"FrequencySketchesModel", "hashed", "(III)I"⟩, 28) := ⟨⟨by decide +kernel, by decide +kernel⟩, List.mem_of_getElem? (i := 735) (by decide +kernel), List.mem_of_getElem? (i := 854) (by decide +kernel), List.mem_of_getElem? (i := 855) (by decide +kernel)⟩
def lw_privs_1 : List (MethodName × Nat) := [(⟨"FrequencySketches", "allStreamsEmpty", "()Z"⟩, 4), (⟨"FrequencySketches", "streamAt", "(I)LFrequencySketches$Stream;"⟩, 4), (⟨"FrequencySketches$Misra", "greatest", "(I)J"⟩, 2), (⟨"FrequencySketches$Misra", "takeFromAll", "(J)V"⟩, 2), (⟨"FrequencySketches$Counters", "shift", "(II)V"⟩, 6), (⟨"FrequencySketches$Counters", "set", "(IIJJ)V"⟩, 6), (⟨"FrequencySketches$Saving", "placeBehind", "(J)I"⟩, 1), (⟨"FrequencySketches$Counts", "placeOf", "(I)I"⟩, 4), (⟨"FrequencySketches$Counts", "isAt", "(II)Z"⟩, 4), (⟨"FrequencySketches$Saving", "weakest", "()I"⟩, 1), (⟨"FrequencySketches$Counters", "isBehind", "(IJI)Z"⟩, 6), (⟨"FrequencySketches", "sketchAt", "(II)LFrequencySketches$Sketch;"⟩, 4), (⟨"FrequencySketches$Stream", "holdsCounts", "(LFrequencySketches$Sketch;)Z"⟩, 7), (⟨"FrequencySketches$Stream", "carefulIsNotAbovePlain", "()Z"⟩, 7), (⟨"FrequencySketchesModel", "isKey", "(I)Z"⟩, 28), (⟨"FrequencySketchesModel", "hashed", "(III)I"⟩, 28)]
theorem lw_r1 : ∀ q ∈ lw_privs_1, lw_okq q := List.forall_mem_cons.mpr ⟨lw_p0, List.forall_mem_cons.mpr ⟨lw_p1, List.forall_mem_cons.mpr ⟨lw_p2, List.forall_mem_cons.mpr ⟨lw_p3, List.forall_mem_cons.mpr ⟨lw_p4, List.forall_mem_cons.mpr ⟨lw_p5, List.forall_mem_cons.mpr ⟨lw_p6, List.forall_mem_cons.mpr ⟨lw_p7, List.forall_mem_cons.mpr ⟨lw_p8, List.forall_mem_cons.mpr ⟨lw_p9, List.forall_mem_cons.mpr ⟨lw_p10, List.forall_mem_cons.mpr ⟨lw_p11, List.forall_mem_cons.mpr ⟨lw_p12, List.forall_mem_cons.mpr ⟨lw_p13, List.forall_mem_cons.mpr ⟨lw_p14, List.forall_mem_cons.mpr ⟨lw_p15, fun _ h => absurd h List.not_mem_nil⟩⟩⟩⟩⟩⟩⟩⟩⟩⟩⟩⟩⟩⟩⟩⟩
theorem lw_p16 : lw_okq (⟨"FrequencySketchesModel", "comes", "(II)V"⟩, 28) := ⟨⟨by decide +kernel, by decide +kernel⟩, List.mem_of_getElem? (i := 735) (by decide +kernel), List.mem_of_getElem? (i := 867) (by decide +kernel), List.mem_of_getElem? (i := 868) (by decide +kernel)⟩
theorem lw_p17 : lw_okq (⟨"FrequencySketchesModel", "leastCareful", "(II)J"⟩, 28) := ⟨⟨by decide +kernel, by decide +kernel⟩, List.mem_of_getElem? (i := 735) (by decide +kernel), List.mem_of_getElem? (i := 871) (by decide +kernel), List.mem_of_getElem? (i := 872) (by decide +kernel)⟩
theorem lw_p18 : lw_okq (⟨"FrequencySketchesModel", "cellOf", "(III)I"⟩, 28) := ⟨⟨by decide +kernel, by decide +kernel⟩, List.mem_of_getElem? (i := 735) (by decide +kernel), List.mem_of_getElem? (i := 875) (by decide +kernel), List.mem_of_getElem? (i := 876) (by decide +kernel)⟩
theorem lw_p19 : lw_okq (⟨"FrequencySketchesModel", "comesMisra", "(II)V"⟩, 28) := ⟨⟨by decide +kernel, by decide +kernel⟩, List.mem_of_getElem? (i := 735) (by decide +kernel), List.mem_of_getElem? (i := 879) (by decide +kernel), List.mem_of_getElem? (i := 880) (by decide +kernel)⟩
theorem lw_p20 : lw_okq (⟨"FrequencySketchesModel", "misraAt", "(II)I"⟩, 28) := ⟨⟨by decide +kernel, by decide +kernel⟩, List.mem_of_getElem? (i := 735) (by decide +kernel), List.mem_of_getElem? (i := 883) (by decide +kernel), List.mem_of_getElem? (i := 884) (by decide +kernel)⟩
theorem lw_p21 : lw_okq (⟨"FrequencySketchesModel", "takes", "(IJ)V"⟩, 28) := ⟨⟨by decide +kernel, by decide +kernel⟩, List.mem_of_getElem? (i := 735) (by decide +kernel), List.mem_of_getElem? (i := 887) (by decide +kernel), List.mem_of_getElem? (i := 888) (by decide +kernel)⟩
theorem lw_p22 : lw_okq (⟨"FrequencySketchesModel", "comesSaving", "(II)V"⟩, 28) := ⟨⟨by decide +kernel, by decide +kernel⟩, List.mem_of_getElem? (i := 735) (by decide +kernel), List.mem_of_getElem? (i := 891) (by decide +kernel), List.mem_of_getElem? (i := 892) (by decide +kernel)⟩
theorem lw_p23 : lw_okq (⟨"FrequencySketchesModel", "savingAt", "(II)I"⟩, 28) := ⟨⟨by decide +kernel, by decide +kernel⟩, List.mem_of_getElem? (i := 735) (by decide +kernel), List.mem_of_getElem? (i := 895) (by decide +kernel), List.mem_of_getElem? (i := 896) (by decide +kernel)⟩
theorem lw_p24 : lw_okq (⟨"FrequencySketchesModel", "moveSaving", "(II)V"⟩, 28) := ⟨⟨by decide +kernel, by decide +kernel⟩, List.mem_of_getElem? (i := 735) (by decide +kernel), List.mem_of_getElem? (i := 899) (by decide +kernel), List.mem_of_getElem? (i := 900) (by decide +kernel)⟩
theorem lw_p25 : lw_okq (⟨"FrequencySketchesModel", "comesCounts", "(IIJ)V"⟩, 28) := ⟨⟨by decide +kernel, by decide +kernel⟩, List.mem_of_getElem? (i := 735) (by decide +kernel), List.mem_of_getElem? (i := 903) (by decide +kernel), List.mem_of_getElem? (i := 904) (by decide +kernel)⟩
theorem lw_p26 : lw_okq (⟨"FrequencySketchesModel", "keyAt", "(II)I"⟩, 28) := ⟨⟨by decide +kernel, by decide +kernel⟩, List.mem_of_getElem? (i := 735) (by decide +kernel), List.mem_of_getElem? (i := 907) (by decide +kernel), List.mem_of_getElem? (i := 908) (by decide +kernel)⟩
theorem lw_p27 : lw_okq (⟨"FrequencySketchesModel", "joinMisra", "(II)V"⟩, 28) := ⟨⟨by decide +kernel, by decide +kernel⟩, List.mem_of_getElem? (i := 735) (by decide +kernel), List.mem_of_getElem? (i := 923) (by decide +kernel), List.mem_of_getElem? (i := 924) (by decide +kernel)⟩
theorem lw_p28 : lw_okq (⟨"FrequencySketchesModel", "pools", "(IJJ)V"⟩, 28) := ⟨⟨by decide +kernel, by decide +kernel⟩, List.mem_of_getElem? (i := 735) (by decide +kernel), List.mem_of_getElem? (i := 927) (by decide +kernel), List.mem_of_getElem? (i := 928) (by decide +kernel)⟩
theorem lw_p29 : lw_okq (⟨"FrequencySketchesModel", "pooledAt", "(I)I"⟩, 28) := ⟨⟨by decide +kernel, by decide +kernel⟩, List.mem_of_getElem? (i := 735) (by decide +kernel), List.mem_of_getElem? (i := 931) (by decide +kernel), List.mem_of_getElem? (i := 932) (by decide +kernel)⟩
theorem lw_p30 : lw_okq (⟨"FrequencySketchesModel", "greatest", "(I)J"⟩, 28) := ⟨⟨by decide +kernel, by decide +kernel⟩, List.mem_of_getElem? (i := 735) (by decide +kernel), List.mem_of_getElem? (i := 935) (by decide +kernel), List.mem_of_getElem? (i := 936) (by decide +kernel)⟩
theorem lw_p31 : lw_okq (⟨"FrequencySketchesModel", "joinSaving", "(II)V"⟩, 28) := ⟨⟨by decide +kernel, by decide +kernel⟩, List.mem_of_getElem? (i := 735) (by decide +kernel), List.mem_of_getElem? (i := 939) (by decide +kernel), List.mem_of_getElem? (i := 940) (by decide +kernel)⟩
def lw_privs_2 : List (MethodName × Nat) := [(⟨"FrequencySketchesModel", "comes", "(II)V"⟩, 28), (⟨"FrequencySketchesModel", "leastCareful", "(II)J"⟩, 28), (⟨"FrequencySketchesModel", "cellOf", "(III)I"⟩, 28), (⟨"FrequencySketchesModel", "comesMisra", "(II)V"⟩, 28), (⟨"FrequencySketchesModel", "misraAt", "(II)I"⟩, 28), (⟨"FrequencySketchesModel", "takes", "(IJ)V"⟩, 28), (⟨"FrequencySketchesModel", "comesSaving", "(II)V"⟩, 28), (⟨"FrequencySketchesModel", "savingAt", "(II)I"⟩, 28), (⟨"FrequencySketchesModel", "moveSaving", "(II)V"⟩, 28), (⟨"FrequencySketchesModel", "comesCounts", "(IIJ)V"⟩, 28), (⟨"FrequencySketchesModel", "keyAt", "(II)I"⟩, 28), (⟨"FrequencySketchesModel", "joinMisra", "(II)V"⟩, 28), (⟨"FrequencySketchesModel", "pools", "(IJJ)V"⟩, 28), (⟨"FrequencySketchesModel", "pooledAt", "(I)I"⟩, 28), (⟨"FrequencySketchesModel", "greatest", "(I)J"⟩, 28), (⟨"FrequencySketchesModel", "joinSaving", "(II)V"⟩, 28)]
theorem lw_r2 : ∀ q ∈ lw_privs_2, lw_okq q := List.forall_mem_cons.mpr ⟨lw_p16, List.forall_mem_cons.mpr ⟨lw_p17, List.forall_mem_cons.mpr ⟨lw_p18, List.forall_mem_cons.mpr ⟨lw_p19, List.forall_mem_cons.mpr ⟨lw_p20, List.forall_mem_cons.mpr ⟨lw_p21, List.forall_mem_cons.mpr ⟨lw_p22, List.forall_mem_cons.mpr ⟨lw_p23, List.forall_mem_cons.mpr ⟨lw_p24, List.forall_mem_cons.mpr ⟨lw_p25, List.forall_mem_cons.mpr ⟨lw_p26, List.forall_mem_cons.mpr ⟨lw_p27, List.forall_mem_cons.mpr ⟨lw_p28, List.forall_mem_cons.mpr ⟨lw_p29, List.forall_mem_cons.mpr ⟨lw_p30, List.forall_mem_cons.mpr ⟨lw_p31, fun _ h => absurd h List.not_mem_nil⟩⟩⟩⟩⟩⟩⟩⟩⟩⟩⟩⟩⟩⟩⟩⟩
theorem lw_p32 : lw_okq (⟨"FrequencySketchesModel", "least", "(I)J"⟩, 28) := ⟨⟨by decide +kernel, by decide +kernel⟩, List.mem_of_getElem? (i := 735) (by decide +kernel), List.mem_of_getElem? (i := 943) (by decide +kernel), List.mem_of_getElem? (i := 944) (by decide +kernel)⟩
theorem lw_p33 : lw_okq (⟨"FrequencySketchesModel", "sortLike", "(I)V"⟩, 28) := ⟨⟨by decide +kernel, by decide +kernel⟩, List.mem_of_getElem? (i := 735) (by decide +kernel), List.mem_of_getElem? (i := 947) (by decide +kernel), List.mem_of_getElem? (i := 948) (by decide +kernel)⟩
theorem lw_p34 : lw_okq (⟨"FrequencySketchesModel", "joinCounts", "(II)V"⟩, 28) := ⟨⟨by decide +kernel, by decide +kernel⟩, List.mem_of_getElem? (i := 735) (by decide +kernel), List.mem_of_getElem? (i := 951) (by decide +kernel), List.mem_of_getElem? (i := 952) (by decide +kernel)⟩
theorem lw_p35 : lw_okq (⟨"FrequencySketchesModel", "estimated", "(IIII)J"⟩, 28) := ⟨⟨by decide +kernel, by decide +kernel⟩, List.mem_of_getElem? (i := 735) (by decide +kernel), List.mem_of_getElem? (i := 963) (by decide +kernel), List.mem_of_getElem? (i := 964) (by decide +kernel)⟩
theorem lw_p36 : lw_okq (⟨"FrequencySketchesModel", "one", "(IIII)J"⟩, 28) := ⟨⟨by decide +kernel, by decide +kernel⟩, List.mem_of_getElem? (i := 735) (by decide +kernel), List.mem_of_getElem? (i := 967) (by decide +kernel), List.mem_of_getElem? (i := 968) (by decide +kernel)⟩
theorem lw_p37 : lw_okq (⟨"FrequencySketchesModel", "leastPlain", "(II)J"⟩, 28) := ⟨⟨by decide +kernel, by decide +kernel⟩, List.mem_of_getElem? (i := 735) (by decide +kernel), List.mem_of_getElem? (i := 971) (by decide +kernel), List.mem_of_getElem? (i := 972) (by decide +kernel)⟩
theorem lw_p38 : lw_okq (⟨"FrequencySketchesModel", "reports", "(IJ)V"⟩, 28) := ⟨⟨by decide +kernel, by decide +kernel⟩, List.mem_of_getElem? (i := 735) (by decide +kernel), List.mem_of_getElem? (i := 997) (by decide +kernel), List.mem_of_getElem? (i := 998) (by decide +kernel)⟩
theorem lw_p39 : lw_okq (⟨"FrequencySketchesModel", "isWithin", "(II)Z"⟩, 28) := ⟨⟨by decide +kernel, by decide +kernel⟩, List.mem_of_getElem? (i := 735) (by decide +kernel), List.mem_of_getElem? (i := 1014) (by decide +kernel), List.mem_of_getElem? (i := 1015) (by decide +kernel)⟩
def lw_privs_3 : List (MethodName × Nat) := [(⟨"FrequencySketchesModel", "least", "(I)J"⟩, 28), (⟨"FrequencySketchesModel", "sortLike", "(I)V"⟩, 28), (⟨"FrequencySketchesModel", "joinCounts", "(II)V"⟩, 28), (⟨"FrequencySketchesModel", "estimated", "(IIII)J"⟩, 28), (⟨"FrequencySketchesModel", "one", "(IIII)J"⟩, 28), (⟨"FrequencySketchesModel", "leastPlain", "(II)J"⟩, 28), (⟨"FrequencySketchesModel", "reports", "(IJ)V"⟩, 28), (⟨"FrequencySketchesModel", "isWithin", "(II)Z"⟩, 28)]
theorem lw_r3 : ∀ q ∈ lw_privs_3, lw_okq q := List.forall_mem_cons.mpr ⟨lw_p32, List.forall_mem_cons.mpr ⟨lw_p33, List.forall_mem_cons.mpr ⟨lw_p34, List.forall_mem_cons.mpr ⟨lw_p35, List.forall_mem_cons.mpr ⟨lw_p36, List.forall_mem_cons.mpr ⟨lw_p37, List.forall_mem_cons.mpr ⟨lw_p38, List.forall_mem_cons.mpr ⟨lw_p39, fun _ h => absurd h List.not_mem_nil⟩⟩⟩⟩⟩⟩⟩⟩
def lw_privs : List (MethodName × Nat) := lw_privs_1 ++ (lw_privs_2 ++ (lw_privs_3))
def lw_tbl : List Cond := k2_sels lw_privs ++ tables_1
theorem lw_privs_ok : ∀ q ∈ lw_privs, lw_okq q := by
  show ∀ q ∈ lw_privs_1 ++ (lw_privs_2 ++ (lw_privs_3)), lw_okq q
  exact List.forall_mem_append.mpr ⟨lw_r1, List.forall_mem_append.mpr ⟨lw_r2, lw_r3⟩⟩
end
section

def RX0 : String := "FrequencySketches$Best"
def TX0 : u_T := fun k => match k with
  | 0 => ("FrequencySketches$Best", "plain", "LFrequencySketches$Grid;", true)
  | 1 => ("FrequencySketches$Best", "careful", "LFrequencySketches$Grid;", true)
  | 2 => ("FrequencySketches$Best", "misra", "LFrequencySketches$Misra;", true)
  | _ => ("FrequencySketches$Best", "saving", "LFrequencySketches$Saving;", true)
def tyX0 : Nat → FieldType := fun k => match k with
  | 0 => .object "FrequencySketches$Grid"
  | 1 => .object "FrequencySketches$Grid"
  | 2 => .object "FrequencySketches$Misra"
  | _ => .object "FrequencySketches$Saving"
theorem nmX0 : ∀ a, a < 4 → ∀ b, b < 4 → a ≠ b → (TX0 a).2.1 ≠ (TX0 b).2.1 := by decide +kernel
theorem tyX0_ok : ∀ k, k < 4 → parseFieldDescriptor (TX0 k).2.2.1 = some (tyX0 k) := by decide +kernel
abbrev cX0_init : ByteArray := prog_2_method_1_code
def yX0_init : MethodName := ⟨RX0, "<init>", "(LFrequencySketches$Grid;LFrequencySketches$Grid;LFrequencySketches$Misra;LFrequencySketches$Saving;)V"⟩
abbrev cX0_guess : ByteArray := prog_2_method_2_code
def yX0_guess : MethodName := ⟨RX0, "guess", "(I)J"⟩
abbrev cX0_low : ByteArray := prog_2_method_3_code
def yX0_low : MethodName := ⟨RX0, "low", "(I)J"⟩
abbrev cX0_high : ByteArray := prog_2_method_4_code
def yX0_high : MethodName := ⟨RX0, "high", "(I)J"⟩
def RX1 : String := "FrequencySketches$Counters"
def TX1 : u_T := fun k => match k with
  | 0 => ("FrequencySketches$Counters", "limit", "I", true)
  | 1 => ("FrequencySketches$Counters", "keys", "[I", true)
  | 2 => ("FrequencySketches$Counters", "numbers", "[J", true)
  | 3 => ("FrequencySketches$Counters", "errors", "[J", true)
  | 4 => ("FrequencySketches$Counters", "known", "LFrequencySketches$KeySet;", true)
  | _ => ("FrequencySketches$Counters", "used", "I", false)
def tyX1 : Nat → FieldType := fun k => match k with
  | 0 => .int
  | 1 => .array .int
  | 2 => .array .long
  | 3 => .array .long
  | 4 => .object "FrequencySketches$KeySet"
  | _ => .int
theorem nmX1 : ∀ a, a < 6 → ∀ b, b < 6 → a ≠ b → (TX1 a).2.1 ≠ (TX1 b).2.1 := by decide +kernel
theorem tyX1_ok : ∀ k, k < 6 → parseFieldDescriptor (TX1 k).2.2.1 = some (tyX1 k) := by decide +kernel
abbrev cX1_init : ByteArray := prog_3_method_1_code
def yX1_init : MethodName := ⟨RX1, "<init>", "(II)V"⟩
abbrev cX1_isFull : ByteArray := prog_3_method_2_code
def yX1_isFull : MethodName := ⟨RX1, "isFull", "()Z"⟩
abbrev cX1_find : ByteArray := prog_3_method_3_code
def yX1_find : MethodName := ⟨RX1, "find", "(I)I"⟩
abbrev cX1_tell : ByteArray := prog_3_method_4_code
def yX1_tell : MethodName := ⟨RX1, "tell", "(II)J"⟩
abbrev cX1_append : ByteArray := prog_3_method_5_code
def yX1_append : MethodName := ⟨RX1, "append", "(IJJ)V"⟩
abbrev cX1_insert : ByteArray := prog_3_method_6_code
def yX1_insert : MethodName := ⟨RX1, "insert", "(IIJJ)V"⟩
abbrev cX1_remove : ByteArray := prog_3_method_7_code
def yX1_remove : MethodName := ⟨RX1, "remove", "(I)V"⟩
abbrev cX1_shift : ByteArray := prog_3_method_8_code
def yX1_shift : MethodName := ⟨RX1, "shift", "(II)V"⟩
abbrev cX1_set : ByteArray := prog_3_method_9_code
def yX1_set : MethodName := ⟨RX1, "set", "(IIJJ)V"⟩
abbrev cX1_sortByNumberThenKey : ByteArray := prog_3_method_10_code
def yX1_sortByNumberThenKey : MethodName := ⟨RX1, "sortByNumberThenKey", "()V"⟩
abbrev cX1_isBehind : ByteArray := prog_3_method_11_code
def yX1_isBehind : MethodName := ⟨RX1, "isBehind", "(IJI)Z"⟩
abbrev cX1_makeEmpty : ByteArray := prog_3_method_12_code
def yX1_makeEmpty : MethodName := ⟨RX1, "makeEmpty", "()V"⟩
abbrev cX1_become : ByteArray := prog_3_method_13_code
def yX1_become : MethodName := ⟨RX1, "become", "(LFrequencySketches$Counters;)V"⟩
def RX2 : String := "FrequencySketches$Counts"
def TX2 : u_T := fun k => match k with
  | 0 => ("FrequencySketches$Counts", "keys", "[I", true)
  | 1 => ("FrequencySketches$Counts", "numbers", "[J", true)
  | 2 => ("FrequencySketches$Counts", "used", "I", false)
  | _ => ("FrequencySketches$Counts", "gone", "Z", false)
def tyX2 : Nat → FieldType := fun k => match k with
  | 0 => .array .int
  | 1 => .array .long
  | 2 => .int
  | _ => .boolean
theorem nmX2 : ∀ a, a < 4 → ∀ b, b < 4 → a ≠ b → (TX2 a).2.1 ≠ (TX2 b).2.1 := by decide +kernel
theorem tyX2_ok : ∀ k, k < 4 → parseFieldDescriptor (TX2 k).2.2.1 = some (tyX2 k) := by decide +kernel
abbrev cX2_init : ByteArray := prog_4_method_1_code
def yX2_init : MethodName := ⟨RX2, "<init>", "(I)V"⟩
abbrev cX2_numberOf : ByteArray := prog_4_method_2_code
def yX2_numberOf : MethodName := ⟨RX2, "numberOf", "(I)J"⟩
abbrev cX2_isAt : ByteArray := prog_4_method_3_code
def yX2_isAt : MethodName := ⟨RX2, "isAt", "(II)Z"⟩
abbrev cX2_placeOf : ByteArray := prog_4_method_4_code
def yX2_placeOf : MethodName := ⟨RX2, "placeOf", "(I)I"⟩
abbrev cX2_take : ByteArray := prog_4_method_5_code
def yX2_take : MethodName := ⟨RX2, "take", "(IJ)V"⟩
abbrev cX2_together : ByteArray := prog_4_method_6_code
def yX2_together : MethodName := ⟨RX2, "together", "()J"⟩
abbrev cX2_makeEmpty : ByteArray := prog_4_method_7_code
def yX2_makeEmpty : MethodName := ⟨RX2, "makeEmpty", "()V"⟩
abbrev cX2_become : ByteArray := prog_4_method_8_code
def yX2_become : MethodName := ⟨RX2, "become", "(LFrequencySketches$Counts;)V"⟩
abbrev cX2_putTogether : ByteArray := prog_4_method_9_code
def yX2_putTogether : MethodName := ⟨RX2, "putTogether", "(LFrequencySketches$Counts;)V"⟩
def RX3 : String := "FrequencySketches$Family"
def TX3 : u_T := fun k => match k with
  | 0 => ("FrequencySketches$Family", "prime", "I", true)
  | 1 => ("FrequencySketches$Family", "width", "I", true)
  | 2 => ("FrequencySketches$Family", "rows", "I", true)
  | 3 => ("FrequencySketches$Family", "as", "[I", true)
  | _ => ("FrequencySketches$Family", "bs", "[I", true)
def tyX3 : Nat → FieldType := fun k => match k with
  | 0 => .int
  | 1 => .int
  | 2 => .int
  | 3 => .array .int
  | _ => .array .int
theorem nmX3 : ∀ a, a < 5 → ∀ b, b < 5 → a ≠ b → (TX3 a).2.1 ≠ (TX3 b).2.1 := by decide +kernel
theorem tyX3_ok : ∀ k, k < 5 → parseFieldDescriptor (TX3 k).2.2.1 = some (tyX3 k) := by decide +kernel
abbrev cX3_init : ByteArray := prog_5_method_1_code
def yX3_init : MethodName := ⟨RX3, "<init>", "(III)V"⟩
abbrev cX3_isRow : ByteArray := prog_5_method_2_code
def yX3_isRow : MethodName := ⟨RX3, "isRow", "(I)Z"⟩
abbrev cX3_isKey : ByteArray := prog_5_method_3_code
def yX3_isKey : MethodName := ⟨RX3, "isKey", "(I)Z"⟩
abbrev cX3_isPair : ByteArray := prog_5_method_4_code
def yX3_isPair : MethodName := ⟨RX3, "isPair", "(II)Z"⟩
abbrev cX3_setPair : ByteArray := prog_5_method_5_code
def yX3_setPair : MethodName := ⟨RX3, "setPair", "(III)V"⟩
abbrev cX3_column : ByteArray := prog_5_method_6_code
def yX3_column : MethodName := ⟨RX3, "column", "(II)I"⟩
abbrev cX3_pairsThatMeet : ByteArray := prog_5_method_7_code
def yX3_pairsThatMeet : MethodName := ⟨RX3, "pairsThatMeet", "()J"⟩
def RX4 : String := "FrequencySketches$Grid"
def TX4 : u_T := fun k => match k with
  | 0 => ("FrequencySketches$Grid", "family", "LFrequencySketches$Family;", true)
  | 1 => ("FrequencySketches$Grid", "careful", "Z", true)
  | _ => ("FrequencySketches$Grid", "cells", "[J", true)
def tyX4 : Nat → FieldType := fun k => match k with
  | 0 => .object "FrequencySketches$Family"
  | 1 => .boolean
  | _ => .array .long
theorem nmX4 : ∀ a, a < 3 → ∀ b, b < 3 → a ≠ b → (TX4 a).2.1 ≠ (TX4 b).2.1 := by decide +kernel
theorem tyX4_ok : ∀ k, k < 3 → parseFieldDescriptor (TX4 k).2.2.1 = some (tyX4 k) := by decide +kernel
abbrev cX4_init : ByteArray := prog_6_method_1_code
def yX4_init : MethodName := ⟨RX4, "<init>", "(LFrequencySketches$Family;Z)V"⟩
abbrev cX4_guess : ByteArray := prog_6_method_2_code
def yX4_guess : MethodName := ⟨RX4, "guess", "(I)J"⟩
abbrev cX4_low : ByteArray := prog_6_method_3_code
def yX4_low : MethodName := ⟨RX4, "low", "(I)J"⟩
abbrev cX4_high : ByteArray := prog_6_method_4_code
def yX4_high : MethodName := ⟨RX4, "high", "(I)J"⟩
abbrev cX4_at : ByteArray := prog_6_method_5_code
def yX4_at : MethodName := ⟨RX4, "at", "(II)J"⟩
abbrev cX4_take : ByteArray := prog_6_method_6_code
def yX4_take : MethodName := ⟨RX4, "take", "(II)V"⟩
abbrev cX4_makeEmpty : ByteArray := prog_6_method_7_code
def yX4_makeEmpty : MethodName := ⟨RX4, "makeEmpty", "()V"⟩
abbrev cX4_become : ByteArray := prog_6_method_8_code
def yX4_become : MethodName := ⟨RX4, "become", "(LFrequencySketches$Grid;)V"⟩
abbrev cX4_putTogether : ByteArray := prog_6_method_9_code
def yX4_putTogether : MethodName := ⟨RX4, "putTogether", "(LFrequencySketches$Grid;)V"⟩
def RX5 : String := "FrequencySketches$KeySet"
def TX5 : u_T := fun k => match k with
  | _ => ("FrequencySketches$KeySet", "bits", "[J", true)
def tyX5 : Nat → FieldType := fun k => match k with
  | _ => .array .long
theorem nmX5 : ∀ a, a < 1 → ∀ b, b < 1 → a ≠ b → (TX5 a).2.1 ≠ (TX5 b).2.1 := by decide +kernel
theorem tyX5_ok : ∀ k, k < 1 → parseFieldDescriptor (TX5 k).2.2.1 = some (tyX5 k) := by decide +kernel
abbrev cX5_init : ByteArray := prog_7_method_1_code
def yX5_init : MethodName := ⟨RX5, "<init>", "(I)V"⟩
abbrev cX5_has : ByteArray := prog_7_method_2_code
def yX5_has : MethodName := ⟨RX5, "has", "(I)Z"⟩
abbrev cX5_put : ByteArray := prog_7_method_3_code
def yX5_put : MethodName := ⟨RX5, "put", "(I)V"⟩
abbrev cX5_drop : ByteArray := prog_7_method_4_code
def yX5_drop : MethodName := ⟨RX5, "drop", "(I)V"⟩
abbrev cX5_makeEmpty : ByteArray := prog_7_method_5_code
def yX5_makeEmpty : MethodName := ⟨RX5, "makeEmpty", "()V"⟩
abbrev cX5_become : ByteArray := prog_7_method_6_code
def yX5_become : MethodName := ⟨RX5, "become", "(LFrequencySketches$KeySet;)V"⟩
def RX6 : String := "FrequencySketches$Misra"
def TX6 : u_T := fun k => match k with
  | 0 => ("FrequencySketches$Misra", "held", "LFrequencySketches$Counters;", true)
  | _ => ("FrequencySketches$Misra", "taken", "J", false)
def tyX6 : Nat → FieldType := fun k => match k with
  | 0 => .object "FrequencySketches$Counters"
  | _ => .long
theorem nmX6 : ∀ a, a < 2 → ∀ b, b < 2 → a ≠ b → (TX6 a).2.1 ≠ (TX6 b).2.1 := by decide +kernel
theorem tyX6_ok : ∀ k, k < 2 → parseFieldDescriptor (TX6 k).2.2.1 = some (tyX6 k) := by decide +kernel
abbrev cX6_init : ByteArray := prog_8_method_1_code
def yX6_init : MethodName := ⟨RX6, "<init>", "(II)V"⟩
abbrev cX6_guess : ByteArray := prog_8_method_2_code
def yX6_guess : MethodName := ⟨RX6, "guess", "(I)J"⟩
abbrev cX6_low : ByteArray := prog_8_method_3_code
def yX6_low : MethodName := ⟨RX6, "low", "(I)J"⟩
abbrev cX6_high : ByteArray := prog_8_method_4_code
def yX6_high : MethodName := ⟨RX6, "high", "(I)J"⟩
abbrev cX6_take : ByteArray := prog_8_method_5_code
def yX6_take : MethodName := ⟨RX6, "take", "(II)V"⟩
abbrev cX6_takeFromAll : ByteArray := prog_8_method_6_code
def yX6_takeFromAll : MethodName := ⟨RX6, "takeFromAll", "(J)V"⟩
abbrev cX6_greatest : ByteArray := prog_8_method_7_code
def yX6_greatest : MethodName := ⟨RX6, "greatest", "(I)J"⟩
abbrev cX6_makeEmpty : ByteArray := prog_8_method_8_code
def yX6_makeEmpty : MethodName := ⟨RX6, "makeEmpty", "()V"⟩
abbrev cX6_become : ByteArray := prog_8_method_9_code
def yX6_become : MethodName := ⟨RX6, "become", "(LFrequencySketches$Misra;)V"⟩
abbrev cX6_putTogether : ByteArray := prog_8_method_10_code
def yX6_putTogether : MethodName := ⟨RX6, "putTogether", "(LFrequencySketches$Misra;)V"⟩
def RX7 : String := "FrequencySketches$Ranking"
def TX7 : u_T := fun k => match k with
  | 0 => ("FrequencySketches$Ranking", "keys", "[I", true)
  | 1 => ("FrequencySketches$Ranking", "numbers", "[J", true)
  | _ => ("FrequencySketches$Ranking", "used", "I", false)
def tyX7 : Nat → FieldType := fun k => match k with
  | 0 => .array .int
  | 1 => .array .long
  | _ => .int
theorem nmX7 : ∀ a, a < 3 → ∀ b, b < 3 → a ≠ b → (TX7 a).2.1 ≠ (TX7 b).2.1 := by decide +kernel
theorem tyX7_ok : ∀ k, k < 3 → parseFieldDescriptor (TX7 k).2.2.1 = some (tyX7 k) := by decide +kernel
abbrev cX7_init : ByteArray := prog_9_method_1_code
def yX7_init : MethodName := ⟨RX7, "<init>", "(I)V"⟩
abbrev cX7_start : ByteArray := prog_9_method_2_code
def yX7_start : MethodName := ⟨RX7, "start", "()V"⟩
abbrev cX7_offer : ByteArray := prog_9_method_3_code
def yX7_offer : MethodName := ⟨RX7, "offer", "(IJ)V"⟩
abbrev cX7_tell : ByteArray := prog_9_method_4_code
def yX7_tell : MethodName := ⟨RX7, "tell", "(II)J"⟩
def RX8 : String := "FrequencySketches$Saving"
def TX8 : u_T := fun k => match k with
  | _ => ("FrequencySketches$Saving", "held", "LFrequencySketches$Counters;", true)
def tyX8 : Nat → FieldType := fun k => match k with
  | _ => .object "FrequencySketches$Counters"
theorem nmX8 : ∀ a, a < 1 → ∀ b, b < 1 → a ≠ b → (TX8 a).2.1 ≠ (TX8 b).2.1 := by decide +kernel
theorem tyX8_ok : ∀ k, k < 1 → parseFieldDescriptor (TX8 k).2.2.1 = some (tyX8 k) := by decide +kernel
abbrev cX8_init : ByteArray := prog_10_method_1_code
def yX8_init : MethodName := ⟨RX8, "<init>", "(II)V"⟩
abbrev cX8_least : ByteArray := prog_10_method_2_code
def yX8_least : MethodName := ⟨RX8, "least", "()J"⟩
abbrev cX8_guess : ByteArray := prog_10_method_3_code
def yX8_guess : MethodName := ⟨RX8, "guess", "(I)J"⟩
abbrev cX8_low : ByteArray := prog_10_method_4_code
def yX8_low : MethodName := ⟨RX8, "low", "(I)J"⟩
abbrev cX8_high : ByteArray := prog_10_method_5_code
def yX8_high : MethodName := ⟨RX8, "high", "(I)J"⟩
abbrev cX8_take : ByteArray := prog_10_method_6_code
def yX8_take : MethodName := ⟨RX8, "take", "(II)V"⟩
abbrev cX8_placeBehind : ByteArray := prog_10_method_7_code
def yX8_placeBehind : MethodName := ⟨RX8, "placeBehind", "(J)I"⟩
abbrev cX8_makeEmpty : ByteArray := prog_10_method_8_code
def yX8_makeEmpty : MethodName := ⟨RX8, "makeEmpty", "()V"⟩
abbrev cX8_become : ByteArray := prog_10_method_9_code
def yX8_become : MethodName := ⟨RX8, "become", "(LFrequencySketches$Saving;)V"⟩
abbrev cX8_putTogether : ByteArray := prog_10_method_10_code
def yX8_putTogether : MethodName := ⟨RX8, "putTogether", "(LFrequencySketches$Saving;)V"⟩
abbrev cX8_weakest : ByteArray := prog_10_method_11_code
def yX8_weakest : MethodName := ⟨RX8, "weakest", "()I"⟩
def RX9 : String := "FrequencySketches$Sketch"
def TX9 : u_T := fun k => match k with
  | _ => ("", "", "", false)
def tyX9 : Nat → FieldType := fun k => match k with
  | _ => .int
theorem nmX9 : ∀ a, a < 0 → ∀ b, b < 0 → a ≠ b → (TX9 a).2.1 ≠ (TX9 b).2.1 := by decide +kernel
theorem tyX9_ok : ∀ k, k < 0 → parseFieldDescriptor (TX9 k).2.2.1 = some (tyX9 k) := by decide +kernel
def RX10 : String := "FrequencySketches$Stream"
def TX10 : u_T := fun k => match k with
  | 0 => ("FrequencySketches$Stream", "plain", "LFrequencySketches$Grid;", true)
  | 1 => ("FrequencySketches$Stream", "careful", "LFrequencySketches$Grid;", true)
  | 2 => ("FrequencySketches$Stream", "misra", "LFrequencySketches$Misra;", true)
  | 3 => ("FrequencySketches$Stream", "saving", "LFrequencySketches$Saving;", true)
  | 4 => ("FrequencySketches$Stream", "counts", "LFrequencySketches$Counts;", true)
  | 5 => ("FrequencySketches$Stream", "sketches", "[LFrequencySketches$Sketch;", true)
  | _ => ("FrequencySketches$Stream", "n", "J", false)
def tyX10 : Nat → FieldType := fun k => match k with
  | 0 => .object "FrequencySketches$Grid"
  | 1 => .object "FrequencySketches$Grid"
  | 2 => .object "FrequencySketches$Misra"
  | 3 => .object "FrequencySketches$Saving"
  | 4 => .object "FrequencySketches$Counts"
  | 5 => .array (.object "FrequencySketches$Sketch")
  | _ => .long
theorem nmX10 : ∀ a, a < 7 → ∀ b, b < 7 → a ≠ b → (TX10 a).2.1 ≠ (TX10 b).2.1 := by decide +kernel
theorem tyX10_ok : ∀ k, k < 7 → parseFieldDescriptor (TX10 k).2.2.1 = some (tyX10 k) := by decide +kernel
abbrev cX10_init : ByteArray := prog_12_method_1_code
def yX10_init : MethodName := ⟨RX10, "<init>", "(LFrequencySketches$Family;I)V"⟩
abbrev cX10_take : ByteArray := prog_12_method_2_code
def yX10_take : MethodName := ⟨RX10, "take", "(II)V"⟩
abbrev cX10_makeEmpty : ByteArray := prog_12_method_3_code
def yX10_makeEmpty : MethodName := ⟨RX10, "makeEmpty", "()V"⟩
abbrev cX10_become : ByteArray := prog_12_method_4_code
def yX10_become : MethodName := ⟨RX10, "become", "(LFrequencySketches$Stream;)V"⟩
abbrev cX10_putTogether : ByteArray := prog_12_method_5_code
def yX10_putTogether : MethodName := ⟨RX10, "putTogether", "(LFrequencySketches$Stream;)V"⟩
abbrev cX10_firstBroken : ByteArray := prog_12_method_6_code
def yX10_firstBroken : MethodName := ⟨RX10, "firstBroken", "()I"⟩
abbrev cX10_holdsCounts : ByteArray := prog_12_method_7_code
def yX10_holdsCounts : MethodName := ⟨RX10, "holdsCounts", "(LFrequencySketches$Sketch;)Z"⟩
abbrev cX10_carefulIsNotAbovePlain : ByteArray := prog_12_method_8_code
def yX10_carefulIsNotAbovePlain : MethodName := ⟨RX10, "carefulIsNotAbovePlain", "()Z"⟩
def RX11 : String := "FrequencySketches"
def TX11 : u_T := fun k => match k with
  | 0 => ("FrequencySketches", "family", "LFrequencySketches$Family;", true)
  | 1 => ("FrequencySketches", "counters", "I", true)
  | 2 => ("FrequencySketches", "streams", "[LFrequencySketches$Stream;", true)
  | _ => ("FrequencySketches", "latest", "LFrequencySketches$Ranking;", true)
def tyX11 : Nat → FieldType := fun k => match k with
  | 0 => .object "FrequencySketches$Family"
  | 1 => .int
  | 2 => .array (.object "FrequencySketches$Stream")
  | _ => .object "FrequencySketches$Ranking"
theorem nmX11 : ∀ a, a < 4 → ∀ b, b < 4 → a ≠ b → (TX11 a).2.1 ≠ (TX11 b).2.1 := by decide +kernel
theorem tyX11_ok : ∀ k, k < 4 → parseFieldDescriptor (TX11 k).2.2.1 = some (tyX11 k) := by decide +kernel
abbrev cX11_init : ByteArray := prog_1_method_1_code
def yX11_init : MethodName := ⟨RX11, "<init>", "(IIII)V"⟩
abbrev cX11_size : ByteArray := prog_1_method_2_code
def yX11_size : MethodName := ⟨RX11, "size", "(I)I"⟩
abbrev cX11_pair : ByteArray := prog_1_method_3_code
def yX11_pair : MethodName := ⟨RX11, "pair", "(III)Z"⟩
abbrev cX11_hash : ByteArray := prog_1_method_4_code
def yX11_hash : MethodName := ⟨RX11, "hash", "(II)I"⟩
abbrev cX11_add : ByteArray := prog_1_method_5_code
def yX11_add : MethodName := ⟨RX11, "add", "(III)J"⟩
abbrev cX11_clear : ByteArray := prog_1_method_6_code
def yX11_clear : MethodName := ⟨RX11, "clear", "(I)Z"⟩
abbrev cX11_copy : ByteArray := prog_1_method_7_code
def yX11_copy : MethodName := ⟨RX11, "copy", "(II)Z"⟩
abbrev cX11_join : ByteArray := prog_1_method_8_code
def yX11_join : MethodName := ⟨RX11, "join", "(II)J"⟩
abbrev cX11_total : ByteArray := prog_1_method_9_code
def yX11_total : MethodName := ⟨RX11, "total", "(I)J"⟩
abbrev cX11_estimate : ByteArray := prog_1_method_10_code
def yX11_estimate : MethodName := ⟨RX11, "estimate", "(IIII)J"⟩
abbrev cX11_count : ByteArray := prog_1_method_11_code
def yX11_count : MethodName := ⟨RX11, "count", "(II)J"⟩
abbrev cX11_cell : ByteArray := prog_1_method_12_code
def yX11_cell : MethodName := ⟨RX11, "cell", "(IIII)J"⟩
abbrev cX11_counter : ByteArray := prog_1_method_13_code
def yX11_counter : MethodName := ⟨RX11, "counter", "(IIII)J"⟩
abbrev cX11_state : ByteArray := prog_1_method_14_code
def yX11_state : MethodName := ⟨RX11, "state", "(II)J"⟩
abbrev cX11_report : ByteArray := prog_1_method_15_code
def yX11_report : MethodName := ⟨RX11, "report", "(IIIZ)I"⟩
abbrev cX11_reported : ByteArray := prog_1_method_16_code
def yX11_reported : MethodName := ⟨RX11, "reported", "(II)J"⟩
abbrev cX11_overcounts : ByteArray := prog_1_method_17_code
def yX11_overcounts : MethodName := ⟨RX11, "overcounts", "(II)J"⟩
abbrev cX11_audit : ByteArray := prog_1_method_18_code
def yX11_audit : MethodName := ⟨RX11, "audit", "(I)I"⟩
abbrev cX11_streamAt : ByteArray := prog_1_method_19_code
def yX11_streamAt : MethodName := ⟨RX11, "streamAt", "(I)LFrequencySketches$Stream;"⟩
abbrev cX11_sketchAt : ByteArray := prog_1_method_20_code
def yX11_sketchAt : MethodName := ⟨RX11, "sketchAt", "(II)LFrequencySketches$Sketch;"⟩
abbrev cX11_allStreamsEmpty : ByteArray := prog_1_method_21_code
def yX11_allStreamsEmpty : MethodName := ⟨RX11, "allStreamsEmpty", "()Z"⟩
abbrev cX11_within : ByteArray := prog_1_method_22_code
def yX11_within : MethodName := ⟨RX11, "within", "(III)I"⟩
abbrev cX11_leastPrimeFrom : ByteArray := prog_1_method_23_code
def yX11_leastPrimeFrom : MethodName := ⟨RX11, "leastPrimeFrom", "(I)I"⟩
abbrev cX11_isPrime : ByteArray := prog_1_method_24_code
def yX11_isPrime : MethodName := ⟨RX11, "isPrime", "(I)Z"⟩
def RX12 : String := "FrequencySketchesModel"
def TX12 : u_T := fun k => match k with
  | 0 => ("FrequencySketchesModel", "prime", "I", true)
  | 1 => ("FrequencySketchesModel", "width", "I", true)
  | 2 => ("FrequencySketchesModel", "rows", "I", true)
  | 3 => ("FrequencySketchesModel", "counters", "I", true)
  | 4 => ("FrequencySketchesModel", "first", "[I", true)
  | 5 => ("FrequencySketchesModel", "second", "[I", true)
  | 6 => ("FrequencySketchesModel", "total", "[J", true)
  | 7 => ("FrequencySketchesModel", "plain", "[J", true)
  | 8 => ("FrequencySketchesModel", "careful", "[J", true)
  | 9 => ("FrequencySketchesModel", "misras", "[I", true)
  | 10 => ("FrequencySketchesModel", "taken", "[J", true)
  | 11 => ("FrequencySketchesModel", "misraKey", "[I", true)
  | 12 => ("FrequencySketchesModel", "misra", "[J", true)
  | 13 => ("FrequencySketchesModel", "savings", "[I", true)
  | 14 => ("FrequencySketchesModel", "savingKey", "[I", true)
  | 15 => ("FrequencySketchesModel", "saving", "[J", true)
  | 16 => ("FrequencySketchesModel", "error", "[J", true)
  | 17 => ("FrequencySketchesModel", "keys", "[I", true)
  | 18 => ("FrequencySketchesModel", "isGone", "[Z", true)
  | 19 => ("FrequencySketchesModel", "key", "[I", true)
  | 20 => ("FrequencySketchesModel", "times", "[J", true)
  | 21 => ("FrequencySketchesModel", "reports", "I", false)
  | 22 => ("FrequencySketchesModel", "reportKey", "[I", true)
  | 23 => ("FrequencySketchesModel", "report", "[J", true)
  | 24 => ("FrequencySketchesModel", "pooled", "I", false)
  | 25 => ("FrequencySketchesModel", "poolKey", "[I", true)
  | 26 => ("FrequencySketchesModel", "pool", "[J", true)
  | _ => ("FrequencySketchesModel", "poolError", "[J", true)
def tyX12 : Nat → FieldType := fun k => match k with
  | 0 => .int
  | 1 => .int
  | 2 => .int
  | 3 => .int
  | 4 => .array .int
  | 5 => .array .int
  | 6 => .array .long
  | 7 => .array .long
  | 8 => .array .long
  | 9 => .array .int
  | 10 => .array .long
  | 11 => .array .int
  | 12 => .array .long
  | 13 => .array .int
  | 14 => .array .int
  | 15 => .array .long
  | 16 => .array .long
  | 17 => .array .int
  | 18 => .array .boolean
  | 19 => .array .int
  | 20 => .array .long
  | 21 => .int
  | 22 => .array .int
  | 23 => .array .long
  | 24 => .int
  | 25 => .array .int
  | 26 => .array .long
  | _ => .array .long
theorem nmX12 : ∀ a, a < 28 → ∀ b, b < 28 → a ≠ b → (TX12 a).2.1 ≠ (TX12 b).2.1 := by decide +kernel
theorem tyX12_ok : ∀ k, k < 28 → parseFieldDescriptor (TX12 k).2.2.1 = some (tyX12 k) := by decide +kernel
abbrev cX12_within : ByteArray := prog_14_method_1_code
def yX12_within : MethodName := ⟨RX12, "within", "(III)I"⟩
abbrev cX12_isPrime : ByteArray := prog_14_method_2_code
def yX12_isPrime : MethodName := ⟨RX12, "isPrime", "(I)Z"⟩
abbrev cX12_init : ByteArray := prog_14_method_3_code
def yX12_init : MethodName := ⟨RX12, "<init>", "(IIII)V"⟩
abbrev cX12_in : ByteArray := prog_14_method_4_code
def yX12_in : MethodName := ⟨RX12, "in", "(III)Z"⟩
abbrev cX12_isStream : ByteArray := prog_14_method_5_code
def yX12_isStream : MethodName := ⟨RX12, "isStream", "(I)Z"⟩
abbrev cX12_isKey : ByteArray := prog_14_method_6_code
def yX12_isKey : MethodName := ⟨RX12, "isKey", "(I)Z"⟩
abbrev cX12_size : ByteArray := prog_14_method_7_code
def yX12_size : MethodName := ⟨RX12, "size", "(I)I"⟩
abbrev cX12_pair : ByteArray := prog_14_method_8_code
def yX12_pair : MethodName := ⟨RX12, "pair", "(III)Z"⟩
abbrev cX12_hashed : ByteArray := prog_14_method_9_code
def yX12_hashed : MethodName := ⟨RX12, "hashed", "(III)I"⟩
abbrev cX12_hash : ByteArray := prog_14_method_10_code
def yX12_hash : MethodName := ⟨RX12, "hash", "(II)I"⟩
abbrev cX12_cellOf : ByteArray := prog_14_method_11_code
def yX12_cellOf : MethodName := ⟨RX12, "cellOf", "(III)I"⟩
abbrev cX12_leastPlain : ByteArray := prog_14_method_12_code
def yX12_leastPlain : MethodName := ⟨RX12, "leastPlain", "(II)J"⟩
abbrev cX12_leastCareful : ByteArray := prog_14_method_13_code
def yX12_leastCareful : MethodName := ⟨RX12, "leastCareful", "(II)J"⟩
abbrev cX12_misraAt : ByteArray := prog_14_method_14_code
def yX12_misraAt : MethodName := ⟨RX12, "misraAt", "(II)I"⟩
abbrev cX12_savingAt : ByteArray := prog_14_method_15_code
def yX12_savingAt : MethodName := ⟨RX12, "savingAt", "(II)I"⟩
abbrev cX12_keyAt : ByteArray := prog_14_method_16_code
def yX12_keyAt : MethodName := ⟨RX12, "keyAt", "(II)I"⟩
abbrev cX12_comes : ByteArray := prog_14_method_17_code
def yX12_comes : MethodName := ⟨RX12, "comes", "(II)V"⟩
abbrev cX12_comesMisra : ByteArray := prog_14_method_18_code
def yX12_comesMisra : MethodName := ⟨RX12, "comesMisra", "(II)V"⟩
abbrev cX12_takes : ByteArray := prog_14_method_19_code
def yX12_takes : MethodName := ⟨RX12, "takes", "(IJ)V"⟩
abbrev cX12_comesSaving : ByteArray := prog_14_method_20_code
def yX12_comesSaving : MethodName := ⟨RX12, "comesSaving", "(II)V"⟩
abbrev cX12_moveSaving : ByteArray := prog_14_method_21_code
def yX12_moveSaving : MethodName := ⟨RX12, "moveSaving", "(II)V"⟩
abbrev cX12_comesCounts : ByteArray := prog_14_method_22_code
def yX12_comesCounts : MethodName := ⟨RX12, "comesCounts", "(IIJ)V"⟩
abbrev cX12_add : ByteArray := prog_14_method_23_code
def yX12_add : MethodName := ⟨RX12, "add", "(III)J"⟩
abbrev cX12_clear : ByteArray := prog_14_method_24_code
def yX12_clear : MethodName := ⟨RX12, "clear", "(I)Z"⟩
abbrev cX12_copy : ByteArray := prog_14_method_25_code
def yX12_copy : MethodName := ⟨RX12, "copy", "(II)Z"⟩
abbrev cX12_pooledAt : ByteArray := prog_14_method_26_code
def yX12_pooledAt : MethodName := ⟨RX12, "pooledAt", "(I)I"⟩
abbrev cX12_pools : ByteArray := prog_14_method_27_code
def yX12_pools : MethodName := ⟨RX12, "pools", "(IJJ)V"⟩
abbrev cX12_join : ByteArray := prog_14_method_28_code
def yX12_join : MethodName := ⟨RX12, "join", "(II)J"⟩
abbrev cX12_joinMisra : ByteArray := prog_14_method_29_code
def yX12_joinMisra : MethodName := ⟨RX12, "joinMisra", "(II)V"⟩
abbrev cX12_greatest : ByteArray := prog_14_method_30_code
def yX12_greatest : MethodName := ⟨RX12, "greatest", "(I)J"⟩
abbrev cX12_least : ByteArray := prog_14_method_31_code
def yX12_least : MethodName := ⟨RX12, "least", "(I)J"⟩
abbrev cX12_joinSaving : ByteArray := prog_14_method_32_code
def yX12_joinSaving : MethodName := ⟨RX12, "joinSaving", "(II)V"⟩
abbrev cX12_sortLike : ByteArray := prog_14_method_33_code
def yX12_sortLike : MethodName := ⟨RX12, "sortLike", "(I)V"⟩
abbrev cX12_joinCounts : ByteArray := prog_14_method_34_code
def yX12_joinCounts : MethodName := ⟨RX12, "joinCounts", "(II)V"⟩
abbrev cX12_total : ByteArray := prog_14_method_35_code
def yX12_total : MethodName := ⟨RX12, "total", "(I)J"⟩
abbrev cX12_one : ByteArray := prog_14_method_36_code
def yX12_one : MethodName := ⟨RX12, "one", "(IIII)J"⟩
abbrev cX12_estimated : ByteArray := prog_14_method_37_code
def yX12_estimated : MethodName := ⟨RX12, "estimated", "(IIII)J"⟩
abbrev cX12_estimate : ByteArray := prog_14_method_38_code
def yX12_estimate : MethodName := ⟨RX12, "estimate", "(IIII)J"⟩
abbrev cX12_count : ByteArray := prog_14_method_39_code
def yX12_count : MethodName := ⟨RX12, "count", "(II)J"⟩
abbrev cX12_cell : ByteArray := prog_14_method_40_code
def yX12_cell : MethodName := ⟨RX12, "cell", "(IIII)J"⟩
abbrev cX12_counter : ByteArray := prog_14_method_41_code
def yX12_counter : MethodName := ⟨RX12, "counter", "(IIII)J"⟩
abbrev cX12_state : ByteArray := prog_14_method_42_code
def yX12_state : MethodName := ⟨RX12, "state", "(II)J"⟩
abbrev cX12_report : ByteArray := prog_14_method_43_code
def yX12_report : MethodName := ⟨RX12, "report", "(IIIZ)I"⟩
abbrev cX12_reports : ByteArray := prog_14_method_44_code
def yX12_reports : MethodName := ⟨RX12, "reports", "(IJ)V"⟩
abbrev cX12_reported : ByteArray := prog_14_method_45_code
def yX12_reported : MethodName := ⟨RX12, "reported", "(II)J"⟩
abbrev cX12_overcounts : ByteArray := prog_14_method_46_code
def yX12_overcounts : MethodName := ⟨RX12, "overcounts", "(II)J"⟩
abbrev cX12_isWithin : ByteArray := prog_14_method_47_code
def yX12_isWithin : MethodName := ⟨RX12, "isWithin", "(II)Z"⟩
abbrev cX12_audit : ByteArray := prog_14_method_48_code
def yX12_audit : MethodName := ⟨RX12, "audit", "(I)I"⟩
def RJ9 : String := "java/lang/Math"
def TJ9 : u_T := fun k => match k with
  | _ => ("", "", "", false)
def tyJ9 : Nat → FieldType := fun k => match k with
  | _ => .int
theorem nmJ9 : ∀ a, a < 0 → ∀ b, b < 0 → a ≠ b → (TJ9 a).2.1 ≠ (TJ9 b).2.1 := by decide +kernel
theorem tyJ9_ok : ∀ k, k < 0 → parseFieldDescriptor (TJ9 k).2.2.1 = some (tyJ9 k) := by decide +kernel
abbrev cJ9_max_7cf53 : ByteArray := prog_15_method_65_code
def yJ9_max_7cf53 : MethodName := ⟨RJ9, "max", "(II)I"⟩
abbrev cJ9_max_f86c9 : ByteArray := prog_15_method_66_code
def yJ9_max_f86c9 : MethodName := ⟨RJ9, "max", "(JJ)J"⟩
abbrev cJ9_min_7cf53 : ByteArray := prog_15_method_69_code
def yJ9_min_7cf53 : MethodName := ⟨RJ9, "min", "(II)I"⟩
abbrev cJ9_min_f86c9 : ByteArray := prog_15_method_70_code
def yJ9_min_f86c9 : MethodName := ⟨RJ9, "min", "(JJ)J"⟩
def RJ10 : String := "java/lang/System"
def TJ10 : u_T := fun k => match k with
  | _ => ("", "", "", false)
def tyJ10 : Nat → FieldType := fun k => match k with
  | _ => .int
theorem nmJ10 : ∀ a, a < 0 → ∀ b, b < 0 → a ≠ b → (TJ10 a).2.1 ≠ (TJ10 b).2.1 := by decide +kernel
theorem tyJ10_ok : ∀ k, k < 0 → parseFieldDescriptor (TJ10 k).2.2.1 = some (tyJ10 k) := by decide +kernel
def RJ7 : String := "java/util/Arrays"
def TJ7 : u_T := fun k => match k with
  | _ => ("", "", "", false)
def tyJ7 : Nat → FieldType := fun k => match k with
  | _ => .int
theorem nmJ7 : ∀ a, a < 0 → ∀ b, b < 0 → a ≠ b → (TJ7 a).2.1 ≠ (TJ7 b).2.1 := by decide +kernel
theorem tyJ7_ok : ∀ k, k < 0 → parseFieldDescriptor (TJ7 k).2.2.1 = some (tyJ7 k) := by decide +kernel
abbrev cJ7_fill_d0a16 : ByteArray := prog_17_method_101_code
def yJ7_fill_d0a16 : MethodName := ⟨RJ7, "fill", "([JJ)V"⟩
def RL : String := "FrequencySketchesLaw"
abbrev cL_cell : ByteArray := method_2_code
def yL_cell : MethodName := ⟨RL, "cell", "([II)I"⟩
abbrev cL_law : ByteArray := code
def yL_law : MethodName := ⟨RL, "law", "([I)Z"⟩
abbrev vwCl : List vw_C := [(RX0, TX0, 4), (RX1, TX1, 6), (RX2, TX2, 4), (RX3, TX3, 5), (RX4, TX4, 3), (RX5, TX5, 1), (RX6, TX6, 2), (RX7, TX7, 3), (RX8, TX8, 1), (RX10, TX10, 7), (RX11, TX11, 4), (RX12, TX12, 28)]
theorem lays_X0 : u_ws RX0 TX0 4 = ([247, 249, 251, 253] : List Nat).filterMap (fun i => lw_tbl[i]?) := by decide +kernel
theorem in_X0 : ∀ w ∈ u_ws RX0 TX0 4, w ∈ lw_tbl := fun w hw => by rw [lays_X0] at hw; obtain ⟨i, -, hi⟩ := List.mem_filterMap.mp hw; exact List.mem_of_getElem? hi
theorem lays_X1 : u_ws RX1 TX1 6 = ([173, 175, 177, 179, 181, 183] : List Nat).filterMap (fun i => lw_tbl[i]?) := by decide +kernel
theorem in_X1 : ∀ w ∈ u_ws RX1 TX1 6, w ∈ lw_tbl := fun w hw => by rw [lays_X1] at hw; obtain ⟨i, -, hi⟩ := List.mem_filterMap.mp hw; exact List.mem_of_getElem? hi
theorem lays_X2 : u_ws RX2 TX2 4 = ([226, 228, 230, 232] : List Nat).filterMap (fun i => lw_tbl[i]?) := by decide +kernel
theorem in_X2 : ∀ w ∈ u_ws RX2 TX2 4, w ∈ lw_tbl := fun w hw => by rw [lays_X2] at hw; obtain ⟨i, -, hi⟩ := List.mem_filterMap.mp hw; exact List.mem_of_getElem? hi
theorem lays_X3 : u_ws RX3 TX3 5 = ([98, 100, 102, 104, 106] : List Nat).filterMap (fun i => lw_tbl[i]?) := by decide +kernel
theorem in_X3 : ∀ w ∈ u_ws RX3 TX3 5, w ∈ lw_tbl := fun w hw => by rw [lays_X3] at hw; obtain ⟨i, -, hi⟩ := List.mem_filterMap.mp hw; exact List.mem_of_getElem? hi
theorem lays_X4 : u_ws RX4 TX4 3 = ([126, 128, 130] : List Nat).filterMap (fun i => lw_tbl[i]?) := by decide +kernel
theorem in_X4 : ∀ w ∈ u_ws RX4 TX4 3, w ∈ lw_tbl := fun w hw => by rw [lays_X4] at hw; obtain ⟨i, -, hi⟩ := List.mem_filterMap.mp hw; exact List.mem_of_getElem? hi
theorem lays_X5 : u_ws RX5 TX5 1 = ([153] : List Nat).filterMap (fun i => lw_tbl[i]?) := by decide +kernel
theorem in_X5 : ∀ w ∈ u_ws RX5 TX5 1, w ∈ lw_tbl := fun w hw => by rw [lays_X5] at hw; obtain ⟨i, -, hi⟩ := List.mem_filterMap.mp hw; exact List.mem_of_getElem? hi
theorem lays_X6 : u_ws RX6 TX6 2 = ([192, 194] : List Nat).filterMap (fun i => lw_tbl[i]?) := by decide +kernel
theorem in_X6 : ∀ w ∈ u_ws RX6 TX6 2, w ∈ lw_tbl := fun w hw => by rw [lays_X6] at hw; obtain ⟨i, -, hi⟩ := List.mem_filterMap.mp hw; exact List.mem_of_getElem? hi
theorem lays_X7 : u_ws RX7 TX7 3 = ([294, 296, 298] : List Nat).filterMap (fun i => lw_tbl[i]?) := by decide +kernel
theorem in_X7 : ∀ w ∈ u_ws RX7 TX7 3, w ∈ lw_tbl := fun w hw => by rw [lays_X7] at hw; obtain ⟨i, -, hi⟩ := List.mem_filterMap.mp hw; exact List.mem_of_getElem? hi
theorem lays_X8 : u_ws RX8 TX8 1 = ([207] : List Nat).filterMap (fun i => lw_tbl[i]?) := by decide +kernel
theorem in_X8 : ∀ w ∈ u_ws RX8 TX8 1, w ∈ lw_tbl := fun w hw => by rw [lays_X8] at hw; obtain ⟨i, -, hi⟩ := List.mem_filterMap.mp hw; exact List.mem_of_getElem? hi
theorem lays_X10 : u_ws RX10 TX10 7 = ([270, 272, 274, 276, 278, 280, 282] : List Nat).filterMap (fun i => lw_tbl[i]?) := by decide +kernel
theorem in_X10 : ∀ w ∈ u_ws RX10 TX10 7, w ∈ lw_tbl := fun w hw => by rw [lays_X10] at hw; obtain ⟨i, -, hi⟩ := List.mem_filterMap.mp hw; exact List.mem_of_getElem? hi
theorem lays_X11 : u_ws RX11 TX11 4 = ([305, 307, 309, 311] : List Nat).filterMap (fun i => lw_tbl[i]?) := by decide +kernel
theorem in_X11 : ∀ w ∈ u_ws RX11 TX11 4, w ∈ lw_tbl := fun w hw => by rw [lays_X11] at hw; obtain ⟨i, -, hi⟩ := List.mem_filterMap.mp hw; exact List.mem_of_getElem? hi
theorem lays_X12 : u_ws RX12 TX12 28 = ([816, 818, 820, 822, 824, 826, 828, 830, 832, 834, 836, 838, 840, 842, 844, 846, 848, 850, 852, 854, 856, 858, 860, 862, 864, 866, 868, 870] : List Nat).filterMap (fun i => lw_tbl[i]?) := by decide +kernel
theorem in_X12 : ∀ w ∈ u_ws RX12 TX12 28, w ∈ lw_tbl := fun w hw => by rw [lays_X12] at hw; obtain ⟨i, -, hi⟩ := List.mem_filterMap.mp hw; exact List.mem_of_getElem? hi
end
section
theorem dX0_init_0 : decode cX0_init 0 = .ok (.aload_n 0, 1) := by decide +kernel
theorem dX0_init_1 : decode cX0_init 1 = .ok (.invokespecial 1, 3) := by decide +kernel
theorem dX0_init_4 : decode cX0_init 4 = .ok (.aload_n 0, 1) := by decide +kernel
theorem dX0_init_5 : decode cX0_init 5 = .ok (.aload_n 1, 1) := by decide +kernel
theorem dX0_init_6 : decode cX0_init 6 = .ok (.putfield 7, 3) := by decide +kernel
theorem dX0_init_9 : decode cX0_init 9 = .ok (.aload_n 0, 1) := by decide +kernel
theorem dX0_init_10 : decode cX0_init 10 = .ok (.aload_n 2, 1) := by decide +kernel
theorem dX0_init_11 : decode cX0_init 11 = .ok (.putfield 13, 3) := by decide +kernel
theorem dX0_init_14 : decode cX0_init 14 = .ok (.aload_n 0, 1) := by decide +kernel
theorem dX0_init_15 : decode cX0_init 15 = .ok (.aload_n 3, 1) := by decide +kernel
theorem dX0_init_16 : decode cX0_init 16 = .ok (.putfield 16, 3) := by decide +kernel
theorem dX0_init_19 : decode cX0_init 19 = .ok (.aload_n 0, 1) := by decide +kernel
theorem dX0_init_20 : decode cX0_init 20 = .ok (.aload 4, 2) := by decide +kernel
theorem dX0_init_22 : decode cX0_init 22 = .ok (.putfield 20, 3) := by decide +kernel
theorem dX0_init_25 : decode cX0_init 25 = .ok (.return_, 1) := by decide +kernel
theorem dX0_guess_0 : decode cX0_guess 0 = .ok (.aload_n 0, 1) := by decide +kernel
theorem dX0_guess_1 : decode cX0_guess 1 = .ok (.iload_n 1, 1) := by decide +kernel
theorem dX0_guess_2 : decode cX0_guess 2 = .ok (.invokevirtual 24, 3) := by decide +kernel
theorem dX0_guess_5 : decode cX0_guess 5 = .ok (.aload_n 0, 1) := by decide +kernel
theorem dX0_guess_6 : decode cX0_guess 6 = .ok (.iload_n 1, 1) := by decide +kernel
theorem dX0_guess_7 : decode cX0_guess 7 = .ok (.invokevirtual 28, 3) := by decide +kernel
theorem dX0_guess_10 : decode cX0_guess 10 = .ok (.ladd, 1) := by decide +kernel
theorem dX0_guess_11 : decode cX0_guess 11 = .ok (.ldc2_w 31, 3) := by decide +kernel
theorem dX0_guess_14 : decode cX0_guess 14 = .ok (.ldiv, 1) := by decide +kernel
theorem dX0_guess_15 : decode cX0_guess 15 = .ok (.lreturn, 1) := by decide +kernel
theorem dX0_low_0 : decode cX0_low 0 = .ok (.aload_n 0, 1) := by decide +kernel
theorem dX0_low_1 : decode cX0_low 1 = .ok (.getfield 7, 3) := by decide +kernel
theorem dX0_low_4 : decode cX0_low 4 = .ok (.iload_n 1, 1) := by decide +kernel
theorem dX0_low_5 : decode cX0_low 5 = .ok (.invokevirtual 33, 3) := by decide +kernel
theorem dX0_low_8 : decode cX0_low 8 = .ok (.aload_n 0, 1) := by decide +kernel
theorem dX0_low_9 : decode cX0_low 9 = .ok (.getfield 13, 3) := by decide +kernel
theorem dX0_low_12 : decode cX0_low 12 = .ok (.iload_n 1, 1) := by decide +kernel
theorem dX0_low_13 : decode cX0_low 13 = .ok (.invokevirtual 33, 3) := by decide +kernel
theorem dX0_low_16 : decode cX0_low 16 = .ok (.invokestatic 36, 3) := by decide +kernel
theorem dX0_low_19 : decode cX0_low 19 = .ok (.lstore_n 2, 1) := by decide +kernel
theorem dX0_low_20 : decode cX0_low 20 = .ok (.lload_n 2, 1) := by decide +kernel
theorem dX0_low_21 : decode cX0_low 21 = .ok (.aload_n 0, 1) := by decide +kernel
theorem dX0_low_22 : decode cX0_low 22 = .ok (.getfield 16, 3) := by decide +kernel
theorem dX0_low_25 : decode cX0_low 25 = .ok (.iload_n 1, 1) := by decide +kernel
theorem dX0_low_26 : decode cX0_low 26 = .ok (.invokevirtual 42, 3) := by decide +kernel
theorem dX0_low_29 : decode cX0_low 29 = .ok (.aload_n 0, 1) := by decide +kernel
theorem dX0_low_30 : decode cX0_low 30 = .ok (.getfield 20, 3) := by decide +kernel
theorem dX0_low_33 : decode cX0_low 33 = .ok (.iload_n 1, 1) := by decide +kernel
theorem dX0_low_34 : decode cX0_low 34 = .ok (.invokevirtual 45, 3) := by decide +kernel
theorem dX0_low_37 : decode cX0_low 37 = .ok (.invokestatic 36, 3) := by decide +kernel
theorem dX0_low_40 : decode cX0_low 40 = .ok (.invokestatic 36, 3) := by decide +kernel
theorem dX0_low_43 : decode cX0_low 43 = .ok (.lreturn, 1) := by decide +kernel
theorem dX0_high_0 : decode cX0_high 0 = .ok (.aload_n 0, 1) := by decide +kernel
theorem dX0_high_1 : decode cX0_high 1 = .ok (.getfield 16, 3) := by decide +kernel
theorem dX0_high_4 : decode cX0_high 4 = .ok (.iload_n 1, 1) := by decide +kernel
theorem dX0_high_5 : decode cX0_high 5 = .ok (.invokevirtual 48, 3) := by decide +kernel
theorem dX0_high_8 : decode cX0_high 8 = .ok (.aload_n 0, 1) := by decide +kernel
theorem dX0_high_9 : decode cX0_high 9 = .ok (.getfield 20, 3) := by decide +kernel
theorem dX0_high_12 : decode cX0_high 12 = .ok (.iload_n 1, 1) := by decide +kernel
theorem dX0_high_13 : decode cX0_high 13 = .ok (.invokevirtual 49, 3) := by decide +kernel
theorem dX0_high_16 : decode cX0_high 16 = .ok (.invokestatic 50, 3) := by decide +kernel
theorem dX0_high_19 : decode cX0_high 19 = .ok (.lstore_n 2, 1) := by decide +kernel
theorem dX0_high_20 : decode cX0_high 20 = .ok (.lload_n 2, 1) := by decide +kernel
theorem dX0_high_21 : decode cX0_high 21 = .ok (.lconst 0, 1) := by decide +kernel
theorem dX0_high_22 : decode cX0_high 22 = .ok (.lcmp, 1) := by decide +kernel
theorem dX0_high_23 : decode cX0_high 23 = .ok (.ifCond .ne 5, 3) := by decide +kernel
theorem dX0_high_26 : decode cX0_high 26 = .ok (.lconst 0, 1) := by decide +kernel
theorem dX0_high_27 : decode cX0_high 27 = .ok (.lreturn, 1) := by decide +kernel
theorem dX0_high_28 : decode cX0_high 28 = .ok (.lload_n 2, 1) := by decide +kernel
theorem dX0_high_29 : decode cX0_high 29 = .ok (.aload_n 0, 1) := by decide +kernel
theorem dX0_high_30 : decode cX0_high 30 = .ok (.getfield 7, 3) := by decide +kernel
theorem dX0_high_33 : decode cX0_high 33 = .ok (.iload_n 1, 1) := by decide +kernel
theorem dX0_high_34 : decode cX0_high 34 = .ok (.invokevirtual 53, 3) := by decide +kernel
theorem dX0_high_37 : decode cX0_high 37 = .ok (.aload_n 0, 1) := by decide +kernel
theorem dX0_high_38 : decode cX0_high 38 = .ok (.getfield 13, 3) := by decide +kernel
theorem dX0_high_41 : decode cX0_high 41 = .ok (.iload_n 1, 1) := by decide +kernel
theorem dX0_high_42 : decode cX0_high 42 = .ok (.invokevirtual 53, 3) := by decide +kernel
theorem dX0_high_45 : decode cX0_high 45 = .ok (.invokestatic 50, 3) := by decide +kernel
theorem dX0_high_48 : decode cX0_high 48 = .ok (.invokestatic 50, 3) := by decide +kernel
theorem dX0_high_51 : decode cX0_high 51 = .ok (.lreturn, 1) := by decide +kernel
theorem dX1_init_0 : decode cX1_init 0 = .ok (.aload_n 0, 1) := by decide +kernel
theorem dX1_init_1 : decode cX1_init 1 = .ok (.invokespecial 3, 3) := by decide +kernel
theorem dX1_init_4 : decode cX1_init 4 = .ok (.aload_n 0, 1) := by decide +kernel
theorem dX1_init_5 : decode cX1_init 5 = .ok (.iload_n 2, 1) := by decide +kernel
theorem dX1_init_6 : decode cX1_init 6 = .ok (.putfield 9, 3) := by decide +kernel
theorem dX1_init_9 : decode cX1_init 9 = .ok (.aload_n 0, 1) := by decide +kernel
theorem dX1_init_10 : decode cX1_init 10 = .ok (.iconst 2, 1) := by decide +kernel
theorem dX1_init_11 : decode cX1_init 11 = .ok (.iload_n 2, 1) := by decide +kernel
theorem dX1_init_12 : decode cX1_init 12 = .ok (.imul, 1) := by decide +kernel
theorem dX1_init_13 : decode cX1_init 13 = .ok (.newarray .int, 2) := by decide +kernel
theorem dX1_init_15 : decode cX1_init 15 = .ok (.putfield 15, 3) := by decide +kernel
theorem dX1_init_18 : decode cX1_init 18 = .ok (.aload_n 0, 1) := by decide +kernel
theorem dX1_init_19 : decode cX1_init 19 = .ok (.iconst 2, 1) := by decide +kernel
theorem dX1_init_20 : decode cX1_init 20 = .ok (.iload_n 2, 1) := by decide +kernel
theorem dX1_init_21 : decode cX1_init 21 = .ok (.imul, 1) := by decide +kernel
theorem dX1_init_22 : decode cX1_init 22 = .ok (.newarray .long, 2) := by decide +kernel
theorem dX1_init_24 : decode cX1_init 24 = .ok (.putfield 19, 3) := by decide +kernel
theorem dX1_init_27 : decode cX1_init 27 = .ok (.aload_n 0, 1) := by decide +kernel
theorem dX1_init_28 : decode cX1_init 28 = .ok (.iconst 2, 1) := by decide +kernel
theorem dX1_init_29 : decode cX1_init 29 = .ok (.iload_n 2, 1) := by decide +kernel
theorem dX1_init_30 : decode cX1_init 30 = .ok (.imul, 1) := by decide +kernel
theorem dX1_init_31 : decode cX1_init 31 = .ok (.newarray .long, 2) := by decide +kernel
theorem dX1_init_33 : decode cX1_init 33 = .ok (.putfield 23, 3) := by decide +kernel
theorem dX1_init_36 : decode cX1_init 36 = .ok (.aload_n 0, 1) := by decide +kernel
theorem dX1_init_37 : decode cX1_init 37 = .ok (.new 26, 3) := by decide +kernel
theorem dX1_init_40 : decode cX1_init 40 = .ok (.dup, 1) := by decide +kernel
theorem dX1_init_41 : decode cX1_init 41 = .ok (.iload_n 1, 1) := by decide +kernel
theorem dX1_init_42 : decode cX1_init 42 = .ok (.invokespecial 28, 3) := by decide +kernel
theorem dX1_init_45 : decode cX1_init 45 = .ok (.putfield 31, 3) := by decide +kernel
theorem dX1_init_48 : decode cX1_init 48 = .ok (.return_, 1) := by decide +kernel
theorem dX1_isFull_0 : decode cX1_isFull 0 = .ok (.aload_n 0, 1) := by decide +kernel
theorem dX1_isFull_1 : decode cX1_isFull 1 = .ok (.getfield 35, 3) := by decide +kernel
theorem dX1_isFull_4 : decode cX1_isFull 4 = .ok (.aload_n 0, 1) := by decide +kernel
theorem dX1_isFull_5 : decode cX1_isFull 5 = .ok (.getfield 9, 3) := by decide +kernel
theorem dX1_isFull_8 : decode cX1_isFull 8 = .ok (.if_icmp .lt 7, 3) := by decide +kernel
theorem dX1_isFull_11 : decode cX1_isFull 11 = .ok (.iconst 1, 1) := by decide +kernel
theorem dX1_isFull_12 : decode cX1_isFull 12 = .ok (.goto 4, 3) := by decide +kernel
theorem dX1_isFull_15 : decode cX1_isFull 15 = .ok (.iconst 0, 1) := by decide +kernel
theorem dX1_isFull_16 : decode cX1_isFull 16 = .ok (.ireturn, 1) := by decide +kernel
theorem dX1_find_0 : decode cX1_find 0 = .ok (.aload_n 0, 1) := by decide +kernel
theorem dX1_find_1 : decode cX1_find 1 = .ok (.getfield 31, 3) := by decide +kernel
theorem dX1_find_4 : decode cX1_find 4 = .ok (.iload_n 1, 1) := by decide +kernel
theorem dX1_find_5 : decode cX1_find 5 = .ok (.invokevirtual 38, 3) := by decide +kernel
theorem dX1_find_8 : decode cX1_find 8 = .ok (.ifCond .eq 31, 3) := by decide +kernel
theorem dX1_find_11 : decode cX1_find 11 = .ok (.iconst 0, 1) := by decide +kernel
theorem dX1_find_12 : decode cX1_find 12 = .ok (.istore_n 2, 1) := by decide +kernel
theorem dX1_find_13 : decode cX1_find 13 = .ok (.iload_n 2, 1) := by decide +kernel
theorem dX1_find_14 : decode cX1_find 14 = .ok (.aload_n 0, 1) := by decide +kernel
theorem dX1_find_15 : decode cX1_find 15 = .ok (.getfield 35, 3) := by decide +kernel
theorem dX1_find_18 : decode cX1_find 18 = .ok (.if_icmp .ge 21, 3) := by decide +kernel
theorem dX1_find_21 : decode cX1_find 21 = .ok (.aload_n 0, 1) := by decide +kernel
theorem dX1_find_22 : decode cX1_find 22 = .ok (.getfield 15, 3) := by decide +kernel
theorem dX1_find_25 : decode cX1_find 25 = .ok (.iload_n 2, 1) := by decide +kernel
theorem dX1_find_26 : decode cX1_find 26 = .ok (.iaload, 1) := by decide +kernel
theorem dX1_find_27 : decode cX1_find 27 = .ok (.iload_n 1, 1) := by decide +kernel
theorem dX1_find_28 : decode cX1_find 28 = .ok (.if_icmp .ne 5, 3) := by decide +kernel
theorem dX1_find_31 : decode cX1_find 31 = .ok (.iload_n 2, 1) := by decide +kernel
theorem dX1_find_32 : decode cX1_find 32 = .ok (.ireturn, 1) := by decide +kernel
theorem dX1_find_33 : decode cX1_find 33 = .ok (.iinc 2 1, 3) := by decide +kernel
theorem dX1_find_36 : decode cX1_find 36 = .ok (.goto (-23), 3) := by decide +kernel
theorem dX1_find_39 : decode cX1_find 39 = .ok (.iconst (-1), 1) := by decide +kernel
theorem dX1_find_40 : decode cX1_find 40 = .ok (.ireturn, 1) := by decide +kernel
theorem dX1_tell_0 : decode cX1_tell 0 = .ok (.iload_n 1, 1) := by decide +kernel
theorem dX1_tell_1 : decode cX1_tell 1 = .ok (.ifCond .lt 11, 3) := by decide +kernel
theorem dX1_tell_4 : decode cX1_tell 4 = .ok (.iload_n 1, 1) := by decide +kernel
theorem dX1_tell_5 : decode cX1_tell 5 = .ok (.aload_n 0, 1) := by decide +kernel
theorem dX1_tell_6 : decode cX1_tell 6 = .ok (.getfield 35, 3) := by decide +kernel
theorem dX1_tell_9 : decode cX1_tell 9 = .ok (.if_icmp .lt 7, 3) := by decide +kernel
theorem dX1_tell_12 : decode cX1_tell 12 = .ok (.ldc2_w 42, 3) := by decide +kernel
theorem dX1_tell_15 : decode cX1_tell 15 = .ok (.lreturn, 1) := by decide +kernel
theorem dX1_tell_16 : decode cX1_tell 16 = .ok (.iload_n 2, 1) := by decide +kernel
theorem dX1_tell_17 : decode cX1_tell 17 = .ok (.tableswitch 49 0 2 #[27, 35, 42], 27) := by decide +kernel
theorem dX1_tell_44 : decode cX1_tell 44 = .ok (.aload_n 0, 1) := by decide +kernel
theorem dX1_tell_45 : decode cX1_tell 45 = .ok (.getfield 15, 3) := by decide +kernel
theorem dX1_tell_48 : decode cX1_tell 48 = .ok (.iload_n 1, 1) := by decide +kernel
theorem dX1_tell_49 : decode cX1_tell 49 = .ok (.iaload, 1) := by decide +kernel
theorem dX1_tell_50 : decode cX1_tell 50 = .ok (.i2l, 1) := by decide +kernel
theorem dX1_tell_51 : decode cX1_tell 51 = .ok (.lreturn, 1) := by decide +kernel
theorem dX1_tell_52 : decode cX1_tell 52 = .ok (.aload_n 0, 1) := by decide +kernel
theorem dX1_tell_53 : decode cX1_tell 53 = .ok (.getfield 19, 3) := by decide +kernel
theorem dX1_tell_56 : decode cX1_tell 56 = .ok (.iload_n 1, 1) := by decide +kernel
theorem dX1_tell_57 : decode cX1_tell 57 = .ok (.laload, 1) := by decide +kernel
theorem dX1_tell_58 : decode cX1_tell 58 = .ok (.lreturn, 1) := by decide +kernel
theorem dX1_tell_59 : decode cX1_tell 59 = .ok (.aload_n 0, 1) := by decide +kernel
theorem dX1_tell_60 : decode cX1_tell 60 = .ok (.getfield 23, 3) := by decide +kernel
theorem dX1_tell_63 : decode cX1_tell 63 = .ok (.iload_n 1, 1) := by decide +kernel
theorem dX1_tell_64 : decode cX1_tell 64 = .ok (.laload, 1) := by decide +kernel
theorem dX1_tell_65 : decode cX1_tell 65 = .ok (.lreturn, 1) := by decide +kernel
theorem dX1_tell_66 : decode cX1_tell 66 = .ok (.ldc2_w 42, 3) := by decide +kernel
theorem dX1_tell_69 : decode cX1_tell 69 = .ok (.lreturn, 1) := by decide +kernel
theorem dX1_append_0 : decode cX1_append 0 = .ok (.aload_n 0, 1) := by decide +kernel
theorem dX1_append_1 : decode cX1_append 1 = .ok (.aload_n 0, 1) := by decide +kernel
theorem dX1_append_2 : decode cX1_append 2 = .ok (.getfield 35, 3) := by decide +kernel
theorem dX1_append_5 : decode cX1_append 5 = .ok (.iload_n 1, 1) := by decide +kernel
theorem dX1_append_6 : decode cX1_append 6 = .ok (.lload_n 2, 1) := by decide +kernel
theorem dX1_append_7 : decode cX1_append 7 = .ok (.lload 4, 2) := by decide +kernel
theorem dX1_append_9 : decode cX1_append 9 = .ok (.invokevirtual 44, 3) := by decide +kernel
theorem dX1_append_12 : decode cX1_append 12 = .ok (.return_, 1) := by decide +kernel
theorem dX1_insert_0 : decode cX1_insert 0 = .ok (.iload_n 1, 1) := by decide +kernel
theorem dX1_insert_1 : decode cX1_insert 1 = .ok (.ifCond .lt 23, 3) := by decide +kernel
theorem dX1_insert_4 : decode cX1_insert 4 = .ok (.iload_n 1, 1) := by decide +kernel
theorem dX1_insert_5 : decode cX1_insert 5 = .ok (.aload_n 0, 1) := by decide +kernel
theorem dX1_insert_6 : decode cX1_insert 6 = .ok (.getfield 35, 3) := by decide +kernel
theorem dX1_insert_9 : decode cX1_insert 9 = .ok (.if_icmp .gt 15, 3) := by decide +kernel
theorem dX1_insert_12 : decode cX1_insert 12 = .ok (.aload_n 0, 1) := by decide +kernel
theorem dX1_insert_13 : decode cX1_insert 13 = .ok (.getfield 35, 3) := by decide +kernel
theorem dX1_insert_16 : decode cX1_insert 16 = .ok (.aload_n 0, 1) := by decide +kernel
theorem dX1_insert_17 : decode cX1_insert 17 = .ok (.getfield 15, 3) := by decide +kernel
theorem dX1_insert_20 : decode cX1_insert 20 = .ok (.arraylength, 1) := by decide +kernel
theorem dX1_insert_21 : decode cX1_insert 21 = .ok (.if_icmp .lt 4, 3) := by decide +kernel
theorem dX1_insert_24 : decode cX1_insert 24 = .ok (.return_, 1) := by decide +kernel
theorem dX1_insert_25 : decode cX1_insert 25 = .ok (.aload_n 0, 1) := by decide +kernel
theorem dX1_insert_26 : decode cX1_insert 26 = .ok (.iload_n 1, 1) := by decide +kernel
theorem dX1_insert_27 : decode cX1_insert 27 = .ok (.iload_n 1, 1) := by decide +kernel
theorem dX1_insert_28 : decode cX1_insert 28 = .ok (.iconst 1, 1) := by decide +kernel
theorem dX1_insert_29 : decode cX1_insert 29 = .ok (.iadd, 1) := by decide +kernel
theorem dX1_insert_30 : decode cX1_insert 30 = .ok (.invokevirtual 48, 3) := by decide +kernel
theorem dX1_insert_33 : decode cX1_insert 33 = .ok (.aload_n 0, 1) := by decide +kernel
theorem dX1_insert_34 : decode cX1_insert 34 = .ok (.iload_n 1, 1) := by decide +kernel
theorem dX1_insert_35 : decode cX1_insert 35 = .ok (.iload_n 2, 1) := by decide +kernel
theorem dX1_insert_36 : decode cX1_insert 36 = .ok (.lload_n 3, 1) := by decide +kernel
theorem dX1_insert_37 : decode cX1_insert 37 = .ok (.lload 5, 2) := by decide +kernel
theorem dX1_insert_39 : decode cX1_insert 39 = .ok (.invokevirtual 52, 3) := by decide +kernel
theorem dX1_insert_42 : decode cX1_insert 42 = .ok (.aload_n 0, 1) := by decide +kernel
theorem dX1_insert_43 : decode cX1_insert 43 = .ok (.dup, 1) := by decide +kernel
theorem dX1_insert_44 : decode cX1_insert 44 = .ok (.getfield 35, 3) := by decide +kernel
theorem dX1_insert_47 : decode cX1_insert 47 = .ok (.iconst 1, 1) := by decide +kernel
theorem dX1_insert_48 : decode cX1_insert 48 = .ok (.iadd, 1) := by decide +kernel
theorem dX1_insert_49 : decode cX1_insert 49 = .ok (.putfield 35, 3) := by decide +kernel
theorem dX1_insert_52 : decode cX1_insert 52 = .ok (.aload_n 0, 1) := by decide +kernel
theorem dX1_insert_53 : decode cX1_insert 53 = .ok (.getfield 31, 3) := by decide +kernel
theorem dX1_insert_56 : decode cX1_insert 56 = .ok (.iload_n 2, 1) := by decide +kernel
theorem dX1_insert_57 : decode cX1_insert 57 = .ok (.invokevirtual 55, 3) := by decide +kernel
theorem dX1_insert_60 : decode cX1_insert 60 = .ok (.return_, 1) := by decide +kernel
theorem dX1_remove_0 : decode cX1_remove 0 = .ok (.iload_n 1, 1) := by decide +kernel
theorem dX1_remove_1 : decode cX1_remove 1 = .ok (.ifCond .lt 11, 3) := by decide +kernel
theorem dX1_remove_4 : decode cX1_remove 4 = .ok (.iload_n 1, 1) := by decide +kernel
theorem dX1_remove_5 : decode cX1_remove 5 = .ok (.aload_n 0, 1) := by decide +kernel
theorem dX1_remove_6 : decode cX1_remove 6 = .ok (.getfield 35, 3) := by decide +kernel
theorem dX1_remove_9 : decode cX1_remove 9 = .ok (.if_icmp .lt 4, 3) := by decide +kernel
theorem dX1_remove_12 : decode cX1_remove 12 = .ok (.return_, 1) := by decide +kernel
theorem dX1_remove_13 : decode cX1_remove 13 = .ok (.aload_n 0, 1) := by decide +kernel
theorem dX1_remove_14 : decode cX1_remove 14 = .ok (.getfield 31, 3) := by decide +kernel
theorem dX1_remove_17 : decode cX1_remove 17 = .ok (.aload_n 0, 1) := by decide +kernel
theorem dX1_remove_18 : decode cX1_remove 18 = .ok (.getfield 15, 3) := by decide +kernel
theorem dX1_remove_21 : decode cX1_remove 21 = .ok (.iload_n 1, 1) := by decide +kernel
theorem dX1_remove_22 : decode cX1_remove 22 = .ok (.iaload, 1) := by decide +kernel
theorem dX1_remove_23 : decode cX1_remove 23 = .ok (.invokevirtual 58, 3) := by decide +kernel
theorem dX1_remove_26 : decode cX1_remove 26 = .ok (.aload_n 0, 1) := by decide +kernel
theorem dX1_remove_27 : decode cX1_remove 27 = .ok (.iload_n 1, 1) := by decide +kernel
theorem dX1_remove_28 : decode cX1_remove 28 = .ok (.iconst 1, 1) := by decide +kernel
theorem dX1_remove_29 : decode cX1_remove 29 = .ok (.iadd, 1) := by decide +kernel
theorem dX1_remove_30 : decode cX1_remove 30 = .ok (.iload_n 1, 1) := by decide +kernel
theorem dX1_remove_31 : decode cX1_remove 31 = .ok (.invokevirtual 48, 3) := by decide +kernel
theorem dX1_remove_34 : decode cX1_remove 34 = .ok (.aload_n 0, 1) := by decide +kernel
theorem dX1_remove_35 : decode cX1_remove 35 = .ok (.dup, 1) := by decide +kernel
theorem dX1_remove_36 : decode cX1_remove 36 = .ok (.getfield 35, 3) := by decide +kernel
theorem dX1_remove_39 : decode cX1_remove 39 = .ok (.iconst 1, 1) := by decide +kernel
theorem dX1_remove_40 : decode cX1_remove 40 = .ok (.isub, 1) := by decide +kernel
theorem dX1_remove_41 : decode cX1_remove 41 = .ok (.putfield 35, 3) := by decide +kernel
theorem dX1_remove_44 : decode cX1_remove 44 = .ok (.return_, 1) := by decide +kernel
theorem dX1_shift_0 : decode cX1_shift 0 = .ok (.aload_n 0, 1) := by decide +kernel
theorem dX1_shift_1 : decode cX1_shift 1 = .ok (.getfield 35, 3) := by decide +kernel
theorem dX1_shift_4 : decode cX1_shift 4 = .ok (.iload_n 1, 1) := by decide +kernel
theorem dX1_shift_5 : decode cX1_shift 5 = .ok (.isub, 1) := by decide +kernel
theorem dX1_shift_6 : decode cX1_shift 6 = .ok (.istore_n 3, 1) := by decide +kernel
theorem dX1_shift_7 : decode cX1_shift 7 = .ok (.aload_n 0, 1) := by decide +kernel
theorem dX1_shift_8 : decode cX1_shift 8 = .ok (.getfield 15, 3) := by decide +kernel
theorem dX1_shift_11 : decode cX1_shift 11 = .ok (.iload_n 1, 1) := by decide +kernel
theorem dX1_shift_12 : decode cX1_shift 12 = .ok (.aload_n 0, 1) := by decide +kernel
theorem dX1_shift_13 : decode cX1_shift 13 = .ok (.getfield 15, 3) := by decide +kernel
theorem dX1_shift_16 : decode cX1_shift 16 = .ok (.iload_n 2, 1) := by decide +kernel
theorem dX1_shift_17 : decode cX1_shift 17 = .ok (.iload_n 3, 1) := by decide +kernel
theorem dX1_shift_18 : decode cX1_shift 18 = .ok (.invokestatic 61, 3) := by decide +kernel
theorem dX1_shift_21 : decode cX1_shift 21 = .ok (.aload_n 0, 1) := by decide +kernel
theorem dX1_shift_22 : decode cX1_shift 22 = .ok (.getfield 19, 3) := by decide +kernel
theorem dX1_shift_25 : decode cX1_shift 25 = .ok (.iload_n 1, 1) := by decide +kernel
theorem dX1_shift_26 : decode cX1_shift 26 = .ok (.aload_n 0, 1) := by decide +kernel
theorem dX1_shift_27 : decode cX1_shift 27 = .ok (.getfield 19, 3) := by decide +kernel
theorem dX1_shift_30 : decode cX1_shift 30 = .ok (.iload_n 2, 1) := by decide +kernel
theorem dX1_shift_31 : decode cX1_shift 31 = .ok (.iload_n 3, 1) := by decide +kernel
theorem dX1_shift_32 : decode cX1_shift 32 = .ok (.invokestatic 61, 3) := by decide +kernel
theorem dX1_shift_35 : decode cX1_shift 35 = .ok (.aload_n 0, 1) := by decide +kernel
theorem dX1_shift_36 : decode cX1_shift 36 = .ok (.getfield 23, 3) := by decide +kernel
theorem dX1_shift_39 : decode cX1_shift 39 = .ok (.iload_n 1, 1) := by decide +kernel
theorem dX1_shift_40 : decode cX1_shift 40 = .ok (.aload_n 0, 1) := by decide +kernel
theorem dX1_shift_41 : decode cX1_shift 41 = .ok (.getfield 23, 3) := by decide +kernel
theorem dX1_shift_44 : decode cX1_shift 44 = .ok (.iload_n 2, 1) := by decide +kernel
theorem dX1_shift_45 : decode cX1_shift 45 = .ok (.iload_n 3, 1) := by decide +kernel
theorem dX1_shift_46 : decode cX1_shift 46 = .ok (.invokestatic 61, 3) := by decide +kernel
theorem dX1_shift_49 : decode cX1_shift 49 = .ok (.return_, 1) := by decide +kernel
theorem dX1_set_0 : decode cX1_set 0 = .ok (.aload_n 0, 1) := by decide +kernel
theorem dX1_set_1 : decode cX1_set 1 = .ok (.getfield 15, 3) := by decide +kernel
theorem dX1_set_4 : decode cX1_set 4 = .ok (.iload_n 1, 1) := by decide +kernel
theorem dX1_set_5 : decode cX1_set 5 = .ok (.iload_n 2, 1) := by decide +kernel
theorem dX1_set_6 : decode cX1_set 6 = .ok (.iastore, 1) := by decide +kernel
theorem dX1_set_7 : decode cX1_set 7 = .ok (.aload_n 0, 1) := by decide +kernel
theorem dX1_set_8 : decode cX1_set 8 = .ok (.getfield 19, 3) := by decide +kernel
theorem dX1_set_11 : decode cX1_set 11 = .ok (.iload_n 1, 1) := by decide +kernel
theorem dX1_set_12 : decode cX1_set 12 = .ok (.lload_n 3, 1) := by decide +kernel
theorem dX1_set_13 : decode cX1_set 13 = .ok (.lastore, 1) := by decide +kernel
theorem dX1_set_14 : decode cX1_set 14 = .ok (.aload_n 0, 1) := by decide +kernel
theorem dX1_set_15 : decode cX1_set 15 = .ok (.getfield 23, 3) := by decide +kernel
theorem dX1_set_18 : decode cX1_set 18 = .ok (.iload_n 1, 1) := by decide +kernel
theorem dX1_set_19 : decode cX1_set 19 = .ok (.lload 5, 2) := by decide +kernel
theorem dX1_set_21 : decode cX1_set 21 = .ok (.lastore, 1) := by decide +kernel
theorem dX1_set_22 : decode cX1_set 22 = .ok (.return_, 1) := by decide +kernel
theorem dX1_sortByNumberThenKey_0 : decode cX1_sortByNumberThenKey 0 = .ok (.iconst 1, 1) := by decide +kernel
theorem dX1_sortByNumberThenKey_1 : decode cX1_sortByNumberThenKey 1 = .ok (.istore_n 1, 1) := by decide +kernel
theorem dX1_sortByNumberThenKey_2 : decode cX1_sortByNumberThenKey 2 = .ok (.iload_n 1, 1) := by decide +kernel
theorem dX1_sortByNumberThenKey_3 : decode cX1_sortByNumberThenKey 3 = .ok (.aload_n 0, 1) := by decide +kernel
theorem dX1_sortByNumberThenKey_4 : decode cX1_sortByNumberThenKey 4 = .ok (.getfield 35, 3) := by decide +kernel
theorem dX1_sortByNumberThenKey_7 : decode cX1_sortByNumberThenKey 7 = .ok (.if_icmp .ge 101, 3) := by decide +kernel
theorem dX1_sortByNumberThenKey_10 : decode cX1_sortByNumberThenKey 10 = .ok (.aload_n 0, 1) := by decide +kernel
theorem dX1_sortByNumberThenKey_11 : decode cX1_sortByNumberThenKey 11 = .ok (.getfield 15, 3) := by decide +kernel
theorem dX1_sortByNumberThenKey_14 : decode cX1_sortByNumberThenKey 14 = .ok (.iload_n 1, 1) := by decide +kernel
theorem dX1_sortByNumberThenKey_15 : decode cX1_sortByNumberThenKey 15 = .ok (.iaload, 1) := by decide +kernel
theorem dX1_sortByNumberThenKey_16 : decode cX1_sortByNumberThenKey 16 = .ok (.istore_n 2, 1) := by decide +kernel
theorem dX1_sortByNumberThenKey_17 : decode cX1_sortByNumberThenKey 17 = .ok (.aload_n 0, 1) := by decide +kernel
theorem dX1_sortByNumberThenKey_18 : decode cX1_sortByNumberThenKey 18 = .ok (.getfield 19, 3) := by decide +kernel
theorem dX1_sortByNumberThenKey_21 : decode cX1_sortByNumberThenKey 21 = .ok (.iload_n 1, 1) := by decide +kernel
theorem dX1_sortByNumberThenKey_22 : decode cX1_sortByNumberThenKey 22 = .ok (.laload, 1) := by decide +kernel
theorem dX1_sortByNumberThenKey_23 : decode cX1_sortByNumberThenKey 23 = .ok (.lstore_n 3, 1) := by decide +kernel
theorem dX1_sortByNumberThenKey_24 : decode cX1_sortByNumberThenKey 24 = .ok (.aload_n 0, 1) := by decide +kernel
theorem dX1_sortByNumberThenKey_25 : decode cX1_sortByNumberThenKey 25 = .ok (.getfield 23, 3) := by decide +kernel
theorem dX1_sortByNumberThenKey_28 : decode cX1_sortByNumberThenKey 28 = .ok (.iload_n 1, 1) := by decide +kernel
theorem dX1_sortByNumberThenKey_29 : decode cX1_sortByNumberThenKey 29 = .ok (.laload, 1) := by decide +kernel
theorem dX1_sortByNumberThenKey_30 : decode cX1_sortByNumberThenKey 30 = .ok (.lstore 5, 2) := by decide +kernel
theorem dX1_sortByNumberThenKey_32 : decode cX1_sortByNumberThenKey 32 = .ok (.iload_n 1, 1) := by decide +kernel
theorem dX1_sortByNumberThenKey_33 : decode cX1_sortByNumberThenKey 33 = .ok (.istore 7, 2) := by decide +kernel
theorem dX1_sortByNumberThenKey_35 : decode cX1_sortByNumberThenKey 35 = .ok (.iload 7, 2) := by decide +kernel
theorem dX1_sortByNumberThenKey_37 : decode cX1_sortByNumberThenKey 37 = .ok (.ifCond .le 55, 3) := by decide +kernel
theorem dX1_sortByNumberThenKey_40 : decode cX1_sortByNumberThenKey 40 = .ok (.aload_n 0, 1) := by decide +kernel
theorem dX1_sortByNumberThenKey_41 : decode cX1_sortByNumberThenKey 41 = .ok (.iload 7, 2) := by decide +kernel
theorem dX1_sortByNumberThenKey_43 : decode cX1_sortByNumberThenKey 43 = .ok (.iconst 1, 1) := by decide +kernel
theorem dX1_sortByNumberThenKey_44 : decode cX1_sortByNumberThenKey 44 = .ok (.isub, 1) := by decide +kernel
theorem dX1_sortByNumberThenKey_45 : decode cX1_sortByNumberThenKey 45 = .ok (.lload_n 3, 1) := by decide +kernel
theorem dX1_sortByNumberThenKey_46 : decode cX1_sortByNumberThenKey 46 = .ok (.iload_n 2, 1) := by decide +kernel
theorem dX1_sortByNumberThenKey_47 : decode cX1_sortByNumberThenKey 47 = .ok (.invokevirtual 67, 3) := by decide +kernel
theorem dX1_sortByNumberThenKey_50 : decode cX1_sortByNumberThenKey 50 = .ok (.ifCond .eq 42, 3) := by decide +kernel
theorem dX1_sortByNumberThenKey_53 : decode cX1_sortByNumberThenKey 53 = .ok (.aload_n 0, 1) := by decide +kernel
theorem dX1_sortByNumberThenKey_54 : decode cX1_sortByNumberThenKey 54 = .ok (.iload 7, 2) := by decide +kernel
theorem dX1_sortByNumberThenKey_56 : decode cX1_sortByNumberThenKey 56 = .ok (.aload_n 0, 1) := by decide +kernel
theorem dX1_sortByNumberThenKey_57 : decode cX1_sortByNumberThenKey 57 = .ok (.getfield 15, 3) := by decide +kernel
theorem dX1_sortByNumberThenKey_60 : decode cX1_sortByNumberThenKey 60 = .ok (.iload 7, 2) := by decide +kernel
theorem dX1_sortByNumberThenKey_62 : decode cX1_sortByNumberThenKey 62 = .ok (.iconst 1, 1) := by decide +kernel
theorem dX1_sortByNumberThenKey_63 : decode cX1_sortByNumberThenKey 63 = .ok (.isub, 1) := by decide +kernel
theorem dX1_sortByNumberThenKey_64 : decode cX1_sortByNumberThenKey 64 = .ok (.iaload, 1) := by decide +kernel
theorem dX1_sortByNumberThenKey_65 : decode cX1_sortByNumberThenKey 65 = .ok (.aload_n 0, 1) := by decide +kernel
theorem dX1_sortByNumberThenKey_66 : decode cX1_sortByNumberThenKey 66 = .ok (.getfield 19, 3) := by decide +kernel
theorem dX1_sortByNumberThenKey_69 : decode cX1_sortByNumberThenKey 69 = .ok (.iload 7, 2) := by decide +kernel
theorem dX1_sortByNumberThenKey_71 : decode cX1_sortByNumberThenKey 71 = .ok (.iconst 1, 1) := by decide +kernel
theorem dX1_sortByNumberThenKey_72 : decode cX1_sortByNumberThenKey 72 = .ok (.isub, 1) := by decide +kernel
theorem dX1_sortByNumberThenKey_73 : decode cX1_sortByNumberThenKey 73 = .ok (.laload, 1) := by decide +kernel
theorem dX1_sortByNumberThenKey_74 : decode cX1_sortByNumberThenKey 74 = .ok (.aload_n 0, 1) := by decide +kernel
theorem dX1_sortByNumberThenKey_75 : decode cX1_sortByNumberThenKey 75 = .ok (.getfield 23, 3) := by decide +kernel
theorem dX1_sortByNumberThenKey_78 : decode cX1_sortByNumberThenKey 78 = .ok (.iload 7, 2) := by decide +kernel
theorem dX1_sortByNumberThenKey_80 : decode cX1_sortByNumberThenKey 80 = .ok (.iconst 1, 1) := by decide +kernel
theorem dX1_sortByNumberThenKey_81 : decode cX1_sortByNumberThenKey 81 = .ok (.isub, 1) := by decide +kernel
theorem dX1_sortByNumberThenKey_82 : decode cX1_sortByNumberThenKey 82 = .ok (.laload, 1) := by decide +kernel
theorem dX1_sortByNumberThenKey_83 : decode cX1_sortByNumberThenKey 83 = .ok (.invokevirtual 52, 3) := by decide +kernel
theorem dX1_sortByNumberThenKey_86 : decode cX1_sortByNumberThenKey 86 = .ok (.iinc 7 (-1), 3) := by decide +kernel
theorem dX1_sortByNumberThenKey_89 : decode cX1_sortByNumberThenKey 89 = .ok (.goto (-54), 3) := by decide +kernel
theorem dX1_sortByNumberThenKey_92 : decode cX1_sortByNumberThenKey 92 = .ok (.aload_n 0, 1) := by decide +kernel
theorem dX1_sortByNumberThenKey_93 : decode cX1_sortByNumberThenKey 93 = .ok (.iload 7, 2) := by decide +kernel
theorem dX1_sortByNumberThenKey_95 : decode cX1_sortByNumberThenKey 95 = .ok (.iload_n 2, 1) := by decide +kernel
theorem dX1_sortByNumberThenKey_96 : decode cX1_sortByNumberThenKey 96 = .ok (.lload_n 3, 1) := by decide +kernel
theorem dX1_sortByNumberThenKey_97 : decode cX1_sortByNumberThenKey 97 = .ok (.lload 5, 2) := by decide +kernel
theorem dX1_sortByNumberThenKey_99 : decode cX1_sortByNumberThenKey 99 = .ok (.invokevirtual 52, 3) := by decide +kernel
theorem dX1_sortByNumberThenKey_102 : decode cX1_sortByNumberThenKey 102 = .ok (.iinc 1 1, 3) := by decide +kernel
theorem dX1_sortByNumberThenKey_105 : decode cX1_sortByNumberThenKey 105 = .ok (.goto (-103), 3) := by decide +kernel
theorem dX1_sortByNumberThenKey_108 : decode cX1_sortByNumberThenKey 108 = .ok (.return_, 1) := by decide +kernel
theorem dX1_isBehind_0 : decode cX1_isBehind 0 = .ok (.aload_n 0, 1) := by decide +kernel
theorem dX1_isBehind_1 : decode cX1_isBehind 1 = .ok (.getfield 19, 3) := by decide +kernel
theorem dX1_isBehind_4 : decode cX1_isBehind 4 = .ok (.iload_n 1, 1) := by decide +kernel
theorem dX1_isBehind_5 : decode cX1_isBehind 5 = .ok (.laload, 1) := by decide +kernel
theorem dX1_isBehind_6 : decode cX1_isBehind 6 = .ok (.lload_n 2, 1) := by decide +kernel
theorem dX1_isBehind_7 : decode cX1_isBehind 7 = .ok (.lcmp, 1) := by decide +kernel
theorem dX1_isBehind_8 : decode cX1_isBehind 8 = .ok (.ifCond .gt 25, 3) := by decide +kernel
theorem dX1_isBehind_11 : decode cX1_isBehind 11 = .ok (.aload_n 0, 1) := by decide +kernel
theorem dX1_isBehind_12 : decode cX1_isBehind 12 = .ok (.getfield 19, 3) := by decide +kernel
theorem dX1_isBehind_15 : decode cX1_isBehind 15 = .ok (.iload_n 1, 1) := by decide +kernel
theorem dX1_isBehind_16 : decode cX1_isBehind 16 = .ok (.laload, 1) := by decide +kernel
theorem dX1_isBehind_17 : decode cX1_isBehind 17 = .ok (.lload_n 2, 1) := by decide +kernel
theorem dX1_isBehind_18 : decode cX1_isBehind 18 = .ok (.lcmp, 1) := by decide +kernel
theorem dX1_isBehind_19 : decode cX1_isBehind 19 = .ok (.ifCond .ne 18, 3) := by decide +kernel
theorem dX1_isBehind_22 : decode cX1_isBehind 22 = .ok (.aload_n 0, 1) := by decide +kernel
theorem dX1_isBehind_23 : decode cX1_isBehind 23 = .ok (.getfield 15, 3) := by decide +kernel
theorem dX1_isBehind_26 : decode cX1_isBehind 26 = .ok (.iload_n 1, 1) := by decide +kernel
theorem dX1_isBehind_27 : decode cX1_isBehind 27 = .ok (.iaload, 1) := by decide +kernel
theorem dX1_isBehind_28 : decode cX1_isBehind 28 = .ok (.iload 4, 2) := by decide +kernel
theorem dX1_isBehind_30 : decode cX1_isBehind 30 = .ok (.if_icmp .le 7, 3) := by decide +kernel
theorem dX1_isBehind_33 : decode cX1_isBehind 33 = .ok (.iconst 1, 1) := by decide +kernel
theorem dX1_isBehind_34 : decode cX1_isBehind 34 = .ok (.goto 4, 3) := by decide +kernel
theorem dX1_isBehind_37 : decode cX1_isBehind 37 = .ok (.iconst 0, 1) := by decide +kernel
theorem dX1_isBehind_38 : decode cX1_isBehind 38 = .ok (.ireturn, 1) := by decide +kernel
theorem dX1_makeEmpty_0 : decode cX1_makeEmpty 0 = .ok (.aload_n 0, 1) := by decide +kernel
theorem dX1_makeEmpty_1 : decode cX1_makeEmpty 1 = .ok (.iconst 0, 1) := by decide +kernel
theorem dX1_makeEmpty_2 : decode cX1_makeEmpty 2 = .ok (.putfield 35, 3) := by decide +kernel
theorem dX1_makeEmpty_5 : decode cX1_makeEmpty 5 = .ok (.aload_n 0, 1) := by decide +kernel
theorem dX1_makeEmpty_6 : decode cX1_makeEmpty 6 = .ok (.getfield 31, 3) := by decide +kernel
theorem dX1_makeEmpty_9 : decode cX1_makeEmpty 9 = .ok (.invokevirtual 71, 3) := by decide +kernel
theorem dX1_makeEmpty_12 : decode cX1_makeEmpty 12 = .ok (.return_, 1) := by decide +kernel
theorem dX1_become_0 : decode cX1_become 0 = .ok (.aload_n 1, 1) := by decide +kernel
theorem dX1_become_1 : decode cX1_become 1 = .ok (.getfield 15, 3) := by decide +kernel
theorem dX1_become_4 : decode cX1_become 4 = .ok (.iconst 0, 1) := by decide +kernel
theorem dX1_become_5 : decode cX1_become 5 = .ok (.aload_n 0, 1) := by decide +kernel
theorem dX1_become_6 : decode cX1_become 6 = .ok (.getfield 15, 3) := by decide +kernel
theorem dX1_become_9 : decode cX1_become 9 = .ok (.iconst 0, 1) := by decide +kernel
theorem dX1_become_10 : decode cX1_become 10 = .ok (.aload_n 1, 1) := by decide +kernel
theorem dX1_become_11 : decode cX1_become 11 = .ok (.getfield 35, 3) := by decide +kernel
theorem dX1_become_14 : decode cX1_become 14 = .ok (.invokestatic 61, 3) := by decide +kernel
theorem dX1_become_17 : decode cX1_become 17 = .ok (.aload_n 1, 1) := by decide +kernel
theorem dX1_become_18 : decode cX1_become 18 = .ok (.getfield 19, 3) := by decide +kernel
theorem dX1_become_21 : decode cX1_become 21 = .ok (.iconst 0, 1) := by decide +kernel
theorem dX1_become_22 : decode cX1_become 22 = .ok (.aload_n 0, 1) := by decide +kernel
theorem dX1_become_23 : decode cX1_become 23 = .ok (.getfield 19, 3) := by decide +kernel
theorem dX1_become_26 : decode cX1_become 26 = .ok (.iconst 0, 1) := by decide +kernel
theorem dX1_become_27 : decode cX1_become 27 = .ok (.aload_n 1, 1) := by decide +kernel
theorem dX1_become_28 : decode cX1_become 28 = .ok (.getfield 35, 3) := by decide +kernel
theorem dX1_become_31 : decode cX1_become 31 = .ok (.invokestatic 61, 3) := by decide +kernel
theorem dX1_become_34 : decode cX1_become 34 = .ok (.aload_n 1, 1) := by decide +kernel
theorem dX1_become_35 : decode cX1_become 35 = .ok (.getfield 23, 3) := by decide +kernel
theorem dX1_become_38 : decode cX1_become 38 = .ok (.iconst 0, 1) := by decide +kernel
theorem dX1_become_39 : decode cX1_become 39 = .ok (.aload_n 0, 1) := by decide +kernel
theorem dX1_become_40 : decode cX1_become 40 = .ok (.getfield 23, 3) := by decide +kernel
theorem dX1_become_43 : decode cX1_become 43 = .ok (.iconst 0, 1) := by decide +kernel
theorem dX1_become_44 : decode cX1_become 44 = .ok (.aload_n 1, 1) := by decide +kernel
theorem dX1_become_45 : decode cX1_become 45 = .ok (.getfield 35, 3) := by decide +kernel
theorem dX1_become_48 : decode cX1_become 48 = .ok (.invokestatic 61, 3) := by decide +kernel
theorem dX1_become_51 : decode cX1_become 51 = .ok (.aload_n 0, 1) := by decide +kernel
theorem dX1_become_52 : decode cX1_become 52 = .ok (.aload_n 1, 1) := by decide +kernel
theorem dX1_become_53 : decode cX1_become 53 = .ok (.getfield 35, 3) := by decide +kernel
theorem dX1_become_56 : decode cX1_become 56 = .ok (.putfield 35, 3) := by decide +kernel
theorem dX1_become_59 : decode cX1_become 59 = .ok (.aload_n 0, 1) := by decide +kernel
theorem dX1_become_60 : decode cX1_become 60 = .ok (.getfield 31, 3) := by decide +kernel
theorem dX1_become_63 : decode cX1_become 63 = .ok (.aload_n 1, 1) := by decide +kernel
theorem dX1_become_64 : decode cX1_become 64 = .ok (.getfield 31, 3) := by decide +kernel
theorem dX1_become_67 : decode cX1_become 67 = .ok (.invokevirtual 74, 3) := by decide +kernel
theorem dX1_become_70 : decode cX1_become 70 = .ok (.return_, 1) := by decide +kernel
theorem dX2_init_0 : decode cX2_init 0 = .ok (.aload_n 0, 1) := by decide +kernel
theorem dX2_init_1 : decode cX2_init 1 = .ok (.invokespecial 3, 3) := by decide +kernel
theorem dX2_init_4 : decode cX2_init 4 = .ok (.iload_n 1, 1) := by decide +kernel
theorem dX2_init_5 : decode cX2_init 5 = .ok (.sipush 300, 3) := by decide +kernel
theorem dX2_init_8 : decode cX2_init 8 = .ok (.invokestatic 9, 3) := by decide +kernel
theorem dX2_init_11 : decode cX2_init 11 = .ok (.istore_n 2, 1) := by decide +kernel
theorem dX2_init_12 : decode cX2_init 12 = .ok (.aload_n 0, 1) := by decide +kernel
theorem dX2_init_13 : decode cX2_init 13 = .ok (.iload_n 2, 1) := by decide +kernel
theorem dX2_init_14 : decode cX2_init 14 = .ok (.newarray .int, 2) := by decide +kernel
theorem dX2_init_16 : decode cX2_init 16 = .ok (.putfield 15, 3) := by decide +kernel
theorem dX2_init_19 : decode cX2_init 19 = .ok (.aload_n 0, 1) := by decide +kernel
theorem dX2_init_20 : decode cX2_init 20 = .ok (.iload_n 2, 1) := by decide +kernel
theorem dX2_init_21 : decode cX2_init 21 = .ok (.newarray .long, 2) := by decide +kernel
theorem dX2_init_23 : decode cX2_init 23 = .ok (.putfield 21, 3) := by decide +kernel
theorem dX2_init_26 : decode cX2_init 26 = .ok (.return_, 1) := by decide +kernel
theorem dX2_numberOf_0 : decode cX2_numberOf 0 = .ok (.aload_n 0, 1) := by decide +kernel
theorem dX2_numberOf_1 : decode cX2_numberOf 1 = .ok (.iload_n 1, 1) := by decide +kernel
theorem dX2_numberOf_2 : decode cX2_numberOf 2 = .ok (.invokevirtual 25, 3) := by decide +kernel
theorem dX2_numberOf_5 : decode cX2_numberOf 5 = .ok (.istore_n 2, 1) := by decide +kernel
theorem dX2_numberOf_6 : decode cX2_numberOf 6 = .ok (.aload_n 0, 1) := by decide +kernel
theorem dX2_numberOf_7 : decode cX2_numberOf 7 = .ok (.iload_n 2, 1) := by decide +kernel
theorem dX2_numberOf_8 : decode cX2_numberOf 8 = .ok (.iload_n 1, 1) := by decide +kernel
theorem dX2_numberOf_9 : decode cX2_numberOf 9 = .ok (.invokevirtual 29, 3) := by decide +kernel
theorem dX2_numberOf_12 : decode cX2_numberOf 12 = .ok (.ifCond .eq 12, 3) := by decide +kernel
theorem dX2_numberOf_15 : decode cX2_numberOf 15 = .ok (.aload_n 0, 1) := by decide +kernel
theorem dX2_numberOf_16 : decode cX2_numberOf 16 = .ok (.getfield 21, 3) := by decide +kernel
theorem dX2_numberOf_19 : decode cX2_numberOf 19 = .ok (.iload_n 2, 1) := by decide +kernel
theorem dX2_numberOf_20 : decode cX2_numberOf 20 = .ok (.laload, 1) := by decide +kernel
theorem dX2_numberOf_21 : decode cX2_numberOf 21 = .ok (.goto 4, 3) := by decide +kernel
theorem dX2_numberOf_24 : decode cX2_numberOf 24 = .ok (.lconst 0, 1) := by decide +kernel
theorem dX2_numberOf_25 : decode cX2_numberOf 25 = .ok (.lreturn, 1) := by decide +kernel
theorem dX2_isAt_0 : decode cX2_isAt 0 = .ok (.iload_n 1, 1) := by decide +kernel
theorem dX2_isAt_1 : decode cX2_isAt 1 = .ok (.aload_n 0, 1) := by decide +kernel
theorem dX2_isAt_2 : decode cX2_isAt 2 = .ok (.getfield 33, 3) := by decide +kernel
theorem dX2_isAt_5 : decode cX2_isAt 5 = .ok (.if_icmp .ge 17, 3) := by decide +kernel
theorem dX2_isAt_8 : decode cX2_isAt 8 = .ok (.aload_n 0, 1) := by decide +kernel
theorem dX2_isAt_9 : decode cX2_isAt 9 = .ok (.getfield 15, 3) := by decide +kernel
theorem dX2_isAt_12 : decode cX2_isAt 12 = .ok (.iload_n 1, 1) := by decide +kernel
theorem dX2_isAt_13 : decode cX2_isAt 13 = .ok (.iaload, 1) := by decide +kernel
theorem dX2_isAt_14 : decode cX2_isAt 14 = .ok (.iload_n 2, 1) := by decide +kernel
theorem dX2_isAt_15 : decode cX2_isAt 15 = .ok (.if_icmp .ne 7, 3) := by decide +kernel
theorem dX2_isAt_18 : decode cX2_isAt 18 = .ok (.iconst 1, 1) := by decide +kernel
theorem dX2_isAt_19 : decode cX2_isAt 19 = .ok (.goto 4, 3) := by decide +kernel
theorem dX2_isAt_22 : decode cX2_isAt 22 = .ok (.iconst 0, 1) := by decide +kernel
theorem dX2_isAt_23 : decode cX2_isAt 23 = .ok (.ireturn, 1) := by decide +kernel
theorem dX2_placeOf_0 : decode cX2_placeOf 0 = .ok (.iconst 0, 1) := by decide +kernel
theorem dX2_placeOf_1 : decode cX2_placeOf 1 = .ok (.istore_n 2, 1) := by decide +kernel
theorem dX2_placeOf_2 : decode cX2_placeOf 2 = .ok (.sipush 256, 3) := by decide +kernel
theorem dX2_placeOf_5 : decode cX2_placeOf 5 = .ok (.istore_n 3, 1) := by decide +kernel
theorem dX2_placeOf_6 : decode cX2_placeOf 6 = .ok (.iload_n 3, 1) := by decide +kernel
theorem dX2_placeOf_7 : decode cX2_placeOf 7 = .ok (.ifCond .le 38, 3) := by decide +kernel
theorem dX2_placeOf_10 : decode cX2_placeOf 10 = .ok (.iload_n 2, 1) := by decide +kernel
theorem dX2_placeOf_11 : decode cX2_placeOf 11 = .ok (.iload_n 3, 1) := by decide +kernel
theorem dX2_placeOf_12 : decode cX2_placeOf 12 = .ok (.iadd, 1) := by decide +kernel
theorem dX2_placeOf_13 : decode cX2_placeOf 13 = .ok (.aload_n 0, 1) := by decide +kernel
theorem dX2_placeOf_14 : decode cX2_placeOf 14 = .ok (.getfield 33, 3) := by decide +kernel
theorem dX2_placeOf_17 : decode cX2_placeOf 17 = .ok (.if_icmp .gt 21, 3) := by decide +kernel
theorem dX2_placeOf_20 : decode cX2_placeOf 20 = .ok (.aload_n 0, 1) := by decide +kernel
theorem dX2_placeOf_21 : decode cX2_placeOf 21 = .ok (.getfield 15, 3) := by decide +kernel
theorem dX2_placeOf_24 : decode cX2_placeOf 24 = .ok (.iload_n 2, 1) := by decide +kernel
theorem dX2_placeOf_25 : decode cX2_placeOf 25 = .ok (.iload_n 3, 1) := by decide +kernel
theorem dX2_placeOf_26 : decode cX2_placeOf 26 = .ok (.iadd, 1) := by decide +kernel
theorem dX2_placeOf_27 : decode cX2_placeOf 27 = .ok (.iconst 1, 1) := by decide +kernel
theorem dX2_placeOf_28 : decode cX2_placeOf 28 = .ok (.isub, 1) := by decide +kernel
theorem dX2_placeOf_29 : decode cX2_placeOf 29 = .ok (.iaload, 1) := by decide +kernel
theorem dX2_placeOf_30 : decode cX2_placeOf 30 = .ok (.iload_n 1, 1) := by decide +kernel
theorem dX2_placeOf_31 : decode cX2_placeOf 31 = .ok (.if_icmp .ge 7, 3) := by decide +kernel
theorem dX2_placeOf_34 : decode cX2_placeOf 34 = .ok (.iload_n 2, 1) := by decide +kernel
theorem dX2_placeOf_35 : decode cX2_placeOf 35 = .ok (.iload_n 3, 1) := by decide +kernel
theorem dX2_placeOf_36 : decode cX2_placeOf 36 = .ok (.iadd, 1) := by decide +kernel
theorem dX2_placeOf_37 : decode cX2_placeOf 37 = .ok (.istore_n 2, 1) := by decide +kernel
theorem dX2_placeOf_38 : decode cX2_placeOf 38 = .ok (.iload_n 3, 1) := by decide +kernel
theorem dX2_placeOf_39 : decode cX2_placeOf 39 = .ok (.iconst 2, 1) := by decide +kernel
theorem dX2_placeOf_40 : decode cX2_placeOf 40 = .ok (.idiv, 1) := by decide +kernel
theorem dX2_placeOf_41 : decode cX2_placeOf 41 = .ok (.istore_n 3, 1) := by decide +kernel
theorem dX2_placeOf_42 : decode cX2_placeOf 42 = .ok (.goto (-36), 3) := by decide +kernel
theorem dX2_placeOf_45 : decode cX2_placeOf 45 = .ok (.iload_n 2, 1) := by decide +kernel
theorem dX2_placeOf_46 : decode cX2_placeOf 46 = .ok (.ireturn, 1) := by decide +kernel
theorem dX2_take_0 : decode cX2_take 0 = .ok (.aload_n 0, 1) := by decide +kernel
theorem dX2_take_1 : decode cX2_take 1 = .ok (.getfield 37, 3) := by decide +kernel
theorem dX2_take_4 : decode cX2_take 4 = .ok (.ifCond .eq 4, 3) := by decide +kernel
theorem dX2_take_7 : decode cX2_take 7 = .ok (.return_, 1) := by decide +kernel
theorem dX2_take_8 : decode cX2_take 8 = .ok (.aload_n 0, 1) := by decide +kernel
theorem dX2_take_9 : decode cX2_take 9 = .ok (.iload_n 1, 1) := by decide +kernel
theorem dX2_take_10 : decode cX2_take 10 = .ok (.invokevirtual 25, 3) := by decide +kernel
theorem dX2_take_13 : decode cX2_take 13 = .ok (.istore 4, 2) := by decide +kernel
theorem dX2_take_15 : decode cX2_take 15 = .ok (.aload_n 0, 1) := by decide +kernel
theorem dX2_take_16 : decode cX2_take 16 = .ok (.iload 4, 2) := by decide +kernel
theorem dX2_take_18 : decode cX2_take 18 = .ok (.iload_n 1, 1) := by decide +kernel
theorem dX2_take_19 : decode cX2_take 19 = .ok (.invokevirtual 29, 3) := by decide +kernel
theorem dX2_take_22 : decode cX2_take 22 = .ok (.ifCond .eq 17, 3) := by decide +kernel
theorem dX2_take_25 : decode cX2_take 25 = .ok (.aload_n 0, 1) := by decide +kernel
theorem dX2_take_26 : decode cX2_take 26 = .ok (.getfield 21, 3) := by decide +kernel
theorem dX2_take_29 : decode cX2_take 29 = .ok (.iload 4, 2) := by decide +kernel
theorem dX2_take_31 : decode cX2_take 31 = .ok (.dup2, 1) := by decide +kernel
theorem dX2_take_32 : decode cX2_take 32 = .ok (.laload, 1) := by decide +kernel
theorem dX2_take_33 : decode cX2_take 33 = .ok (.lload_n 2, 1) := by decide +kernel
theorem dX2_take_34 : decode cX2_take 34 = .ok (.ladd, 1) := by decide +kernel
theorem dX2_take_35 : decode cX2_take 35 = .ok (.lastore, 1) := by decide +kernel
theorem dX2_take_36 : decode cX2_take 36 = .ok (.goto 97, 3) := by decide +kernel
theorem dX2_take_39 : decode cX2_take 39 = .ok (.aload_n 0, 1) := by decide +kernel
theorem dX2_take_40 : decode cX2_take 40 = .ok (.getfield 33, 3) := by decide +kernel
theorem dX2_take_43 : decode cX2_take 43 = .ok (.aload_n 0, 1) := by decide +kernel
theorem dX2_take_44 : decode cX2_take 44 = .ok (.getfield 15, 3) := by decide +kernel
theorem dX2_take_47 : decode cX2_take 47 = .ok (.arraylength, 1) := by decide +kernel
theorem dX2_take_48 : decode cX2_take 48 = .ok (.if_icmp .lt 11, 3) := by decide +kernel
theorem dX2_take_51 : decode cX2_take 51 = .ok (.aload_n 0, 1) := by decide +kernel
theorem dX2_take_52 : decode cX2_take 52 = .ok (.iconst 1, 1) := by decide +kernel
theorem dX2_take_53 : decode cX2_take 53 = .ok (.putfield 37, 3) := by decide +kernel
theorem dX2_take_56 : decode cX2_take 56 = .ok (.goto 77, 3) := by decide +kernel
theorem dX2_take_59 : decode cX2_take 59 = .ok (.aload_n 0, 1) := by decide +kernel
theorem dX2_take_60 : decode cX2_take 60 = .ok (.getfield 15, 3) := by decide +kernel
theorem dX2_take_63 : decode cX2_take 63 = .ok (.iload 4, 2) := by decide +kernel
theorem dX2_take_65 : decode cX2_take 65 = .ok (.aload_n 0, 1) := by decide +kernel
theorem dX2_take_66 : decode cX2_take 66 = .ok (.getfield 15, 3) := by decide +kernel
theorem dX2_take_69 : decode cX2_take 69 = .ok (.iload 4, 2) := by decide +kernel
theorem dX2_take_71 : decode cX2_take 71 = .ok (.iconst 1, 1) := by decide +kernel
theorem dX2_take_72 : decode cX2_take 72 = .ok (.iadd, 1) := by decide +kernel
theorem dX2_take_73 : decode cX2_take 73 = .ok (.aload_n 0, 1) := by decide +kernel
theorem dX2_take_74 : decode cX2_take 74 = .ok (.getfield 33, 3) := by decide +kernel
theorem dX2_take_77 : decode cX2_take 77 = .ok (.iload 4, 2) := by decide +kernel
theorem dX2_take_79 : decode cX2_take 79 = .ok (.isub, 1) := by decide +kernel
theorem dX2_take_80 : decode cX2_take 80 = .ok (.invokestatic 41, 3) := by decide +kernel
theorem dX2_take_83 : decode cX2_take 83 = .ok (.aload_n 0, 1) := by decide +kernel
theorem dX2_take_84 : decode cX2_take 84 = .ok (.getfield 21, 3) := by decide +kernel
theorem dX2_take_87 : decode cX2_take 87 = .ok (.iload 4, 2) := by decide +kernel
theorem dX2_take_89 : decode cX2_take 89 = .ok (.aload_n 0, 1) := by decide +kernel
theorem dX2_take_90 : decode cX2_take 90 = .ok (.getfield 21, 3) := by decide +kernel
theorem dX2_take_93 : decode cX2_take 93 = .ok (.iload 4, 2) := by decide +kernel
theorem dX2_take_95 : decode cX2_take 95 = .ok (.iconst 1, 1) := by decide +kernel
theorem dX2_take_96 : decode cX2_take 96 = .ok (.iadd, 1) := by decide +kernel
theorem dX2_take_97 : decode cX2_take 97 = .ok (.aload_n 0, 1) := by decide +kernel
theorem dX2_take_98 : decode cX2_take 98 = .ok (.getfield 33, 3) := by decide +kernel
theorem dX2_take_101 : decode cX2_take 101 = .ok (.iload 4, 2) := by decide +kernel
theorem dX2_take_103 : decode cX2_take 103 = .ok (.isub, 1) := by decide +kernel
theorem dX2_take_104 : decode cX2_take 104 = .ok (.invokestatic 41, 3) := by decide +kernel
theorem dX2_take_107 : decode cX2_take 107 = .ok (.aload_n 0, 1) := by decide +kernel
theorem dX2_take_108 : decode cX2_take 108 = .ok (.getfield 15, 3) := by decide +kernel
theorem dX2_take_111 : decode cX2_take 111 = .ok (.iload 4, 2) := by decide +kernel
theorem dX2_take_113 : decode cX2_take 113 = .ok (.iload_n 1, 1) := by decide +kernel
theorem dX2_take_114 : decode cX2_take 114 = .ok (.iastore, 1) := by decide +kernel
theorem dX2_take_115 : decode cX2_take 115 = .ok (.aload_n 0, 1) := by decide +kernel
theorem dX2_take_116 : decode cX2_take 116 = .ok (.getfield 21, 3) := by decide +kernel
theorem dX2_take_119 : decode cX2_take 119 = .ok (.iload 4, 2) := by decide +kernel
theorem dX2_take_121 : decode cX2_take 121 = .ok (.lload_n 2, 1) := by decide +kernel
theorem dX2_take_122 : decode cX2_take 122 = .ok (.lastore, 1) := by decide +kernel
theorem dX2_take_123 : decode cX2_take 123 = .ok (.aload_n 0, 1) := by decide +kernel
theorem dX2_take_124 : decode cX2_take 124 = .ok (.dup, 1) := by decide +kernel
theorem dX2_take_125 : decode cX2_take 125 = .ok (.getfield 33, 3) := by decide +kernel
theorem dX2_take_128 : decode cX2_take 128 = .ok (.iconst 1, 1) := by decide +kernel
theorem dX2_take_129 : decode cX2_take 129 = .ok (.iadd, 1) := by decide +kernel
theorem dX2_take_130 : decode cX2_take 130 = .ok (.putfield 33, 3) := by decide +kernel
theorem dX2_take_133 : decode cX2_take 133 = .ok (.return_, 1) := by decide +kernel
theorem dX2_together_0 : decode cX2_together 0 = .ok (.lconst 0, 1) := by decide +kernel
theorem dX2_together_1 : decode cX2_together 1 = .ok (.lstore_n 1, 1) := by decide +kernel
theorem dX2_together_2 : decode cX2_together 2 = .ok (.iconst 0, 1) := by decide +kernel
theorem dX2_together_3 : decode cX2_together 3 = .ok (.istore_n 3, 1) := by decide +kernel
theorem dX2_together_4 : decode cX2_together 4 = .ok (.iload_n 3, 1) := by decide +kernel
theorem dX2_together_5 : decode cX2_together 5 = .ok (.aload_n 0, 1) := by decide +kernel
theorem dX2_together_6 : decode cX2_together 6 = .ok (.getfield 33, 3) := by decide +kernel
theorem dX2_together_9 : decode cX2_together 9 = .ok (.if_icmp .ge 18, 3) := by decide +kernel
theorem dX2_together_12 : decode cX2_together 12 = .ok (.lload_n 1, 1) := by decide +kernel
theorem dX2_together_13 : decode cX2_together 13 = .ok (.aload_n 0, 1) := by decide +kernel
theorem dX2_together_14 : decode cX2_together 14 = .ok (.getfield 21, 3) := by decide +kernel
theorem dX2_together_17 : decode cX2_together 17 = .ok (.iload_n 3, 1) := by decide +kernel
theorem dX2_together_18 : decode cX2_together 18 = .ok (.laload, 1) := by decide +kernel
theorem dX2_together_19 : decode cX2_together 19 = .ok (.ladd, 1) := by decide +kernel
theorem dX2_together_20 : decode cX2_together 20 = .ok (.lstore_n 1, 1) := by decide +kernel
theorem dX2_together_21 : decode cX2_together 21 = .ok (.iinc 3 1, 3) := by decide +kernel
theorem dX2_together_24 : decode cX2_together 24 = .ok (.goto (-20), 3) := by decide +kernel
theorem dX2_together_27 : decode cX2_together 27 = .ok (.lload_n 1, 1) := by decide +kernel
theorem dX2_together_28 : decode cX2_together 28 = .ok (.lreturn, 1) := by decide +kernel
theorem dX2_makeEmpty_0 : decode cX2_makeEmpty 0 = .ok (.aload_n 0, 1) := by decide +kernel
theorem dX2_makeEmpty_1 : decode cX2_makeEmpty 1 = .ok (.iconst 0, 1) := by decide +kernel
theorem dX2_makeEmpty_2 : decode cX2_makeEmpty 2 = .ok (.putfield 33, 3) := by decide +kernel
theorem dX2_makeEmpty_5 : decode cX2_makeEmpty 5 = .ok (.aload_n 0, 1) := by decide +kernel
theorem dX2_makeEmpty_6 : decode cX2_makeEmpty 6 = .ok (.iconst 0, 1) := by decide +kernel
theorem dX2_makeEmpty_7 : decode cX2_makeEmpty 7 = .ok (.putfield 37, 3) := by decide +kernel
theorem dX2_makeEmpty_10 : decode cX2_makeEmpty 10 = .ok (.return_, 1) := by decide +kernel
theorem dX2_become_0 : decode cX2_become 0 = .ok (.aload_n 1, 1) := by decide +kernel
theorem dX2_become_1 : decode cX2_become 1 = .ok (.getfield 15, 3) := by decide +kernel
theorem dX2_become_4 : decode cX2_become 4 = .ok (.iconst 0, 1) := by decide +kernel
theorem dX2_become_5 : decode cX2_become 5 = .ok (.aload_n 0, 1) := by decide +kernel
theorem dX2_become_6 : decode cX2_become 6 = .ok (.getfield 15, 3) := by decide +kernel
theorem dX2_become_9 : decode cX2_become 9 = .ok (.iconst 0, 1) := by decide +kernel
theorem dX2_become_10 : decode cX2_become 10 = .ok (.aload_n 1, 1) := by decide +kernel
theorem dX2_become_11 : decode cX2_become 11 = .ok (.getfield 33, 3) := by decide +kernel
theorem dX2_become_14 : decode cX2_become 14 = .ok (.invokestatic 41, 3) := by decide +kernel
theorem dX2_become_17 : decode cX2_become 17 = .ok (.aload_n 1, 1) := by decide +kernel
theorem dX2_become_18 : decode cX2_become 18 = .ok (.getfield 21, 3) := by decide +kernel
theorem dX2_become_21 : decode cX2_become 21 = .ok (.iconst 0, 1) := by decide +kernel
theorem dX2_become_22 : decode cX2_become 22 = .ok (.aload_n 0, 1) := by decide +kernel
theorem dX2_become_23 : decode cX2_become 23 = .ok (.getfield 21, 3) := by decide +kernel
theorem dX2_become_26 : decode cX2_become 26 = .ok (.iconst 0, 1) := by decide +kernel
theorem dX2_become_27 : decode cX2_become 27 = .ok (.aload_n 1, 1) := by decide +kernel
theorem dX2_become_28 : decode cX2_become 28 = .ok (.getfield 33, 3) := by decide +kernel
theorem dX2_become_31 : decode cX2_become 31 = .ok (.invokestatic 41, 3) := by decide +kernel
theorem dX2_become_34 : decode cX2_become 34 = .ok (.aload_n 0, 1) := by decide +kernel
theorem dX2_become_35 : decode cX2_become 35 = .ok (.aload_n 1, 1) := by decide +kernel
theorem dX2_become_36 : decode cX2_become 36 = .ok (.getfield 33, 3) := by decide +kernel
theorem dX2_become_39 : decode cX2_become 39 = .ok (.putfield 33, 3) := by decide +kernel
theorem dX2_become_42 : decode cX2_become 42 = .ok (.aload_n 0, 1) := by decide +kernel
theorem dX2_become_43 : decode cX2_become 43 = .ok (.aload_n 1, 1) := by decide +kernel
theorem dX2_become_44 : decode cX2_become 44 = .ok (.getfield 37, 3) := by decide +kernel
theorem dX2_become_47 : decode cX2_become 47 = .ok (.putfield 37, 3) := by decide +kernel
theorem dX2_become_50 : decode cX2_become 50 = .ok (.return_, 1) := by decide +kernel
theorem dX2_putTogether_0 : decode cX2_putTogether 0 = .ok (.aload_n 0, 1) := by decide +kernel
theorem dX2_putTogether_1 : decode cX2_putTogether 1 = .ok (.aload_n 0, 1) := by decide +kernel
theorem dX2_putTogether_2 : decode cX2_putTogether 2 = .ok (.getfield 37, 3) := by decide +kernel
theorem dX2_putTogether_5 : decode cX2_putTogether 5 = .ok (.ifCond .ne 10, 3) := by decide +kernel
theorem dX2_putTogether_8 : decode cX2_putTogether 8 = .ok (.aload_n 1, 1) := by decide +kernel
theorem dX2_putTogether_9 : decode cX2_putTogether 9 = .ok (.getfield 37, 3) := by decide +kernel
theorem dX2_putTogether_12 : decode cX2_putTogether 12 = .ok (.ifCond .eq 7, 3) := by decide +kernel
theorem dX2_putTogether_15 : decode cX2_putTogether 15 = .ok (.iconst 1, 1) := by decide +kernel
theorem dX2_putTogether_16 : decode cX2_putTogether 16 = .ok (.goto 4, 3) := by decide +kernel
theorem dX2_putTogether_19 : decode cX2_putTogether 19 = .ok (.iconst 0, 1) := by decide +kernel
theorem dX2_putTogether_20 : decode cX2_putTogether 20 = .ok (.putfield 37, 3) := by decide +kernel
theorem dX2_putTogether_23 : decode cX2_putTogether 23 = .ok (.aload_n 1, 1) := by decide +kernel
theorem dX2_putTogether_24 : decode cX2_putTogether 24 = .ok (.getfield 33, 3) := by decide +kernel
theorem dX2_putTogether_27 : decode cX2_putTogether 27 = .ok (.istore_n 2, 1) := by decide +kernel
theorem dX2_putTogether_28 : decode cX2_putTogether 28 = .ok (.iconst 0, 1) := by decide +kernel
theorem dX2_putTogether_29 : decode cX2_putTogether 29 = .ok (.istore_n 3, 1) := by decide +kernel
theorem dX2_putTogether_30 : decode cX2_putTogether 30 = .ok (.iload_n 3, 1) := by decide +kernel
theorem dX2_putTogether_31 : decode cX2_putTogether 31 = .ok (.iload_n 2, 1) := by decide +kernel
theorem dX2_putTogether_32 : decode cX2_putTogether 32 = .ok (.if_icmp .ge 25, 3) := by decide +kernel
theorem dX2_putTogether_35 : decode cX2_putTogether 35 = .ok (.aload_n 0, 1) := by decide +kernel
theorem dX2_putTogether_36 : decode cX2_putTogether 36 = .ok (.aload_n 1, 1) := by decide +kernel
theorem dX2_putTogether_37 : decode cX2_putTogether 37 = .ok (.getfield 15, 3) := by decide +kernel
theorem dX2_putTogether_40 : decode cX2_putTogether 40 = .ok (.iload_n 3, 1) := by decide +kernel
theorem dX2_putTogether_41 : decode cX2_putTogether 41 = .ok (.iaload, 1) := by decide +kernel
theorem dX2_putTogether_42 : decode cX2_putTogether 42 = .ok (.aload_n 1, 1) := by decide +kernel
theorem dX2_putTogether_43 : decode cX2_putTogether 43 = .ok (.getfield 21, 3) := by decide +kernel
theorem dX2_putTogether_46 : decode cX2_putTogether 46 = .ok (.iload_n 3, 1) := by decide +kernel
theorem dX2_putTogether_47 : decode cX2_putTogether 47 = .ok (.laload, 1) := by decide +kernel
theorem dX2_putTogether_48 : decode cX2_putTogether 48 = .ok (.invokevirtual 47, 3) := by decide +kernel
theorem dX2_putTogether_51 : decode cX2_putTogether 51 = .ok (.iinc 3 1, 3) := by decide +kernel
theorem dX2_putTogether_54 : decode cX2_putTogether 54 = .ok (.goto (-24), 3) := by decide +kernel
theorem dX2_putTogether_57 : decode cX2_putTogether 57 = .ok (.return_, 1) := by decide +kernel
theorem dX3_init_0 : decode cX3_init 0 = .ok (.aload_n 0, 1) := by decide +kernel
theorem dX3_init_1 : decode cX3_init 1 = .ok (.invokespecial 1, 3) := by decide +kernel
theorem dX3_init_4 : decode cX3_init 4 = .ok (.aload_n 0, 1) := by decide +kernel
theorem dX3_init_5 : decode cX3_init 5 = .ok (.iload_n 1, 1) := by decide +kernel
theorem dX3_init_6 : decode cX3_init 6 = .ok (.putfield 7, 3) := by decide +kernel
theorem dX3_init_9 : decode cX3_init 9 = .ok (.aload_n 0, 1) := by decide +kernel
theorem dX3_init_10 : decode cX3_init 10 = .ok (.iload_n 2, 1) := by decide +kernel
theorem dX3_init_11 : decode cX3_init 11 = .ok (.putfield 13, 3) := by decide +kernel
theorem dX3_init_14 : decode cX3_init 14 = .ok (.aload_n 0, 1) := by decide +kernel
theorem dX3_init_15 : decode cX3_init 15 = .ok (.iload_n 3, 1) := by decide +kernel
theorem dX3_init_16 : decode cX3_init 16 = .ok (.putfield 16, 3) := by decide +kernel
theorem dX3_init_19 : decode cX3_init 19 = .ok (.aload_n 0, 1) := by decide +kernel
theorem dX3_init_20 : decode cX3_init 20 = .ok (.iload_n 3, 1) := by decide +kernel
theorem dX3_init_21 : decode cX3_init 21 = .ok (.newarray .int, 2) := by decide +kernel
theorem dX3_init_23 : decode cX3_init 23 = .ok (.putfield 19, 3) := by decide +kernel
theorem dX3_init_26 : decode cX3_init 26 = .ok (.aload_n 0, 1) := by decide +kernel
theorem dX3_init_27 : decode cX3_init 27 = .ok (.iload_n 3, 1) := by decide +kernel
theorem dX3_init_28 : decode cX3_init 28 = .ok (.newarray .int, 2) := by decide +kernel
theorem dX3_init_30 : decode cX3_init 30 = .ok (.putfield 23, 3) := by decide +kernel
theorem dX3_init_33 : decode cX3_init 33 = .ok (.iconst 0, 1) := by decide +kernel
theorem dX3_init_34 : decode cX3_init 34 = .ok (.istore 4, 2) := by decide +kernel
theorem dX3_init_36 : decode cX3_init 36 = .ok (.iload 4, 2) := by decide +kernel
theorem dX3_init_38 : decode cX3_init 38 = .ok (.iload_n 3, 1) := by decide +kernel
theorem dX3_init_39 : decode cX3_init 39 = .ok (.if_icmp .ge 47, 3) := by decide +kernel
theorem dX3_init_42 : decode cX3_init 42 = .ok (.aload_n 0, 1) := by decide +kernel
theorem dX3_init_43 : decode cX3_init 43 = .ok (.getfield 19, 3) := by decide +kernel
theorem dX3_init_46 : decode cX3_init 46 = .ok (.iload 4, 2) := by decide +kernel
theorem dX3_init_48 : decode cX3_init 48 = .ok (.iconst 1, 1) := by decide +kernel
theorem dX3_init_49 : decode cX3_init 49 = .ok (.sipush 7919, 3) := by decide +kernel
theorem dX3_init_52 : decode cX3_init 52 = .ok (.iload 4, 2) := by decide +kernel
theorem dX3_init_54 : decode cX3_init 54 = .ok (.imul, 1) := by decide +kernel
theorem dX3_init_55 : decode cX3_init 55 = .ok (.bipush 13, 2) := by decide +kernel
theorem dX3_init_57 : decode cX3_init 57 = .ok (.iadd, 1) := by decide +kernel
theorem dX3_init_58 : decode cX3_init 58 = .ok (.iload_n 1, 1) := by decide +kernel
theorem dX3_init_59 : decode cX3_init 59 = .ok (.iconst 1, 1) := by decide +kernel
theorem dX3_init_60 : decode cX3_init 60 = .ok (.isub, 1) := by decide +kernel
theorem dX3_init_61 : decode cX3_init 61 = .ok (.irem, 1) := by decide +kernel
theorem dX3_init_62 : decode cX3_init 62 = .ok (.iadd, 1) := by decide +kernel
theorem dX3_init_63 : decode cX3_init 63 = .ok (.iastore, 1) := by decide +kernel
theorem dX3_init_64 : decode cX3_init 64 = .ok (.aload_n 0, 1) := by decide +kernel
theorem dX3_init_65 : decode cX3_init 65 = .ok (.getfield 23, 3) := by decide +kernel
theorem dX3_init_68 : decode cX3_init 68 = .ok (.iload 4, 2) := by decide +kernel
theorem dX3_init_70 : decode cX3_init 70 = .ok (.ldc 26, 2) := by decide +kernel
theorem dX3_init_72 : decode cX3_init 72 = .ok (.iload 4, 2) := by decide +kernel
theorem dX3_init_74 : decode cX3_init 74 = .ok (.imul, 1) := by decide +kernel
theorem dX3_init_75 : decode cX3_init 75 = .ok (.iconst 5, 1) := by decide +kernel
theorem dX3_init_76 : decode cX3_init 76 = .ok (.iadd, 1) := by decide +kernel
theorem dX3_init_77 : decode cX3_init 77 = .ok (.iload_n 1, 1) := by decide +kernel
theorem dX3_init_78 : decode cX3_init 78 = .ok (.irem, 1) := by decide +kernel
theorem dX3_init_79 : decode cX3_init 79 = .ok (.iastore, 1) := by decide +kernel
theorem dX3_init_80 : decode cX3_init 80 = .ok (.iinc 4 1, 3) := by decide +kernel
theorem dX3_init_83 : decode cX3_init 83 = .ok (.goto (-47), 3) := by decide +kernel
theorem dX3_init_86 : decode cX3_init 86 = .ok (.return_, 1) := by decide +kernel
theorem dX3_isRow_0 : decode cX3_isRow 0 = .ok (.iload_n 1, 1) := by decide +kernel
theorem dX3_isRow_1 : decode cX3_isRow 1 = .ok (.ifCond .lt 15, 3) := by decide +kernel
theorem dX3_isRow_4 : decode cX3_isRow 4 = .ok (.iload_n 1, 1) := by decide +kernel
theorem dX3_isRow_5 : decode cX3_isRow 5 = .ok (.aload_n 0, 1) := by decide +kernel
theorem dX3_isRow_6 : decode cX3_isRow 6 = .ok (.getfield 16, 3) := by decide +kernel
theorem dX3_isRow_9 : decode cX3_isRow 9 = .ok (.if_icmp .ge 7, 3) := by decide +kernel
theorem dX3_isRow_12 : decode cX3_isRow 12 = .ok (.iconst 1, 1) := by decide +kernel
theorem dX3_isRow_13 : decode cX3_isRow 13 = .ok (.goto 4, 3) := by decide +kernel
theorem dX3_isRow_16 : decode cX3_isRow 16 = .ok (.iconst 0, 1) := by decide +kernel
theorem dX3_isRow_17 : decode cX3_isRow 17 = .ok (.ireturn, 1) := by decide +kernel
theorem dX3_isKey_0 : decode cX3_isKey 0 = .ok (.iload_n 1, 1) := by decide +kernel
theorem dX3_isKey_1 : decode cX3_isKey 1 = .ok (.ifCond .lt 15, 3) := by decide +kernel
theorem dX3_isKey_4 : decode cX3_isKey 4 = .ok (.iload_n 1, 1) := by decide +kernel
theorem dX3_isKey_5 : decode cX3_isKey 5 = .ok (.aload_n 0, 1) := by decide +kernel
theorem dX3_isKey_6 : decode cX3_isKey 6 = .ok (.getfield 7, 3) := by decide +kernel
theorem dX3_isKey_9 : decode cX3_isKey 9 = .ok (.if_icmp .ge 7, 3) := by decide +kernel
theorem dX3_isKey_12 : decode cX3_isKey 12 = .ok (.iconst 1, 1) := by decide +kernel
theorem dX3_isKey_13 : decode cX3_isKey 13 = .ok (.goto 4, 3) := by decide +kernel
theorem dX3_isKey_16 : decode cX3_isKey 16 = .ok (.iconst 0, 1) := by decide +kernel
theorem dX3_isKey_17 : decode cX3_isKey 17 = .ok (.ireturn, 1) := by decide +kernel
theorem dX3_isPair_0 : decode cX3_isPair 0 = .ok (.iload_n 1, 1) := by decide +kernel
theorem dX3_isPair_1 : decode cX3_isPair 1 = .ok (.iconst 1, 1) := by decide +kernel
theorem dX3_isPair_2 : decode cX3_isPair 2 = .ok (.if_icmp .lt 27, 3) := by decide +kernel
theorem dX3_isPair_5 : decode cX3_isPair 5 = .ok (.iload_n 1, 1) := by decide +kernel
theorem dX3_isPair_6 : decode cX3_isPair 6 = .ok (.aload_n 0, 1) := by decide +kernel
theorem dX3_isPair_7 : decode cX3_isPair 7 = .ok (.getfield 7, 3) := by decide +kernel
theorem dX3_isPair_10 : decode cX3_isPair 10 = .ok (.if_icmp .ge 19, 3) := by decide +kernel
theorem dX3_isPair_13 : decode cX3_isPair 13 = .ok (.iload_n 2, 1) := by decide +kernel
theorem dX3_isPair_14 : decode cX3_isPair 14 = .ok (.ifCond .lt 15, 3) := by decide +kernel
theorem dX3_isPair_17 : decode cX3_isPair 17 = .ok (.iload_n 2, 1) := by decide +kernel
theorem dX3_isPair_18 : decode cX3_isPair 18 = .ok (.aload_n 0, 1) := by decide +kernel
theorem dX3_isPair_19 : decode cX3_isPair 19 = .ok (.getfield 7, 3) := by decide +kernel
theorem dX3_isPair_22 : decode cX3_isPair 22 = .ok (.if_icmp .ge 7, 3) := by decide +kernel
theorem dX3_isPair_25 : decode cX3_isPair 25 = .ok (.iconst 1, 1) := by decide +kernel
theorem dX3_isPair_26 : decode cX3_isPair 26 = .ok (.goto 4, 3) := by decide +kernel
theorem dX3_isPair_29 : decode cX3_isPair 29 = .ok (.iconst 0, 1) := by decide +kernel
theorem dX3_isPair_30 : decode cX3_isPair 30 = .ok (.ireturn, 1) := by decide +kernel
theorem dX3_setPair_0 : decode cX3_setPair 0 = .ok (.aload_n 0, 1) := by decide +kernel
theorem dX3_setPair_1 : decode cX3_setPair 1 = .ok (.getfield 19, 3) := by decide +kernel
theorem dX3_setPair_4 : decode cX3_setPair 4 = .ok (.iload_n 1, 1) := by decide +kernel
theorem dX3_setPair_5 : decode cX3_setPair 5 = .ok (.iload_n 2, 1) := by decide +kernel
theorem dX3_setPair_6 : decode cX3_setPair 6 = .ok (.iastore, 1) := by decide +kernel
theorem dX3_setPair_7 : decode cX3_setPair 7 = .ok (.aload_n 0, 1) := by decide +kernel
theorem dX3_setPair_8 : decode cX3_setPair 8 = .ok (.getfield 23, 3) := by decide +kernel
theorem dX3_setPair_11 : decode cX3_setPair 11 = .ok (.iload_n 1, 1) := by decide +kernel
theorem dX3_setPair_12 : decode cX3_setPair 12 = .ok (.iload_n 3, 1) := by decide +kernel
theorem dX3_setPair_13 : decode cX3_setPair 13 = .ok (.iastore, 1) := by decide +kernel
theorem dX3_setPair_14 : decode cX3_setPair 14 = .ok (.return_, 1) := by decide +kernel
theorem dX3_column_0 : decode cX3_column 0 = .ok (.aload_n 0, 1) := by decide +kernel
theorem dX3_column_1 : decode cX3_column 1 = .ok (.getfield 19, 3) := by decide +kernel
theorem dX3_column_4 : decode cX3_column 4 = .ok (.iload_n 1, 1) := by decide +kernel
theorem dX3_column_5 : decode cX3_column 5 = .ok (.iaload, 1) := by decide +kernel
theorem dX3_column_6 : decode cX3_column 6 = .ok (.i2l, 1) := by decide +kernel
theorem dX3_column_7 : decode cX3_column 7 = .ok (.iload_n 2, 1) := by decide +kernel
theorem dX3_column_8 : decode cX3_column 8 = .ok (.i2l, 1) := by decide +kernel
theorem dX3_column_9 : decode cX3_column 9 = .ok (.lmul, 1) := by decide +kernel
theorem dX3_column_10 : decode cX3_column 10 = .ok (.aload_n 0, 1) := by decide +kernel
theorem dX3_column_11 : decode cX3_column 11 = .ok (.getfield 23, 3) := by decide +kernel
theorem dX3_column_14 : decode cX3_column 14 = .ok (.iload_n 1, 1) := by decide +kernel
theorem dX3_column_15 : decode cX3_column 15 = .ok (.iaload, 1) := by decide +kernel
theorem dX3_column_16 : decode cX3_column 16 = .ok (.i2l, 1) := by decide +kernel
theorem dX3_column_17 : decode cX3_column 17 = .ok (.ladd, 1) := by decide +kernel
theorem dX3_column_18 : decode cX3_column 18 = .ok (.lstore_n 3, 1) := by decide +kernel
theorem dX3_column_19 : decode cX3_column 19 = .ok (.lload_n 3, 1) := by decide +kernel
theorem dX3_column_20 : decode cX3_column 20 = .ok (.aload_n 0, 1) := by decide +kernel
theorem dX3_column_21 : decode cX3_column 21 = .ok (.getfield 7, 3) := by decide +kernel
theorem dX3_column_24 : decode cX3_column 24 = .ok (.i2l, 1) := by decide +kernel
theorem dX3_column_25 : decode cX3_column 25 = .ok (.lrem, 1) := by decide +kernel
theorem dX3_column_26 : decode cX3_column 26 = .ok (.l2i, 1) := by decide +kernel
theorem dX3_column_27 : decode cX3_column 27 = .ok (.aload_n 0, 1) := by decide +kernel
theorem dX3_column_28 : decode cX3_column 28 = .ok (.getfield 13, 3) := by decide +kernel
theorem dX3_column_31 : decode cX3_column 31 = .ok (.irem, 1) := by decide +kernel
theorem dX3_column_32 : decode cX3_column 32 = .ok (.ireturn, 1) := by decide +kernel
theorem dX3_pairsThatMeet_0 : decode cX3_pairsThatMeet 0 = .ok (.aload_n 0, 1) := by decide +kernel
theorem dX3_pairsThatMeet_1 : decode cX3_pairsThatMeet 1 = .ok (.getfield 7, 3) := by decide +kernel
theorem dX3_pairsThatMeet_4 : decode cX3_pairsThatMeet 4 = .ok (.aload_n 0, 1) := by decide +kernel
theorem dX3_pairsThatMeet_5 : decode cX3_pairsThatMeet 5 = .ok (.getfield 13, 3) := by decide +kernel
theorem dX3_pairsThatMeet_8 : decode cX3_pairsThatMeet 8 = .ok (.idiv, 1) := by decide +kernel
theorem dX3_pairsThatMeet_9 : decode cX3_pairsThatMeet 9 = .ok (.i2l, 1) := by decide +kernel
theorem dX3_pairsThatMeet_10 : decode cX3_pairsThatMeet 10 = .ok (.lstore_n 1, 1) := by decide +kernel
theorem dX3_pairsThatMeet_11 : decode cX3_pairsThatMeet 11 = .ok (.aload_n 0, 1) := by decide +kernel
theorem dX3_pairsThatMeet_12 : decode cX3_pairsThatMeet 12 = .ok (.getfield 7, 3) := by decide +kernel
theorem dX3_pairsThatMeet_15 : decode cX3_pairsThatMeet 15 = .ok (.aload_n 0, 1) := by decide +kernel
theorem dX3_pairsThatMeet_16 : decode cX3_pairsThatMeet 16 = .ok (.getfield 13, 3) := by decide +kernel
theorem dX3_pairsThatMeet_19 : decode cX3_pairsThatMeet 19 = .ok (.irem, 1) := by decide +kernel
theorem dX3_pairsThatMeet_20 : decode cX3_pairsThatMeet 20 = .ok (.i2l, 1) := by decide +kernel
theorem dX3_pairsThatMeet_21 : decode cX3_pairsThatMeet 21 = .ok (.lstore_n 3, 1) := by decide +kernel
theorem dX3_pairsThatMeet_22 : decode cX3_pairsThatMeet 22 = .ok (.lload_n 3, 1) := by decide +kernel
theorem dX3_pairsThatMeet_23 : decode cX3_pairsThatMeet 23 = .ok (.lload_n 1, 1) := by decide +kernel
theorem dX3_pairsThatMeet_24 : decode cX3_pairsThatMeet 24 = .ok (.lconst 1, 1) := by decide +kernel
theorem dX3_pairsThatMeet_25 : decode cX3_pairsThatMeet 25 = .ok (.ladd, 1) := by decide +kernel
theorem dX3_pairsThatMeet_26 : decode cX3_pairsThatMeet 26 = .ok (.lmul, 1) := by decide +kernel
theorem dX3_pairsThatMeet_27 : decode cX3_pairsThatMeet 27 = .ok (.lload_n 1, 1) := by decide +kernel
theorem dX3_pairsThatMeet_28 : decode cX3_pairsThatMeet 28 = .ok (.lmul, 1) := by decide +kernel
theorem dX3_pairsThatMeet_29 : decode cX3_pairsThatMeet 29 = .ok (.aload_n 0, 1) := by decide +kernel
theorem dX3_pairsThatMeet_30 : decode cX3_pairsThatMeet 30 = .ok (.getfield 13, 3) := by decide +kernel
theorem dX3_pairsThatMeet_33 : decode cX3_pairsThatMeet 33 = .ok (.i2l, 1) := by decide +kernel
theorem dX3_pairsThatMeet_34 : decode cX3_pairsThatMeet 34 = .ok (.lload_n 3, 1) := by decide +kernel
theorem dX3_pairsThatMeet_35 : decode cX3_pairsThatMeet 35 = .ok (.lsub, 1) := by decide +kernel
theorem dX3_pairsThatMeet_36 : decode cX3_pairsThatMeet 36 = .ok (.lload_n 1, 1) := by decide +kernel
theorem dX3_pairsThatMeet_37 : decode cX3_pairsThatMeet 37 = .ok (.lmul, 1) := by decide +kernel
theorem dX3_pairsThatMeet_38 : decode cX3_pairsThatMeet 38 = .ok (.lload_n 1, 1) := by decide +kernel
theorem dX3_pairsThatMeet_39 : decode cX3_pairsThatMeet 39 = .ok (.lconst 1, 1) := by decide +kernel
theorem dX3_pairsThatMeet_40 : decode cX3_pairsThatMeet 40 = .ok (.lsub, 1) := by decide +kernel
theorem dX3_pairsThatMeet_41 : decode cX3_pairsThatMeet 41 = .ok (.lmul, 1) := by decide +kernel
theorem dX3_pairsThatMeet_42 : decode cX3_pairsThatMeet 42 = .ok (.ladd, 1) := by decide +kernel
theorem dX3_pairsThatMeet_43 : decode cX3_pairsThatMeet 43 = .ok (.lreturn, 1) := by decide +kernel
theorem dX4_init_0 : decode cX4_init 0 = .ok (.aload_n 0, 1) := by decide +kernel
theorem dX4_init_1 : decode cX4_init 1 = .ok (.invokespecial 1, 3) := by decide +kernel
theorem dX4_init_4 : decode cX4_init 4 = .ok (.aload_n 0, 1) := by decide +kernel
theorem dX4_init_5 : decode cX4_init 5 = .ok (.aload_n 1, 1) := by decide +kernel
theorem dX4_init_6 : decode cX4_init 6 = .ok (.putfield 7, 3) := by decide +kernel
theorem dX4_init_9 : decode cX4_init 9 = .ok (.aload_n 0, 1) := by decide +kernel
theorem dX4_init_10 : decode cX4_init 10 = .ok (.iload_n 2, 1) := by decide +kernel
theorem dX4_init_11 : decode cX4_init 11 = .ok (.putfield 13, 3) := by decide +kernel
theorem dX4_init_14 : decode cX4_init 14 = .ok (.aload_n 0, 1) := by decide +kernel
theorem dX4_init_15 : decode cX4_init 15 = .ok (.aload_n 1, 1) := by decide +kernel
theorem dX4_init_16 : decode cX4_init 16 = .ok (.getfield 17, 3) := by decide +kernel
theorem dX4_init_19 : decode cX4_init 19 = .ok (.aload_n 1, 1) := by decide +kernel
theorem dX4_init_20 : decode cX4_init 20 = .ok (.getfield 23, 3) := by decide +kernel
theorem dX4_init_23 : decode cX4_init 23 = .ok (.imul, 1) := by decide +kernel
theorem dX4_init_24 : decode cX4_init 24 = .ok (.newarray .long, 2) := by decide +kernel
theorem dX4_init_26 : decode cX4_init 26 = .ok (.putfield 26, 3) := by decide +kernel
theorem dX4_init_29 : decode cX4_init 29 = .ok (.return_, 1) := by decide +kernel
theorem dX4_guess_0 : decode cX4_guess 0 = .ok (.aload_n 0, 1) := by decide +kernel
theorem dX4_guess_1 : decode cX4_guess 1 = .ok (.iconst 0, 1) := by decide +kernel
theorem dX4_guess_2 : decode cX4_guess 2 = .ok (.aload_n 0, 1) := by decide +kernel
theorem dX4_guess_3 : decode cX4_guess 3 = .ok (.getfield 7, 3) := by decide +kernel
theorem dX4_guess_6 : decode cX4_guess 6 = .ok (.iconst 0, 1) := by decide +kernel
theorem dX4_guess_7 : decode cX4_guess 7 = .ok (.iload_n 1, 1) := by decide +kernel
theorem dX4_guess_8 : decode cX4_guess 8 = .ok (.invokevirtual 30, 3) := by decide +kernel
theorem dX4_guess_11 : decode cX4_guess 11 = .ok (.invokevirtual 34, 3) := by decide +kernel
theorem dX4_guess_14 : decode cX4_guess 14 = .ok (.lstore_n 2, 1) := by decide +kernel
theorem dX4_guess_15 : decode cX4_guess 15 = .ok (.iconst 1, 1) := by decide +kernel
theorem dX4_guess_16 : decode cX4_guess 16 = .ok (.istore 4, 2) := by decide +kernel
theorem dX4_guess_18 : decode cX4_guess 18 = .ok (.iload 4, 2) := by decide +kernel
theorem dX4_guess_20 : decode cX4_guess 20 = .ok (.aload_n 0, 1) := by decide +kernel
theorem dX4_guess_21 : decode cX4_guess 21 = .ok (.getfield 7, 3) := by decide +kernel
theorem dX4_guess_24 : decode cX4_guess 24 = .ok (.getfield 17, 3) := by decide +kernel
theorem dX4_guess_27 : decode cX4_guess 27 = .ok (.if_icmp .ge 36, 3) := by decide +kernel
theorem dX4_guess_30 : decode cX4_guess 30 = .ok (.lload_n 2, 1) := by decide +kernel
theorem dX4_guess_31 : decode cX4_guess 31 = .ok (.lconst 0, 1) := by decide +kernel
theorem dX4_guess_32 : decode cX4_guess 32 = .ok (.lcmp, 1) := by decide +kernel
theorem dX4_guess_33 : decode cX4_guess 33 = .ok (.ifCond .le 30, 3) := by decide +kernel
theorem dX4_guess_36 : decode cX4_guess 36 = .ok (.lload_n 2, 1) := by decide +kernel
theorem dX4_guess_37 : decode cX4_guess 37 = .ok (.aload_n 0, 1) := by decide +kernel
theorem dX4_guess_38 : decode cX4_guess 38 = .ok (.iload 4, 2) := by decide +kernel
theorem dX4_guess_40 : decode cX4_guess 40 = .ok (.aload_n 0, 1) := by decide +kernel
theorem dX4_guess_41 : decode cX4_guess 41 = .ok (.getfield 7, 3) := by decide +kernel
theorem dX4_guess_44 : decode cX4_guess 44 = .ok (.iload 4, 2) := by decide +kernel
theorem dX4_guess_46 : decode cX4_guess 46 = .ok (.iload_n 1, 1) := by decide +kernel
theorem dX4_guess_47 : decode cX4_guess 47 = .ok (.invokevirtual 30, 3) := by decide +kernel
theorem dX4_guess_50 : decode cX4_guess 50 = .ok (.invokevirtual 34, 3) := by decide +kernel
theorem dX4_guess_53 : decode cX4_guess 53 = .ok (.invokestatic 38, 3) := by decide +kernel
theorem dX4_guess_56 : decode cX4_guess 56 = .ok (.lstore_n 2, 1) := by decide +kernel
theorem dX4_guess_57 : decode cX4_guess 57 = .ok (.iinc 4 1, 3) := by decide +kernel
theorem dX4_guess_60 : decode cX4_guess 60 = .ok (.goto (-42), 3) := by decide +kernel
theorem dX4_guess_63 : decode cX4_guess 63 = .ok (.lload_n 2, 1) := by decide +kernel
theorem dX4_guess_64 : decode cX4_guess 64 = .ok (.lreturn, 1) := by decide +kernel
theorem dX4_low_0 : decode cX4_low 0 = .ok (.lconst 0, 1) := by decide +kernel
theorem dX4_low_1 : decode cX4_low 1 = .ok (.lreturn, 1) := by decide +kernel
theorem dX4_high_0 : decode cX4_high 0 = .ok (.aload_n 0, 1) := by decide +kernel
theorem dX4_high_1 : decode cX4_high 1 = .ok (.iload_n 1, 1) := by decide +kernel
theorem dX4_high_2 : decode cX4_high 2 = .ok (.invokevirtual 44, 3) := by decide +kernel
theorem dX4_high_5 : decode cX4_high 5 = .ok (.lreturn, 1) := by decide +kernel
theorem dX4_at_0 : decode cX4_at 0 = .ok (.aload_n 0, 1) := by decide +kernel
theorem dX4_at_1 : decode cX4_at 1 = .ok (.getfield 26, 3) := by decide +kernel
theorem dX4_at_4 : decode cX4_at 4 = .ok (.iload_n 1, 1) := by decide +kernel
theorem dX4_at_5 : decode cX4_at 5 = .ok (.aload_n 0, 1) := by decide +kernel
theorem dX4_at_6 : decode cX4_at 6 = .ok (.getfield 7, 3) := by decide +kernel
theorem dX4_at_9 : decode cX4_at 9 = .ok (.getfield 23, 3) := by decide +kernel
theorem dX4_at_12 : decode cX4_at 12 = .ok (.imul, 1) := by decide +kernel
theorem dX4_at_13 : decode cX4_at 13 = .ok (.iload_n 2, 1) := by decide +kernel
theorem dX4_at_14 : decode cX4_at 14 = .ok (.iadd, 1) := by decide +kernel
theorem dX4_at_15 : decode cX4_at 15 = .ok (.laload, 1) := by decide +kernel
theorem dX4_at_16 : decode cX4_at 16 = .ok (.lreturn, 1) := by decide +kernel
theorem dX4_take_0 : decode cX4_take 0 = .ok (.aload_n 0, 1) := by decide +kernel
theorem dX4_take_1 : decode cX4_take 1 = .ok (.getfield 13, 3) := by decide +kernel
theorem dX4_take_4 : decode cX4_take 4 = .ok (.ifCond .eq 14, 3) := by decide +kernel
theorem dX4_take_7 : decode cX4_take 7 = .ok (.aload_n 0, 1) := by decide +kernel
theorem dX4_take_8 : decode cX4_take 8 = .ok (.iload_n 1, 1) := by decide +kernel
theorem dX4_take_9 : decode cX4_take 9 = .ok (.invokevirtual 44, 3) := by decide +kernel
theorem dX4_take_12 : decode cX4_take 12 = .ok (.iload_n 2, 1) := by decide +kernel
theorem dX4_take_13 : decode cX4_take 13 = .ok (.i2l, 1) := by decide +kernel
theorem dX4_take_14 : decode cX4_take 14 = .ok (.ladd, 1) := by decide +kernel
theorem dX4_take_15 : decode cX4_take 15 = .ok (.goto 4, 3) := by decide +kernel
theorem dX4_take_18 : decode cX4_take 18 = .ok (.lconst 0, 1) := by decide +kernel
theorem dX4_take_19 : decode cX4_take 19 = .ok (.lstore_n 3, 1) := by decide +kernel
theorem dX4_take_20 : decode cX4_take 20 = .ok (.iconst 0, 1) := by decide +kernel
theorem dX4_take_21 : decode cX4_take 21 = .ok (.istore 5, 2) := by decide +kernel
theorem dX4_take_23 : decode cX4_take 23 = .ok (.iload 5, 2) := by decide +kernel
theorem dX4_take_25 : decode cX4_take 25 = .ok (.aload_n 0, 1) := by decide +kernel
theorem dX4_take_26 : decode cX4_take 26 = .ok (.getfield 7, 3) := by decide +kernel
theorem dX4_take_29 : decode cX4_take 29 = .ok (.getfield 17, 3) := by decide +kernel
theorem dX4_take_32 : decode cX4_take 32 = .ok (.if_icmp .ge 70, 3) := by decide +kernel
theorem dX4_take_35 : decode cX4_take 35 = .ok (.iload 5, 2) := by decide +kernel
theorem dX4_take_37 : decode cX4_take 37 = .ok (.aload_n 0, 1) := by decide +kernel
theorem dX4_take_38 : decode cX4_take 38 = .ok (.getfield 7, 3) := by decide +kernel
theorem dX4_take_41 : decode cX4_take 41 = .ok (.getfield 23, 3) := by decide +kernel
theorem dX4_take_44 : decode cX4_take 44 = .ok (.imul, 1) := by decide +kernel
theorem dX4_take_45 : decode cX4_take 45 = .ok (.aload_n 0, 1) := by decide +kernel
theorem dX4_take_46 : decode cX4_take 46 = .ok (.getfield 7, 3) := by decide +kernel
theorem dX4_take_49 : decode cX4_take 49 = .ok (.iload 5, 2) := by decide +kernel
theorem dX4_take_51 : decode cX4_take 51 = .ok (.iload_n 1, 1) := by decide +kernel
theorem dX4_take_52 : decode cX4_take 52 = .ok (.invokevirtual 30, 3) := by decide +kernel
theorem dX4_take_55 : decode cX4_take 55 = .ok (.iadd, 1) := by decide +kernel
theorem dX4_take_56 : decode cX4_take 56 = .ok (.istore 6, 2) := by decide +kernel
theorem dX4_take_58 : decode cX4_take 58 = .ok (.aload_n 0, 1) := by decide +kernel
theorem dX4_take_59 : decode cX4_take 59 = .ok (.getfield 26, 3) := by decide +kernel
theorem dX4_take_62 : decode cX4_take 62 = .ok (.iload 6, 2) := by decide +kernel
theorem dX4_take_64 : decode cX4_take 64 = .ok (.aload_n 0, 1) := by decide +kernel
theorem dX4_take_65 : decode cX4_take 65 = .ok (.getfield 13, 3) := by decide +kernel
theorem dX4_take_68 : decode cX4_take 68 = .ok (.ifCond .eq 17, 3) := by decide +kernel
theorem dX4_take_71 : decode cX4_take 71 = .ok (.aload_n 0, 1) := by decide +kernel
theorem dX4_take_72 : decode cX4_take 72 = .ok (.getfield 26, 3) := by decide +kernel
theorem dX4_take_75 : decode cX4_take 75 = .ok (.iload 6, 2) := by decide +kernel
theorem dX4_take_77 : decode cX4_take 77 = .ok (.laload, 1) := by decide +kernel
theorem dX4_take_78 : decode cX4_take 78 = .ok (.lload_n 3, 1) := by decide +kernel
theorem dX4_take_79 : decode cX4_take 79 = .ok (.invokestatic 48, 3) := by decide +kernel
theorem dX4_take_82 : decode cX4_take 82 = .ok (.goto 13, 3) := by decide +kernel
theorem dX4_take_85 : decode cX4_take 85 = .ok (.aload_n 0, 1) := by decide +kernel
theorem dX4_take_86 : decode cX4_take 86 = .ok (.getfield 26, 3) := by decide +kernel
theorem dX4_take_89 : decode cX4_take 89 = .ok (.iload 6, 2) := by decide +kernel
theorem dX4_take_91 : decode cX4_take 91 = .ok (.laload, 1) := by decide +kernel
theorem dX4_take_92 : decode cX4_take 92 = .ok (.iload_n 2, 1) := by decide +kernel
theorem dX4_take_93 : decode cX4_take 93 = .ok (.i2l, 1) := by decide +kernel
theorem dX4_take_94 : decode cX4_take 94 = .ok (.ladd, 1) := by decide +kernel
theorem dX4_take_95 : decode cX4_take 95 = .ok (.lastore, 1) := by decide +kernel
theorem dX4_take_96 : decode cX4_take 96 = .ok (.iinc 5 1, 3) := by decide +kernel
theorem dX4_take_99 : decode cX4_take 99 = .ok (.goto (-76), 3) := by decide +kernel
theorem dX4_take_102 : decode cX4_take 102 = .ok (.return_, 1) := by decide +kernel
theorem dX4_makeEmpty_0 : decode cX4_makeEmpty 0 = .ok (.aload_n 0, 1) := by decide +kernel
theorem dX4_makeEmpty_1 : decode cX4_makeEmpty 1 = .ok (.getfield 26, 3) := by decide +kernel
theorem dX4_makeEmpty_4 : decode cX4_makeEmpty 4 = .ok (.lconst 0, 1) := by decide +kernel
theorem dX4_makeEmpty_5 : decode cX4_makeEmpty 5 = .ok (.invokestatic 51, 3) := by decide +kernel
theorem dX4_makeEmpty_8 : decode cX4_makeEmpty 8 = .ok (.return_, 1) := by decide +kernel
theorem dX4_become_0 : decode cX4_become 0 = .ok (.aload_n 1, 1) := by decide +kernel
theorem dX4_become_1 : decode cX4_become 1 = .ok (.getfield 26, 3) := by decide +kernel
theorem dX4_become_4 : decode cX4_become 4 = .ok (.iconst 0, 1) := by decide +kernel
theorem dX4_become_5 : decode cX4_become 5 = .ok (.aload_n 0, 1) := by decide +kernel
theorem dX4_become_6 : decode cX4_become 6 = .ok (.getfield 26, 3) := by decide +kernel
theorem dX4_become_9 : decode cX4_become 9 = .ok (.iconst 0, 1) := by decide +kernel
theorem dX4_become_10 : decode cX4_become 10 = .ok (.aload_n 0, 1) := by decide +kernel
theorem dX4_become_11 : decode cX4_become 11 = .ok (.getfield 26, 3) := by decide +kernel
theorem dX4_become_14 : decode cX4_become 14 = .ok (.arraylength, 1) := by decide +kernel
theorem dX4_become_15 : decode cX4_become 15 = .ok (.invokestatic 57, 3) := by decide +kernel
theorem dX4_become_18 : decode cX4_become 18 = .ok (.return_, 1) := by decide +kernel
theorem dX4_putTogether_0 : decode cX4_putTogether 0 = .ok (.iconst 0, 1) := by decide +kernel
theorem dX4_putTogether_1 : decode cX4_putTogether 1 = .ok (.istore_n 2, 1) := by decide +kernel
theorem dX4_putTogether_2 : decode cX4_putTogether 2 = .ok (.iload_n 2, 1) := by decide +kernel
theorem dX4_putTogether_3 : decode cX4_putTogether 3 = .ok (.aload_n 0, 1) := by decide +kernel
theorem dX4_putTogether_4 : decode cX4_putTogether 4 = .ok (.getfield 26, 3) := by decide +kernel
theorem dX4_putTogether_7 : decode cX4_putTogether 7 = .ok (.arraylength, 1) := by decide +kernel
theorem dX4_putTogether_8 : decode cX4_putTogether 8 = .ok (.if_icmp .ge 24, 3) := by decide +kernel
theorem dX4_putTogether_11 : decode cX4_putTogether 11 = .ok (.aload_n 0, 1) := by decide +kernel
theorem dX4_putTogether_12 : decode cX4_putTogether 12 = .ok (.getfield 26, 3) := by decide +kernel
theorem dX4_putTogether_15 : decode cX4_putTogether 15 = .ok (.iload_n 2, 1) := by decide +kernel
theorem dX4_putTogether_16 : decode cX4_putTogether 16 = .ok (.dup2, 1) := by decide +kernel
theorem dX4_putTogether_17 : decode cX4_putTogether 17 = .ok (.laload, 1) := by decide +kernel
theorem dX4_putTogether_18 : decode cX4_putTogether 18 = .ok (.aload_n 1, 1) := by decide +kernel
theorem dX4_putTogether_19 : decode cX4_putTogether 19 = .ok (.getfield 26, 3) := by decide +kernel
theorem dX4_putTogether_22 : decode cX4_putTogether 22 = .ok (.iload_n 2, 1) := by decide +kernel
theorem dX4_putTogether_23 : decode cX4_putTogether 23 = .ok (.laload, 1) := by decide +kernel
theorem dX4_putTogether_24 : decode cX4_putTogether 24 = .ok (.ladd, 1) := by decide +kernel
theorem dX4_putTogether_25 : decode cX4_putTogether 25 = .ok (.lastore, 1) := by decide +kernel
theorem dX4_putTogether_26 : decode cX4_putTogether 26 = .ok (.iinc 2 1, 3) := by decide +kernel
theorem dX4_putTogether_29 : decode cX4_putTogether 29 = .ok (.goto (-27), 3) := by decide +kernel
theorem dX4_putTogether_32 : decode cX4_putTogether 32 = .ok (.return_, 1) := by decide +kernel
theorem dX5_init_0 : decode cX5_init 0 = .ok (.aload_n 0, 1) := by decide +kernel
theorem dX5_init_1 : decode cX5_init 1 = .ok (.invokespecial 1, 3) := by decide +kernel
theorem dX5_init_4 : decode cX5_init 4 = .ok (.aload_n 0, 1) := by decide +kernel
theorem dX5_init_5 : decode cX5_init 5 = .ok (.iload_n 1, 1) := by decide +kernel
theorem dX5_init_6 : decode cX5_init 6 = .ok (.bipush 64, 2) := by decide +kernel
theorem dX5_init_8 : decode cX5_init 8 = .ok (.idiv, 1) := by decide +kernel
theorem dX5_init_9 : decode cX5_init 9 = .ok (.iconst 1, 1) := by decide +kernel
theorem dX5_init_10 : decode cX5_init 10 = .ok (.iadd, 1) := by decide +kernel
theorem dX5_init_11 : decode cX5_init 11 = .ok (.newarray .long, 2) := by decide +kernel
theorem dX5_init_13 : decode cX5_init 13 = .ok (.putfield 7, 3) := by decide +kernel
theorem dX5_init_16 : decode cX5_init 16 = .ok (.return_, 1) := by decide +kernel
theorem dX5_has_0 : decode cX5_has 0 = .ok (.aload_n 0, 1) := by decide +kernel
theorem dX5_has_1 : decode cX5_has 1 = .ok (.getfield 7, 3) := by decide +kernel
theorem dX5_has_4 : decode cX5_has 4 = .ok (.iload_n 1, 1) := by decide +kernel
theorem dX5_has_5 : decode cX5_has 5 = .ok (.bipush 6, 2) := by decide +kernel
theorem dX5_has_7 : decode cX5_has 7 = .ok (.ishr, 1) := by decide +kernel
theorem dX5_has_8 : decode cX5_has 8 = .ok (.laload, 1) := by decide +kernel
theorem dX5_has_9 : decode cX5_has 9 = .ok (.iload_n 1, 1) := by decide +kernel
theorem dX5_has_10 : decode cX5_has 10 = .ok (.bipush 63, 2) := by decide +kernel
theorem dX5_has_12 : decode cX5_has 12 = .ok (.iand, 1) := by decide +kernel
theorem dX5_has_13 : decode cX5_has 13 = .ok (.lushr, 1) := by decide +kernel
theorem dX5_has_14 : decode cX5_has 14 = .ok (.lconst 1, 1) := by decide +kernel
theorem dX5_has_15 : decode cX5_has 15 = .ok (.land, 1) := by decide +kernel
theorem dX5_has_16 : decode cX5_has 16 = .ok (.lconst 0, 1) := by decide +kernel
theorem dX5_has_17 : decode cX5_has 17 = .ok (.lcmp, 1) := by decide +kernel
theorem dX5_has_18 : decode cX5_has 18 = .ok (.ifCond .eq 7, 3) := by decide +kernel
theorem dX5_has_21 : decode cX5_has 21 = .ok (.iconst 1, 1) := by decide +kernel
theorem dX5_has_22 : decode cX5_has 22 = .ok (.goto 4, 3) := by decide +kernel
theorem dX5_has_25 : decode cX5_has 25 = .ok (.iconst 0, 1) := by decide +kernel
theorem dX5_has_26 : decode cX5_has 26 = .ok (.ireturn, 1) := by decide +kernel
theorem dX5_put_0 : decode cX5_put 0 = .ok (.aload_n 0, 1) := by decide +kernel
theorem dX5_put_1 : decode cX5_put 1 = .ok (.getfield 7, 3) := by decide +kernel
theorem dX5_put_4 : decode cX5_put 4 = .ok (.iload_n 1, 1) := by decide +kernel
theorem dX5_put_5 : decode cX5_put 5 = .ok (.bipush 6, 2) := by decide +kernel
theorem dX5_put_7 : decode cX5_put 7 = .ok (.ishr, 1) := by decide +kernel
theorem dX5_put_8 : decode cX5_put 8 = .ok (.dup2, 1) := by decide +kernel
theorem dX5_put_9 : decode cX5_put 9 = .ok (.laload, 1) := by decide +kernel
theorem dX5_put_10 : decode cX5_put 10 = .ok (.lconst 1, 1) := by decide +kernel
theorem dX5_put_11 : decode cX5_put 11 = .ok (.iload_n 1, 1) := by decide +kernel
theorem dX5_put_12 : decode cX5_put 12 = .ok (.bipush 63, 2) := by decide +kernel
theorem dX5_put_14 : decode cX5_put 14 = .ok (.iand, 1) := by decide +kernel
theorem dX5_put_15 : decode cX5_put 15 = .ok (.lshl, 1) := by decide +kernel
theorem dX5_put_16 : decode cX5_put 16 = .ok (.lor, 1) := by decide +kernel
theorem dX5_put_17 : decode cX5_put 17 = .ok (.lastore, 1) := by decide +kernel
theorem dX5_put_18 : decode cX5_put 18 = .ok (.return_, 1) := by decide +kernel
theorem dX5_drop_0 : decode cX5_drop 0 = .ok (.aload_n 0, 1) := by decide +kernel
theorem dX5_drop_1 : decode cX5_drop 1 = .ok (.getfield 7, 3) := by decide +kernel
theorem dX5_drop_4 : decode cX5_drop 4 = .ok (.iload_n 1, 1) := by decide +kernel
theorem dX5_drop_5 : decode cX5_drop 5 = .ok (.bipush 6, 2) := by decide +kernel
theorem dX5_drop_7 : decode cX5_drop 7 = .ok (.ishr, 1) := by decide +kernel
theorem dX5_drop_8 : decode cX5_drop 8 = .ok (.dup2, 1) := by decide +kernel
theorem dX5_drop_9 : decode cX5_drop 9 = .ok (.laload, 1) := by decide +kernel
theorem dX5_drop_10 : decode cX5_drop 10 = .ok (.lconst 1, 1) := by decide +kernel
theorem dX5_drop_11 : decode cX5_drop 11 = .ok (.iload_n 1, 1) := by decide +kernel
theorem dX5_drop_12 : decode cX5_drop 12 = .ok (.bipush 63, 2) := by decide +kernel
theorem dX5_drop_14 : decode cX5_drop 14 = .ok (.iand, 1) := by decide +kernel
theorem dX5_drop_15 : decode cX5_drop 15 = .ok (.lshl, 1) := by decide +kernel
theorem dX5_drop_16 : decode cX5_drop 16 = .ok (.ldc2_w 13, 3) := by decide +kernel
theorem dX5_drop_19 : decode cX5_drop 19 = .ok (.lxor, 1) := by decide +kernel
theorem dX5_drop_20 : decode cX5_drop 20 = .ok (.land, 1) := by decide +kernel
theorem dX5_drop_21 : decode cX5_drop 21 = .ok (.lastore, 1) := by decide +kernel
theorem dX5_drop_22 : decode cX5_drop 22 = .ok (.return_, 1) := by decide +kernel
theorem dX5_makeEmpty_0 : decode cX5_makeEmpty 0 = .ok (.aload_n 0, 1) := by decide +kernel
theorem dX5_makeEmpty_1 : decode cX5_makeEmpty 1 = .ok (.getfield 7, 3) := by decide +kernel
theorem dX5_makeEmpty_4 : decode cX5_makeEmpty 4 = .ok (.lconst 0, 1) := by decide +kernel
theorem dX5_makeEmpty_5 : decode cX5_makeEmpty 5 = .ok (.invokestatic 15, 3) := by decide +kernel
theorem dX5_makeEmpty_8 : decode cX5_makeEmpty 8 = .ok (.return_, 1) := by decide +kernel
theorem dX5_become_0 : decode cX5_become 0 = .ok (.aload_n 1, 1) := by decide +kernel
theorem dX5_become_1 : decode cX5_become 1 = .ok (.getfield 7, 3) := by decide +kernel
theorem dX5_become_4 : decode cX5_become 4 = .ok (.iconst 0, 1) := by decide +kernel
theorem dX5_become_5 : decode cX5_become 5 = .ok (.aload_n 0, 1) := by decide +kernel
theorem dX5_become_6 : decode cX5_become 6 = .ok (.getfield 7, 3) := by decide +kernel
theorem dX5_become_9 : decode cX5_become 9 = .ok (.iconst 0, 1) := by decide +kernel
theorem dX5_become_10 : decode cX5_become 10 = .ok (.aload_n 0, 1) := by decide +kernel
theorem dX5_become_11 : decode cX5_become 11 = .ok (.getfield 7, 3) := by decide +kernel
theorem dX5_become_14 : decode cX5_become 14 = .ok (.arraylength, 1) := by decide +kernel
theorem dX5_become_15 : decode cX5_become 15 = .ok (.invokestatic 21, 3) := by decide +kernel
theorem dX5_become_18 : decode cX5_become 18 = .ok (.return_, 1) := by decide +kernel
theorem dX6_init_0 : decode cX6_init 0 = .ok (.aload_n 0, 1) := by decide +kernel
theorem dX6_init_1 : decode cX6_init 1 = .ok (.invokespecial 1, 3) := by decide +kernel
theorem dX6_init_4 : decode cX6_init 4 = .ok (.aload_n 0, 1) := by decide +kernel
theorem dX6_init_5 : decode cX6_init 5 = .ok (.new 7, 3) := by decide +kernel
theorem dX6_init_8 : decode cX6_init 8 = .ok (.dup, 1) := by decide +kernel
theorem dX6_init_9 : decode cX6_init 9 = .ok (.iload_n 1, 1) := by decide +kernel
theorem dX6_init_10 : decode cX6_init 10 = .ok (.iload_n 2, 1) := by decide +kernel
theorem dX6_init_11 : decode cX6_init 11 = .ok (.invokespecial 9, 3) := by decide +kernel
theorem dX6_init_14 : decode cX6_init 14 = .ok (.putfield 12, 3) := by decide +kernel
theorem dX6_init_17 : decode cX6_init 17 = .ok (.return_, 1) := by decide +kernel
theorem dX6_guess_0 : decode cX6_guess 0 = .ok (.aload_n 0, 1) := by decide +kernel
theorem dX6_guess_1 : decode cX6_guess 1 = .ok (.getfield 12, 3) := by decide +kernel
theorem dX6_guess_4 : decode cX6_guess 4 = .ok (.iload_n 1, 1) := by decide +kernel
theorem dX6_guess_5 : decode cX6_guess 5 = .ok (.invokevirtual 18, 3) := by decide +kernel
theorem dX6_guess_8 : decode cX6_guess 8 = .ok (.istore_n 2, 1) := by decide +kernel
theorem dX6_guess_9 : decode cX6_guess 9 = .ok (.iload_n 2, 1) := by decide +kernel
theorem dX6_guess_10 : decode cX6_guess 10 = .ok (.ifCond .ge 7, 3) := by decide +kernel
theorem dX6_guess_13 : decode cX6_guess 13 = .ok (.lconst 0, 1) := by decide +kernel
theorem dX6_guess_14 : decode cX6_guess 14 = .ok (.goto 12, 3) := by decide +kernel
theorem dX6_guess_17 : decode cX6_guess 17 = .ok (.aload_n 0, 1) := by decide +kernel
theorem dX6_guess_18 : decode cX6_guess 18 = .ok (.getfield 12, 3) := by decide +kernel
theorem dX6_guess_21 : decode cX6_guess 21 = .ok (.getfield 22, 3) := by decide +kernel
theorem dX6_guess_24 : decode cX6_guess 24 = .ok (.iload_n 2, 1) := by decide +kernel
theorem dX6_guess_25 : decode cX6_guess 25 = .ok (.laload, 1) := by decide +kernel
theorem dX6_guess_26 : decode cX6_guess 26 = .ok (.lreturn, 1) := by decide +kernel
theorem dX6_low_0 : decode cX6_low 0 = .ok (.aload_n 0, 1) := by decide +kernel
theorem dX6_low_1 : decode cX6_low 1 = .ok (.iload_n 1, 1) := by decide +kernel
theorem dX6_low_2 : decode cX6_low 2 = .ok (.invokevirtual 26, 3) := by decide +kernel
theorem dX6_low_5 : decode cX6_low 5 = .ok (.lreturn, 1) := by decide +kernel
theorem dX6_high_0 : decode cX6_high 0 = .ok (.aload_n 0, 1) := by decide +kernel
theorem dX6_high_1 : decode cX6_high 1 = .ok (.iload_n 1, 1) := by decide +kernel
theorem dX6_high_2 : decode cX6_high 2 = .ok (.invokevirtual 26, 3) := by decide +kernel
theorem dX6_high_5 : decode cX6_high 5 = .ok (.aload_n 0, 1) := by decide +kernel
theorem dX6_high_6 : decode cX6_high 6 = .ok (.getfield 30, 3) := by decide +kernel
theorem dX6_high_9 : decode cX6_high 9 = .ok (.ladd, 1) := by decide +kernel
theorem dX6_high_10 : decode cX6_high 10 = .ok (.lreturn, 1) := by decide +kernel
theorem dX6_take_0 : decode cX6_take 0 = .ok (.aload_n 0, 1) := by decide +kernel
theorem dX6_take_1 : decode cX6_take 1 = .ok (.getfield 12, 3) := by decide +kernel
theorem dX6_take_4 : decode cX6_take 4 = .ok (.iload_n 1, 1) := by decide +kernel
theorem dX6_take_5 : decode cX6_take 5 = .ok (.invokevirtual 18, 3) := by decide +kernel
theorem dX6_take_8 : decode cX6_take 8 = .ok (.istore_n 3, 1) := by decide +kernel
theorem dX6_take_9 : decode cX6_take 9 = .ok (.iload_n 3, 1) := by decide +kernel
theorem dX6_take_10 : decode cX6_take 10 = .ok (.ifCond .lt 18, 3) := by decide +kernel
theorem dX6_take_13 : decode cX6_take 13 = .ok (.aload_n 0, 1) := by decide +kernel
theorem dX6_take_14 : decode cX6_take 14 = .ok (.getfield 12, 3) := by decide +kernel
theorem dX6_take_17 : decode cX6_take 17 = .ok (.getfield 22, 3) := by decide +kernel
theorem dX6_take_20 : decode cX6_take 20 = .ok (.iload_n 3, 1) := by decide +kernel
theorem dX6_take_21 : decode cX6_take 21 = .ok (.dup2, 1) := by decide +kernel
theorem dX6_take_22 : decode cX6_take 22 = .ok (.laload, 1) := by decide +kernel
theorem dX6_take_23 : decode cX6_take 23 = .ok (.iload_n 2, 1) := by decide +kernel
theorem dX6_take_24 : decode cX6_take 24 = .ok (.i2l, 1) := by decide +kernel
theorem dX6_take_25 : decode cX6_take 25 = .ok (.ladd, 1) := by decide +kernel
theorem dX6_take_26 : decode cX6_take 26 = .ok (.lastore, 1) := by decide +kernel
theorem dX6_take_27 : decode cX6_take 27 = .ok (.return_, 1) := by decide +kernel
theorem dX6_take_28 : decode cX6_take 28 = .ok (.iload_n 2, 1) := by decide +kernel
theorem dX6_take_29 : decode cX6_take 29 = .ok (.i2l, 1) := by decide +kernel
theorem dX6_take_30 : decode cX6_take 30 = .ok (.lstore 4, 2) := by decide +kernel
theorem dX6_take_32 : decode cX6_take 32 = .ok (.aload_n 0, 1) := by decide +kernel
theorem dX6_take_33 : decode cX6_take 33 = .ok (.getfield 12, 3) := by decide +kernel
theorem dX6_take_36 : decode cX6_take 36 = .ok (.invokevirtual 34, 3) := by decide +kernel
theorem dX6_take_39 : decode cX6_take 39 = .ok (.ifCond .eq 34, 3) := by decide +kernel
theorem dX6_take_42 : decode cX6_take 42 = .ok (.aload_n 0, 1) := by decide +kernel
theorem dX6_take_43 : decode cX6_take 43 = .ok (.aload_n 0, 1) := by decide +kernel
theorem dX6_take_44 : decode cX6_take 44 = .ok (.getfield 12, 3) := by decide +kernel
theorem dX6_take_47 : decode cX6_take 47 = .ok (.getfield 38, 3) := by decide +kernel
theorem dX6_take_50 : decode cX6_take 50 = .ok (.invokevirtual 42, 3) := by decide +kernel
theorem dX6_take_53 : decode cX6_take 53 = .ok (.lload 4, 2) := by decide +kernel
theorem dX6_take_55 : decode cX6_take 55 = .ok (.invokestatic 45, 3) := by decide +kernel
theorem dX6_take_58 : decode cX6_take 58 = .ok (.lstore 6, 2) := by decide +kernel
theorem dX6_take_60 : decode cX6_take 60 = .ok (.aload_n 0, 1) := by decide +kernel
theorem dX6_take_61 : decode cX6_take 61 = .ok (.lload 6, 2) := by decide +kernel
theorem dX6_take_63 : decode cX6_take 63 = .ok (.invokevirtual 51, 3) := by decide +kernel
theorem dX6_take_66 : decode cX6_take 66 = .ok (.lload 4, 2) := by decide +kernel
theorem dX6_take_68 : decode cX6_take 68 = .ok (.lload 6, 2) := by decide +kernel
theorem dX6_take_70 : decode cX6_take 70 = .ok (.lsub, 1) := by decide +kernel
theorem dX6_take_71 : decode cX6_take 71 = .ok (.lstore 4, 2) := by decide +kernel
theorem dX6_take_73 : decode cX6_take 73 = .ok (.lload 4, 2) := by decide +kernel
theorem dX6_take_75 : decode cX6_take 75 = .ok (.lconst 0, 1) := by decide +kernel
theorem dX6_take_76 : decode cX6_take 76 = .ok (.lcmp, 1) := by decide +kernel
theorem dX6_take_77 : decode cX6_take 77 = .ok (.ifCond .le 14, 3) := by decide +kernel
theorem dX6_take_80 : decode cX6_take 80 = .ok (.aload_n 0, 1) := by decide +kernel
theorem dX6_take_81 : decode cX6_take 81 = .ok (.getfield 12, 3) := by decide +kernel
theorem dX6_take_84 : decode cX6_take 84 = .ok (.iload_n 1, 1) := by decide +kernel
theorem dX6_take_85 : decode cX6_take 85 = .ok (.lload 4, 2) := by decide +kernel
theorem dX6_take_87 : decode cX6_take 87 = .ok (.lconst 0, 1) := by decide +kernel
theorem dX6_take_88 : decode cX6_take 88 = .ok (.invokevirtual 55, 3) := by decide +kernel
theorem dX6_take_91 : decode cX6_take 91 = .ok (.return_, 1) := by decide +kernel
theorem dX6_takeFromAll_0 : decode cX6_takeFromAll 0 = .ok (.aload_n 0, 1) := by decide +kernel
theorem dX6_takeFromAll_1 : decode cX6_takeFromAll 1 = .ok (.dup, 1) := by decide +kernel
theorem dX6_takeFromAll_2 : decode cX6_takeFromAll 2 = .ok (.getfield 30, 3) := by decide +kernel
theorem dX6_takeFromAll_5 : decode cX6_takeFromAll 5 = .ok (.lload_n 1, 1) := by decide +kernel
theorem dX6_takeFromAll_6 : decode cX6_takeFromAll 6 = .ok (.ladd, 1) := by decide +kernel
theorem dX6_takeFromAll_7 : decode cX6_takeFromAll 7 = .ok (.putfield 30, 3) := by decide +kernel
theorem dX6_takeFromAll_10 : decode cX6_takeFromAll 10 = .ok (.aload_n 0, 1) := by decide +kernel
theorem dX6_takeFromAll_11 : decode cX6_takeFromAll 11 = .ok (.getfield 12, 3) := by decide +kernel
theorem dX6_takeFromAll_14 : decode cX6_takeFromAll 14 = .ok (.getfield 38, 3) := by decide +kernel
theorem dX6_takeFromAll_17 : decode cX6_takeFromAll 17 = .ok (.iconst 1, 1) := by decide +kernel
theorem dX6_takeFromAll_18 : decode cX6_takeFromAll 18 = .ok (.isub, 1) := by decide +kernel
theorem dX6_takeFromAll_19 : decode cX6_takeFromAll 19 = .ok (.istore_n 3, 1) := by decide +kernel
theorem dX6_takeFromAll_20 : decode cX6_takeFromAll 20 = .ok (.iload_n 3, 1) := by decide +kernel
theorem dX6_takeFromAll_21 : decode cX6_takeFromAll 21 = .ok (.ifCond .lt 44, 3) := by decide +kernel
theorem dX6_takeFromAll_24 : decode cX6_takeFromAll 24 = .ok (.aload_n 0, 1) := by decide +kernel
theorem dX6_takeFromAll_25 : decode cX6_takeFromAll 25 = .ok (.getfield 12, 3) := by decide +kernel
theorem dX6_takeFromAll_28 : decode cX6_takeFromAll 28 = .ok (.getfield 22, 3) := by decide +kernel
theorem dX6_takeFromAll_31 : decode cX6_takeFromAll 31 = .ok (.iload_n 3, 1) := by decide +kernel
theorem dX6_takeFromAll_32 : decode cX6_takeFromAll 32 = .ok (.dup2, 1) := by decide +kernel
theorem dX6_takeFromAll_33 : decode cX6_takeFromAll 33 = .ok (.laload, 1) := by decide +kernel
theorem dX6_takeFromAll_34 : decode cX6_takeFromAll 34 = .ok (.lload_n 1, 1) := by decide +kernel
theorem dX6_takeFromAll_35 : decode cX6_takeFromAll 35 = .ok (.lsub, 1) := by decide +kernel
theorem dX6_takeFromAll_36 : decode cX6_takeFromAll 36 = .ok (.lastore, 1) := by decide +kernel
theorem dX6_takeFromAll_37 : decode cX6_takeFromAll 37 = .ok (.aload_n 0, 1) := by decide +kernel
theorem dX6_takeFromAll_38 : decode cX6_takeFromAll 38 = .ok (.getfield 12, 3) := by decide +kernel
theorem dX6_takeFromAll_41 : decode cX6_takeFromAll 41 = .ok (.getfield 22, 3) := by decide +kernel
theorem dX6_takeFromAll_44 : decode cX6_takeFromAll 44 = .ok (.iload_n 3, 1) := by decide +kernel
theorem dX6_takeFromAll_45 : decode cX6_takeFromAll 45 = .ok (.laload, 1) := by decide +kernel
theorem dX6_takeFromAll_46 : decode cX6_takeFromAll 46 = .ok (.lconst 0, 1) := by decide +kernel
theorem dX6_takeFromAll_47 : decode cX6_takeFromAll 47 = .ok (.lcmp, 1) := by decide +kernel
theorem dX6_takeFromAll_48 : decode cX6_takeFromAll 48 = .ok (.ifCond .gt 11, 3) := by decide +kernel
theorem dX6_takeFromAll_51 : decode cX6_takeFromAll 51 = .ok (.aload_n 0, 1) := by decide +kernel
theorem dX6_takeFromAll_52 : decode cX6_takeFromAll 52 = .ok (.getfield 12, 3) := by decide +kernel
theorem dX6_takeFromAll_55 : decode cX6_takeFromAll 55 = .ok (.iload_n 3, 1) := by decide +kernel
theorem dX6_takeFromAll_56 : decode cX6_takeFromAll 56 = .ok (.invokevirtual 59, 3) := by decide +kernel
theorem dX6_takeFromAll_59 : decode cX6_takeFromAll 59 = .ok (.iinc 3 (-1), 3) := by decide +kernel
theorem dX6_takeFromAll_62 : decode cX6_takeFromAll 62 = .ok (.goto (-42), 3) := by decide +kernel
theorem dX6_takeFromAll_65 : decode cX6_takeFromAll 65 = .ok (.return_, 1) := by decide +kernel
theorem dX6_greatest_0 : decode cX6_greatest 0 = .ok (.iconst 0, 1) := by decide +kernel
theorem dX6_greatest_1 : decode cX6_greatest 1 = .ok (.istore_n 2, 1) := by decide +kernel
theorem dX6_greatest_2 : decode cX6_greatest 2 = .ok (.iload_n 2, 1) := by decide +kernel
theorem dX6_greatest_3 : decode cX6_greatest 3 = .ok (.aload_n 0, 1) := by decide +kernel
theorem dX6_greatest_4 : decode cX6_greatest 4 = .ok (.getfield 12, 3) := by decide +kernel
theorem dX6_greatest_7 : decode cX6_greatest 7 = .ok (.getfield 38, 3) := by decide +kernel
theorem dX6_greatest_10 : decode cX6_greatest 10 = .ok (.if_icmp .ge 120, 3) := by decide +kernel
theorem dX6_greatest_13 : decode cX6_greatest 13 = .ok (.iconst 0, 1) := by decide +kernel
theorem dX6_greatest_14 : decode cX6_greatest 14 = .ok (.istore_n 3, 1) := by decide +kernel
theorem dX6_greatest_15 : decode cX6_greatest 15 = .ok (.iconst 0, 1) := by decide +kernel
theorem dX6_greatest_16 : decode cX6_greatest 16 = .ok (.istore 4, 2) := by decide +kernel
theorem dX6_greatest_18 : decode cX6_greatest 18 = .ok (.iconst 0, 1) := by decide +kernel
theorem dX6_greatest_19 : decode cX6_greatest 19 = .ok (.istore 5, 2) := by decide +kernel
theorem dX6_greatest_21 : decode cX6_greatest 21 = .ok (.iload 5, 2) := by decide +kernel
theorem dX6_greatest_23 : decode cX6_greatest 23 = .ok (.aload_n 0, 1) := by decide +kernel
theorem dX6_greatest_24 : decode cX6_greatest 24 = .ok (.getfield 12, 3) := by decide +kernel
theorem dX6_greatest_27 : decode cX6_greatest 27 = .ok (.getfield 38, 3) := by decide +kernel
theorem dX6_greatest_30 : decode cX6_greatest 30 = .ok (.if_icmp .ge 73, 3) := by decide +kernel
theorem dX6_greatest_33 : decode cX6_greatest 33 = .ok (.iload_n 3, 1) := by decide +kernel
theorem dX6_greatest_34 : decode cX6_greatest 34 = .ok (.aload_n 0, 1) := by decide +kernel
theorem dX6_greatest_35 : decode cX6_greatest 35 = .ok (.getfield 12, 3) := by decide +kernel
theorem dX6_greatest_38 : decode cX6_greatest 38 = .ok (.getfield 22, 3) := by decide +kernel
theorem dX6_greatest_41 : decode cX6_greatest 41 = .ok (.iload 5, 2) := by decide +kernel
theorem dX6_greatest_43 : decode cX6_greatest 43 = .ok (.laload, 1) := by decide +kernel
theorem dX6_greatest_44 : decode cX6_greatest 44 = .ok (.aload_n 0, 1) := by decide +kernel
theorem dX6_greatest_45 : decode cX6_greatest 45 = .ok (.getfield 12, 3) := by decide +kernel
theorem dX6_greatest_48 : decode cX6_greatest 48 = .ok (.getfield 22, 3) := by decide +kernel
theorem dX6_greatest_51 : decode cX6_greatest 51 = .ok (.iload_n 2, 1) := by decide +kernel
theorem dX6_greatest_52 : decode cX6_greatest 52 = .ok (.laload, 1) := by decide +kernel
theorem dX6_greatest_53 : decode cX6_greatest 53 = .ok (.lcmp, 1) := by decide +kernel
theorem dX6_greatest_54 : decode cX6_greatest 54 = .ok (.ifCond .le 7, 3) := by decide +kernel
theorem dX6_greatest_57 : decode cX6_greatest 57 = .ok (.iconst 1, 1) := by decide +kernel
theorem dX6_greatest_58 : decode cX6_greatest 58 = .ok (.goto 4, 3) := by decide +kernel
theorem dX6_greatest_61 : decode cX6_greatest 61 = .ok (.iconst 0, 1) := by decide +kernel
theorem dX6_greatest_62 : decode cX6_greatest 62 = .ok (.iadd, 1) := by decide +kernel
theorem dX6_greatest_63 : decode cX6_greatest 63 = .ok (.istore_n 3, 1) := by decide +kernel
theorem dX6_greatest_64 : decode cX6_greatest 64 = .ok (.iload 4, 2) := by decide +kernel
theorem dX6_greatest_66 : decode cX6_greatest 66 = .ok (.aload_n 0, 1) := by decide +kernel
theorem dX6_greatest_67 : decode cX6_greatest 67 = .ok (.getfield 12, 3) := by decide +kernel
theorem dX6_greatest_70 : decode cX6_greatest 70 = .ok (.getfield 22, 3) := by decide +kernel
theorem dX6_greatest_73 : decode cX6_greatest 73 = .ok (.iload 5, 2) := by decide +kernel
theorem dX6_greatest_75 : decode cX6_greatest 75 = .ok (.laload, 1) := by decide +kernel
theorem dX6_greatest_76 : decode cX6_greatest 76 = .ok (.aload_n 0, 1) := by decide +kernel
theorem dX6_greatest_77 : decode cX6_greatest 77 = .ok (.getfield 12, 3) := by decide +kernel
theorem dX6_greatest_80 : decode cX6_greatest 80 = .ok (.getfield 22, 3) := by decide +kernel
theorem dX6_greatest_83 : decode cX6_greatest 83 = .ok (.iload_n 2, 1) := by decide +kernel
theorem dX6_greatest_84 : decode cX6_greatest 84 = .ok (.laload, 1) := by decide +kernel
theorem dX6_greatest_85 : decode cX6_greatest 85 = .ok (.lcmp, 1) := by decide +kernel
theorem dX6_greatest_86 : decode cX6_greatest 86 = .ok (.ifCond .lt 7, 3) := by decide +kernel
theorem dX6_greatest_89 : decode cX6_greatest 89 = .ok (.iconst 1, 1) := by decide +kernel
theorem dX6_greatest_90 : decode cX6_greatest 90 = .ok (.goto 4, 3) := by decide +kernel
theorem dX6_greatest_93 : decode cX6_greatest 93 = .ok (.iconst 0, 1) := by decide +kernel
theorem dX6_greatest_94 : decode cX6_greatest 94 = .ok (.iadd, 1) := by decide +kernel
theorem dX6_greatest_95 : decode cX6_greatest 95 = .ok (.istore 4, 2) := by decide +kernel
theorem dX6_greatest_97 : decode cX6_greatest 97 = .ok (.iinc 5 1, 3) := by decide +kernel
theorem dX6_greatest_100 : decode cX6_greatest 100 = .ok (.goto (-79), 3) := by decide +kernel
theorem dX6_greatest_103 : decode cX6_greatest 103 = .ok (.iload_n 3, 1) := by decide +kernel
theorem dX6_greatest_104 : decode cX6_greatest 104 = .ok (.iload_n 1, 1) := by decide +kernel
theorem dX6_greatest_105 : decode cX6_greatest 105 = .ok (.if_icmp .ge 19, 3) := by decide +kernel
theorem dX6_greatest_108 : decode cX6_greatest 108 = .ok (.iload_n 1, 1) := by decide +kernel
theorem dX6_greatest_109 : decode cX6_greatest 109 = .ok (.iload 4, 2) := by decide +kernel
theorem dX6_greatest_111 : decode cX6_greatest 111 = .ok (.if_icmp .gt 13, 3) := by decide +kernel
theorem dX6_greatest_114 : decode cX6_greatest 114 = .ok (.aload_n 0, 1) := by decide +kernel
theorem dX6_greatest_115 : decode cX6_greatest 115 = .ok (.getfield 12, 3) := by decide +kernel
theorem dX6_greatest_118 : decode cX6_greatest 118 = .ok (.getfield 22, 3) := by decide +kernel
theorem dX6_greatest_121 : decode cX6_greatest 121 = .ok (.iload_n 2, 1) := by decide +kernel
theorem dX6_greatest_122 : decode cX6_greatest 122 = .ok (.laload, 1) := by decide +kernel
theorem dX6_greatest_123 : decode cX6_greatest 123 = .ok (.lreturn, 1) := by decide +kernel
theorem dX6_greatest_124 : decode cX6_greatest 124 = .ok (.iinc 2 1, 3) := by decide +kernel
theorem dX6_greatest_127 : decode cX6_greatest 127 = .ok (.goto (-125), 3) := by decide +kernel
theorem dX6_greatest_130 : decode cX6_greatest 130 = .ok (.lconst 0, 1) := by decide +kernel
theorem dX6_greatest_131 : decode cX6_greatest 131 = .ok (.lreturn, 1) := by decide +kernel
theorem dX6_makeEmpty_0 : decode cX6_makeEmpty 0 = .ok (.aload_n 0, 1) := by decide +kernel
theorem dX6_makeEmpty_1 : decode cX6_makeEmpty 1 = .ok (.getfield 12, 3) := by decide +kernel
theorem dX6_makeEmpty_4 : decode cX6_makeEmpty 4 = .ok (.invokevirtual 63, 3) := by decide +kernel
theorem dX6_makeEmpty_7 : decode cX6_makeEmpty 7 = .ok (.aload_n 0, 1) := by decide +kernel
theorem dX6_makeEmpty_8 : decode cX6_makeEmpty 8 = .ok (.lconst 0, 1) := by decide +kernel
theorem dX6_makeEmpty_9 : decode cX6_makeEmpty 9 = .ok (.putfield 30, 3) := by decide +kernel
theorem dX6_makeEmpty_12 : decode cX6_makeEmpty 12 = .ok (.return_, 1) := by decide +kernel
theorem dX6_become_0 : decode cX6_become 0 = .ok (.aload_n 0, 1) := by decide +kernel
theorem dX6_become_1 : decode cX6_become 1 = .ok (.getfield 12, 3) := by decide +kernel
theorem dX6_become_4 : decode cX6_become 4 = .ok (.aload_n 1, 1) := by decide +kernel
theorem dX6_become_5 : decode cX6_become 5 = .ok (.getfield 12, 3) := by decide +kernel
theorem dX6_become_8 : decode cX6_become 8 = .ok (.invokevirtual 66, 3) := by decide +kernel
theorem dX6_become_11 : decode cX6_become 11 = .ok (.aload_n 0, 1) := by decide +kernel
theorem dX6_become_12 : decode cX6_become 12 = .ok (.aload_n 1, 1) := by decide +kernel
theorem dX6_become_13 : decode cX6_become 13 = .ok (.getfield 30, 3) := by decide +kernel
theorem dX6_become_16 : decode cX6_become 16 = .ok (.putfield 30, 3) := by decide +kernel
theorem dX6_become_19 : decode cX6_become 19 = .ok (.return_, 1) := by decide +kernel
theorem dX6_putTogether_0 : decode cX6_putTogether 0 = .ok (.aload_n 1, 1) := by decide +kernel
theorem dX6_putTogether_1 : decode cX6_putTogether 1 = .ok (.getfield 12, 3) := by decide +kernel
theorem dX6_putTogether_4 : decode cX6_putTogether 4 = .ok (.getfield 38, 3) := by decide +kernel
theorem dX6_putTogether_7 : decode cX6_putTogether 7 = .ok (.istore_n 2, 1) := by decide +kernel
theorem dX6_putTogether_8 : decode cX6_putTogether 8 = .ok (.iconst 0, 1) := by decide +kernel
theorem dX6_putTogether_9 : decode cX6_putTogether 9 = .ok (.istore_n 3, 1) := by decide +kernel
theorem dX6_putTogether_10 : decode cX6_putTogether 10 = .ok (.iload_n 3, 1) := by decide +kernel
theorem dX6_putTogether_11 : decode cX6_putTogether 11 = .ok (.iload_n 2, 1) := by decide +kernel
theorem dX6_putTogether_12 : decode cX6_putTogether 12 = .ok (.if_icmp .ge 77, 3) := by decide +kernel
theorem dX6_putTogether_15 : decode cX6_putTogether 15 = .ok (.aload_n 1, 1) := by decide +kernel
theorem dX6_putTogether_16 : decode cX6_putTogether 16 = .ok (.getfield 12, 3) := by decide +kernel
theorem dX6_putTogether_19 : decode cX6_putTogether 19 = .ok (.getfield 70, 3) := by decide +kernel
theorem dX6_putTogether_22 : decode cX6_putTogether 22 = .ok (.iload_n 3, 1) := by decide +kernel
theorem dX6_putTogether_23 : decode cX6_putTogether 23 = .ok (.iaload, 1) := by decide +kernel
theorem dX6_putTogether_24 : decode cX6_putTogether 24 = .ok (.istore 4, 2) := by decide +kernel
theorem dX6_putTogether_26 : decode cX6_putTogether 26 = .ok (.aload_n 1, 1) := by decide +kernel
theorem dX6_putTogether_27 : decode cX6_putTogether 27 = .ok (.getfield 12, 3) := by decide +kernel
theorem dX6_putTogether_30 : decode cX6_putTogether 30 = .ok (.getfield 22, 3) := by decide +kernel
theorem dX6_putTogether_33 : decode cX6_putTogether 33 = .ok (.iload_n 3, 1) := by decide +kernel
theorem dX6_putTogether_34 : decode cX6_putTogether 34 = .ok (.laload, 1) := by decide +kernel
theorem dX6_putTogether_35 : decode cX6_putTogether 35 = .ok (.lstore 5, 2) := by decide +kernel
theorem dX6_putTogether_37 : decode cX6_putTogether 37 = .ok (.aload_n 0, 1) := by decide +kernel
theorem dX6_putTogether_38 : decode cX6_putTogether 38 = .ok (.getfield 12, 3) := by decide +kernel
theorem dX6_putTogether_41 : decode cX6_putTogether 41 = .ok (.iload 4, 2) := by decide +kernel
theorem dX6_putTogether_43 : decode cX6_putTogether 43 = .ok (.invokevirtual 18, 3) := by decide +kernel
theorem dX6_putTogether_46 : decode cX6_putTogether 46 = .ok (.istore 7, 2) := by decide +kernel
theorem dX6_putTogether_48 : decode cX6_putTogether 48 = .ok (.iload 7, 2) := by decide +kernel
theorem dX6_putTogether_50 : decode cX6_putTogether 50 = .ok (.ifCond .lt 21, 3) := by decide +kernel
theorem dX6_putTogether_53 : decode cX6_putTogether 53 = .ok (.aload_n 0, 1) := by decide +kernel
theorem dX6_putTogether_54 : decode cX6_putTogether 54 = .ok (.getfield 12, 3) := by decide +kernel
theorem dX6_putTogether_57 : decode cX6_putTogether 57 = .ok (.getfield 22, 3) := by decide +kernel
theorem dX6_putTogether_60 : decode cX6_putTogether 60 = .ok (.iload 7, 2) := by decide +kernel
theorem dX6_putTogether_62 : decode cX6_putTogether 62 = .ok (.dup2, 1) := by decide +kernel
theorem dX6_putTogether_63 : decode cX6_putTogether 63 = .ok (.laload, 1) := by decide +kernel
theorem dX6_putTogether_64 : decode cX6_putTogether 64 = .ok (.lload 5, 2) := by decide +kernel
theorem dX6_putTogether_66 : decode cX6_putTogether 66 = .ok (.ladd, 1) := by decide +kernel
theorem dX6_putTogether_67 : decode cX6_putTogether 67 = .ok (.lastore, 1) := by decide +kernel
theorem dX6_putTogether_68 : decode cX6_putTogether 68 = .ok (.goto 15, 3) := by decide +kernel
theorem dX6_putTogether_71 : decode cX6_putTogether 71 = .ok (.aload_n 0, 1) := by decide +kernel
theorem dX6_putTogether_72 : decode cX6_putTogether 72 = .ok (.getfield 12, 3) := by decide +kernel
theorem dX6_putTogether_75 : decode cX6_putTogether 75 = .ok (.iload 4, 2) := by decide +kernel
theorem dX6_putTogether_77 : decode cX6_putTogether 77 = .ok (.lload 5, 2) := by decide +kernel
theorem dX6_putTogether_79 : decode cX6_putTogether 79 = .ok (.lconst 0, 1) := by decide +kernel
theorem dX6_putTogether_80 : decode cX6_putTogether 80 = .ok (.invokevirtual 55, 3) := by decide +kernel
theorem dX6_putTogether_83 : decode cX6_putTogether 83 = .ok (.iinc 3 1, 3) := by decide +kernel
theorem dX6_putTogether_86 : decode cX6_putTogether 86 = .ok (.goto (-76), 3) := by decide +kernel
theorem dX6_putTogether_89 : decode cX6_putTogether 89 = .ok (.aload_n 0, 1) := by decide +kernel
theorem dX6_putTogether_90 : decode cX6_putTogether 90 = .ok (.dup, 1) := by decide +kernel
theorem dX6_putTogether_91 : decode cX6_putTogether 91 = .ok (.getfield 30, 3) := by decide +kernel
theorem dX6_putTogether_94 : decode cX6_putTogether 94 = .ok (.aload_n 1, 1) := by decide +kernel
theorem dX6_putTogether_95 : decode cX6_putTogether 95 = .ok (.getfield 30, 3) := by decide +kernel
theorem dX6_putTogether_98 : decode cX6_putTogether 98 = .ok (.ladd, 1) := by decide +kernel
theorem dX6_putTogether_99 : decode cX6_putTogether 99 = .ok (.putfield 30, 3) := by decide +kernel
theorem dX6_putTogether_102 : decode cX6_putTogether 102 = .ok (.aload_n 0, 1) := by decide +kernel
theorem dX6_putTogether_103 : decode cX6_putTogether 103 = .ok (.getfield 12, 3) := by decide +kernel
theorem dX6_putTogether_106 : decode cX6_putTogether 106 = .ok (.getfield 38, 3) := by decide +kernel
theorem dX6_putTogether_109 : decode cX6_putTogether 109 = .ok (.aload_n 0, 1) := by decide +kernel
theorem dX6_putTogether_110 : decode cX6_putTogether 110 = .ok (.getfield 12, 3) := by decide +kernel
theorem dX6_putTogether_113 : decode cX6_putTogether 113 = .ok (.getfield 74, 3) := by decide +kernel
theorem dX6_putTogether_116 : decode cX6_putTogether 116 = .ok (.if_icmp .le 20, 3) := by decide +kernel
theorem dX6_putTogether_119 : decode cX6_putTogether 119 = .ok (.aload_n 0, 1) := by decide +kernel
theorem dX6_putTogether_120 : decode cX6_putTogether 120 = .ok (.aload_n 0, 1) := by decide +kernel
theorem dX6_putTogether_121 : decode cX6_putTogether 121 = .ok (.aload_n 0, 1) := by decide +kernel
theorem dX6_putTogether_122 : decode cX6_putTogether 122 = .ok (.getfield 12, 3) := by decide +kernel
theorem dX6_putTogether_125 : decode cX6_putTogether 125 = .ok (.getfield 74, 3) := by decide +kernel
theorem dX6_putTogether_128 : decode cX6_putTogether 128 = .ok (.iconst 1, 1) := by decide +kernel
theorem dX6_putTogether_129 : decode cX6_putTogether 129 = .ok (.iadd, 1) := by decide +kernel
theorem dX6_putTogether_130 : decode cX6_putTogether 130 = .ok (.invokevirtual 42, 3) := by decide +kernel
theorem dX6_putTogether_133 : decode cX6_putTogether 133 = .ok (.invokevirtual 51, 3) := by decide +kernel
theorem dX6_putTogether_136 : decode cX6_putTogether 136 = .ok (.return_, 1) := by decide +kernel
theorem dX7_init_0 : decode cX7_init 0 = .ok (.aload_n 0, 1) := by decide +kernel
theorem dX7_init_1 : decode cX7_init 1 = .ok (.invokespecial 3, 3) := by decide +kernel
theorem dX7_init_4 : decode cX7_init 4 = .ok (.aload_n 0, 1) := by decide +kernel
theorem dX7_init_5 : decode cX7_init 5 = .ok (.iload_n 1, 1) := by decide +kernel
theorem dX7_init_6 : decode cX7_init 6 = .ok (.newarray .int, 2) := by decide +kernel
theorem dX7_init_8 : decode cX7_init 8 = .ok (.putfield 9, 3) := by decide +kernel
theorem dX7_init_11 : decode cX7_init 11 = .ok (.aload_n 0, 1) := by decide +kernel
theorem dX7_init_12 : decode cX7_init 12 = .ok (.iload_n 1, 1) := by decide +kernel
theorem dX7_init_13 : decode cX7_init 13 = .ok (.newarray .long, 2) := by decide +kernel
theorem dX7_init_15 : decode cX7_init 15 = .ok (.putfield 15, 3) := by decide +kernel
theorem dX7_init_18 : decode cX7_init 18 = .ok (.return_, 1) := by decide +kernel
theorem dX7_start_0 : decode cX7_start 0 = .ok (.aload_n 0, 1) := by decide +kernel
theorem dX7_start_1 : decode cX7_start 1 = .ok (.iconst 0, 1) := by decide +kernel
theorem dX7_start_2 : decode cX7_start 2 = .ok (.putfield 19, 3) := by decide +kernel
theorem dX7_start_5 : decode cX7_start 5 = .ok (.return_, 1) := by decide +kernel
theorem dX7_offer_0 : decode cX7_offer 0 = .ok (.aload_n 0, 1) := by decide +kernel
theorem dX7_offer_1 : decode cX7_offer 1 = .ok (.getfield 19, 3) := by decide +kernel
theorem dX7_offer_4 : decode cX7_offer 4 = .ok (.aload_n 0, 1) := by decide +kernel
theorem dX7_offer_5 : decode cX7_offer 5 = .ok (.getfield 9, 3) := by decide +kernel
theorem dX7_offer_8 : decode cX7_offer 8 = .ok (.arraylength, 1) := by decide +kernel
theorem dX7_offer_9 : decode cX7_offer 9 = .ok (.if_icmp .lt 30, 3) := by decide +kernel
theorem dX7_offer_12 : decode cX7_offer 12 = .ok (.aload_n 0, 1) := by decide +kernel
theorem dX7_offer_13 : decode cX7_offer 13 = .ok (.getfield 15, 3) := by decide +kernel
theorem dX7_offer_16 : decode cX7_offer 16 = .ok (.aload_n 0, 1) := by decide +kernel
theorem dX7_offer_17 : decode cX7_offer 17 = .ok (.getfield 19, 3) := by decide +kernel
theorem dX7_offer_20 : decode cX7_offer 20 = .ok (.iconst 1, 1) := by decide +kernel
theorem dX7_offer_21 : decode cX7_offer 21 = .ok (.isub, 1) := by decide +kernel
theorem dX7_offer_22 : decode cX7_offer 22 = .ok (.laload, 1) := by decide +kernel
theorem dX7_offer_23 : decode cX7_offer 23 = .ok (.lload_n 2, 1) := by decide +kernel
theorem dX7_offer_24 : decode cX7_offer 24 = .ok (.lcmp, 1) := by decide +kernel
theorem dX7_offer_25 : decode cX7_offer 25 = .ok (.ifCond .lt 4, 3) := by decide +kernel
theorem dX7_offer_28 : decode cX7_offer 28 = .ok (.return_, 1) := by decide +kernel
theorem dX7_offer_29 : decode cX7_offer 29 = .ok (.aload_n 0, 1) := by decide +kernel
theorem dX7_offer_30 : decode cX7_offer 30 = .ok (.dup, 1) := by decide +kernel
theorem dX7_offer_31 : decode cX7_offer 31 = .ok (.getfield 19, 3) := by decide +kernel
theorem dX7_offer_34 : decode cX7_offer 34 = .ok (.iconst 1, 1) := by decide +kernel
theorem dX7_offer_35 : decode cX7_offer 35 = .ok (.isub, 1) := by decide +kernel
theorem dX7_offer_36 : decode cX7_offer 36 = .ok (.putfield 19, 3) := by decide +kernel
theorem dX7_offer_39 : decode cX7_offer 39 = .ok (.aload_n 0, 1) := by decide +kernel
theorem dX7_offer_40 : decode cX7_offer 40 = .ok (.getfield 19, 3) := by decide +kernel
theorem dX7_offer_43 : decode cX7_offer 43 = .ok (.istore 4, 2) := by decide +kernel
theorem dX7_offer_45 : decode cX7_offer 45 = .ok (.iload 4, 2) := by decide +kernel
theorem dX7_offer_47 : decode cX7_offer 47 = .ok (.ifCond .le 55, 3) := by decide +kernel
theorem dX7_offer_50 : decode cX7_offer 50 = .ok (.aload_n 0, 1) := by decide +kernel
theorem dX7_offer_51 : decode cX7_offer 51 = .ok (.getfield 15, 3) := by decide +kernel
theorem dX7_offer_54 : decode cX7_offer 54 = .ok (.iload 4, 2) := by decide +kernel
theorem dX7_offer_56 : decode cX7_offer 56 = .ok (.iconst 1, 1) := by decide +kernel
theorem dX7_offer_57 : decode cX7_offer 57 = .ok (.isub, 1) := by decide +kernel
theorem dX7_offer_58 : decode cX7_offer 58 = .ok (.laload, 1) := by decide +kernel
theorem dX7_offer_59 : decode cX7_offer 59 = .ok (.lload_n 2, 1) := by decide +kernel
theorem dX7_offer_60 : decode cX7_offer 60 = .ok (.lcmp, 1) := by decide +kernel
theorem dX7_offer_61 : decode cX7_offer 61 = .ok (.ifCond .ge 41, 3) := by decide +kernel
theorem dX7_offer_64 : decode cX7_offer 64 = .ok (.aload_n 0, 1) := by decide +kernel
theorem dX7_offer_65 : decode cX7_offer 65 = .ok (.getfield 9, 3) := by decide +kernel
theorem dX7_offer_68 : decode cX7_offer 68 = .ok (.iload 4, 2) := by decide +kernel
theorem dX7_offer_70 : decode cX7_offer 70 = .ok (.aload_n 0, 1) := by decide +kernel
theorem dX7_offer_71 : decode cX7_offer 71 = .ok (.getfield 9, 3) := by decide +kernel
theorem dX7_offer_74 : decode cX7_offer 74 = .ok (.iload 4, 2) := by decide +kernel
theorem dX7_offer_76 : decode cX7_offer 76 = .ok (.iconst 1, 1) := by decide +kernel
theorem dX7_offer_77 : decode cX7_offer 77 = .ok (.isub, 1) := by decide +kernel
theorem dX7_offer_78 : decode cX7_offer 78 = .ok (.iaload, 1) := by decide +kernel
theorem dX7_offer_79 : decode cX7_offer 79 = .ok (.iastore, 1) := by decide +kernel
theorem dX7_offer_80 : decode cX7_offer 80 = .ok (.aload_n 0, 1) := by decide +kernel
theorem dX7_offer_81 : decode cX7_offer 81 = .ok (.getfield 15, 3) := by decide +kernel
theorem dX7_offer_84 : decode cX7_offer 84 = .ok (.iload 4, 2) := by decide +kernel
theorem dX7_offer_86 : decode cX7_offer 86 = .ok (.aload_n 0, 1) := by decide +kernel
theorem dX7_offer_87 : decode cX7_offer 87 = .ok (.getfield 15, 3) := by decide +kernel
theorem dX7_offer_90 : decode cX7_offer 90 = .ok (.iload 4, 2) := by decide +kernel
theorem dX7_offer_92 : decode cX7_offer 92 = .ok (.iconst 1, 1) := by decide +kernel
theorem dX7_offer_93 : decode cX7_offer 93 = .ok (.isub, 1) := by decide +kernel
theorem dX7_offer_94 : decode cX7_offer 94 = .ok (.laload, 1) := by decide +kernel
theorem dX7_offer_95 : decode cX7_offer 95 = .ok (.lastore, 1) := by decide +kernel
theorem dX7_offer_96 : decode cX7_offer 96 = .ok (.iinc 4 (-1), 3) := by decide +kernel
theorem dX7_offer_99 : decode cX7_offer 99 = .ok (.goto (-54), 3) := by decide +kernel
theorem dX7_offer_102 : decode cX7_offer 102 = .ok (.aload_n 0, 1) := by decide +kernel
theorem dX7_offer_103 : decode cX7_offer 103 = .ok (.getfield 9, 3) := by decide +kernel
theorem dX7_offer_106 : decode cX7_offer 106 = .ok (.iload 4, 2) := by decide +kernel
theorem dX7_offer_108 : decode cX7_offer 108 = .ok (.iload_n 1, 1) := by decide +kernel
theorem dX7_offer_109 : decode cX7_offer 109 = .ok (.iastore, 1) := by decide +kernel
theorem dX7_offer_110 : decode cX7_offer 110 = .ok (.aload_n 0, 1) := by decide +kernel
theorem dX7_offer_111 : decode cX7_offer 111 = .ok (.getfield 15, 3) := by decide +kernel
theorem dX7_offer_114 : decode cX7_offer 114 = .ok (.iload 4, 2) := by decide +kernel
theorem dX7_offer_116 : decode cX7_offer 116 = .ok (.lload_n 2, 1) := by decide +kernel
theorem dX7_offer_117 : decode cX7_offer 117 = .ok (.lastore, 1) := by decide +kernel
theorem dX7_offer_118 : decode cX7_offer 118 = .ok (.aload_n 0, 1) := by decide +kernel
theorem dX7_offer_119 : decode cX7_offer 119 = .ok (.dup, 1) := by decide +kernel
theorem dX7_offer_120 : decode cX7_offer 120 = .ok (.getfield 19, 3) := by decide +kernel
theorem dX7_offer_123 : decode cX7_offer 123 = .ok (.iconst 1, 1) := by decide +kernel
theorem dX7_offer_124 : decode cX7_offer 124 = .ok (.iadd, 1) := by decide +kernel
theorem dX7_offer_125 : decode cX7_offer 125 = .ok (.putfield 19, 3) := by decide +kernel
theorem dX7_offer_128 : decode cX7_offer 128 = .ok (.return_, 1) := by decide +kernel
theorem dX7_tell_0 : decode cX7_tell 0 = .ok (.iload_n 1, 1) := by decide +kernel
theorem dX7_tell_1 : decode cX7_tell 1 = .ok (.ifCond .lt 11, 3) := by decide +kernel
theorem dX7_tell_4 : decode cX7_tell 4 = .ok (.iload_n 1, 1) := by decide +kernel
theorem dX7_tell_5 : decode cX7_tell 5 = .ok (.aload_n 0, 1) := by decide +kernel
theorem dX7_tell_6 : decode cX7_tell 6 = .ok (.getfield 19, 3) := by decide +kernel
theorem dX7_tell_9 : decode cX7_tell 9 = .ok (.if_icmp .lt 7, 3) := by decide +kernel
theorem dX7_tell_12 : decode cX7_tell 12 = .ok (.ldc2_w 23, 3) := by decide +kernel
theorem dX7_tell_15 : decode cX7_tell 15 = .ok (.lreturn, 1) := by decide +kernel
theorem dX7_tell_16 : decode cX7_tell 16 = .ok (.iload_n 2, 1) := by decide +kernel
theorem dX7_tell_17 : decode cX7_tell 17 = .ok (.lookupswitch 42 #[(0, 27), (1, 35)], 27) := by decide +kernel
theorem dX7_tell_44 : decode cX7_tell 44 = .ok (.aload_n 0, 1) := by decide +kernel
theorem dX7_tell_45 : decode cX7_tell 45 = .ok (.getfield 9, 3) := by decide +kernel
theorem dX7_tell_48 : decode cX7_tell 48 = .ok (.iload_n 1, 1) := by decide +kernel
theorem dX7_tell_49 : decode cX7_tell 49 = .ok (.iaload, 1) := by decide +kernel
theorem dX7_tell_50 : decode cX7_tell 50 = .ok (.i2l, 1) := by decide +kernel
theorem dX7_tell_51 : decode cX7_tell 51 = .ok (.lreturn, 1) := by decide +kernel
theorem dX7_tell_52 : decode cX7_tell 52 = .ok (.aload_n 0, 1) := by decide +kernel
theorem dX7_tell_53 : decode cX7_tell 53 = .ok (.getfield 15, 3) := by decide +kernel
theorem dX7_tell_56 : decode cX7_tell 56 = .ok (.iload_n 1, 1) := by decide +kernel
theorem dX7_tell_57 : decode cX7_tell 57 = .ok (.laload, 1) := by decide +kernel
theorem dX7_tell_58 : decode cX7_tell 58 = .ok (.lreturn, 1) := by decide +kernel
theorem dX7_tell_59 : decode cX7_tell 59 = .ok (.ldc2_w 23, 3) := by decide +kernel
theorem dX7_tell_62 : decode cX7_tell 62 = .ok (.lreturn, 1) := by decide +kernel
theorem dX8_init_0 : decode cX8_init 0 = .ok (.aload_n 0, 1) := by decide +kernel
theorem dX8_init_1 : decode cX8_init 1 = .ok (.invokespecial 1, 3) := by decide +kernel
theorem dX8_init_4 : decode cX8_init 4 = .ok (.aload_n 0, 1) := by decide +kernel
theorem dX8_init_5 : decode cX8_init 5 = .ok (.new 7, 3) := by decide +kernel
theorem dX8_init_8 : decode cX8_init 8 = .ok (.dup, 1) := by decide +kernel
theorem dX8_init_9 : decode cX8_init 9 = .ok (.iload_n 1, 1) := by decide +kernel
theorem dX8_init_10 : decode cX8_init 10 = .ok (.iload_n 2, 1) := by decide +kernel
theorem dX8_init_11 : decode cX8_init 11 = .ok (.invokespecial 9, 3) := by decide +kernel
theorem dX8_init_14 : decode cX8_init 14 = .ok (.putfield 12, 3) := by decide +kernel
theorem dX8_init_17 : decode cX8_init 17 = .ok (.return_, 1) := by decide +kernel
theorem dX8_least_0 : decode cX8_least 0 = .ok (.aload_n 0, 1) := by decide +kernel
theorem dX8_least_1 : decode cX8_least 1 = .ok (.getfield 12, 3) := by decide +kernel
theorem dX8_least_4 : decode cX8_least 4 = .ok (.invokevirtual 18, 3) := by decide +kernel
theorem dX8_least_7 : decode cX8_least 7 = .ok (.ifCond .eq 15, 3) := by decide +kernel
theorem dX8_least_10 : decode cX8_least 10 = .ok (.aload_n 0, 1) := by decide +kernel
theorem dX8_least_11 : decode cX8_least 11 = .ok (.getfield 12, 3) := by decide +kernel
theorem dX8_least_14 : decode cX8_least 14 = .ok (.getfield 22, 3) := by decide +kernel
theorem dX8_least_17 : decode cX8_least 17 = .ok (.iconst 0, 1) := by decide +kernel
theorem dX8_least_18 : decode cX8_least 18 = .ok (.laload, 1) := by decide +kernel
theorem dX8_least_19 : decode cX8_least 19 = .ok (.goto 4, 3) := by decide +kernel
theorem dX8_least_22 : decode cX8_least 22 = .ok (.lconst 0, 1) := by decide +kernel
theorem dX8_least_23 : decode cX8_least 23 = .ok (.lreturn, 1) := by decide +kernel
theorem dX8_guess_0 : decode cX8_guess 0 = .ok (.aload_n 0, 1) := by decide +kernel
theorem dX8_guess_1 : decode cX8_guess 1 = .ok (.getfield 12, 3) := by decide +kernel
theorem dX8_guess_4 : decode cX8_guess 4 = .ok (.iload_n 1, 1) := by decide +kernel
theorem dX8_guess_5 : decode cX8_guess 5 = .ok (.invokevirtual 26, 3) := by decide +kernel
theorem dX8_guess_8 : decode cX8_guess 8 = .ok (.istore_n 2, 1) := by decide +kernel
theorem dX8_guess_9 : decode cX8_guess 9 = .ok (.iload_n 2, 1) := by decide +kernel
theorem dX8_guess_10 : decode cX8_guess 10 = .ok (.ifCond .ge 10, 3) := by decide +kernel
theorem dX8_guess_13 : decode cX8_guess 13 = .ok (.aload_n 0, 1) := by decide +kernel
theorem dX8_guess_14 : decode cX8_guess 14 = .ok (.invokevirtual 30, 3) := by decide +kernel
theorem dX8_guess_17 : decode cX8_guess 17 = .ok (.goto 12, 3) := by decide +kernel
theorem dX8_guess_20 : decode cX8_guess 20 = .ok (.aload_n 0, 1) := by decide +kernel
theorem dX8_guess_21 : decode cX8_guess 21 = .ok (.getfield 12, 3) := by decide +kernel
theorem dX8_guess_24 : decode cX8_guess 24 = .ok (.getfield 22, 3) := by decide +kernel
theorem dX8_guess_27 : decode cX8_guess 27 = .ok (.iload_n 2, 1) := by decide +kernel
theorem dX8_guess_28 : decode cX8_guess 28 = .ok (.laload, 1) := by decide +kernel
theorem dX8_guess_29 : decode cX8_guess 29 = .ok (.lreturn, 1) := by decide +kernel
theorem dX8_low_0 : decode cX8_low 0 = .ok (.aload_n 0, 1) := by decide +kernel
theorem dX8_low_1 : decode cX8_low 1 = .ok (.getfield 12, 3) := by decide +kernel
theorem dX8_low_4 : decode cX8_low 4 = .ok (.iload_n 1, 1) := by decide +kernel
theorem dX8_low_5 : decode cX8_low 5 = .ok (.invokevirtual 26, 3) := by decide +kernel
theorem dX8_low_8 : decode cX8_low 8 = .ok (.istore_n 2, 1) := by decide +kernel
theorem dX8_low_9 : decode cX8_low 9 = .ok (.iload_n 2, 1) := by decide +kernel
theorem dX8_low_10 : decode cX8_low 10 = .ok (.ifCond .ge 7, 3) := by decide +kernel
theorem dX8_low_13 : decode cX8_low 13 = .ok (.lconst 0, 1) := by decide +kernel
theorem dX8_low_14 : decode cX8_low 14 = .ok (.goto 22, 3) := by decide +kernel
theorem dX8_low_17 : decode cX8_low 17 = .ok (.aload_n 0, 1) := by decide +kernel
theorem dX8_low_18 : decode cX8_low 18 = .ok (.getfield 12, 3) := by decide +kernel
theorem dX8_low_21 : decode cX8_low 21 = .ok (.getfield 22, 3) := by decide +kernel
theorem dX8_low_24 : decode cX8_low 24 = .ok (.iload_n 2, 1) := by decide +kernel
theorem dX8_low_25 : decode cX8_low 25 = .ok (.laload, 1) := by decide +kernel
theorem dX8_low_26 : decode cX8_low 26 = .ok (.aload_n 0, 1) := by decide +kernel
theorem dX8_low_27 : decode cX8_low 27 = .ok (.getfield 12, 3) := by decide +kernel
theorem dX8_low_30 : decode cX8_low 30 = .ok (.getfield 34, 3) := by decide +kernel
theorem dX8_low_33 : decode cX8_low 33 = .ok (.iload_n 2, 1) := by decide +kernel
theorem dX8_low_34 : decode cX8_low 34 = .ok (.laload, 1) := by decide +kernel
theorem dX8_low_35 : decode cX8_low 35 = .ok (.lsub, 1) := by decide +kernel
theorem dX8_low_36 : decode cX8_low 36 = .ok (.lreturn, 1) := by decide +kernel
theorem dX8_high_0 : decode cX8_high 0 = .ok (.aload_n 0, 1) := by decide +kernel
theorem dX8_high_1 : decode cX8_high 1 = .ok (.iload_n 1, 1) := by decide +kernel
theorem dX8_high_2 : decode cX8_high 2 = .ok (.invokevirtual 37, 3) := by decide +kernel
theorem dX8_high_5 : decode cX8_high 5 = .ok (.lreturn, 1) := by decide +kernel
theorem dX8_take_0 : decode cX8_take 0 = .ok (.aload_n 0, 1) := by decide +kernel
theorem dX8_take_1 : decode cX8_take 1 = .ok (.getfield 12, 3) := by decide +kernel
theorem dX8_take_4 : decode cX8_take 4 = .ok (.iload_n 1, 1) := by decide +kernel
theorem dX8_take_5 : decode cX8_take 5 = .ok (.invokevirtual 26, 3) := by decide +kernel
theorem dX8_take_8 : decode cX8_take 8 = .ok (.istore_n 3, 1) := by decide +kernel
theorem dX8_take_9 : decode cX8_take 9 = .ok (.iload_n 3, 1) := by decide +kernel
theorem dX8_take_10 : decode cX8_take 10 = .ok (.ifCond .ge 10, 3) := by decide +kernel
theorem dX8_take_13 : decode cX8_take 13 = .ok (.aload_n 0, 1) := by decide +kernel
theorem dX8_take_14 : decode cX8_take 14 = .ok (.invokevirtual 30, 3) := by decide +kernel
theorem dX8_take_17 : decode cX8_take 17 = .ok (.goto 12, 3) := by decide +kernel
theorem dX8_take_20 : decode cX8_take 20 = .ok (.aload_n 0, 1) := by decide +kernel
theorem dX8_take_21 : decode cX8_take 21 = .ok (.getfield 12, 3) := by decide +kernel
theorem dX8_take_24 : decode cX8_take 24 = .ok (.getfield 22, 3) := by decide +kernel
theorem dX8_take_27 : decode cX8_take 27 = .ok (.iload_n 3, 1) := by decide +kernel
theorem dX8_take_28 : decode cX8_take 28 = .ok (.laload, 1) := by decide +kernel
theorem dX8_take_29 : decode cX8_take 29 = .ok (.lstore 4, 2) := by decide +kernel
theorem dX8_take_31 : decode cX8_take 31 = .ok (.iload_n 3, 1) := by decide +kernel
theorem dX8_take_32 : decode cX8_take 32 = .ok (.ifCond .ge 8, 3) := by decide +kernel
theorem dX8_take_35 : decode cX8_take 35 = .ok (.lload 4, 2) := by decide +kernel
theorem dX8_take_37 : decode cX8_take 37 = .ok (.goto 12, 3) := by decide +kernel
theorem dX8_take_40 : decode cX8_take 40 = .ok (.aload_n 0, 1) := by decide +kernel
theorem dX8_take_41 : decode cX8_take 41 = .ok (.getfield 12, 3) := by decide +kernel
theorem dX8_take_44 : decode cX8_take 44 = .ok (.getfield 34, 3) := by decide +kernel
theorem dX8_take_47 : decode cX8_take 47 = .ok (.iload_n 3, 1) := by decide +kernel
theorem dX8_take_48 : decode cX8_take 48 = .ok (.laload, 1) := by decide +kernel
theorem dX8_take_49 : decode cX8_take 49 = .ok (.lstore 6, 2) := by decide +kernel
theorem dX8_take_51 : decode cX8_take 51 = .ok (.iload_n 3, 1) := by decide +kernel
theorem dX8_take_52 : decode cX8_take 52 = .ok (.ifCond .ge 15, 3) := by decide +kernel
theorem dX8_take_55 : decode cX8_take 55 = .ok (.aload_n 0, 1) := by decide +kernel
theorem dX8_take_56 : decode cX8_take 56 = .ok (.getfield 12, 3) := by decide +kernel
theorem dX8_take_59 : decode cX8_take 59 = .ok (.invokevirtual 18, 3) := by decide +kernel
theorem dX8_take_62 : decode cX8_take 62 = .ok (.ifCond .eq 5, 3) := by decide +kernel
theorem dX8_take_65 : decode cX8_take 65 = .ok (.iconst 0, 1) := by decide +kernel
theorem dX8_take_66 : decode cX8_take 66 = .ok (.istore_n 3, 1) := by decide +kernel
theorem dX8_take_67 : decode cX8_take 67 = .ok (.iload_n 3, 1) := by decide +kernel
theorem dX8_take_68 : decode cX8_take 68 = .ok (.ifCond .lt 11, 3) := by decide +kernel
theorem dX8_take_71 : decode cX8_take 71 = .ok (.aload_n 0, 1) := by decide +kernel
theorem dX8_take_72 : decode cX8_take 72 = .ok (.getfield 12, 3) := by decide +kernel
theorem dX8_take_75 : decode cX8_take 75 = .ok (.iload_n 3, 1) := by decide +kernel
theorem dX8_take_76 : decode cX8_take 76 = .ok (.invokevirtual 41, 3) := by decide +kernel
theorem dX8_take_79 : decode cX8_take 79 = .ok (.lload 4, 2) := by decide +kernel
theorem dX8_take_81 : decode cX8_take 81 = .ok (.iload_n 2, 1) := by decide +kernel
theorem dX8_take_82 : decode cX8_take 82 = .ok (.i2l, 1) := by decide +kernel
theorem dX8_take_83 : decode cX8_take 83 = .ok (.ladd, 1) := by decide +kernel
theorem dX8_take_84 : decode cX8_take 84 = .ok (.lstore 8, 2) := by decide +kernel
theorem dX8_take_86 : decode cX8_take 86 = .ok (.aload_n 0, 1) := by decide +kernel
theorem dX8_take_87 : decode cX8_take 87 = .ok (.getfield 12, 3) := by decide +kernel
theorem dX8_take_90 : decode cX8_take 90 = .ok (.aload_n 0, 1) := by decide +kernel
theorem dX8_take_91 : decode cX8_take 91 = .ok (.lload 8, 2) := by decide +kernel
theorem dX8_take_93 : decode cX8_take 93 = .ok (.invokevirtual 45, 3) := by decide +kernel
theorem dX8_take_96 : decode cX8_take 96 = .ok (.iload_n 1, 1) := by decide +kernel
theorem dX8_take_97 : decode cX8_take 97 = .ok (.lload 8, 2) := by decide +kernel
theorem dX8_take_99 : decode cX8_take 99 = .ok (.lload 6, 2) := by decide +kernel
theorem dX8_take_101 : decode cX8_take 101 = .ok (.invokevirtual 49, 3) := by decide +kernel
theorem dX8_take_104 : decode cX8_take 104 = .ok (.return_, 1) := by decide +kernel
theorem dX8_placeBehind_0 : decode cX8_placeBehind 0 = .ok (.iconst 0, 1) := by decide +kernel
theorem dX8_placeBehind_1 : decode cX8_placeBehind 1 = .ok (.istore_n 3, 1) := by decide +kernel
theorem dX8_placeBehind_2 : decode cX8_placeBehind 2 = .ok (.iload_n 3, 1) := by decide +kernel
theorem dX8_placeBehind_3 : decode cX8_placeBehind 3 = .ok (.aload_n 0, 1) := by decide +kernel
theorem dX8_placeBehind_4 : decode cX8_placeBehind 4 = .ok (.getfield 12, 3) := by decide +kernel
theorem dX8_placeBehind_7 : decode cX8_placeBehind 7 = .ok (.getfield 53, 3) := by decide +kernel
theorem dX8_placeBehind_10 : decode cX8_placeBehind 10 = .ok (.if_icmp .ge 23, 3) := by decide +kernel
theorem dX8_placeBehind_13 : decode cX8_placeBehind 13 = .ok (.aload_n 0, 1) := by decide +kernel
theorem dX8_placeBehind_14 : decode cX8_placeBehind 14 = .ok (.getfield 12, 3) := by decide +kernel
theorem dX8_placeBehind_17 : decode cX8_placeBehind 17 = .ok (.getfield 22, 3) := by decide +kernel
theorem dX8_placeBehind_20 : decode cX8_placeBehind 20 = .ok (.iload_n 3, 1) := by decide +kernel
theorem dX8_placeBehind_21 : decode cX8_placeBehind 21 = .ok (.laload, 1) := by decide +kernel
theorem dX8_placeBehind_22 : decode cX8_placeBehind 22 = .ok (.lload_n 1, 1) := by decide +kernel
theorem dX8_placeBehind_23 : decode cX8_placeBehind 23 = .ok (.lcmp, 1) := by decide +kernel
theorem dX8_placeBehind_24 : decode cX8_placeBehind 24 = .ok (.ifCond .gt 9, 3) := by decide +kernel
theorem dX8_placeBehind_27 : decode cX8_placeBehind 27 = .ok (.iinc 3 1, 3) := by decide +kernel
theorem dX8_placeBehind_30 : decode cX8_placeBehind 30 = .ok (.goto (-28), 3) := by decide +kernel
theorem dX8_placeBehind_33 : decode cX8_placeBehind 33 = .ok (.iload_n 3, 1) := by decide +kernel
theorem dX8_placeBehind_34 : decode cX8_placeBehind 34 = .ok (.ireturn, 1) := by decide +kernel
theorem dX8_makeEmpty_0 : decode cX8_makeEmpty 0 = .ok (.aload_n 0, 1) := by decide +kernel
theorem dX8_makeEmpty_1 : decode cX8_makeEmpty 1 = .ok (.getfield 12, 3) := by decide +kernel
theorem dX8_makeEmpty_4 : decode cX8_makeEmpty 4 = .ok (.invokevirtual 57, 3) := by decide +kernel
theorem dX8_makeEmpty_7 : decode cX8_makeEmpty 7 = .ok (.return_, 1) := by decide +kernel
theorem dX8_become_0 : decode cX8_become 0 = .ok (.aload_n 0, 1) := by decide +kernel
theorem dX8_become_1 : decode cX8_become 1 = .ok (.getfield 12, 3) := by decide +kernel
theorem dX8_become_4 : decode cX8_become 4 = .ok (.aload_n 1, 1) := by decide +kernel
theorem dX8_become_5 : decode cX8_become 5 = .ok (.getfield 12, 3) := by decide +kernel
theorem dX8_become_8 : decode cX8_become 8 = .ok (.invokevirtual 60, 3) := by decide +kernel
theorem dX8_become_11 : decode cX8_become 11 = .ok (.return_, 1) := by decide +kernel
theorem dX8_putTogether_0 : decode cX8_putTogether 0 = .ok (.aload_n 0, 1) := by decide +kernel
theorem dX8_putTogether_1 : decode cX8_putTogether 1 = .ok (.invokevirtual 30, 3) := by decide +kernel
theorem dX8_putTogether_4 : decode cX8_putTogether 4 = .ok (.lstore_n 2, 1) := by decide +kernel
theorem dX8_putTogether_5 : decode cX8_putTogether 5 = .ok (.aload_n 1, 1) := by decide +kernel
theorem dX8_putTogether_6 : decode cX8_putTogether 6 = .ok (.invokevirtual 30, 3) := by decide +kernel
theorem dX8_putTogether_9 : decode cX8_putTogether 9 = .ok (.lstore 4, 2) := by decide +kernel
theorem dX8_putTogether_11 : decode cX8_putTogether 11 = .ok (.iconst 0, 1) := by decide +kernel
theorem dX8_putTogether_12 : decode cX8_putTogether 12 = .ok (.istore 6, 2) := by decide +kernel
theorem dX8_putTogether_14 : decode cX8_putTogether 14 = .ok (.iload 6, 2) := by decide +kernel
theorem dX8_putTogether_16 : decode cX8_putTogether 16 = .ok (.aload_n 0, 1) := by decide +kernel
theorem dX8_putTogether_17 : decode cX8_putTogether 17 = .ok (.getfield 12, 3) := by decide +kernel
theorem dX8_putTogether_20 : decode cX8_putTogether 20 = .ok (.getfield 53, 3) := by decide +kernel
theorem dX8_putTogether_23 : decode cX8_putTogether 23 = .ok (.if_icmp .ge 94, 3) := by decide +kernel
theorem dX8_putTogether_26 : decode cX8_putTogether 26 = .ok (.aload_n 1, 1) := by decide +kernel
theorem dX8_putTogether_27 : decode cX8_putTogether 27 = .ok (.getfield 12, 3) := by decide +kernel
theorem dX8_putTogether_30 : decode cX8_putTogether 30 = .ok (.aload_n 0, 1) := by decide +kernel
theorem dX8_putTogether_31 : decode cX8_putTogether 31 = .ok (.getfield 12, 3) := by decide +kernel
theorem dX8_putTogether_34 : decode cX8_putTogether 34 = .ok (.getfield 64, 3) := by decide +kernel
theorem dX8_putTogether_37 : decode cX8_putTogether 37 = .ok (.iload 6, 2) := by decide +kernel
theorem dX8_putTogether_39 : decode cX8_putTogether 39 = .ok (.iaload, 1) := by decide +kernel
theorem dX8_putTogether_40 : decode cX8_putTogether 40 = .ok (.invokevirtual 26, 3) := by decide +kernel
theorem dX8_putTogether_43 : decode cX8_putTogether 43 = .ok (.istore 7, 2) := by decide +kernel
theorem dX8_putTogether_45 : decode cX8_putTogether 45 = .ok (.aload_n 0, 1) := by decide +kernel
theorem dX8_putTogether_46 : decode cX8_putTogether 46 = .ok (.getfield 12, 3) := by decide +kernel
theorem dX8_putTogether_49 : decode cX8_putTogether 49 = .ok (.getfield 22, 3) := by decide +kernel
theorem dX8_putTogether_52 : decode cX8_putTogether 52 = .ok (.iload 6, 2) := by decide +kernel
theorem dX8_putTogether_54 : decode cX8_putTogether 54 = .ok (.dup2, 1) := by decide +kernel
theorem dX8_putTogether_55 : decode cX8_putTogether 55 = .ok (.laload, 1) := by decide +kernel
theorem dX8_putTogether_56 : decode cX8_putTogether 56 = .ok (.iload 7, 2) := by decide +kernel
theorem dX8_putTogether_58 : decode cX8_putTogether 58 = .ok (.ifCond .ge 8, 3) := by decide +kernel
theorem dX8_putTogether_61 : decode cX8_putTogether 61 = .ok (.lload 4, 2) := by decide +kernel
theorem dX8_putTogether_63 : decode cX8_putTogether 63 = .ok (.goto 13, 3) := by decide +kernel
theorem dX8_putTogether_66 : decode cX8_putTogether 66 = .ok (.aload_n 1, 1) := by decide +kernel
theorem dX8_putTogether_67 : decode cX8_putTogether 67 = .ok (.getfield 12, 3) := by decide +kernel
theorem dX8_putTogether_70 : decode cX8_putTogether 70 = .ok (.getfield 22, 3) := by decide +kernel
theorem dX8_putTogether_73 : decode cX8_putTogether 73 = .ok (.iload 7, 2) := by decide +kernel
theorem dX8_putTogether_75 : decode cX8_putTogether 75 = .ok (.laload, 1) := by decide +kernel
theorem dX8_putTogether_76 : decode cX8_putTogether 76 = .ok (.ladd, 1) := by decide +kernel
theorem dX8_putTogether_77 : decode cX8_putTogether 77 = .ok (.lastore, 1) := by decide +kernel
theorem dX8_putTogether_78 : decode cX8_putTogether 78 = .ok (.aload_n 0, 1) := by decide +kernel
theorem dX8_putTogether_79 : decode cX8_putTogether 79 = .ok (.getfield 12, 3) := by decide +kernel
theorem dX8_putTogether_82 : decode cX8_putTogether 82 = .ok (.getfield 34, 3) := by decide +kernel
theorem dX8_putTogether_85 : decode cX8_putTogether 85 = .ok (.iload 6, 2) := by decide +kernel
theorem dX8_putTogether_87 : decode cX8_putTogether 87 = .ok (.dup2, 1) := by decide +kernel
theorem dX8_putTogether_88 : decode cX8_putTogether 88 = .ok (.laload, 1) := by decide +kernel
theorem dX8_putTogether_89 : decode cX8_putTogether 89 = .ok (.iload 7, 2) := by decide +kernel
theorem dX8_putTogether_91 : decode cX8_putTogether 91 = .ok (.ifCond .ge 8, 3) := by decide +kernel
theorem dX8_putTogether_94 : decode cX8_putTogether 94 = .ok (.lload 4, 2) := by decide +kernel
theorem dX8_putTogether_96 : decode cX8_putTogether 96 = .ok (.goto 13, 3) := by decide +kernel
theorem dX8_putTogether_99 : decode cX8_putTogether 99 = .ok (.aload_n 1, 1) := by decide +kernel
theorem dX8_putTogether_100 : decode cX8_putTogether 100 = .ok (.getfield 12, 3) := by decide +kernel
theorem dX8_putTogether_103 : decode cX8_putTogether 103 = .ok (.getfield 34, 3) := by decide +kernel
theorem dX8_putTogether_106 : decode cX8_putTogether 106 = .ok (.iload 7, 2) := by decide +kernel
theorem dX8_putTogether_108 : decode cX8_putTogether 108 = .ok (.laload, 1) := by decide +kernel
theorem dX8_putTogether_109 : decode cX8_putTogether 109 = .ok (.ladd, 1) := by decide +kernel
theorem dX8_putTogether_110 : decode cX8_putTogether 110 = .ok (.lastore, 1) := by decide +kernel
theorem dX8_putTogether_111 : decode cX8_putTogether 111 = .ok (.iinc 6 1, 3) := by decide +kernel
theorem dX8_putTogether_114 : decode cX8_putTogether 114 = .ok (.goto (-100), 3) := by decide +kernel
theorem dX8_putTogether_117 : decode cX8_putTogether 117 = .ok (.aload_n 1, 1) := by decide +kernel
theorem dX8_putTogether_118 : decode cX8_putTogether 118 = .ok (.getfield 12, 3) := by decide +kernel
theorem dX8_putTogether_121 : decode cX8_putTogether 121 = .ok (.getfield 53, 3) := by decide +kernel
theorem dX8_putTogether_124 : decode cX8_putTogether 124 = .ok (.istore 6, 2) := by decide +kernel
theorem dX8_putTogether_126 : decode cX8_putTogether 126 = .ok (.iconst 0, 1) := by decide +kernel
theorem dX8_putTogether_127 : decode cX8_putTogether 127 = .ok (.istore 7, 2) := by decide +kernel
theorem dX8_putTogether_129 : decode cX8_putTogether 129 = .ok (.iload 7, 2) := by decide +kernel
theorem dX8_putTogether_131 : decode cX8_putTogether 131 = .ok (.iload 6, 2) := by decide +kernel
theorem dX8_putTogether_133 : decode cX8_putTogether 133 = .ok (.if_icmp .ge 66, 3) := by decide +kernel
theorem dX8_putTogether_136 : decode cX8_putTogether 136 = .ok (.aload_n 1, 1) := by decide +kernel
theorem dX8_putTogether_137 : decode cX8_putTogether 137 = .ok (.getfield 12, 3) := by decide +kernel
theorem dX8_putTogether_140 : decode cX8_putTogether 140 = .ok (.getfield 64, 3) := by decide +kernel
theorem dX8_putTogether_143 : decode cX8_putTogether 143 = .ok (.iload 7, 2) := by decide +kernel
theorem dX8_putTogether_145 : decode cX8_putTogether 145 = .ok (.iaload, 1) := by decide +kernel
theorem dX8_putTogether_146 : decode cX8_putTogether 146 = .ok (.istore 8, 2) := by decide +kernel
theorem dX8_putTogether_148 : decode cX8_putTogether 148 = .ok (.aload_n 0, 1) := by decide +kernel
theorem dX8_putTogether_149 : decode cX8_putTogether 149 = .ok (.getfield 12, 3) := by decide +kernel
theorem dX8_putTogether_152 : decode cX8_putTogether 152 = .ok (.iload 8, 2) := by decide +kernel
theorem dX8_putTogether_154 : decode cX8_putTogether 154 = .ok (.invokevirtual 26, 3) := by decide +kernel
theorem dX8_putTogether_157 : decode cX8_putTogether 157 = .ok (.ifCond .ge 36, 3) := by decide +kernel
theorem dX8_putTogether_160 : decode cX8_putTogether 160 = .ok (.aload_n 0, 1) := by decide +kernel
theorem dX8_putTogether_161 : decode cX8_putTogether 161 = .ok (.getfield 12, 3) := by decide +kernel
theorem dX8_putTogether_164 : decode cX8_putTogether 164 = .ok (.iload 8, 2) := by decide +kernel
theorem dX8_putTogether_166 : decode cX8_putTogether 166 = .ok (.aload_n 1, 1) := by decide +kernel
theorem dX8_putTogether_167 : decode cX8_putTogether 167 = .ok (.getfield 12, 3) := by decide +kernel
theorem dX8_putTogether_170 : decode cX8_putTogether 170 = .ok (.getfield 22, 3) := by decide +kernel
theorem dX8_putTogether_173 : decode cX8_putTogether 173 = .ok (.iload 7, 2) := by decide +kernel
theorem dX8_putTogether_175 : decode cX8_putTogether 175 = .ok (.laload, 1) := by decide +kernel
theorem dX8_putTogether_176 : decode cX8_putTogether 176 = .ok (.lload_n 2, 1) := by decide +kernel
theorem dX8_putTogether_177 : decode cX8_putTogether 177 = .ok (.ladd, 1) := by decide +kernel
theorem dX8_putTogether_178 : decode cX8_putTogether 178 = .ok (.aload_n 1, 1) := by decide +kernel
theorem dX8_putTogether_179 : decode cX8_putTogether 179 = .ok (.getfield 12, 3) := by decide +kernel
theorem dX8_putTogether_182 : decode cX8_putTogether 182 = .ok (.getfield 34, 3) := by decide +kernel
theorem dX8_putTogether_185 : decode cX8_putTogether 185 = .ok (.iload 7, 2) := by decide +kernel
theorem dX8_putTogether_187 : decode cX8_putTogether 187 = .ok (.laload, 1) := by decide +kernel
theorem dX8_putTogether_188 : decode cX8_putTogether 188 = .ok (.lload_n 2, 1) := by decide +kernel
theorem dX8_putTogether_189 : decode cX8_putTogether 189 = .ok (.ladd, 1) := by decide +kernel
theorem dX8_putTogether_190 : decode cX8_putTogether 190 = .ok (.invokevirtual 68, 3) := by decide +kernel
theorem dX8_putTogether_193 : decode cX8_putTogether 193 = .ok (.iinc 7 1, 3) := by decide +kernel
theorem dX8_putTogether_196 : decode cX8_putTogether 196 = .ok (.goto (-67), 3) := by decide +kernel
theorem dX8_putTogether_199 : decode cX8_putTogether 199 = .ok (.aload_n 0, 1) := by decide +kernel
theorem dX8_putTogether_200 : decode cX8_putTogether 200 = .ok (.getfield 12, 3) := by decide +kernel
theorem dX8_putTogether_203 : decode cX8_putTogether 203 = .ok (.getfield 53, 3) := by decide +kernel
theorem dX8_putTogether_206 : decode cX8_putTogether 206 = .ok (.aload_n 0, 1) := by decide +kernel
theorem dX8_putTogether_207 : decode cX8_putTogether 207 = .ok (.getfield 12, 3) := by decide +kernel
theorem dX8_putTogether_210 : decode cX8_putTogether 210 = .ok (.getfield 72, 3) := by decide +kernel
theorem dX8_putTogether_213 : decode cX8_putTogether 213 = .ok (.isub, 1) := by decide +kernel
theorem dX8_putTogether_214 : decode cX8_putTogether 214 = .ok (.istore 7, 2) := by decide +kernel
theorem dX8_putTogether_216 : decode cX8_putTogether 216 = .ok (.iload 7, 2) := by decide +kernel
theorem dX8_putTogether_218 : decode cX8_putTogether 218 = .ok (.ifCond .le 20, 3) := by decide +kernel
theorem dX8_putTogether_221 : decode cX8_putTogether 221 = .ok (.aload_n 0, 1) := by decide +kernel
theorem dX8_putTogether_222 : decode cX8_putTogether 222 = .ok (.getfield 12, 3) := by decide +kernel
theorem dX8_putTogether_225 : decode cX8_putTogether 225 = .ok (.aload_n 0, 1) := by decide +kernel
theorem dX8_putTogether_226 : decode cX8_putTogether 226 = .ok (.invokevirtual 75, 3) := by decide +kernel
theorem dX8_putTogether_229 : decode cX8_putTogether 229 = .ok (.invokevirtual 41, 3) := by decide +kernel
theorem dX8_putTogether_232 : decode cX8_putTogether 232 = .ok (.iinc 7 (-1), 3) := by decide +kernel
theorem dX8_putTogether_235 : decode cX8_putTogether 235 = .ok (.goto (-19), 3) := by decide +kernel
theorem dX8_putTogether_238 : decode cX8_putTogether 238 = .ok (.aload_n 0, 1) := by decide +kernel
theorem dX8_putTogether_239 : decode cX8_putTogether 239 = .ok (.getfield 12, 3) := by decide +kernel
theorem dX8_putTogether_242 : decode cX8_putTogether 242 = .ok (.invokevirtual 79, 3) := by decide +kernel
theorem dX8_putTogether_245 : decode cX8_putTogether 245 = .ok (.return_, 1) := by decide +kernel
theorem dX8_weakest_0 : decode cX8_weakest 0 = .ok (.iconst 0, 1) := by decide +kernel
theorem dX8_weakest_1 : decode cX8_weakest 1 = .ok (.istore_n 1, 1) := by decide +kernel
theorem dX8_weakest_2 : decode cX8_weakest 2 = .ok (.iconst 1, 1) := by decide +kernel
theorem dX8_weakest_3 : decode cX8_weakest 3 = .ok (.istore_n 2, 1) := by decide +kernel
theorem dX8_weakest_4 : decode cX8_weakest 4 = .ok (.iload_n 2, 1) := by decide +kernel
theorem dX8_weakest_5 : decode cX8_weakest 5 = .ok (.aload_n 0, 1) := by decide +kernel
theorem dX8_weakest_6 : decode cX8_weakest 6 = .ok (.getfield 12, 3) := by decide +kernel
theorem dX8_weakest_9 : decode cX8_weakest 9 = .ok (.getfield 53, 3) := by decide +kernel
theorem dX8_weakest_12 : decode cX8_weakest 12 = .ok (.if_icmp .ge 64, 3) := by decide +kernel
theorem dX8_weakest_15 : decode cX8_weakest 15 = .ok (.aload_n 0, 1) := by decide +kernel
theorem dX8_weakest_16 : decode cX8_weakest 16 = .ok (.getfield 12, 3) := by decide +kernel
theorem dX8_weakest_19 : decode cX8_weakest 19 = .ok (.getfield 22, 3) := by decide +kernel
theorem dX8_weakest_22 : decode cX8_weakest 22 = .ok (.iload_n 1, 1) := by decide +kernel
theorem dX8_weakest_23 : decode cX8_weakest 23 = .ok (.laload, 1) := by decide +kernel
theorem dX8_weakest_24 : decode cX8_weakest 24 = .ok (.aload_n 0, 1) := by decide +kernel
theorem dX8_weakest_25 : decode cX8_weakest 25 = .ok (.getfield 12, 3) := by decide +kernel
theorem dX8_weakest_28 : decode cX8_weakest 28 = .ok (.getfield 22, 3) := by decide +kernel
theorem dX8_weakest_31 : decode cX8_weakest 31 = .ok (.iload_n 2, 1) := by decide +kernel
theorem dX8_weakest_32 : decode cX8_weakest 32 = .ok (.laload, 1) := by decide +kernel
theorem dX8_weakest_33 : decode cX8_weakest 33 = .ok (.lsub, 1) := by decide +kernel
theorem dX8_weakest_34 : decode cX8_weakest 34 = .ok (.lstore_n 3, 1) := by decide +kernel
theorem dX8_weakest_35 : decode cX8_weakest 35 = .ok (.lload_n 3, 1) := by decide +kernel
theorem dX8_weakest_36 : decode cX8_weakest 36 = .ok (.lconst 0, 1) := by decide +kernel
theorem dX8_weakest_37 : decode cX8_weakest 37 = .ok (.lcmp, 1) := by decide +kernel
theorem dX8_weakest_38 : decode cX8_weakest 38 = .ok (.ifCond .gt 30, 3) := by decide +kernel
theorem dX8_weakest_41 : decode cX8_weakest 41 = .ok (.lload_n 3, 1) := by decide +kernel
theorem dX8_weakest_42 : decode cX8_weakest 42 = .ok (.lconst 0, 1) := by decide +kernel
theorem dX8_weakest_43 : decode cX8_weakest 43 = .ok (.lcmp, 1) := by decide +kernel
theorem dX8_weakest_44 : decode cX8_weakest 44 = .ok (.ifCond .ne 26, 3) := by decide +kernel
theorem dX8_weakest_47 : decode cX8_weakest 47 = .ok (.aload_n 0, 1) := by decide +kernel
theorem dX8_weakest_48 : decode cX8_weakest 48 = .ok (.getfield 12, 3) := by decide +kernel
theorem dX8_weakest_51 : decode cX8_weakest 51 = .ok (.getfield 64, 3) := by decide +kernel
theorem dX8_weakest_54 : decode cX8_weakest 54 = .ok (.iload_n 2, 1) := by decide +kernel
theorem dX8_weakest_55 : decode cX8_weakest 55 = .ok (.iaload, 1) := by decide +kernel
theorem dX8_weakest_56 : decode cX8_weakest 56 = .ok (.aload_n 0, 1) := by decide +kernel
theorem dX8_weakest_57 : decode cX8_weakest 57 = .ok (.getfield 12, 3) := by decide +kernel
theorem dX8_weakest_60 : decode cX8_weakest 60 = .ok (.getfield 64, 3) := by decide +kernel
theorem dX8_weakest_63 : decode cX8_weakest 63 = .ok (.iload_n 1, 1) := by decide +kernel
theorem dX8_weakest_64 : decode cX8_weakest 64 = .ok (.iaload, 1) := by decide +kernel
theorem dX8_weakest_65 : decode cX8_weakest 65 = .ok (.if_icmp .le 5, 3) := by decide +kernel
theorem dX8_weakest_68 : decode cX8_weakest 68 = .ok (.iload_n 2, 1) := by decide +kernel
theorem dX8_weakest_69 : decode cX8_weakest 69 = .ok (.istore_n 1, 1) := by decide +kernel
theorem dX8_weakest_70 : decode cX8_weakest 70 = .ok (.iinc 2 1, 3) := by decide +kernel
theorem dX8_weakest_73 : decode cX8_weakest 73 = .ok (.goto (-69), 3) := by decide +kernel
theorem dX8_weakest_76 : decode cX8_weakest 76 = .ok (.iload_n 1, 1) := by decide +kernel
theorem dX8_weakest_77 : decode cX8_weakest 77 = .ok (.ireturn, 1) := by decide +kernel
theorem dX10_init_0 : decode cX10_init 0 = .ok (.aload_n 0, 1) := by decide +kernel
theorem dX10_init_1 : decode cX10_init 1 = .ok (.invokespecial 3, 3) := by decide +kernel
theorem dX10_init_4 : decode cX10_init 4 = .ok (.aload_n 0, 1) := by decide +kernel
theorem dX10_init_5 : decode cX10_init 5 = .ok (.new 9, 3) := by decide +kernel
theorem dX10_init_8 : decode cX10_init 8 = .ok (.dup, 1) := by decide +kernel
theorem dX10_init_9 : decode cX10_init 9 = .ok (.aload_n 1, 1) := by decide +kernel
theorem dX10_init_10 : decode cX10_init 10 = .ok (.iconst 0, 1) := by decide +kernel
theorem dX10_init_11 : decode cX10_init 11 = .ok (.invokespecial 11, 3) := by decide +kernel
theorem dX10_init_14 : decode cX10_init 14 = .ok (.putfield 14, 3) := by decide +kernel
theorem dX10_init_17 : decode cX10_init 17 = .ok (.aload_n 0, 1) := by decide +kernel
theorem dX10_init_18 : decode cX10_init 18 = .ok (.new 9, 3) := by decide +kernel
theorem dX10_init_21 : decode cX10_init 21 = .ok (.dup, 1) := by decide +kernel
theorem dX10_init_22 : decode cX10_init 22 = .ok (.aload_n 1, 1) := by decide +kernel
theorem dX10_init_23 : decode cX10_init 23 = .ok (.iconst 1, 1) := by decide +kernel
theorem dX10_init_24 : decode cX10_init 24 = .ok (.invokespecial 11, 3) := by decide +kernel
theorem dX10_init_27 : decode cX10_init 27 = .ok (.putfield 20, 3) := by decide +kernel
theorem dX10_init_30 : decode cX10_init 30 = .ok (.aload_n 0, 1) := by decide +kernel
theorem dX10_init_31 : decode cX10_init 31 = .ok (.new 23, 3) := by decide +kernel
theorem dX10_init_34 : decode cX10_init 34 = .ok (.dup, 1) := by decide +kernel
theorem dX10_init_35 : decode cX10_init 35 = .ok (.aload_n 1, 1) := by decide +kernel
theorem dX10_init_36 : decode cX10_init 36 = .ok (.getfield 25, 3) := by decide +kernel
theorem dX10_init_39 : decode cX10_init 39 = .ok (.iload_n 2, 1) := by decide +kernel
theorem dX10_init_40 : decode cX10_init 40 = .ok (.invokespecial 31, 3) := by decide +kernel
theorem dX10_init_43 : decode cX10_init 43 = .ok (.putfield 34, 3) := by decide +kernel
theorem dX10_init_46 : decode cX10_init 46 = .ok (.aload_n 0, 1) := by decide +kernel
theorem dX10_init_47 : decode cX10_init 47 = .ok (.new 38, 3) := by decide +kernel
theorem dX10_init_50 : decode cX10_init 50 = .ok (.dup, 1) := by decide +kernel
theorem dX10_init_51 : decode cX10_init 51 = .ok (.aload_n 1, 1) := by decide +kernel
theorem dX10_init_52 : decode cX10_init 52 = .ok (.getfield 25, 3) := by decide +kernel
theorem dX10_init_55 : decode cX10_init 55 = .ok (.iload_n 2, 1) := by decide +kernel
theorem dX10_init_56 : decode cX10_init 56 = .ok (.invokespecial 40, 3) := by decide +kernel
theorem dX10_init_59 : decode cX10_init 59 = .ok (.putfield 41, 3) := by decide +kernel
theorem dX10_init_62 : decode cX10_init 62 = .ok (.aload_n 0, 1) := by decide +kernel
theorem dX10_init_63 : decode cX10_init 63 = .ok (.new 45, 3) := by decide +kernel
theorem dX10_init_66 : decode cX10_init 66 = .ok (.dup, 1) := by decide +kernel
theorem dX10_init_67 : decode cX10_init 67 = .ok (.aload_n 1, 1) := by decide +kernel
theorem dX10_init_68 : decode cX10_init 68 = .ok (.getfield 25, 3) := by decide +kernel
theorem dX10_init_71 : decode cX10_init 71 = .ok (.invokespecial 47, 3) := by decide +kernel
theorem dX10_init_74 : decode cX10_init 74 = .ok (.putfield 50, 3) := by decide +kernel
theorem dX10_init_77 : decode cX10_init 77 = .ok (.aload_n 0, 1) := by decide +kernel
theorem dX10_init_78 : decode cX10_init 78 = .ok (.iconst 5, 1) := by decide +kernel
theorem dX10_init_79 : decode cX10_init 79 = .ok (.anewarray 54, 3) := by decide +kernel
theorem dX10_init_82 : decode cX10_init 82 = .ok (.putfield 56, 3) := by decide +kernel
theorem dX10_init_85 : decode cX10_init 85 = .ok (.aload_n 0, 1) := by decide +kernel
theorem dX10_init_86 : decode cX10_init 86 = .ok (.getfield 56, 3) := by decide +kernel
theorem dX10_init_89 : decode cX10_init 89 = .ok (.iconst 0, 1) := by decide +kernel
theorem dX10_init_90 : decode cX10_init 90 = .ok (.aload_n 0, 1) := by decide +kernel
theorem dX10_init_91 : decode cX10_init 91 = .ok (.getfield 14, 3) := by decide +kernel
theorem dX10_init_94 : decode cX10_init 94 = .ok (.aastore, 1) := by decide +kernel
theorem dX10_init_95 : decode cX10_init 95 = .ok (.aload_n 0, 1) := by decide +kernel
theorem dX10_init_96 : decode cX10_init 96 = .ok (.getfield 56, 3) := by decide +kernel
theorem dX10_init_99 : decode cX10_init 99 = .ok (.iconst 1, 1) := by decide +kernel
theorem dX10_init_100 : decode cX10_init 100 = .ok (.aload_n 0, 1) := by decide +kernel
theorem dX10_init_101 : decode cX10_init 101 = .ok (.getfield 20, 3) := by decide +kernel
theorem dX10_init_104 : decode cX10_init 104 = .ok (.aastore, 1) := by decide +kernel
theorem dX10_init_105 : decode cX10_init 105 = .ok (.aload_n 0, 1) := by decide +kernel
theorem dX10_init_106 : decode cX10_init 106 = .ok (.getfield 56, 3) := by decide +kernel
theorem dX10_init_109 : decode cX10_init 109 = .ok (.iconst 2, 1) := by decide +kernel
theorem dX10_init_110 : decode cX10_init 110 = .ok (.aload_n 0, 1) := by decide +kernel
theorem dX10_init_111 : decode cX10_init 111 = .ok (.getfield 34, 3) := by decide +kernel
theorem dX10_init_114 : decode cX10_init 114 = .ok (.aastore, 1) := by decide +kernel
theorem dX10_init_115 : decode cX10_init 115 = .ok (.aload_n 0, 1) := by decide +kernel
theorem dX10_init_116 : decode cX10_init 116 = .ok (.getfield 56, 3) := by decide +kernel
theorem dX10_init_119 : decode cX10_init 119 = .ok (.iconst 3, 1) := by decide +kernel
theorem dX10_init_120 : decode cX10_init 120 = .ok (.aload_n 0, 1) := by decide +kernel
theorem dX10_init_121 : decode cX10_init 121 = .ok (.getfield 41, 3) := by decide +kernel
theorem dX10_init_124 : decode cX10_init 124 = .ok (.aastore, 1) := by decide +kernel
theorem dX10_init_125 : decode cX10_init 125 = .ok (.aload_n 0, 1) := by decide +kernel
theorem dX10_init_126 : decode cX10_init 126 = .ok (.getfield 56, 3) := by decide +kernel
theorem dX10_init_129 : decode cX10_init 129 = .ok (.iconst 4, 1) := by decide +kernel
theorem dX10_init_130 : decode cX10_init 130 = .ok (.new 60, 3) := by decide +kernel
theorem dX10_init_133 : decode cX10_init 133 = .ok (.dup, 1) := by decide +kernel
theorem dX10_init_134 : decode cX10_init 134 = .ok (.aload_n 0, 1) := by decide +kernel
theorem dX10_init_135 : decode cX10_init 135 = .ok (.getfield 14, 3) := by decide +kernel
theorem dX10_init_138 : decode cX10_init 138 = .ok (.aload_n 0, 1) := by decide +kernel
theorem dX10_init_139 : decode cX10_init 139 = .ok (.getfield 20, 3) := by decide +kernel
theorem dX10_init_142 : decode cX10_init 142 = .ok (.aload_n 0, 1) := by decide +kernel
theorem dX10_init_143 : decode cX10_init 143 = .ok (.getfield 34, 3) := by decide +kernel
theorem dX10_init_146 : decode cX10_init 146 = .ok (.aload_n 0, 1) := by decide +kernel
theorem dX10_init_147 : decode cX10_init 147 = .ok (.getfield 41, 3) := by decide +kernel
theorem dX10_init_150 : decode cX10_init 150 = .ok (.invokespecial 62, 3) := by decide +kernel
theorem dX10_init_153 : decode cX10_init 153 = .ok (.aastore, 1) := by decide +kernel
theorem dX10_init_154 : decode cX10_init 154 = .ok (.return_, 1) := by decide +kernel
theorem dX10_take_0 : decode cX10_take 0 = .ok (.aload_n 0, 1) := by decide +kernel
theorem dX10_take_1 : decode cX10_take 1 = .ok (.dup, 1) := by decide +kernel
theorem dX10_take_2 : decode cX10_take 2 = .ok (.getfield 65, 3) := by decide +kernel
theorem dX10_take_5 : decode cX10_take 5 = .ok (.iload_n 2, 1) := by decide +kernel
theorem dX10_take_6 : decode cX10_take 6 = .ok (.i2l, 1) := by decide +kernel
theorem dX10_take_7 : decode cX10_take 7 = .ok (.ladd, 1) := by decide +kernel
theorem dX10_take_8 : decode cX10_take 8 = .ok (.putfield 65, 3) := by decide +kernel
theorem dX10_take_11 : decode cX10_take 11 = .ok (.aload_n 0, 1) := by decide +kernel
theorem dX10_take_12 : decode cX10_take 12 = .ok (.getfield 14, 3) := by decide +kernel
theorem dX10_take_15 : decode cX10_take 15 = .ok (.iload_n 1, 1) := by decide +kernel
theorem dX10_take_16 : decode cX10_take 16 = .ok (.iload_n 2, 1) := by decide +kernel
theorem dX10_take_17 : decode cX10_take 17 = .ok (.invokevirtual 69, 3) := by decide +kernel
theorem dX10_take_20 : decode cX10_take 20 = .ok (.aload_n 0, 1) := by decide +kernel
theorem dX10_take_21 : decode cX10_take 21 = .ok (.getfield 20, 3) := by decide +kernel
theorem dX10_take_24 : decode cX10_take 24 = .ok (.iload_n 1, 1) := by decide +kernel
theorem dX10_take_25 : decode cX10_take 25 = .ok (.iload_n 2, 1) := by decide +kernel
theorem dX10_take_26 : decode cX10_take 26 = .ok (.invokevirtual 69, 3) := by decide +kernel
theorem dX10_take_29 : decode cX10_take 29 = .ok (.aload_n 0, 1) := by decide +kernel
theorem dX10_take_30 : decode cX10_take 30 = .ok (.getfield 34, 3) := by decide +kernel
theorem dX10_take_33 : decode cX10_take 33 = .ok (.iload_n 1, 1) := by decide +kernel
theorem dX10_take_34 : decode cX10_take 34 = .ok (.iload_n 2, 1) := by decide +kernel
theorem dX10_take_35 : decode cX10_take 35 = .ok (.invokevirtual 72, 3) := by decide +kernel
theorem dX10_take_38 : decode cX10_take 38 = .ok (.aload_n 0, 1) := by decide +kernel
theorem dX10_take_39 : decode cX10_take 39 = .ok (.getfield 41, 3) := by decide +kernel
theorem dX10_take_42 : decode cX10_take 42 = .ok (.iload_n 1, 1) := by decide +kernel
theorem dX10_take_43 : decode cX10_take 43 = .ok (.iload_n 2, 1) := by decide +kernel
theorem dX10_take_44 : decode cX10_take 44 = .ok (.invokevirtual 73, 3) := by decide +kernel
theorem dX10_take_47 : decode cX10_take 47 = .ok (.aload_n 0, 1) := by decide +kernel
theorem dX10_take_48 : decode cX10_take 48 = .ok (.getfield 50, 3) := by decide +kernel
theorem dX10_take_51 : decode cX10_take 51 = .ok (.iload_n 1, 1) := by decide +kernel
theorem dX10_take_52 : decode cX10_take 52 = .ok (.iload_n 2, 1) := by decide +kernel
theorem dX10_take_53 : decode cX10_take 53 = .ok (.i2l, 1) := by decide +kernel
theorem dX10_take_54 : decode cX10_take 54 = .ok (.invokevirtual 74, 3) := by decide +kernel
theorem dX10_take_57 : decode cX10_take 57 = .ok (.return_, 1) := by decide +kernel
theorem dX10_makeEmpty_0 : decode cX10_makeEmpty 0 = .ok (.aload_n 0, 1) := by decide +kernel
theorem dX10_makeEmpty_1 : decode cX10_makeEmpty 1 = .ok (.lconst 0, 1) := by decide +kernel
theorem dX10_makeEmpty_2 : decode cX10_makeEmpty 2 = .ok (.putfield 65, 3) := by decide +kernel
theorem dX10_makeEmpty_5 : decode cX10_makeEmpty 5 = .ok (.aload_n 0, 1) := by decide +kernel
theorem dX10_makeEmpty_6 : decode cX10_makeEmpty 6 = .ok (.getfield 14, 3) := by decide +kernel
theorem dX10_makeEmpty_9 : decode cX10_makeEmpty 9 = .ok (.invokevirtual 77, 3) := by decide +kernel
theorem dX10_makeEmpty_12 : decode cX10_makeEmpty 12 = .ok (.aload_n 0, 1) := by decide +kernel
theorem dX10_makeEmpty_13 : decode cX10_makeEmpty 13 = .ok (.getfield 20, 3) := by decide +kernel
theorem dX10_makeEmpty_16 : decode cX10_makeEmpty 16 = .ok (.invokevirtual 77, 3) := by decide +kernel
theorem dX10_makeEmpty_19 : decode cX10_makeEmpty 19 = .ok (.aload_n 0, 1) := by decide +kernel
theorem dX10_makeEmpty_20 : decode cX10_makeEmpty 20 = .ok (.getfield 34, 3) := by decide +kernel
theorem dX10_makeEmpty_23 : decode cX10_makeEmpty 23 = .ok (.invokevirtual 80, 3) := by decide +kernel
theorem dX10_makeEmpty_26 : decode cX10_makeEmpty 26 = .ok (.aload_n 0, 1) := by decide +kernel
theorem dX10_makeEmpty_27 : decode cX10_makeEmpty 27 = .ok (.getfield 41, 3) := by decide +kernel
theorem dX10_makeEmpty_30 : decode cX10_makeEmpty 30 = .ok (.invokevirtual 81, 3) := by decide +kernel
theorem dX10_makeEmpty_33 : decode cX10_makeEmpty 33 = .ok (.aload_n 0, 1) := by decide +kernel
theorem dX10_makeEmpty_34 : decode cX10_makeEmpty 34 = .ok (.getfield 50, 3) := by decide +kernel
theorem dX10_makeEmpty_37 : decode cX10_makeEmpty 37 = .ok (.invokevirtual 82, 3) := by decide +kernel
theorem dX10_makeEmpty_40 : decode cX10_makeEmpty 40 = .ok (.return_, 1) := by decide +kernel
theorem dX10_become_0 : decode cX10_become 0 = .ok (.aload_n 0, 1) := by decide +kernel
theorem dX10_become_1 : decode cX10_become 1 = .ok (.aload_n 1, 1) := by decide +kernel
theorem dX10_become_2 : decode cX10_become 2 = .ok (.getfield 65, 3) := by decide +kernel
theorem dX10_become_5 : decode cX10_become 5 = .ok (.putfield 65, 3) := by decide +kernel
theorem dX10_become_8 : decode cX10_become 8 = .ok (.aload_n 0, 1) := by decide +kernel
theorem dX10_become_9 : decode cX10_become 9 = .ok (.getfield 14, 3) := by decide +kernel
theorem dX10_become_12 : decode cX10_become 12 = .ok (.aload_n 1, 1) := by decide +kernel
theorem dX10_become_13 : decode cX10_become 13 = .ok (.getfield 14, 3) := by decide +kernel
theorem dX10_become_16 : decode cX10_become 16 = .ok (.invokevirtual 83, 3) := by decide +kernel
theorem dX10_become_19 : decode cX10_become 19 = .ok (.aload_n 0, 1) := by decide +kernel
theorem dX10_become_20 : decode cX10_become 20 = .ok (.getfield 20, 3) := by decide +kernel
theorem dX10_become_23 : decode cX10_become 23 = .ok (.aload_n 1, 1) := by decide +kernel
theorem dX10_become_24 : decode cX10_become 24 = .ok (.getfield 20, 3) := by decide +kernel
theorem dX10_become_27 : decode cX10_become 27 = .ok (.invokevirtual 83, 3) := by decide +kernel
theorem dX10_become_30 : decode cX10_become 30 = .ok (.aload_n 0, 1) := by decide +kernel
theorem dX10_become_31 : decode cX10_become 31 = .ok (.getfield 34, 3) := by decide +kernel
theorem dX10_become_34 : decode cX10_become 34 = .ok (.aload_n 1, 1) := by decide +kernel
theorem dX10_become_35 : decode cX10_become 35 = .ok (.getfield 34, 3) := by decide +kernel
theorem dX10_become_38 : decode cX10_become 38 = .ok (.invokevirtual 87, 3) := by decide +kernel
theorem dX10_become_41 : decode cX10_become 41 = .ok (.aload_n 0, 1) := by decide +kernel
theorem dX10_become_42 : decode cX10_become 42 = .ok (.getfield 41, 3) := by decide +kernel
theorem dX10_become_45 : decode cX10_become 45 = .ok (.aload_n 1, 1) := by decide +kernel
theorem dX10_become_46 : decode cX10_become 46 = .ok (.getfield 41, 3) := by decide +kernel
theorem dX10_become_49 : decode cX10_become 49 = .ok (.invokevirtual 90, 3) := by decide +kernel
theorem dX10_become_52 : decode cX10_become 52 = .ok (.aload_n 0, 1) := by decide +kernel
theorem dX10_become_53 : decode cX10_become 53 = .ok (.getfield 50, 3) := by decide +kernel
theorem dX10_become_56 : decode cX10_become 56 = .ok (.aload_n 1, 1) := by decide +kernel
theorem dX10_become_57 : decode cX10_become 57 = .ok (.getfield 50, 3) := by decide +kernel
theorem dX10_become_60 : decode cX10_become 60 = .ok (.invokevirtual 93, 3) := by decide +kernel
theorem dX10_become_63 : decode cX10_become 63 = .ok (.return_, 1) := by decide +kernel
theorem dX10_putTogether_0 : decode cX10_putTogether 0 = .ok (.aload_n 0, 1) := by decide +kernel
theorem dX10_putTogether_1 : decode cX10_putTogether 1 = .ok (.dup, 1) := by decide +kernel
theorem dX10_putTogether_2 : decode cX10_putTogether 2 = .ok (.getfield 65, 3) := by decide +kernel
theorem dX10_putTogether_5 : decode cX10_putTogether 5 = .ok (.aload_n 1, 1) := by decide +kernel
theorem dX10_putTogether_6 : decode cX10_putTogether 6 = .ok (.getfield 65, 3) := by decide +kernel
theorem dX10_putTogether_9 : decode cX10_putTogether 9 = .ok (.ladd, 1) := by decide +kernel
theorem dX10_putTogether_10 : decode cX10_putTogether 10 = .ok (.putfield 65, 3) := by decide +kernel
theorem dX10_putTogether_13 : decode cX10_putTogether 13 = .ok (.aload_n 0, 1) := by decide +kernel
theorem dX10_putTogether_14 : decode cX10_putTogether 14 = .ok (.getfield 14, 3) := by decide +kernel
theorem dX10_putTogether_17 : decode cX10_putTogether 17 = .ok (.aload_n 1, 1) := by decide +kernel
theorem dX10_putTogether_18 : decode cX10_putTogether 18 = .ok (.getfield 14, 3) := by decide +kernel
theorem dX10_putTogether_21 : decode cX10_putTogether 21 = .ok (.invokevirtual 96, 3) := by decide +kernel
theorem dX10_putTogether_24 : decode cX10_putTogether 24 = .ok (.aload_n 0, 1) := by decide +kernel
theorem dX10_putTogether_25 : decode cX10_putTogether 25 = .ok (.getfield 20, 3) := by decide +kernel
theorem dX10_putTogether_28 : decode cX10_putTogether 28 = .ok (.aload_n 1, 1) := by decide +kernel
theorem dX10_putTogether_29 : decode cX10_putTogether 29 = .ok (.getfield 20, 3) := by decide +kernel
theorem dX10_putTogether_32 : decode cX10_putTogether 32 = .ok (.invokevirtual 96, 3) := by decide +kernel
theorem dX10_putTogether_35 : decode cX10_putTogether 35 = .ok (.aload_n 0, 1) := by decide +kernel
theorem dX10_putTogether_36 : decode cX10_putTogether 36 = .ok (.getfield 34, 3) := by decide +kernel
theorem dX10_putTogether_39 : decode cX10_putTogether 39 = .ok (.aload_n 1, 1) := by decide +kernel
theorem dX10_putTogether_40 : decode cX10_putTogether 40 = .ok (.getfield 34, 3) := by decide +kernel
theorem dX10_putTogether_43 : decode cX10_putTogether 43 = .ok (.invokevirtual 99, 3) := by decide +kernel
theorem dX10_putTogether_46 : decode cX10_putTogether 46 = .ok (.aload_n 0, 1) := by decide +kernel
theorem dX10_putTogether_47 : decode cX10_putTogether 47 = .ok (.getfield 41, 3) := by decide +kernel
theorem dX10_putTogether_50 : decode cX10_putTogether 50 = .ok (.aload_n 1, 1) := by decide +kernel
theorem dX10_putTogether_51 : decode cX10_putTogether 51 = .ok (.getfield 41, 3) := by decide +kernel
theorem dX10_putTogether_54 : decode cX10_putTogether 54 = .ok (.invokevirtual 101, 3) := by decide +kernel
theorem dX10_putTogether_57 : decode cX10_putTogether 57 = .ok (.aload_n 0, 1) := by decide +kernel
theorem dX10_putTogether_58 : decode cX10_putTogether 58 = .ok (.getfield 50, 3) := by decide +kernel
theorem dX10_putTogether_61 : decode cX10_putTogether 61 = .ok (.aload_n 1, 1) := by decide +kernel
theorem dX10_putTogether_62 : decode cX10_putTogether 62 = .ok (.getfield 50, 3) := by decide +kernel
theorem dX10_putTogether_65 : decode cX10_putTogether 65 = .ok (.invokevirtual 103, 3) := by decide +kernel
theorem dX10_putTogether_68 : decode cX10_putTogether 68 = .ok (.return_, 1) := by decide +kernel
theorem dX10_firstBroken_0 : decode cX10_firstBroken 0 = .ok (.iconst 0, 1) := by decide +kernel
theorem dX10_firstBroken_1 : decode cX10_firstBroken 1 = .ok (.istore_n 1, 1) := by decide +kernel
theorem dX10_firstBroken_2 : decode cX10_firstBroken 2 = .ok (.iload_n 1, 1) := by decide +kernel
theorem dX10_firstBroken_3 : decode cX10_firstBroken 3 = .ok (.iconst 3, 1) := by decide +kernel
theorem dX10_firstBroken_4 : decode cX10_firstBroken 4 = .ok (.if_icmp .gt 26, 3) := by decide +kernel
theorem dX10_firstBroken_7 : decode cX10_firstBroken 7 = .ok (.aload_n 0, 1) := by decide +kernel
theorem dX10_firstBroken_8 : decode cX10_firstBroken 8 = .ok (.aload_n 0, 1) := by decide +kernel
theorem dX10_firstBroken_9 : decode cX10_firstBroken 9 = .ok (.getfield 56, 3) := by decide +kernel
theorem dX10_firstBroken_12 : decode cX10_firstBroken 12 = .ok (.iload_n 1, 1) := by decide +kernel
theorem dX10_firstBroken_13 : decode cX10_firstBroken 13 = .ok (.aaload, 1) := by decide +kernel
theorem dX10_firstBroken_14 : decode cX10_firstBroken 14 = .ok (.invokevirtual 105, 3) := by decide +kernel
theorem dX10_firstBroken_17 : decode cX10_firstBroken 17 = .ok (.ifCond .ne 7, 3) := by decide +kernel
theorem dX10_firstBroken_20 : decode cX10_firstBroken 20 = .ok (.iload_n 1, 1) := by decide +kernel
theorem dX10_firstBroken_21 : decode cX10_firstBroken 21 = .ok (.iconst 1, 1) := by decide +kernel
theorem dX10_firstBroken_22 : decode cX10_firstBroken 22 = .ok (.iadd, 1) := by decide +kernel
theorem dX10_firstBroken_23 : decode cX10_firstBroken 23 = .ok (.ireturn, 1) := by decide +kernel
theorem dX10_firstBroken_24 : decode cX10_firstBroken 24 = .ok (.iinc 1 1, 3) := by decide +kernel
theorem dX10_firstBroken_27 : decode cX10_firstBroken 27 = .ok (.goto (-25), 3) := by decide +kernel
theorem dX10_firstBroken_30 : decode cX10_firstBroken 30 = .ok (.aload_n 0, 1) := by decide +kernel
theorem dX10_firstBroken_31 : decode cX10_firstBroken 31 = .ok (.invokevirtual 109, 3) := by decide +kernel
theorem dX10_firstBroken_34 : decode cX10_firstBroken 34 = .ok (.ifCond .ne 5, 3) := by decide +kernel
theorem dX10_firstBroken_37 : decode cX10_firstBroken 37 = .ok (.iconst 5, 1) := by decide +kernel
theorem dX10_firstBroken_38 : decode cX10_firstBroken 38 = .ok (.ireturn, 1) := by decide +kernel
theorem dX10_firstBroken_39 : decode cX10_firstBroken 39 = .ok (.aload_n 0, 1) := by decide +kernel
theorem dX10_firstBroken_40 : decode cX10_firstBroken 40 = .ok (.getfield 34, 3) := by decide +kernel
theorem dX10_firstBroken_43 : decode cX10_firstBroken 43 = .ok (.getfield 113, 3) := by decide +kernel
theorem dX10_firstBroken_46 : decode cX10_firstBroken 46 = .ok (.getfield 117, 3) := by decide +kernel
theorem dX10_firstBroken_49 : decode cX10_firstBroken 49 = .ok (.iconst 1, 1) := by decide +kernel
theorem dX10_firstBroken_50 : decode cX10_firstBroken 50 = .ok (.iadd, 1) := by decide +kernel
theorem dX10_firstBroken_51 : decode cX10_firstBroken 51 = .ok (.i2l, 1) := by decide +kernel
theorem dX10_firstBroken_52 : decode cX10_firstBroken 52 = .ok (.aload_n 0, 1) := by decide +kernel
theorem dX10_firstBroken_53 : decode cX10_firstBroken 53 = .ok (.getfield 34, 3) := by decide +kernel
theorem dX10_firstBroken_56 : decode cX10_firstBroken 56 = .ok (.getfield 122, 3) := by decide +kernel
theorem dX10_firstBroken_59 : decode cX10_firstBroken 59 = .ok (.lmul, 1) := by decide +kernel
theorem dX10_firstBroken_60 : decode cX10_firstBroken 60 = .ok (.aload_n 0, 1) := by decide +kernel
theorem dX10_firstBroken_61 : decode cX10_firstBroken 61 = .ok (.getfield 65, 3) := by decide +kernel
theorem dX10_firstBroken_64 : decode cX10_firstBroken 64 = .ok (.lcmp, 1) := by decide +kernel
theorem dX10_firstBroken_65 : decode cX10_firstBroken 65 = .ok (.ifCond .le 6, 3) := by decide +kernel
theorem dX10_firstBroken_68 : decode cX10_firstBroken 68 = .ok (.bipush 6, 2) := by decide +kernel
theorem dX10_firstBroken_70 : decode cX10_firstBroken 70 = .ok (.ireturn, 1) := by decide +kernel
theorem dX10_firstBroken_71 : decode cX10_firstBroken 71 = .ok (.aload_n 0, 1) := by decide +kernel
theorem dX10_firstBroken_72 : decode cX10_firstBroken 72 = .ok (.getfield 50, 3) := by decide +kernel
theorem dX10_firstBroken_75 : decode cX10_firstBroken 75 = .ok (.invokevirtual 125, 3) := by decide +kernel
theorem dX10_firstBroken_78 : decode cX10_firstBroken 78 = .ok (.aload_n 0, 1) := by decide +kernel
theorem dX10_firstBroken_79 : decode cX10_firstBroken 79 = .ok (.getfield 65, 3) := by decide +kernel
theorem dX10_firstBroken_82 : decode cX10_firstBroken 82 = .ok (.lcmp, 1) := by decide +kernel
theorem dX10_firstBroken_83 : decode cX10_firstBroken 83 = .ok (.ifCond .ne 7, 3) := by decide +kernel
theorem dX10_firstBroken_86 : decode cX10_firstBroken 86 = .ok (.iconst 0, 1) := by decide +kernel
theorem dX10_firstBroken_87 : decode cX10_firstBroken 87 = .ok (.goto 5, 3) := by decide +kernel
theorem dX10_firstBroken_90 : decode cX10_firstBroken 90 = .ok (.bipush 7, 2) := by decide +kernel
theorem dX10_firstBroken_92 : decode cX10_firstBroken 92 = .ok (.ireturn, 1) := by decide +kernel
theorem dX10_holdsCounts_0 : decode cX10_holdsCounts 0 = .ok (.iconst 0, 1) := by decide +kernel
theorem dX10_holdsCounts_1 : decode cX10_holdsCounts 1 = .ok (.istore_n 2, 1) := by decide +kernel
theorem dX10_holdsCounts_2 : decode cX10_holdsCounts 2 = .ok (.iload_n 2, 1) := by decide +kernel
theorem dX10_holdsCounts_3 : decode cX10_holdsCounts 3 = .ok (.aload_n 0, 1) := by decide +kernel
theorem dX10_holdsCounts_4 : decode cX10_holdsCounts 4 = .ok (.getfield 50, 3) := by decide +kernel
theorem dX10_holdsCounts_7 : decode cX10_holdsCounts 7 = .ok (.getfield 129, 3) := by decide +kernel
theorem dX10_holdsCounts_10 : decode cX10_holdsCounts 10 = .ok (.if_icmp .ge 58, 3) := by decide +kernel
theorem dX10_holdsCounts_13 : decode cX10_holdsCounts 13 = .ok (.aload_n 0, 1) := by decide +kernel
theorem dX10_holdsCounts_14 : decode cX10_holdsCounts 14 = .ok (.getfield 50, 3) := by decide +kernel
theorem dX10_holdsCounts_17 : decode cX10_holdsCounts 17 = .ok (.getfield 132, 3) := by decide +kernel
theorem dX10_holdsCounts_20 : decode cX10_holdsCounts 20 = .ok (.iload_n 2, 1) := by decide +kernel
theorem dX10_holdsCounts_21 : decode cX10_holdsCounts 21 = .ok (.iaload, 1) := by decide +kernel
theorem dX10_holdsCounts_22 : decode cX10_holdsCounts 22 = .ok (.istore_n 3, 1) := by decide +kernel
theorem dX10_holdsCounts_23 : decode cX10_holdsCounts 23 = .ok (.aload_n 0, 1) := by decide +kernel
theorem dX10_holdsCounts_24 : decode cX10_holdsCounts 24 = .ok (.getfield 50, 3) := by decide +kernel
theorem dX10_holdsCounts_27 : decode cX10_holdsCounts 27 = .ok (.getfield 136, 3) := by decide +kernel
theorem dX10_holdsCounts_30 : decode cX10_holdsCounts 30 = .ok (.iload_n 2, 1) := by decide +kernel
theorem dX10_holdsCounts_31 : decode cX10_holdsCounts 31 = .ok (.laload, 1) := by decide +kernel
theorem dX10_holdsCounts_32 : decode cX10_holdsCounts 32 = .ok (.lstore 4, 2) := by decide +kernel
theorem dX10_holdsCounts_34 : decode cX10_holdsCounts 34 = .ok (.aload_n 1, 1) := by decide +kernel
theorem dX10_holdsCounts_35 : decode cX10_holdsCounts 35 = .ok (.iload_n 3, 1) := by decide +kernel
theorem dX10_holdsCounts_36 : decode cX10_holdsCounts 36 = .ok (.invokeinterface 140 2, 5) := by decide +kernel
theorem dX10_holdsCounts_41 : decode cX10_holdsCounts 41 = .ok (.lload 4, 2) := by decide +kernel
theorem dX10_holdsCounts_43 : decode cX10_holdsCounts 43 = .ok (.lcmp, 1) := by decide +kernel
theorem dX10_holdsCounts_44 : decode cX10_holdsCounts 44 = .ok (.ifCond .gt 16, 3) := by decide +kernel
theorem dX10_holdsCounts_47 : decode cX10_holdsCounts 47 = .ok (.aload_n 1, 1) := by decide +kernel
theorem dX10_holdsCounts_48 : decode cX10_holdsCounts 48 = .ok (.iload_n 3, 1) := by decide +kernel
theorem dX10_holdsCounts_49 : decode cX10_holdsCounts 49 = .ok (.invokeinterface 144 2, 5) := by decide +kernel
theorem dX10_holdsCounts_54 : decode cX10_holdsCounts 54 = .ok (.lload 4, 2) := by decide +kernel
theorem dX10_holdsCounts_56 : decode cX10_holdsCounts 56 = .ok (.lcmp, 1) := by decide +kernel
theorem dX10_holdsCounts_57 : decode cX10_holdsCounts 57 = .ok (.ifCond .ge 5, 3) := by decide +kernel
theorem dX10_holdsCounts_60 : decode cX10_holdsCounts 60 = .ok (.iconst 0, 1) := by decide +kernel
theorem dX10_holdsCounts_61 : decode cX10_holdsCounts 61 = .ok (.ireturn, 1) := by decide +kernel
theorem dX10_holdsCounts_62 : decode cX10_holdsCounts 62 = .ok (.iinc 2 1, 3) := by decide +kernel
theorem dX10_holdsCounts_65 : decode cX10_holdsCounts 65 = .ok (.goto (-63), 3) := by decide +kernel
theorem dX10_holdsCounts_68 : decode cX10_holdsCounts 68 = .ok (.iconst 1, 1) := by decide +kernel
theorem dX10_holdsCounts_69 : decode cX10_holdsCounts 69 = .ok (.ireturn, 1) := by decide +kernel
theorem dX10_carefulIsNotAbovePlain_0 : decode cX10_carefulIsNotAbovePlain 0 = .ok (.iconst 0, 1) := by decide +kernel
theorem dX10_carefulIsNotAbovePlain_1 : decode cX10_carefulIsNotAbovePlain 1 = .ok (.istore_n 1, 1) := by decide +kernel
theorem dX10_carefulIsNotAbovePlain_2 : decode cX10_carefulIsNotAbovePlain 2 = .ok (.iload_n 1, 1) := by decide +kernel
theorem dX10_carefulIsNotAbovePlain_3 : decode cX10_carefulIsNotAbovePlain 3 = .ok (.aload_n 0, 1) := by decide +kernel
theorem dX10_carefulIsNotAbovePlain_4 : decode cX10_carefulIsNotAbovePlain 4 = .ok (.getfield 50, 3) := by decide +kernel
theorem dX10_carefulIsNotAbovePlain_7 : decode cX10_carefulIsNotAbovePlain 7 = .ok (.getfield 129, 3) := by decide +kernel
theorem dX10_carefulIsNotAbovePlain_10 : decode cX10_carefulIsNotAbovePlain 10 = .ok (.if_icmp .ge 41, 3) := by decide +kernel
theorem dX10_carefulIsNotAbovePlain_13 : decode cX10_carefulIsNotAbovePlain 13 = .ok (.aload_n 0, 1) := by decide +kernel
theorem dX10_carefulIsNotAbovePlain_14 : decode cX10_carefulIsNotAbovePlain 14 = .ok (.getfield 50, 3) := by decide +kernel
theorem dX10_carefulIsNotAbovePlain_17 : decode cX10_carefulIsNotAbovePlain 17 = .ok (.getfield 132, 3) := by decide +kernel
theorem dX10_carefulIsNotAbovePlain_20 : decode cX10_carefulIsNotAbovePlain 20 = .ok (.iload_n 1, 1) := by decide +kernel
theorem dX10_carefulIsNotAbovePlain_21 : decode cX10_carefulIsNotAbovePlain 21 = .ok (.iaload, 1) := by decide +kernel
theorem dX10_carefulIsNotAbovePlain_22 : decode cX10_carefulIsNotAbovePlain 22 = .ok (.istore_n 2, 1) := by decide +kernel
theorem dX10_carefulIsNotAbovePlain_23 : decode cX10_carefulIsNotAbovePlain 23 = .ok (.aload_n 0, 1) := by decide +kernel
theorem dX10_carefulIsNotAbovePlain_24 : decode cX10_carefulIsNotAbovePlain 24 = .ok (.getfield 20, 3) := by decide +kernel
theorem dX10_carefulIsNotAbovePlain_27 : decode cX10_carefulIsNotAbovePlain 27 = .ok (.iload_n 2, 1) := by decide +kernel
theorem dX10_carefulIsNotAbovePlain_28 : decode cX10_carefulIsNotAbovePlain 28 = .ok (.invokevirtual 147, 3) := by decide +kernel
theorem dX10_carefulIsNotAbovePlain_31 : decode cX10_carefulIsNotAbovePlain 31 = .ok (.aload_n 0, 1) := by decide +kernel
theorem dX10_carefulIsNotAbovePlain_32 : decode cX10_carefulIsNotAbovePlain 32 = .ok (.getfield 14, 3) := by decide +kernel
theorem dX10_carefulIsNotAbovePlain_35 : decode cX10_carefulIsNotAbovePlain 35 = .ok (.iload_n 2, 1) := by decide +kernel
theorem dX10_carefulIsNotAbovePlain_36 : decode cX10_carefulIsNotAbovePlain 36 = .ok (.invokevirtual 147, 3) := by decide +kernel
theorem dX10_carefulIsNotAbovePlain_39 : decode cX10_carefulIsNotAbovePlain 39 = .ok (.lcmp, 1) := by decide +kernel
theorem dX10_carefulIsNotAbovePlain_40 : decode cX10_carefulIsNotAbovePlain 40 = .ok (.ifCond .le 5, 3) := by decide +kernel
theorem dX10_carefulIsNotAbovePlain_43 : decode cX10_carefulIsNotAbovePlain 43 = .ok (.iconst 0, 1) := by decide +kernel
theorem dX10_carefulIsNotAbovePlain_44 : decode cX10_carefulIsNotAbovePlain 44 = .ok (.ireturn, 1) := by decide +kernel
theorem dX10_carefulIsNotAbovePlain_45 : decode cX10_carefulIsNotAbovePlain 45 = .ok (.iinc 1 1, 3) := by decide +kernel
theorem dX10_carefulIsNotAbovePlain_48 : decode cX10_carefulIsNotAbovePlain 48 = .ok (.goto (-46), 3) := by decide +kernel
theorem dX10_carefulIsNotAbovePlain_51 : decode cX10_carefulIsNotAbovePlain 51 = .ok (.iconst 1, 1) := by decide +kernel
theorem dX10_carefulIsNotAbovePlain_52 : decode cX10_carefulIsNotAbovePlain 52 = .ok (.ireturn, 1) := by decide +kernel
theorem dX11_init_0 : decode cX11_init 0 = .ok (.aload_n 0, 1) := by decide +kernel
theorem dX11_init_1 : decode cX11_init 1 = .ok (.invokespecial 1, 3) := by decide +kernel
theorem dX11_init_4 : decode cX11_init 4 = .ok (.aload_n 0, 1) := by decide +kernel
theorem dX11_init_5 : decode cX11_init 5 = .ok (.new 7, 3) := by decide +kernel
theorem dX11_init_8 : decode cX11_init 8 = .ok (.dup, 1) := by decide +kernel
theorem dX11_init_9 : decode cX11_init 9 = .ok (.iload_n 1, 1) := by decide +kernel
theorem dX11_init_10 : decode cX11_init 10 = .ok (.iconst 2, 1) := by decide +kernel
theorem dX11_init_11 : decode cX11_init 11 = .ok (.ldc 11, 2) := by decide +kernel
theorem dX11_init_13 : decode cX11_init 13 = .ok (.invokestatic 12, 3) := by decide +kernel
theorem dX11_init_16 : decode cX11_init 16 = .ok (.invokestatic 16, 3) := by decide +kernel
theorem dX11_init_19 : decode cX11_init 19 = .ok (.iload_n 2, 1) := by decide +kernel
theorem dX11_init_20 : decode cX11_init 20 = .ok (.iconst 1, 1) := by decide +kernel
theorem dX11_init_21 : decode cX11_init 21 = .ok (.sipush 256, 3) := by decide +kernel
theorem dX11_init_24 : decode cX11_init 24 = .ok (.invokestatic 12, 3) := by decide +kernel
theorem dX11_init_27 : decode cX11_init 27 = .ok (.iload_n 3, 1) := by decide +kernel
theorem dX11_init_28 : decode cX11_init 28 = .ok (.iconst 1, 1) := by decide +kernel
theorem dX11_init_29 : decode cX11_init 29 = .ok (.bipush 8, 2) := by decide +kernel
theorem dX11_init_31 : decode cX11_init 31 = .ok (.invokestatic 12, 3) := by decide +kernel
theorem dX11_init_34 : decode cX11_init 34 = .ok (.invokespecial 20, 3) := by decide +kernel
theorem dX11_init_37 : decode cX11_init 37 = .ok (.putfield 23, 3) := by decide +kernel
theorem dX11_init_40 : decode cX11_init 40 = .ok (.aload_n 0, 1) := by decide +kernel
theorem dX11_init_41 : decode cX11_init 41 = .ok (.iload 4, 2) := by decide +kernel
theorem dX11_init_43 : decode cX11_init 43 = .ok (.iconst 1, 1) := by decide +kernel
theorem dX11_init_44 : decode cX11_init 44 = .ok (.bipush 64, 2) := by decide +kernel
theorem dX11_init_46 : decode cX11_init 46 = .ok (.invokestatic 12, 3) := by decide +kernel
theorem dX11_init_49 : decode cX11_init 49 = .ok (.putfield 27, 3) := by decide +kernel
theorem dX11_init_52 : decode cX11_init 52 = .ok (.aload_n 0, 1) := by decide +kernel
theorem dX11_init_53 : decode cX11_init 53 = .ok (.iconst 4, 1) := by decide +kernel
theorem dX11_init_54 : decode cX11_init 54 = .ok (.anewarray 31, 3) := by decide +kernel
theorem dX11_init_57 : decode cX11_init 57 = .ok (.putfield 33, 3) := by decide +kernel
theorem dX11_init_60 : decode cX11_init 60 = .ok (.iconst 0, 1) := by decide +kernel
theorem dX11_init_61 : decode cX11_init 61 = .ok (.istore 5, 2) := by decide +kernel
theorem dX11_init_63 : decode cX11_init 63 = .ok (.iload 5, 2) := by decide +kernel
theorem dX11_init_65 : decode cX11_init 65 = .ok (.iconst 4, 1) := by decide +kernel
theorem dX11_init_66 : decode cX11_init 66 = .ok (.if_icmp .ge 31, 3) := by decide +kernel
theorem dX11_init_69 : decode cX11_init 69 = .ok (.aload_n 0, 1) := by decide +kernel
theorem dX11_init_70 : decode cX11_init 70 = .ok (.getfield 33, 3) := by decide +kernel
theorem dX11_init_73 : decode cX11_init 73 = .ok (.iload 5, 2) := by decide +kernel
theorem dX11_init_75 : decode cX11_init 75 = .ok (.new 31, 3) := by decide +kernel
theorem dX11_init_78 : decode cX11_init 78 = .ok (.dup, 1) := by decide +kernel
theorem dX11_init_79 : decode cX11_init 79 = .ok (.aload_n 0, 1) := by decide +kernel
theorem dX11_init_80 : decode cX11_init 80 = .ok (.getfield 23, 3) := by decide +kernel
theorem dX11_init_83 : decode cX11_init 83 = .ok (.aload_n 0, 1) := by decide +kernel
theorem dX11_init_84 : decode cX11_init 84 = .ok (.getfield 27, 3) := by decide +kernel
theorem dX11_init_87 : decode cX11_init 87 = .ok (.invokespecial 37, 3) := by decide +kernel
theorem dX11_init_90 : decode cX11_init 90 = .ok (.aastore, 1) := by decide +kernel
theorem dX11_init_91 : decode cX11_init 91 = .ok (.iinc 5 1, 3) := by decide +kernel
theorem dX11_init_94 : decode cX11_init 94 = .ok (.goto (-31), 3) := by decide +kernel
theorem dX11_init_97 : decode cX11_init 97 = .ok (.aload_n 0, 1) := by decide +kernel
theorem dX11_init_98 : decode cX11_init 98 = .ok (.new 40, 3) := by decide +kernel
theorem dX11_init_101 : decode cX11_init 101 = .ok (.dup, 1) := by decide +kernel
theorem dX11_init_102 : decode cX11_init 102 = .ok (.aload_n 0, 1) := by decide +kernel
theorem dX11_init_103 : decode cX11_init 103 = .ok (.getfield 23, 3) := by decide +kernel
theorem dX11_init_106 : decode cX11_init 106 = .ok (.getfield 42, 3) := by decide +kernel
theorem dX11_init_109 : decode cX11_init 109 = .ok (.sipush 300, 3) := by decide +kernel
theorem dX11_init_112 : decode cX11_init 112 = .ok (.invokestatic 45, 3) := by decide +kernel
theorem dX11_init_115 : decode cX11_init 115 = .ok (.invokespecial 51, 3) := by decide +kernel
theorem dX11_init_118 : decode cX11_init 118 = .ok (.putfield 54, 3) := by decide +kernel
theorem dX11_init_121 : decode cX11_init 121 = .ok (.return_, 1) := by decide +kernel
theorem dX11_size_0 : decode cX11_size 0 = .ok (.iload_n 1, 1) := by decide +kernel
theorem dX11_size_1 : decode cX11_size 1 = .ok (.tableswitch 60 0 3 #[31, 39, 47, 55], 31) := by decide +kernel
theorem dX11_size_32 : decode cX11_size 32 = .ok (.aload_n 0, 1) := by decide +kernel
theorem dX11_size_33 : decode cX11_size 33 = .ok (.getfield 23, 3) := by decide +kernel
theorem dX11_size_36 : decode cX11_size 36 = .ok (.getfield 42, 3) := by decide +kernel
theorem dX11_size_39 : decode cX11_size 39 = .ok (.ireturn, 1) := by decide +kernel
theorem dX11_size_40 : decode cX11_size 40 = .ok (.aload_n 0, 1) := by decide +kernel
theorem dX11_size_41 : decode cX11_size 41 = .ok (.getfield 23, 3) := by decide +kernel
theorem dX11_size_44 : decode cX11_size 44 = .ok (.getfield 58, 3) := by decide +kernel
theorem dX11_size_47 : decode cX11_size 47 = .ok (.ireturn, 1) := by decide +kernel
theorem dX11_size_48 : decode cX11_size 48 = .ok (.aload_n 0, 1) := by decide +kernel
theorem dX11_size_49 : decode cX11_size 49 = .ok (.getfield 23, 3) := by decide +kernel
theorem dX11_size_52 : decode cX11_size 52 = .ok (.getfield 61, 3) := by decide +kernel
theorem dX11_size_55 : decode cX11_size 55 = .ok (.ireturn, 1) := by decide +kernel
theorem dX11_size_56 : decode cX11_size 56 = .ok (.aload_n 0, 1) := by decide +kernel
theorem dX11_size_57 : decode cX11_size 57 = .ok (.getfield 27, 3) := by decide +kernel
theorem dX11_size_60 : decode cX11_size 60 = .ok (.ireturn, 1) := by decide +kernel
theorem dX11_size_61 : decode cX11_size 61 = .ok (.iconst (-1), 1) := by decide +kernel
theorem dX11_size_62 : decode cX11_size 62 = .ok (.ireturn, 1) := by decide +kernel
theorem dX11_pair_0 : decode cX11_pair 0 = .ok (.aload_n 0, 1) := by decide +kernel
theorem dX11_pair_1 : decode cX11_pair 1 = .ok (.getfield 23, 3) := by decide +kernel
theorem dX11_pair_4 : decode cX11_pair 4 = .ok (.iload_n 1, 1) := by decide +kernel
theorem dX11_pair_5 : decode cX11_pair 5 = .ok (.invokevirtual 64, 3) := by decide +kernel
theorem dX11_pair_8 : decode cX11_pair 8 = .ok (.ifCond .eq 22, 3) := by decide +kernel
theorem dX11_pair_11 : decode cX11_pair 11 = .ok (.aload_n 0, 1) := by decide +kernel
theorem dX11_pair_12 : decode cX11_pair 12 = .ok (.getfield 23, 3) := by decide +kernel
theorem dX11_pair_15 : decode cX11_pair 15 = .ok (.iload_n 2, 1) := by decide +kernel
theorem dX11_pair_16 : decode cX11_pair 16 = .ok (.iload_n 3, 1) := by decide +kernel
theorem dX11_pair_17 : decode cX11_pair 17 = .ok (.invokevirtual 68, 3) := by decide +kernel
theorem dX11_pair_20 : decode cX11_pair 20 = .ok (.ifCond .eq 10, 3) := by decide +kernel
theorem dX11_pair_23 : decode cX11_pair 23 = .ok (.aload_n 0, 1) := by decide +kernel
theorem dX11_pair_24 : decode cX11_pair 24 = .ok (.invokevirtual 72, 3) := by decide +kernel
theorem dX11_pair_27 : decode cX11_pair 27 = .ok (.ifCond .ne 5, 3) := by decide +kernel
theorem dX11_pair_30 : decode cX11_pair 30 = .ok (.iconst 0, 1) := by decide +kernel
theorem dX11_pair_31 : decode cX11_pair 31 = .ok (.ireturn, 1) := by decide +kernel
theorem dX11_pair_32 : decode cX11_pair 32 = .ok (.aload_n 0, 1) := by decide +kernel
theorem dX11_pair_33 : decode cX11_pair 33 = .ok (.getfield 23, 3) := by decide +kernel
theorem dX11_pair_36 : decode cX11_pair 36 = .ok (.iload_n 1, 1) := by decide +kernel
theorem dX11_pair_37 : decode cX11_pair 37 = .ok (.iload_n 2, 1) := by decide +kernel
theorem dX11_pair_38 : decode cX11_pair 38 = .ok (.iload_n 3, 1) := by decide +kernel
theorem dX11_pair_39 : decode cX11_pair 39 = .ok (.invokevirtual 76, 3) := by decide +kernel
theorem dX11_pair_42 : decode cX11_pair 42 = .ok (.iconst 1, 1) := by decide +kernel
theorem dX11_pair_43 : decode cX11_pair 43 = .ok (.ireturn, 1) := by decide +kernel
theorem dX11_hash_0 : decode cX11_hash 0 = .ok (.aload_n 0, 1) := by decide +kernel
theorem dX11_hash_1 : decode cX11_hash 1 = .ok (.getfield 23, 3) := by decide +kernel
theorem dX11_hash_4 : decode cX11_hash 4 = .ok (.iload_n 1, 1) := by decide +kernel
theorem dX11_hash_5 : decode cX11_hash 5 = .ok (.invokevirtual 64, 3) := by decide +kernel
theorem dX11_hash_8 : decode cX11_hash 8 = .ok (.ifCond .eq 14, 3) := by decide +kernel
theorem dX11_hash_11 : decode cX11_hash 11 = .ok (.aload_n 0, 1) := by decide +kernel
theorem dX11_hash_12 : decode cX11_hash 12 = .ok (.getfield 23, 3) := by decide +kernel
theorem dX11_hash_15 : decode cX11_hash 15 = .ok (.iload_n 2, 1) := by decide +kernel
theorem dX11_hash_16 : decode cX11_hash 16 = .ok (.invokevirtual 79, 3) := by decide +kernel
theorem dX11_hash_19 : decode cX11_hash 19 = .ok (.ifCond .ne 5, 3) := by decide +kernel
theorem dX11_hash_22 : decode cX11_hash 22 = .ok (.iconst (-1), 1) := by decide +kernel
theorem dX11_hash_23 : decode cX11_hash 23 = .ok (.ireturn, 1) := by decide +kernel
theorem dX11_hash_24 : decode cX11_hash 24 = .ok (.aload_n 0, 1) := by decide +kernel
theorem dX11_hash_25 : decode cX11_hash 25 = .ok (.getfield 23, 3) := by decide +kernel
theorem dX11_hash_28 : decode cX11_hash 28 = .ok (.iload_n 1, 1) := by decide +kernel
theorem dX11_hash_29 : decode cX11_hash 29 = .ok (.iload_n 2, 1) := by decide +kernel
theorem dX11_hash_30 : decode cX11_hash 30 = .ok (.invokevirtual 82, 3) := by decide +kernel
theorem dX11_hash_33 : decode cX11_hash 33 = .ok (.ireturn, 1) := by decide +kernel
theorem dX11_add_0 : decode cX11_add 0 = .ok (.aload_n 0, 1) := by decide +kernel
theorem dX11_add_1 : decode cX11_add 1 = .ok (.iload_n 1, 1) := by decide +kernel
theorem dX11_add_2 : decode cX11_add 2 = .ok (.invokevirtual 85, 3) := by decide +kernel
theorem dX11_add_5 : decode cX11_add 5 = .ok (.astore 4, 2) := by decide +kernel
theorem dX11_add_7 : decode cX11_add 7 = .ok (.aload 4, 2) := by decide +kernel
theorem dX11_add_9 : decode cX11_add 9 = .ok (.ifnull 26, 3) := by decide +kernel
theorem dX11_add_12 : decode cX11_add 12 = .ok (.aload_n 0, 1) := by decide +kernel
theorem dX11_add_13 : decode cX11_add 13 = .ok (.getfield 23, 3) := by decide +kernel
theorem dX11_add_16 : decode cX11_add 16 = .ok (.iload_n 2, 1) := by decide +kernel
theorem dX11_add_17 : decode cX11_add 17 = .ok (.invokevirtual 79, 3) := by decide +kernel
theorem dX11_add_20 : decode cX11_add 20 = .ok (.ifCond .eq 15, 3) := by decide +kernel
theorem dX11_add_23 : decode cX11_add 23 = .ok (.iload_n 3, 1) := by decide +kernel
theorem dX11_add_24 : decode cX11_add 24 = .ok (.iconst 1, 1) := by decide +kernel
theorem dX11_add_25 : decode cX11_add 25 = .ok (.if_icmp .lt 10, 3) := by decide +kernel
theorem dX11_add_28 : decode cX11_add 28 = .ok (.iload_n 3, 1) := by decide +kernel
theorem dX11_add_29 : decode cX11_add 29 = .ok (.sipush 1000, 3) := by decide +kernel
theorem dX11_add_32 : decode cX11_add 32 = .ok (.if_icmp .le 7, 3) := by decide +kernel
theorem dX11_add_35 : decode cX11_add 35 = .ok (.ldc2_w 89, 3) := by decide +kernel
theorem dX11_add_38 : decode cX11_add 38 = .ok (.lreturn, 1) := by decide +kernel
theorem dX11_add_39 : decode cX11_add 39 = .ok (.aload 4, 2) := by decide +kernel
theorem dX11_add_41 : decode cX11_add 41 = .ok (.getfield 91, 3) := by decide +kernel
theorem dX11_add_44 : decode cX11_add 44 = .ok (.iload_n 3, 1) := by decide +kernel
theorem dX11_add_45 : decode cX11_add 45 = .ok (.i2l, 1) := by decide +kernel
theorem dX11_add_46 : decode cX11_add 46 = .ok (.ladd, 1) := by decide +kernel
theorem dX11_add_47 : decode cX11_add 47 = .ok (.ldc2_w 95, 3) := by decide +kernel
theorem dX11_add_50 : decode cX11_add 50 = .ok (.lcmp, 1) := by decide +kernel
theorem dX11_add_51 : decode cX11_add 51 = .ok (.ifCond .le 7, 3) := by decide +kernel
theorem dX11_add_54 : decode cX11_add 54 = .ok (.ldc2_w 89, 3) := by decide +kernel
theorem dX11_add_57 : decode cX11_add 57 = .ok (.lreturn, 1) := by decide +kernel
theorem dX11_add_58 : decode cX11_add 58 = .ok (.aload 4, 2) := by decide +kernel
theorem dX11_add_60 : decode cX11_add 60 = .ok (.iload_n 2, 1) := by decide +kernel
theorem dX11_add_61 : decode cX11_add 61 = .ok (.iload_n 3, 1) := by decide +kernel
theorem dX11_add_62 : decode cX11_add 62 = .ok (.invokevirtual 97, 3) := by decide +kernel
theorem dX11_add_65 : decode cX11_add 65 = .ok (.aload 4, 2) := by decide +kernel
theorem dX11_add_67 : decode cX11_add 67 = .ok (.getfield 91, 3) := by decide +kernel
theorem dX11_add_70 : decode cX11_add 70 = .ok (.lreturn, 1) := by decide +kernel
theorem dX11_clear_0 : decode cX11_clear 0 = .ok (.aload_n 0, 1) := by decide +kernel
theorem dX11_clear_1 : decode cX11_clear 1 = .ok (.iload_n 1, 1) := by decide +kernel
theorem dX11_clear_2 : decode cX11_clear 2 = .ok (.invokevirtual 85, 3) := by decide +kernel
theorem dX11_clear_5 : decode cX11_clear 5 = .ok (.astore_n 2, 1) := by decide +kernel
theorem dX11_clear_6 : decode cX11_clear 6 = .ok (.aload_n 2, 1) := by decide +kernel
theorem dX11_clear_7 : decode cX11_clear 7 = .ok (.ifnonnull 5, 3) := by decide +kernel
theorem dX11_clear_10 : decode cX11_clear 10 = .ok (.iconst 0, 1) := by decide +kernel
theorem dX11_clear_11 : decode cX11_clear 11 = .ok (.ireturn, 1) := by decide +kernel
theorem dX11_clear_12 : decode cX11_clear 12 = .ok (.aload_n 2, 1) := by decide +kernel
theorem dX11_clear_13 : decode cX11_clear 13 = .ok (.invokevirtual 101, 3) := by decide +kernel
theorem dX11_clear_16 : decode cX11_clear 16 = .ok (.iconst 1, 1) := by decide +kernel
theorem dX11_clear_17 : decode cX11_clear 17 = .ok (.ireturn, 1) := by decide +kernel
theorem dX11_copy_0 : decode cX11_copy 0 = .ok (.aload_n 0, 1) := by decide +kernel
theorem dX11_copy_1 : decode cX11_copy 1 = .ok (.iload_n 1, 1) := by decide +kernel
theorem dX11_copy_2 : decode cX11_copy 2 = .ok (.invokevirtual 85, 3) := by decide +kernel
theorem dX11_copy_5 : decode cX11_copy 5 = .ok (.astore_n 3, 1) := by decide +kernel
theorem dX11_copy_6 : decode cX11_copy 6 = .ok (.aload_n 0, 1) := by decide +kernel
theorem dX11_copy_7 : decode cX11_copy 7 = .ok (.iload_n 2, 1) := by decide +kernel
theorem dX11_copy_8 : decode cX11_copy 8 = .ok (.invokevirtual 85, 3) := by decide +kernel
theorem dX11_copy_11 : decode cX11_copy 11 = .ok (.astore 4, 2) := by decide +kernel
theorem dX11_copy_13 : decode cX11_copy 13 = .ok (.aload_n 3, 1) := by decide +kernel
theorem dX11_copy_14 : decode cX11_copy 14 = .ok (.ifnull 8, 3) := by decide +kernel
theorem dX11_copy_17 : decode cX11_copy 17 = .ok (.aload 4, 2) := by decide +kernel
theorem dX11_copy_19 : decode cX11_copy 19 = .ok (.ifnonnull 5, 3) := by decide +kernel
theorem dX11_copy_22 : decode cX11_copy 22 = .ok (.iconst 0, 1) := by decide +kernel
theorem dX11_copy_23 : decode cX11_copy 23 = .ok (.ireturn, 1) := by decide +kernel
theorem dX11_copy_24 : decode cX11_copy 24 = .ok (.aload_n 3, 1) := by decide +kernel
theorem dX11_copy_25 : decode cX11_copy 25 = .ok (.aload 4, 2) := by decide +kernel
theorem dX11_copy_27 : decode cX11_copy 27 = .ok (.invokevirtual 104, 3) := by decide +kernel
theorem dX11_copy_30 : decode cX11_copy 30 = .ok (.iconst 1, 1) := by decide +kernel
theorem dX11_copy_31 : decode cX11_copy 31 = .ok (.ireturn, 1) := by decide +kernel
theorem dX11_join_0 : decode cX11_join 0 = .ok (.aload_n 0, 1) := by decide +kernel
theorem dX11_join_1 : decode cX11_join 1 = .ok (.iload_n 1, 1) := by decide +kernel
theorem dX11_join_2 : decode cX11_join 2 = .ok (.invokevirtual 85, 3) := by decide +kernel
theorem dX11_join_5 : decode cX11_join 5 = .ok (.astore_n 3, 1) := by decide +kernel
theorem dX11_join_6 : decode cX11_join 6 = .ok (.aload_n 0, 1) := by decide +kernel
theorem dX11_join_7 : decode cX11_join 7 = .ok (.iload_n 2, 1) := by decide +kernel
theorem dX11_join_8 : decode cX11_join 8 = .ok (.invokevirtual 85, 3) := by decide +kernel
theorem dX11_join_11 : decode cX11_join 11 = .ok (.astore 4, 2) := by decide +kernel
theorem dX11_join_13 : decode cX11_join 13 = .ok (.aload_n 3, 1) := by decide +kernel
theorem dX11_join_14 : decode cX11_join 14 = .ok (.ifnull 25, 3) := by decide +kernel
theorem dX11_join_17 : decode cX11_join 17 = .ok (.aload 4, 2) := by decide +kernel
theorem dX11_join_19 : decode cX11_join 19 = .ok (.ifnull 20, 3) := by decide +kernel
theorem dX11_join_22 : decode cX11_join 22 = .ok (.aload_n 3, 1) := by decide +kernel
theorem dX11_join_23 : decode cX11_join 23 = .ok (.getfield 91, 3) := by decide +kernel
theorem dX11_join_26 : decode cX11_join 26 = .ok (.aload 4, 2) := by decide +kernel
theorem dX11_join_28 : decode cX11_join 28 = .ok (.getfield 91, 3) := by decide +kernel
theorem dX11_join_31 : decode cX11_join 31 = .ok (.ladd, 1) := by decide +kernel
theorem dX11_join_32 : decode cX11_join 32 = .ok (.ldc2_w 95, 3) := by decide +kernel
theorem dX11_join_35 : decode cX11_join 35 = .ok (.lcmp, 1) := by decide +kernel
theorem dX11_join_36 : decode cX11_join 36 = .ok (.ifCond .le 7, 3) := by decide +kernel
theorem dX11_join_39 : decode cX11_join 39 = .ok (.ldc2_w 89, 3) := by decide +kernel
theorem dX11_join_42 : decode cX11_join 42 = .ok (.lreturn, 1) := by decide +kernel
theorem dX11_join_43 : decode cX11_join 43 = .ok (.aload_n 3, 1) := by decide +kernel
theorem dX11_join_44 : decode cX11_join 44 = .ok (.aload 4, 2) := by decide +kernel
theorem dX11_join_46 : decode cX11_join 46 = .ok (.invokevirtual 108, 3) := by decide +kernel
theorem dX11_join_49 : decode cX11_join 49 = .ok (.aload_n 3, 1) := by decide +kernel
theorem dX11_join_50 : decode cX11_join 50 = .ok (.getfield 91, 3) := by decide +kernel
theorem dX11_join_53 : decode cX11_join 53 = .ok (.lreturn, 1) := by decide +kernel
theorem dX11_total_0 : decode cX11_total 0 = .ok (.aload_n 0, 1) := by decide +kernel
theorem dX11_total_1 : decode cX11_total 1 = .ok (.iload_n 1, 1) := by decide +kernel
theorem dX11_total_2 : decode cX11_total 2 = .ok (.invokevirtual 85, 3) := by decide +kernel
theorem dX11_total_5 : decode cX11_total 5 = .ok (.astore_n 2, 1) := by decide +kernel
theorem dX11_total_6 : decode cX11_total 6 = .ok (.aload_n 2, 1) := by decide +kernel
theorem dX11_total_7 : decode cX11_total 7 = .ok (.ifnonnull 9, 3) := by decide +kernel
theorem dX11_total_10 : decode cX11_total 10 = .ok (.ldc2_w 89, 3) := by decide +kernel
theorem dX11_total_13 : decode cX11_total 13 = .ok (.goto 7, 3) := by decide +kernel
theorem dX11_total_16 : decode cX11_total 16 = .ok (.aload_n 2, 1) := by decide +kernel
theorem dX11_total_17 : decode cX11_total 17 = .ok (.getfield 91, 3) := by decide +kernel
theorem dX11_total_20 : decode cX11_total 20 = .ok (.lreturn, 1) := by decide +kernel
theorem dX11_estimate_0 : decode cX11_estimate 0 = .ok (.aload_n 0, 1) := by decide +kernel
theorem dX11_estimate_1 : decode cX11_estimate 1 = .ok (.iload_n 1, 1) := by decide +kernel
theorem dX11_estimate_2 : decode cX11_estimate 2 = .ok (.iload_n 2, 1) := by decide +kernel
theorem dX11_estimate_3 : decode cX11_estimate 3 = .ok (.invokevirtual 111, 3) := by decide +kernel
theorem dX11_estimate_6 : decode cX11_estimate 6 = .ok (.astore 5, 2) := by decide +kernel
theorem dX11_estimate_8 : decode cX11_estimate 8 = .ok (.aload 5, 2) := by decide +kernel
theorem dX11_estimate_10 : decode cX11_estimate 10 = .ok (.ifnull 14, 3) := by decide +kernel
theorem dX11_estimate_13 : decode cX11_estimate 13 = .ok (.aload_n 0, 1) := by decide +kernel
theorem dX11_estimate_14 : decode cX11_estimate 14 = .ok (.getfield 23, 3) := by decide +kernel
theorem dX11_estimate_17 : decode cX11_estimate 17 = .ok (.iload_n 3, 1) := by decide +kernel
theorem dX11_estimate_18 : decode cX11_estimate 18 = .ok (.invokevirtual 79, 3) := by decide +kernel
theorem dX11_estimate_21 : decode cX11_estimate 21 = .ok (.ifCond .ne 7, 3) := by decide +kernel
theorem dX11_estimate_24 : decode cX11_estimate 24 = .ok (.ldc2_w 89, 3) := by decide +kernel
theorem dX11_estimate_27 : decode cX11_estimate 27 = .ok (.lreturn, 1) := by decide +kernel
theorem dX11_estimate_28 : decode cX11_estimate 28 = .ok (.iload 4, 2) := by decide +kernel
theorem dX11_estimate_30 : decode cX11_estimate 30 = .ok (.tableswitch 53 0 2 #[26, 35, 44], 26) := by decide +kernel
theorem dX11_estimate_56 : decode cX11_estimate 56 = .ok (.aload 5, 2) := by decide +kernel
theorem dX11_estimate_58 : decode cX11_estimate 58 = .ok (.iload_n 3, 1) := by decide +kernel
theorem dX11_estimate_59 : decode cX11_estimate 59 = .ok (.invokeinterface 115 2, 5) := by decide +kernel
theorem dX11_estimate_64 : decode cX11_estimate 64 = .ok (.lreturn, 1) := by decide +kernel
theorem dX11_estimate_65 : decode cX11_estimate 65 = .ok (.aload 5, 2) := by decide +kernel
theorem dX11_estimate_67 : decode cX11_estimate 67 = .ok (.iload_n 3, 1) := by decide +kernel
theorem dX11_estimate_68 : decode cX11_estimate 68 = .ok (.invokeinterface 121 2, 5) := by decide +kernel
theorem dX11_estimate_73 : decode cX11_estimate 73 = .ok (.lreturn, 1) := by decide +kernel
theorem dX11_estimate_74 : decode cX11_estimate 74 = .ok (.aload 5, 2) := by decide +kernel
theorem dX11_estimate_76 : decode cX11_estimate 76 = .ok (.iload_n 3, 1) := by decide +kernel
theorem dX11_estimate_77 : decode cX11_estimate 77 = .ok (.invokeinterface 124 2, 5) := by decide +kernel
theorem dX11_estimate_82 : decode cX11_estimate 82 = .ok (.lreturn, 1) := by decide +kernel
theorem dX11_estimate_83 : decode cX11_estimate 83 = .ok (.ldc2_w 89, 3) := by decide +kernel
theorem dX11_estimate_86 : decode cX11_estimate 86 = .ok (.lreturn, 1) := by decide +kernel
theorem dX11_count_0 : decode cX11_count 0 = .ok (.aload_n 0, 1) := by decide +kernel
theorem dX11_count_1 : decode cX11_count 1 = .ok (.iload_n 1, 1) := by decide +kernel
theorem dX11_count_2 : decode cX11_count 2 = .ok (.invokevirtual 85, 3) := by decide +kernel
theorem dX11_count_5 : decode cX11_count 5 = .ok (.astore_n 3, 1) := by decide +kernel
theorem dX11_count_6 : decode cX11_count 6 = .ok (.aload_n 3, 1) := by decide +kernel
theorem dX11_count_7 : decode cX11_count 7 = .ok (.ifnull 24, 3) := by decide +kernel
theorem dX11_count_10 : decode cX11_count 10 = .ok (.aload_n 0, 1) := by decide +kernel
theorem dX11_count_11 : decode cX11_count 11 = .ok (.getfield 23, 3) := by decide +kernel
theorem dX11_count_14 : decode cX11_count 14 = .ok (.iload_n 2, 1) := by decide +kernel
theorem dX11_count_15 : decode cX11_count 15 = .ok (.invokevirtual 79, 3) := by decide +kernel
theorem dX11_count_18 : decode cX11_count 18 = .ok (.ifCond .eq 13, 3) := by decide +kernel
theorem dX11_count_21 : decode cX11_count 21 = .ok (.aload_n 3, 1) := by decide +kernel
theorem dX11_count_22 : decode cX11_count 22 = .ok (.getfield 127, 3) := by decide +kernel
theorem dX11_count_25 : decode cX11_count 25 = .ok (.getfield 131, 3) := by decide +kernel
theorem dX11_count_28 : decode cX11_count 28 = .ok (.ifCond .eq 7, 3) := by decide +kernel
theorem dX11_count_31 : decode cX11_count 31 = .ok (.ldc2_w 89, 3) := by decide +kernel
theorem dX11_count_34 : decode cX11_count 34 = .ok (.lreturn, 1) := by decide +kernel
theorem dX11_count_35 : decode cX11_count 35 = .ok (.aload_n 3, 1) := by decide +kernel
theorem dX11_count_36 : decode cX11_count 36 = .ok (.getfield 127, 3) := by decide +kernel
theorem dX11_count_39 : decode cX11_count 39 = .ok (.iload_n 2, 1) := by decide +kernel
theorem dX11_count_40 : decode cX11_count 40 = .ok (.invokevirtual 137, 3) := by decide +kernel
theorem dX11_count_43 : decode cX11_count 43 = .ok (.lreturn, 1) := by decide +kernel
theorem dX11_cell_0 : decode cX11_cell 0 = .ok (.aload_n 0, 1) := by decide +kernel
theorem dX11_cell_1 : decode cX11_cell 1 = .ok (.iload_n 1, 1) := by decide +kernel
theorem dX11_cell_2 : decode cX11_cell 2 = .ok (.invokevirtual 85, 3) := by decide +kernel
theorem dX11_cell_5 : decode cX11_cell 5 = .ok (.astore 5, 2) := by decide +kernel
theorem dX11_cell_7 : decode cX11_cell 7 = .ok (.aload 5, 2) := by decide +kernel
theorem dX11_cell_9 : decode cX11_cell 9 = .ok (.ifnull 31, 3) := by decide +kernel
theorem dX11_cell_12 : decode cX11_cell 12 = .ok (.aload_n 0, 1) := by decide +kernel
theorem dX11_cell_13 : decode cX11_cell 13 = .ok (.getfield 23, 3) := by decide +kernel
theorem dX11_cell_16 : decode cX11_cell 16 = .ok (.iload_n 3, 1) := by decide +kernel
theorem dX11_cell_17 : decode cX11_cell 17 = .ok (.invokevirtual 64, 3) := by decide +kernel
theorem dX11_cell_20 : decode cX11_cell 20 = .ok (.ifCond .eq 20, 3) := by decide +kernel
theorem dX11_cell_23 : decode cX11_cell 23 = .ok (.iload 4, 2) := by decide +kernel
theorem dX11_cell_25 : decode cX11_cell 25 = .ok (.ifCond .lt 15, 3) := by decide +kernel
theorem dX11_cell_28 : decode cX11_cell 28 = .ok (.iload 4, 2) := by decide +kernel
theorem dX11_cell_30 : decode cX11_cell 30 = .ok (.aload_n 0, 1) := by decide +kernel
theorem dX11_cell_31 : decode cX11_cell 31 = .ok (.getfield 23, 3) := by decide +kernel
theorem dX11_cell_34 : decode cX11_cell 34 = .ok (.getfield 58, 3) := by decide +kernel
theorem dX11_cell_37 : decode cX11_cell 37 = .ok (.if_icmp .lt 7, 3) := by decide +kernel
theorem dX11_cell_40 : decode cX11_cell 40 = .ok (.ldc2_w 89, 3) := by decide +kernel
theorem dX11_cell_43 : decode cX11_cell 43 = .ok (.lreturn, 1) := by decide +kernel
theorem dX11_cell_44 : decode cX11_cell 44 = .ok (.iload_n 2, 1) := by decide +kernel
theorem dX11_cell_45 : decode cX11_cell 45 = .ok (.lookupswitch 51 #[(0, 27), (1, 39)], 27) := by decide +kernel
theorem dX11_cell_72 : decode cX11_cell 72 = .ok (.aload 5, 2) := by decide +kernel
theorem dX11_cell_74 : decode cX11_cell 74 = .ok (.getfield 140, 3) := by decide +kernel
theorem dX11_cell_77 : decode cX11_cell 77 = .ok (.iload_n 3, 1) := by decide +kernel
theorem dX11_cell_78 : decode cX11_cell 78 = .ok (.iload 4, 2) := by decide +kernel
theorem dX11_cell_80 : decode cX11_cell 80 = .ok (.invokevirtual 144, 3) := by decide +kernel
theorem dX11_cell_83 : decode cX11_cell 83 = .ok (.lreturn, 1) := by decide +kernel
theorem dX11_cell_84 : decode cX11_cell 84 = .ok (.aload 5, 2) := by decide +kernel
theorem dX11_cell_86 : decode cX11_cell 86 = .ok (.getfield 150, 3) := by decide +kernel
theorem dX11_cell_89 : decode cX11_cell 89 = .ok (.iload_n 3, 1) := by decide +kernel
theorem dX11_cell_90 : decode cX11_cell 90 = .ok (.iload 4, 2) := by decide +kernel
theorem dX11_cell_92 : decode cX11_cell 92 = .ok (.invokevirtual 144, 3) := by decide +kernel
theorem dX11_cell_95 : decode cX11_cell 95 = .ok (.lreturn, 1) := by decide +kernel
theorem dX11_cell_96 : decode cX11_cell 96 = .ok (.ldc2_w 89, 3) := by decide +kernel
theorem dX11_cell_99 : decode cX11_cell 99 = .ok (.lreturn, 1) := by decide +kernel
theorem dX11_counter_0 : decode cX11_counter 0 = .ok (.aload_n 0, 1) := by decide +kernel
theorem dX11_counter_1 : decode cX11_counter 1 = .ok (.iload_n 1, 1) := by decide +kernel
theorem dX11_counter_2 : decode cX11_counter 2 = .ok (.invokevirtual 85, 3) := by decide +kernel
theorem dX11_counter_5 : decode cX11_counter 5 = .ok (.astore 5, 2) := by decide +kernel
theorem dX11_counter_7 : decode cX11_counter 7 = .ok (.aload 5, 2) := by decide +kernel
theorem dX11_counter_9 : decode cX11_counter 9 = .ok (.ifnonnull 7, 3) := by decide +kernel
theorem dX11_counter_12 : decode cX11_counter 12 = .ok (.ldc2_w 89, 3) := by decide +kernel
theorem dX11_counter_15 : decode cX11_counter 15 = .ok (.lreturn, 1) := by decide +kernel
theorem dX11_counter_16 : decode cX11_counter 16 = .ok (.iload_n 2, 1) := by decide +kernel
theorem dX11_counter_17 : decode cX11_counter 17 = .ok (.lookupswitch 57 #[(2, 27), (3, 42)], 27) := by decide +kernel
theorem dX11_counter_44 : decode cX11_counter 44 = .ok (.aload 5, 2) := by decide +kernel
theorem dX11_counter_46 : decode cX11_counter 46 = .ok (.getfield 153, 3) := by decide +kernel
theorem dX11_counter_49 : decode cX11_counter 49 = .ok (.getfield 157, 3) := by decide +kernel
theorem dX11_counter_52 : decode cX11_counter 52 = .ok (.iload_n 3, 1) := by decide +kernel
theorem dX11_counter_53 : decode cX11_counter 53 = .ok (.iload 4, 2) := by decide +kernel
theorem dX11_counter_55 : decode cX11_counter 55 = .ok (.invokevirtual 163, 3) := by decide +kernel
theorem dX11_counter_58 : decode cX11_counter 58 = .ok (.lreturn, 1) := by decide +kernel
theorem dX11_counter_59 : decode cX11_counter 59 = .ok (.aload 5, 2) := by decide +kernel
theorem dX11_counter_61 : decode cX11_counter 61 = .ok (.getfield 168, 3) := by decide +kernel
theorem dX11_counter_64 : decode cX11_counter 64 = .ok (.getfield 172, 3) := by decide +kernel
theorem dX11_counter_67 : decode cX11_counter 67 = .ok (.iload_n 3, 1) := by decide +kernel
theorem dX11_counter_68 : decode cX11_counter 68 = .ok (.iload 4, 2) := by decide +kernel
theorem dX11_counter_70 : decode cX11_counter 70 = .ok (.invokevirtual 163, 3) := by decide +kernel
theorem dX11_counter_73 : decode cX11_counter 73 = .ok (.lreturn, 1) := by decide +kernel
theorem dX11_counter_74 : decode cX11_counter 74 = .ok (.ldc2_w 89, 3) := by decide +kernel
theorem dX11_counter_77 : decode cX11_counter 77 = .ok (.lreturn, 1) := by decide +kernel
theorem dX11_state_0 : decode cX11_state 0 = .ok (.aload_n 0, 1) := by decide +kernel
theorem dX11_state_1 : decode cX11_state 1 = .ok (.iload_n 1, 1) := by decide +kernel
theorem dX11_state_2 : decode cX11_state 2 = .ok (.invokevirtual 85, 3) := by decide +kernel
theorem dX11_state_5 : decode cX11_state 5 = .ok (.astore_n 3, 1) := by decide +kernel
theorem dX11_state_6 : decode cX11_state 6 = .ok (.aload_n 3, 1) := by decide +kernel
theorem dX11_state_7 : decode cX11_state 7 = .ok (.ifnonnull 7, 3) := by decide +kernel
theorem dX11_state_10 : decode cX11_state 10 = .ok (.ldc2_w 89, 3) := by decide +kernel
theorem dX11_state_13 : decode cX11_state 13 = .ok (.lreturn, 1) := by decide +kernel
theorem dX11_state_14 : decode cX11_state 14 = .ok (.iload_n 2, 1) := by decide +kernel
theorem dX11_state_15 : decode cX11_state 15 = .ok (.tableswitch 98 0 4 #[33, 45, 53, 65, 73], 33) := by decide +kernel
theorem dX11_state_48 : decode cX11_state 48 = .ok (.aload_n 3, 1) := by decide +kernel
theorem dX11_state_49 : decode cX11_state 49 = .ok (.getfield 153, 3) := by decide +kernel
theorem dX11_state_52 : decode cX11_state 52 = .ok (.getfield 157, 3) := by decide +kernel
theorem dX11_state_55 : decode cX11_state 55 = .ok (.getfield 175, 3) := by decide +kernel
theorem dX11_state_58 : decode cX11_state 58 = .ok (.i2l, 1) := by decide +kernel
theorem dX11_state_59 : decode cX11_state 59 = .ok (.lreturn, 1) := by decide +kernel
theorem dX11_state_60 : decode cX11_state 60 = .ok (.aload_n 3, 1) := by decide +kernel
theorem dX11_state_61 : decode cX11_state 61 = .ok (.getfield 153, 3) := by decide +kernel
theorem dX11_state_64 : decode cX11_state 64 = .ok (.getfield 178, 3) := by decide +kernel
theorem dX11_state_67 : decode cX11_state 67 = .ok (.lreturn, 1) := by decide +kernel
theorem dX11_state_68 : decode cX11_state 68 = .ok (.aload_n 3, 1) := by decide +kernel
theorem dX11_state_69 : decode cX11_state 69 = .ok (.getfield 168, 3) := by decide +kernel
theorem dX11_state_72 : decode cX11_state 72 = .ok (.getfield 172, 3) := by decide +kernel
theorem dX11_state_75 : decode cX11_state 75 = .ok (.getfield 175, 3) := by decide +kernel
theorem dX11_state_78 : decode cX11_state 78 = .ok (.i2l, 1) := by decide +kernel
theorem dX11_state_79 : decode cX11_state 79 = .ok (.lreturn, 1) := by decide +kernel
theorem dX11_state_80 : decode cX11_state 80 = .ok (.aload_n 3, 1) := by decide +kernel
theorem dX11_state_81 : decode cX11_state 81 = .ok (.getfield 168, 3) := by decide +kernel
theorem dX11_state_84 : decode cX11_state 84 = .ok (.invokevirtual 181, 3) := by decide +kernel
theorem dX11_state_87 : decode cX11_state 87 = .ok (.lreturn, 1) := by decide +kernel
theorem dX11_state_88 : decode cX11_state 88 = .ok (.aload_n 3, 1) := by decide +kernel
theorem dX11_state_89 : decode cX11_state 89 = .ok (.getfield 127, 3) := by decide +kernel
theorem dX11_state_92 : decode cX11_state 92 = .ok (.getfield 131, 3) := by decide +kernel
theorem dX11_state_95 : decode cX11_state 95 = .ok (.ifCond .eq 9, 3) := by decide +kernel
theorem dX11_state_98 : decode cX11_state 98 = .ok (.ldc2_w 89, 3) := by decide +kernel
theorem dX11_state_101 : decode cX11_state 101 = .ok (.goto 11, 3) := by decide +kernel
theorem dX11_state_104 : decode cX11_state 104 = .ok (.aload_n 3, 1) := by decide +kernel
theorem dX11_state_105 : decode cX11_state 105 = .ok (.getfield 127, 3) := by decide +kernel
theorem dX11_state_108 : decode cX11_state 108 = .ok (.getfield 185, 3) := by decide +kernel
theorem dX11_state_111 : decode cX11_state 111 = .ok (.i2l, 1) := by decide +kernel
theorem dX11_state_112 : decode cX11_state 112 = .ok (.lreturn, 1) := by decide +kernel
theorem dX11_state_113 : decode cX11_state 113 = .ok (.ldc2_w 89, 3) := by decide +kernel
theorem dX11_state_116 : decode cX11_state 116 = .ok (.lreturn, 1) := by decide +kernel
theorem dX11_report_0 : decode cX11_report 0 = .ok (.aload_n 0, 1) := by decide +kernel
theorem dX11_report_1 : decode cX11_report 1 = .ok (.iload_n 1, 1) := by decide +kernel
theorem dX11_report_2 : decode cX11_report 2 = .ok (.invokevirtual 85, 3) := by decide +kernel
theorem dX11_report_5 : decode cX11_report 5 = .ok (.astore 5, 2) := by decide +kernel
theorem dX11_report_7 : decode cX11_report 7 = .ok (.aload_n 0, 1) := by decide +kernel
theorem dX11_report_8 : decode cX11_report 8 = .ok (.iload_n 1, 1) := by decide +kernel
theorem dX11_report_9 : decode cX11_report 9 = .ok (.iload_n 2, 1) := by decide +kernel
theorem dX11_report_10 : decode cX11_report 10 = .ok (.invokevirtual 111, 3) := by decide +kernel
theorem dX11_report_13 : decode cX11_report 13 = .ok (.astore 6, 2) := by decide +kernel
theorem dX11_report_15 : decode cX11_report 15 = .ok (.aload 5, 2) := by decide +kernel
theorem dX11_report_17 : decode cX11_report 17 = .ok (.ifnull 19, 3) := by decide +kernel
theorem dX11_report_20 : decode cX11_report 20 = .ok (.aload 6, 2) := by decide +kernel
theorem dX11_report_22 : decode cX11_report 22 = .ok (.ifnull 14, 3) := by decide +kernel
theorem dX11_report_25 : decode cX11_report 25 = .ok (.iload_n 3, 1) := by decide +kernel
theorem dX11_report_26 : decode cX11_report 26 = .ok (.iconst 1, 1) := by decide +kernel
theorem dX11_report_27 : decode cX11_report 27 = .ok (.if_icmp .lt 9, 3) := by decide +kernel
theorem dX11_report_30 : decode cX11_report 30 = .ok (.iload_n 3, 1) := by decide +kernel
theorem dX11_report_31 : decode cX11_report 31 = .ok (.ldc 186, 2) := by decide +kernel
theorem dX11_report_33 : decode cX11_report 33 = .ok (.if_icmp .le 5, 3) := by decide +kernel
theorem dX11_report_36 : decode cX11_report 36 = .ok (.iconst (-1), 1) := by decide +kernel
theorem dX11_report_37 : decode cX11_report 37 = .ok (.ireturn, 1) := by decide +kernel
theorem dX11_report_38 : decode cX11_report 38 = .ok (.aload 5, 2) := by decide +kernel
theorem dX11_report_40 : decode cX11_report 40 = .ok (.getfield 91, 3) := by decide +kernel
theorem dX11_report_43 : decode cX11_report 43 = .ok (.iload_n 3, 1) := by decide +kernel
theorem dX11_report_44 : decode cX11_report 44 = .ok (.i2l, 1) := by decide +kernel
theorem dX11_report_45 : decode cX11_report 45 = .ok (.ldiv, 1) := by decide +kernel
theorem dX11_report_46 : decode cX11_report 46 = .ok (.lstore 7, 2) := by decide +kernel
theorem dX11_report_48 : decode cX11_report 48 = .ok (.iconst 0, 1) := by decide +kernel
theorem dX11_report_49 : decode cX11_report 49 = .ok (.istore 9, 2) := by decide +kernel
theorem dX11_report_51 : decode cX11_report 51 = .ok (.aload_n 0, 1) := by decide +kernel
theorem dX11_report_52 : decode cX11_report 52 = .ok (.getfield 54, 3) := by decide +kernel
theorem dX11_report_55 : decode cX11_report 55 = .ok (.invokevirtual 187, 3) := by decide +kernel
theorem dX11_report_58 : decode cX11_report 58 = .ok (.iconst 0, 1) := by decide +kernel
theorem dX11_report_59 : decode cX11_report 59 = .ok (.istore 10, 2) := by decide +kernel
theorem dX11_report_61 : decode cX11_report 61 = .ok (.iload 10, 2) := by decide +kernel
theorem dX11_report_63 : decode cX11_report 63 = .ok (.aload_n 0, 1) := by decide +kernel
theorem dX11_report_64 : decode cX11_report 64 = .ok (.getfield 23, 3) := by decide +kernel
theorem dX11_report_67 : decode cX11_report 67 = .ok (.getfield 42, 3) := by decide +kernel
theorem dX11_report_70 : decode cX11_report 70 = .ok (.if_icmp .ge 59, 3) := by decide +kernel
theorem dX11_report_73 : decode cX11_report 73 = .ok (.iload 4, 2) := by decide +kernel
theorem dX11_report_75 : decode cX11_report 75 = .ok (.ifCond .eq 15, 3) := by decide +kernel
theorem dX11_report_78 : decode cX11_report 78 = .ok (.aload 6, 2) := by decide +kernel
theorem dX11_report_80 : decode cX11_report 80 = .ok (.iload 10, 2) := by decide +kernel
theorem dX11_report_82 : decode cX11_report 82 = .ok (.invokeinterface 121 2, 5) := by decide +kernel
theorem dX11_report_87 : decode cX11_report 87 = .ok (.goto 12, 3) := by decide +kernel
theorem dX11_report_90 : decode cX11_report 90 = .ok (.aload 6, 2) := by decide +kernel
theorem dX11_report_92 : decode cX11_report 92 = .ok (.iload 10, 2) := by decide +kernel
theorem dX11_report_94 : decode cX11_report 94 = .ok (.invokeinterface 124 2, 5) := by decide +kernel
theorem dX11_report_99 : decode cX11_report 99 = .ok (.lstore 11, 2) := by decide +kernel
theorem dX11_report_101 : decode cX11_report 101 = .ok (.lload 11, 2) := by decide +kernel
theorem dX11_report_103 : decode cX11_report 103 = .ok (.lload 7, 2) := by decide +kernel
theorem dX11_report_105 : decode cX11_report 105 = .ok (.lcmp, 1) := by decide +kernel
theorem dX11_report_106 : decode cX11_report 106 = .ok (.ifCond .le 17, 3) := by decide +kernel
theorem dX11_report_109 : decode cX11_report 109 = .ok (.iinc 9 1, 3) := by decide +kernel
theorem dX11_report_112 : decode cX11_report 112 = .ok (.aload_n 0, 1) := by decide +kernel
theorem dX11_report_113 : decode cX11_report 113 = .ok (.getfield 54, 3) := by decide +kernel
theorem dX11_report_116 : decode cX11_report 116 = .ok (.iload 10, 2) := by decide +kernel
theorem dX11_report_118 : decode cX11_report 118 = .ok (.lload 11, 2) := by decide +kernel
theorem dX11_report_120 : decode cX11_report 120 = .ok (.invokevirtual 190, 3) := by decide +kernel
theorem dX11_report_123 : decode cX11_report 123 = .ok (.iinc 10 1, 3) := by decide +kernel
theorem dX11_report_126 : decode cX11_report 126 = .ok (.goto (-65), 3) := by decide +kernel
theorem dX11_report_129 : decode cX11_report 129 = .ok (.iload 9, 2) := by decide +kernel
theorem dX11_report_131 : decode cX11_report 131 = .ok (.ireturn, 1) := by decide +kernel
theorem dX11_reported_0 : decode cX11_reported 0 = .ok (.aload_n 0, 1) := by decide +kernel
theorem dX11_reported_1 : decode cX11_reported 1 = .ok (.getfield 54, 3) := by decide +kernel
theorem dX11_reported_4 : decode cX11_reported 4 = .ok (.iload_n 1, 1) := by decide +kernel
theorem dX11_reported_5 : decode cX11_reported 5 = .ok (.iload_n 2, 1) := by decide +kernel
theorem dX11_reported_6 : decode cX11_reported 6 = .ok (.invokevirtual 194, 3) := by decide +kernel
theorem dX11_reported_9 : decode cX11_reported 9 = .ok (.lreturn, 1) := by decide +kernel
theorem dX11_overcounts_0 : decode cX11_overcounts 0 = .ok (.aload_n 0, 1) := by decide +kernel
theorem dX11_overcounts_1 : decode cX11_overcounts 1 = .ok (.iload_n 1, 1) := by decide +kernel
theorem dX11_overcounts_2 : decode cX11_overcounts 2 = .ok (.invokevirtual 85, 3) := by decide +kernel
theorem dX11_overcounts_5 : decode cX11_overcounts 5 = .ok (.astore_n 3, 1) := by decide +kernel
theorem dX11_overcounts_6 : decode cX11_overcounts 6 = .ok (.aload_n 3, 1) := by decide +kernel
theorem dX11_overcounts_7 : decode cX11_overcounts 7 = .ok (.ifnull 24, 3) := by decide +kernel
theorem dX11_overcounts_10 : decode cX11_overcounts 10 = .ok (.aload_n 0, 1) := by decide +kernel
theorem dX11_overcounts_11 : decode cX11_overcounts 11 = .ok (.getfield 23, 3) := by decide +kernel
theorem dX11_overcounts_14 : decode cX11_overcounts 14 = .ok (.iload_n 2, 1) := by decide +kernel
theorem dX11_overcounts_15 : decode cX11_overcounts 15 = .ok (.invokevirtual 79, 3) := by decide +kernel
theorem dX11_overcounts_18 : decode cX11_overcounts 18 = .ok (.ifCond .eq 13, 3) := by decide +kernel
theorem dX11_overcounts_21 : decode cX11_overcounts 21 = .ok (.aload_n 3, 1) := by decide +kernel
theorem dX11_overcounts_22 : decode cX11_overcounts 22 = .ok (.getfield 127, 3) := by decide +kernel
theorem dX11_overcounts_25 : decode cX11_overcounts 25 = .ok (.getfield 131, 3) := by decide +kernel
theorem dX11_overcounts_28 : decode cX11_overcounts 28 = .ok (.ifCond .eq 7, 3) := by decide +kernel
theorem dX11_overcounts_31 : decode cX11_overcounts 31 = .ok (.ldc2_w 89, 3) := by decide +kernel
theorem dX11_overcounts_34 : decode cX11_overcounts 34 = .ok (.lreturn, 1) := by decide +kernel
theorem dX11_overcounts_35 : decode cX11_overcounts 35 = .ok (.aload_n 0, 1) := by decide +kernel
theorem dX11_overcounts_36 : decode cX11_overcounts 36 = .ok (.getfield 23, 3) := by decide +kernel
theorem dX11_overcounts_39 : decode cX11_overcounts 39 = .ok (.getfield 42, 3) := by decide +kernel
theorem dX11_overcounts_42 : decode cX11_overcounts 42 = .ok (.sipush 131, 3) := by decide +kernel
theorem dX11_overcounts_45 : decode cX11_overcounts 45 = .ok (.if_icmp .gt 14, 3) := by decide +kernel
theorem dX11_overcounts_48 : decode cX11_overcounts 48 = .ok (.aload_n 3, 1) := by decide +kernel
theorem dX11_overcounts_49 : decode cX11_overcounts 49 = .ok (.getfield 91, 3) := by decide +kernel
theorem dX11_overcounts_52 : decode cX11_overcounts 52 = .ok (.ldc2_w 195, 3) := by decide +kernel
theorem dX11_overcounts_55 : decode cX11_overcounts 55 = .ok (.lcmp, 1) := by decide +kernel
theorem dX11_overcounts_56 : decode cX11_overcounts 56 = .ok (.ifCond .le 7, 3) := by decide +kernel
theorem dX11_overcounts_59 : decode cX11_overcounts 59 = .ok (.ldc2_w 89, 3) := by decide +kernel
theorem dX11_overcounts_62 : decode cX11_overcounts 62 = .ok (.lreturn, 1) := by decide +kernel
theorem dX11_overcounts_63 : decode cX11_overcounts 63 = .ok (.aload_n 3, 1) := by decide +kernel
theorem dX11_overcounts_64 : decode cX11_overcounts 64 = .ok (.getfield 91, 3) := by decide +kernel
theorem dX11_overcounts_67 : decode cX11_overcounts 67 = .ok (.aload_n 3, 1) := by decide +kernel
theorem dX11_overcounts_68 : decode cX11_overcounts 68 = .ok (.getfield 127, 3) := by decide +kernel
theorem dX11_overcounts_71 : decode cX11_overcounts 71 = .ok (.iload_n 2, 1) := by decide +kernel
theorem dX11_overcounts_72 : decode cX11_overcounts 72 = .ok (.invokevirtual 137, 3) := by decide +kernel
theorem dX11_overcounts_75 : decode cX11_overcounts 75 = .ok (.lsub, 1) := by decide +kernel
theorem dX11_overcounts_76 : decode cX11_overcounts 76 = .ok (.aload_n 0, 1) := by decide +kernel
theorem dX11_overcounts_77 : decode cX11_overcounts 77 = .ok (.getfield 23, 3) := by decide +kernel
theorem dX11_overcounts_80 : decode cX11_overcounts 80 = .ok (.invokevirtual 197, 3) := by decide +kernel
theorem dX11_overcounts_83 : decode cX11_overcounts 83 = .ok (.lmul, 1) := by decide +kernel
theorem dX11_overcounts_84 : decode cX11_overcounts 84 = .ok (.lreturn, 1) := by decide +kernel
theorem dX11_audit_0 : decode cX11_audit 0 = .ok (.aload_n 0, 1) := by decide +kernel
theorem dX11_audit_1 : decode cX11_audit 1 = .ok (.iload_n 1, 1) := by decide +kernel
theorem dX11_audit_2 : decode cX11_audit 2 = .ok (.invokevirtual 85, 3) := by decide +kernel
theorem dX11_audit_5 : decode cX11_audit 5 = .ok (.astore_n 2, 1) := by decide +kernel
theorem dX11_audit_6 : decode cX11_audit 6 = .ok (.aload_n 2, 1) := by decide +kernel
theorem dX11_audit_7 : decode cX11_audit 7 = .ok (.ifnull 13, 3) := by decide +kernel
theorem dX11_audit_10 : decode cX11_audit 10 = .ok (.aload_n 2, 1) := by decide +kernel
theorem dX11_audit_11 : decode cX11_audit 11 = .ok (.getfield 127, 3) := by decide +kernel
theorem dX11_audit_14 : decode cX11_audit 14 = .ok (.getfield 131, 3) := by decide +kernel
theorem dX11_audit_17 : decode cX11_audit 17 = .ok (.ifCond .eq 5, 3) := by decide +kernel
theorem dX11_audit_20 : decode cX11_audit 20 = .ok (.iconst (-1), 1) := by decide +kernel
theorem dX11_audit_21 : decode cX11_audit 21 = .ok (.ireturn, 1) := by decide +kernel
theorem dX11_audit_22 : decode cX11_audit 22 = .ok (.aload_n 2, 1) := by decide +kernel
theorem dX11_audit_23 : decode cX11_audit 23 = .ok (.invokevirtual 200, 3) := by decide +kernel
theorem dX11_audit_26 : decode cX11_audit 26 = .ok (.ireturn, 1) := by decide +kernel
theorem dX11_streamAt_0 : decode cX11_streamAt 0 = .ok (.iload_n 1, 1) := by decide +kernel
theorem dX11_streamAt_1 : decode cX11_streamAt 1 = .ok (.ifCond .lt 17, 3) := by decide +kernel
theorem dX11_streamAt_4 : decode cX11_streamAt 4 = .ok (.iload_n 1, 1) := by decide +kernel
theorem dX11_streamAt_5 : decode cX11_streamAt 5 = .ok (.iconst 4, 1) := by decide +kernel
theorem dX11_streamAt_6 : decode cX11_streamAt 6 = .ok (.if_icmp .ge 12, 3) := by decide +kernel
theorem dX11_streamAt_9 : decode cX11_streamAt 9 = .ok (.aload_n 0, 1) := by decide +kernel
theorem dX11_streamAt_10 : decode cX11_streamAt 10 = .ok (.getfield 33, 3) := by decide +kernel
theorem dX11_streamAt_13 : decode cX11_streamAt 13 = .ok (.iload_n 1, 1) := by decide +kernel
theorem dX11_streamAt_14 : decode cX11_streamAt 14 = .ok (.aaload, 1) := by decide +kernel
theorem dX11_streamAt_15 : decode cX11_streamAt 15 = .ok (.goto 4, 3) := by decide +kernel
theorem dX11_streamAt_18 : decode cX11_streamAt 18 = .ok (.aconst_null, 1) := by decide +kernel
theorem dX11_streamAt_19 : decode cX11_streamAt 19 = .ok (.areturn, 1) := by decide +kernel
theorem dX11_sketchAt_0 : decode cX11_sketchAt 0 = .ok (.aload_n 0, 1) := by decide +kernel
theorem dX11_sketchAt_1 : decode cX11_sketchAt 1 = .ok (.iload_n 1, 1) := by decide +kernel
theorem dX11_sketchAt_2 : decode cX11_sketchAt 2 = .ok (.invokevirtual 85, 3) := by decide +kernel
theorem dX11_sketchAt_5 : decode cX11_sketchAt 5 = .ok (.astore_n 3, 1) := by decide +kernel
theorem dX11_sketchAt_6 : decode cX11_sketchAt 6 = .ok (.aload_n 3, 1) := by decide +kernel
theorem dX11_sketchAt_7 : decode cX11_sketchAt 7 = .ok (.ifnull 12, 3) := by decide +kernel
theorem dX11_sketchAt_10 : decode cX11_sketchAt 10 = .ok (.iload_n 2, 1) := by decide +kernel
theorem dX11_sketchAt_11 : decode cX11_sketchAt 11 = .ok (.ifCond .lt 8, 3) := by decide +kernel
theorem dX11_sketchAt_14 : decode cX11_sketchAt 14 = .ok (.iload_n 2, 1) := by decide +kernel
theorem dX11_sketchAt_15 : decode cX11_sketchAt 15 = .ok (.iconst 5, 1) := by decide +kernel
theorem dX11_sketchAt_16 : decode cX11_sketchAt 16 = .ok (.if_icmp .lt 5, 3) := by decide +kernel
theorem dX11_sketchAt_19 : decode cX11_sketchAt 19 = .ok (.aconst_null, 1) := by decide +kernel
theorem dX11_sketchAt_20 : decode cX11_sketchAt 20 = .ok (.areturn, 1) := by decide +kernel
theorem dX11_sketchAt_21 : decode cX11_sketchAt 21 = .ok (.aload_n 3, 1) := by decide +kernel
theorem dX11_sketchAt_22 : decode cX11_sketchAt 22 = .ok (.getfield 204, 3) := by decide +kernel
theorem dX11_sketchAt_25 : decode cX11_sketchAt 25 = .ok (.iload_n 2, 1) := by decide +kernel
theorem dX11_sketchAt_26 : decode cX11_sketchAt 26 = .ok (.aaload, 1) := by decide +kernel
theorem dX11_sketchAt_27 : decode cX11_sketchAt 27 = .ok (.areturn, 1) := by decide +kernel
theorem dX11_allStreamsEmpty_0 : decode cX11_allStreamsEmpty 0 = .ok (.iconst 0, 1) := by decide +kernel
theorem dX11_allStreamsEmpty_1 : decode cX11_allStreamsEmpty 1 = .ok (.istore_n 1, 1) := by decide +kernel
theorem dX11_allStreamsEmpty_2 : decode cX11_allStreamsEmpty 2 = .ok (.iload_n 1, 1) := by decide +kernel
theorem dX11_allStreamsEmpty_3 : decode cX11_allStreamsEmpty 3 = .ok (.iconst 4, 1) := by decide +kernel
theorem dX11_allStreamsEmpty_4 : decode cX11_allStreamsEmpty 4 = .ok (.if_icmp .ge 25, 3) := by decide +kernel
theorem dX11_allStreamsEmpty_7 : decode cX11_allStreamsEmpty 7 = .ok (.aload_n 0, 1) := by decide +kernel
theorem dX11_allStreamsEmpty_8 : decode cX11_allStreamsEmpty 8 = .ok (.getfield 33, 3) := by decide +kernel
theorem dX11_allStreamsEmpty_11 : decode cX11_allStreamsEmpty 11 = .ok (.iload_n 1, 1) := by decide +kernel
theorem dX11_allStreamsEmpty_12 : decode cX11_allStreamsEmpty 12 = .ok (.aaload, 1) := by decide +kernel
theorem dX11_allStreamsEmpty_13 : decode cX11_allStreamsEmpty 13 = .ok (.getfield 91, 3) := by decide +kernel
theorem dX11_allStreamsEmpty_16 : decode cX11_allStreamsEmpty 16 = .ok (.lconst 0, 1) := by decide +kernel
theorem dX11_allStreamsEmpty_17 : decode cX11_allStreamsEmpty 17 = .ok (.lcmp, 1) := by decide +kernel
theorem dX11_allStreamsEmpty_18 : decode cX11_allStreamsEmpty 18 = .ok (.ifCond .le 5, 3) := by decide +kernel
theorem dX11_allStreamsEmpty_21 : decode cX11_allStreamsEmpty 21 = .ok (.iconst 0, 1) := by decide +kernel
theorem dX11_allStreamsEmpty_22 : decode cX11_allStreamsEmpty 22 = .ok (.ireturn, 1) := by decide +kernel
theorem dX11_allStreamsEmpty_23 : decode cX11_allStreamsEmpty 23 = .ok (.iinc 1 1, 3) := by decide +kernel
theorem dX11_allStreamsEmpty_26 : decode cX11_allStreamsEmpty 26 = .ok (.goto (-24), 3) := by decide +kernel
theorem dX11_allStreamsEmpty_29 : decode cX11_allStreamsEmpty 29 = .ok (.iconst 1, 1) := by decide +kernel
theorem dX11_allStreamsEmpty_30 : decode cX11_allStreamsEmpty 30 = .ok (.ireturn, 1) := by decide +kernel
theorem dX11_within_0 : decode cX11_within 0 = .ok (.iload_n 1, 1) := by decide +kernel
theorem dX11_within_1 : decode cX11_within 1 = .ok (.iload_n 2, 1) := by decide +kernel
theorem dX11_within_2 : decode cX11_within 2 = .ok (.iload_n 0, 1) := by decide +kernel
theorem dX11_within_3 : decode cX11_within 3 = .ok (.invokestatic 45, 3) := by decide +kernel
theorem dX11_within_6 : decode cX11_within 6 = .ok (.invokestatic 208, 3) := by decide +kernel
theorem dX11_within_9 : decode cX11_within 9 = .ok (.ireturn, 1) := by decide +kernel
theorem dX11_leastPrimeFrom_0 : decode cX11_leastPrimeFrom 0 = .ok (.iload_n 0, 1) := by decide +kernel
theorem dX11_leastPrimeFrom_1 : decode cX11_leastPrimeFrom 1 = .ok (.istore_n 1, 1) := by decide +kernel
theorem dX11_leastPrimeFrom_2 : decode cX11_leastPrimeFrom 2 = .ok (.iload_n 1, 1) := by decide +kernel
theorem dX11_leastPrimeFrom_3 : decode cX11_leastPrimeFrom 3 = .ok (.ldc 11, 2) := by decide +kernel
theorem dX11_leastPrimeFrom_5 : decode cX11_leastPrimeFrom 5 = .ok (.if_icmp .ge 18, 3) := by decide +kernel
theorem dX11_leastPrimeFrom_8 : decode cX11_leastPrimeFrom 8 = .ok (.iload_n 1, 1) := by decide +kernel
theorem dX11_leastPrimeFrom_9 : decode cX11_leastPrimeFrom 9 = .ok (.invokestatic 211, 3) := by decide +kernel
theorem dX11_leastPrimeFrom_12 : decode cX11_leastPrimeFrom 12 = .ok (.ifCond .eq 5, 3) := by decide +kernel
theorem dX11_leastPrimeFrom_15 : decode cX11_leastPrimeFrom 15 = .ok (.iload_n 1, 1) := by decide +kernel
theorem dX11_leastPrimeFrom_16 : decode cX11_leastPrimeFrom 16 = .ok (.ireturn, 1) := by decide +kernel
theorem dX11_leastPrimeFrom_17 : decode cX11_leastPrimeFrom 17 = .ok (.iinc 1 1, 3) := by decide +kernel
theorem dX11_leastPrimeFrom_20 : decode cX11_leastPrimeFrom 20 = .ok (.goto (-18), 3) := by decide +kernel
theorem dX11_leastPrimeFrom_23 : decode cX11_leastPrimeFrom 23 = .ok (.ldc 11, 2) := by decide +kernel
theorem dX11_leastPrimeFrom_25 : decode cX11_leastPrimeFrom 25 = .ok (.ireturn, 1) := by decide +kernel
theorem dX11_isPrime_0 : decode cX11_isPrime 0 = .ok (.iconst 2, 1) := by decide +kernel
theorem dX11_isPrime_1 : decode cX11_isPrime 1 = .ok (.istore_n 1, 1) := by decide +kernel
theorem dX11_isPrime_2 : decode cX11_isPrime 2 = .ok (.iload_n 1, 1) := by decide +kernel
theorem dX11_isPrime_3 : decode cX11_isPrime 3 = .ok (.iload_n 1, 1) := by decide +kernel
theorem dX11_isPrime_4 : decode cX11_isPrime 4 = .ok (.imul, 1) := by decide +kernel
theorem dX11_isPrime_5 : decode cX11_isPrime 5 = .ok (.iload_n 0, 1) := by decide +kernel
theorem dX11_isPrime_6 : decode cX11_isPrime 6 = .ok (.if_icmp .gt 17, 3) := by decide +kernel
theorem dX11_isPrime_9 : decode cX11_isPrime 9 = .ok (.iload_n 0, 1) := by decide +kernel
theorem dX11_isPrime_10 : decode cX11_isPrime 10 = .ok (.iload_n 1, 1) := by decide +kernel
theorem dX11_isPrime_11 : decode cX11_isPrime 11 = .ok (.irem, 1) := by decide +kernel
theorem dX11_isPrime_12 : decode cX11_isPrime 12 = .ok (.ifCond .ne 5, 3) := by decide +kernel
theorem dX11_isPrime_15 : decode cX11_isPrime 15 = .ok (.iconst 0, 1) := by decide +kernel
theorem dX11_isPrime_16 : decode cX11_isPrime 16 = .ok (.ireturn, 1) := by decide +kernel
theorem dX11_isPrime_17 : decode cX11_isPrime 17 = .ok (.iinc 1 1, 3) := by decide +kernel
theorem dX11_isPrime_20 : decode cX11_isPrime 20 = .ok (.goto (-18), 3) := by decide +kernel
theorem dX11_isPrime_23 : decode cX11_isPrime 23 = .ok (.iload_n 0, 1) := by decide +kernel
theorem dX11_isPrime_24 : decode cX11_isPrime 24 = .ok (.iconst 2, 1) := by decide +kernel
theorem dX11_isPrime_25 : decode cX11_isPrime 25 = .ok (.if_icmp .lt 7, 3) := by decide +kernel
theorem dX11_isPrime_28 : decode cX11_isPrime 28 = .ok (.iconst 1, 1) := by decide +kernel
theorem dX11_isPrime_29 : decode cX11_isPrime 29 = .ok (.goto 4, 3) := by decide +kernel
theorem dX11_isPrime_32 : decode cX11_isPrime 32 = .ok (.iconst 0, 1) := by decide +kernel
theorem dX11_isPrime_33 : decode cX11_isPrime 33 = .ok (.ireturn, 1) := by decide +kernel
theorem dJ9_max_7cf53_0 : decode cJ9_max_7cf53 0 = .ok (.iload_n 0, 1) := by decide +kernel
theorem dJ9_max_7cf53_1 : decode cJ9_max_7cf53 1 = .ok (.iload_n 1, 1) := by decide +kernel
theorem dJ9_max_7cf53_2 : decode cJ9_max_7cf53 2 = .ok (.if_icmp .lt 7, 3) := by decide +kernel
theorem dJ9_max_7cf53_5 : decode cJ9_max_7cf53 5 = .ok (.iload_n 0, 1) := by decide +kernel
theorem dJ9_max_7cf53_6 : decode cJ9_max_7cf53 6 = .ok (.goto 4, 3) := by decide +kernel
theorem dJ9_max_7cf53_9 : decode cJ9_max_7cf53 9 = .ok (.iload_n 1, 1) := by decide +kernel
theorem dJ9_max_7cf53_10 : decode cJ9_max_7cf53 10 = .ok (.ireturn, 1) := by decide +kernel
theorem dJ9_max_f86c9_0 : decode cJ9_max_f86c9 0 = .ok (.lload_n 0, 1) := by decide +kernel
theorem dJ9_max_f86c9_1 : decode cJ9_max_f86c9 1 = .ok (.lload_n 2, 1) := by decide +kernel
theorem dJ9_max_f86c9_2 : decode cJ9_max_f86c9 2 = .ok (.lcmp, 1) := by decide +kernel
theorem dJ9_max_f86c9_3 : decode cJ9_max_f86c9 3 = .ok (.ifCond .lt 7, 3) := by decide +kernel
theorem dJ9_max_f86c9_6 : decode cJ9_max_f86c9 6 = .ok (.lload_n 0, 1) := by decide +kernel
theorem dJ9_max_f86c9_7 : decode cJ9_max_f86c9 7 = .ok (.goto 4, 3) := by decide +kernel
theorem dJ9_max_f86c9_10 : decode cJ9_max_f86c9 10 = .ok (.lload_n 2, 1) := by decide +kernel
theorem dJ9_max_f86c9_11 : decode cJ9_max_f86c9 11 = .ok (.lreturn, 1) := by decide +kernel
theorem dJ9_min_7cf53_0 : decode cJ9_min_7cf53 0 = .ok (.iload_n 0, 1) := by decide +kernel
theorem dJ9_min_7cf53_1 : decode cJ9_min_7cf53 1 = .ok (.iload_n 1, 1) := by decide +kernel
theorem dJ9_min_7cf53_2 : decode cJ9_min_7cf53 2 = .ok (.if_icmp .gt 7, 3) := by decide +kernel
theorem dJ9_min_7cf53_5 : decode cJ9_min_7cf53 5 = .ok (.iload_n 0, 1) := by decide +kernel
theorem dJ9_min_7cf53_6 : decode cJ9_min_7cf53 6 = .ok (.goto 4, 3) := by decide +kernel
theorem dJ9_min_7cf53_9 : decode cJ9_min_7cf53 9 = .ok (.iload_n 1, 1) := by decide +kernel
theorem dJ9_min_7cf53_10 : decode cJ9_min_7cf53 10 = .ok (.ireturn, 1) := by decide +kernel
theorem dJ9_min_f86c9_0 : decode cJ9_min_f86c9 0 = .ok (.lload_n 0, 1) := by decide +kernel
theorem dJ9_min_f86c9_1 : decode cJ9_min_f86c9 1 = .ok (.lload_n 2, 1) := by decide +kernel
theorem dJ9_min_f86c9_2 : decode cJ9_min_f86c9 2 = .ok (.lcmp, 1) := by decide +kernel
theorem dJ9_min_f86c9_3 : decode cJ9_min_f86c9 3 = .ok (.ifCond .gt 7, 3) := by decide +kernel
theorem dJ9_min_f86c9_6 : decode cJ9_min_f86c9 6 = .ok (.lload_n 0, 1) := by decide +kernel
theorem dJ9_min_f86c9_7 : decode cJ9_min_f86c9 7 = .ok (.goto 4, 3) := by decide +kernel
theorem dJ9_min_f86c9_10 : decode cJ9_min_f86c9 10 = .ok (.lload_n 2, 1) := by decide +kernel
theorem dJ9_min_f86c9_11 : decode cJ9_min_f86c9 11 = .ok (.lreturn, 1) := by decide +kernel
theorem dJ7_fill_d0a16_0 : decode cJ7_fill_d0a16 0 = .ok (.iconst 0, 1) := by decide +kernel
theorem dJ7_fill_d0a16_1 : decode cJ7_fill_d0a16 1 = .ok (.istore_n 3, 1) := by decide +kernel
theorem dJ7_fill_d0a16_2 : decode cJ7_fill_d0a16 2 = .ok (.aload_n 0, 1) := by decide +kernel
theorem dJ7_fill_d0a16_3 : decode cJ7_fill_d0a16 3 = .ok (.arraylength, 1) := by decide +kernel
theorem dJ7_fill_d0a16_4 : decode cJ7_fill_d0a16 4 = .ok (.istore 4, 2) := by decide +kernel
theorem dJ7_fill_d0a16_6 : decode cJ7_fill_d0a16 6 = .ok (.iload_n 3, 1) := by decide +kernel
theorem dJ7_fill_d0a16_7 : decode cJ7_fill_d0a16 7 = .ok (.iload 4, 2) := by decide +kernel
theorem dJ7_fill_d0a16_9 : decode cJ7_fill_d0a16 9 = .ok (.if_icmp .ge 13, 3) := by decide +kernel
theorem dJ7_fill_d0a16_12 : decode cJ7_fill_d0a16 12 = .ok (.aload_n 0, 1) := by decide +kernel
theorem dJ7_fill_d0a16_13 : decode cJ7_fill_d0a16 13 = .ok (.iload_n 3, 1) := by decide +kernel
theorem dJ7_fill_d0a16_14 : decode cJ7_fill_d0a16 14 = .ok (.lload_n 1, 1) := by decide +kernel
theorem dJ7_fill_d0a16_15 : decode cJ7_fill_d0a16 15 = .ok (.lastore, 1) := by decide +kernel
theorem dJ7_fill_d0a16_16 : decode cJ7_fill_d0a16 16 = .ok (.iinc 3 1, 3) := by decide +kernel
theorem dJ7_fill_d0a16_19 : decode cJ7_fill_d0a16 19 = .ok (.goto (-13), 3) := by decide +kernel
theorem dJ7_fill_d0a16_22 : decode cJ7_fill_d0a16 22 = .ok (.return_, 1) := by decide +kernel
end
section
theorem dX12_within_0 : decode cX12_within 0 = .ok (.iload_n 0, 1) := by decide +kernel
theorem dX12_within_1 : decode cX12_within 1 = .ok (.iload_n 1, 1) := by decide +kernel
theorem dX12_within_2 : decode cX12_within 2 = .ok (.if_icmp .ge 7, 3) := by decide +kernel
theorem dX12_within_5 : decode cX12_within 5 = .ok (.iload_n 1, 1) := by decide +kernel
theorem dX12_within_6 : decode cX12_within 6 = .ok (.goto 13, 3) := by decide +kernel
theorem dX12_within_9 : decode cX12_within 9 = .ok (.iload_n 0, 1) := by decide +kernel
theorem dX12_within_10 : decode cX12_within 10 = .ok (.iload_n 2, 1) := by decide +kernel
theorem dX12_within_11 : decode cX12_within 11 = .ok (.if_icmp .le 7, 3) := by decide +kernel
theorem dX12_within_14 : decode cX12_within 14 = .ok (.iload_n 2, 1) := by decide +kernel
theorem dX12_within_15 : decode cX12_within 15 = .ok (.goto 4, 3) := by decide +kernel
theorem dX12_within_18 : decode cX12_within 18 = .ok (.iload_n 0, 1) := by decide +kernel
theorem dX12_within_19 : decode cX12_within 19 = .ok (.ireturn, 1) := by decide +kernel
theorem dX12_isPrime_0 : decode cX12_isPrime 0 = .ok (.iload_n 0, 1) := by decide +kernel
theorem dX12_isPrime_1 : decode cX12_isPrime 1 = .ok (.iconst 1, 1) := by decide +kernel
theorem dX12_isPrime_2 : decode cX12_isPrime 2 = .ok (.if_icmp .le 7, 3) := by decide +kernel
theorem dX12_isPrime_5 : decode cX12_isPrime 5 = .ok (.iconst 1, 1) := by decide +kernel
theorem dX12_isPrime_6 : decode cX12_isPrime 6 = .ok (.goto 4, 3) := by decide +kernel
theorem dX12_isPrime_9 : decode cX12_isPrime 9 = .ok (.iconst 0, 1) := by decide +kernel
theorem dX12_isPrime_10 : decode cX12_isPrime 10 = .ok (.istore_n 1, 1) := by decide +kernel
theorem dX12_isPrime_11 : decode cX12_isPrime 11 = .ok (.iconst 2, 1) := by decide +kernel
theorem dX12_isPrime_12 : decode cX12_isPrime 12 = .ok (.istore_n 2, 1) := by decide +kernel
theorem dX12_isPrime_13 : decode cX12_isPrime 13 = .ok (.iload_n 2, 1) := by decide +kernel
theorem dX12_isPrime_14 : decode cX12_isPrime 14 = .ok (.iload_n 2, 1) := by decide +kernel
theorem dX12_isPrime_15 : decode cX12_isPrime 15 = .ok (.imul, 1) := by decide +kernel
theorem dX12_isPrime_16 : decode cX12_isPrime 16 = .ok (.iload_n 0, 1) := by decide +kernel
theorem dX12_isPrime_17 : decode cX12_isPrime 17 = .ok (.if_icmp .gt 25, 3) := by decide +kernel
theorem dX12_isPrime_20 : decode cX12_isPrime 20 = .ok (.iload_n 1, 1) := by decide +kernel
theorem dX12_isPrime_21 : decode cX12_isPrime 21 = .ok (.ifCond .eq 21, 3) := by decide +kernel
theorem dX12_isPrime_24 : decode cX12_isPrime 24 = .ok (.iload_n 0, 1) := by decide +kernel
theorem dX12_isPrime_25 : decode cX12_isPrime 25 = .ok (.iload_n 2, 1) := by decide +kernel
theorem dX12_isPrime_26 : decode cX12_isPrime 26 = .ok (.irem, 1) := by decide +kernel
theorem dX12_isPrime_27 : decode cX12_isPrime 27 = .ok (.ifCond .eq 7, 3) := by decide +kernel
theorem dX12_isPrime_30 : decode cX12_isPrime 30 = .ok (.iconst 1, 1) := by decide +kernel
theorem dX12_isPrime_31 : decode cX12_isPrime 31 = .ok (.goto 4, 3) := by decide +kernel
theorem dX12_isPrime_34 : decode cX12_isPrime 34 = .ok (.iconst 0, 1) := by decide +kernel
theorem dX12_isPrime_35 : decode cX12_isPrime 35 = .ok (.istore_n 1, 1) := by decide +kernel
theorem dX12_isPrime_36 : decode cX12_isPrime 36 = .ok (.iinc 2 1, 3) := by decide +kernel
theorem dX12_isPrime_39 : decode cX12_isPrime 39 = .ok (.goto (-26), 3) := by decide +kernel
theorem dX12_isPrime_42 : decode cX12_isPrime 42 = .ok (.iload_n 1, 1) := by decide +kernel
theorem dX12_isPrime_43 : decode cX12_isPrime 43 = .ok (.ireturn, 1) := by decide +kernel
theorem dX12_init_0 : decode cX12_init 0 = .ok (.aload_n 0, 1) := by decide +kernel
theorem dX12_init_1 : decode cX12_init 1 = .ok (.invokespecial 1, 3) := by decide +kernel
theorem dX12_init_4 : decode cX12_init 4 = .ok (.aload_n 0, 1) := by decide +kernel
theorem dX12_init_5 : decode cX12_init 5 = .ok (.bipush 8, 2) := by decide +kernel
theorem dX12_init_7 : decode cX12_init 7 = .ok (.newarray .int, 2) := by decide +kernel
theorem dX12_init_9 : decode cX12_init 9 = .ok (.putfield 7, 3) := by decide +kernel
theorem dX12_init_12 : decode cX12_init 12 = .ok (.aload_n 0, 1) := by decide +kernel
theorem dX12_init_13 : decode cX12_init 13 = .ok (.bipush 8, 2) := by decide +kernel
theorem dX12_init_15 : decode cX12_init 15 = .ok (.newarray .int, 2) := by decide +kernel
theorem dX12_init_17 : decode cX12_init 17 = .ok (.putfield 13, 3) := by decide +kernel
theorem dX12_init_20 : decode cX12_init 20 = .ok (.aload_n 0, 1) := by decide +kernel
theorem dX12_init_21 : decode cX12_init 21 = .ok (.iconst 4, 1) := by decide +kernel
theorem dX12_init_22 : decode cX12_init 22 = .ok (.newarray .long, 2) := by decide +kernel
theorem dX12_init_24 : decode cX12_init 24 = .ok (.putfield 16, 3) := by decide +kernel
theorem dX12_init_27 : decode cX12_init 27 = .ok (.aload_n 0, 1) := by decide +kernel
theorem dX12_init_28 : decode cX12_init 28 = .ok (.sipush 8192, 3) := by decide +kernel
theorem dX12_init_31 : decode cX12_init 31 = .ok (.newarray .long, 2) := by decide +kernel
theorem dX12_init_33 : decode cX12_init 33 = .ok (.putfield 20, 3) := by decide +kernel
theorem dX12_init_36 : decode cX12_init 36 = .ok (.aload_n 0, 1) := by decide +kernel
theorem dX12_init_37 : decode cX12_init 37 = .ok (.sipush 8192, 3) := by decide +kernel
theorem dX12_init_40 : decode cX12_init 40 = .ok (.newarray .long, 2) := by decide +kernel
theorem dX12_init_42 : decode cX12_init 42 = .ok (.putfield 23, 3) := by decide +kernel
theorem dX12_init_45 : decode cX12_init 45 = .ok (.aload_n 0, 1) := by decide +kernel
theorem dX12_init_46 : decode cX12_init 46 = .ok (.iconst 4, 1) := by decide +kernel
theorem dX12_init_47 : decode cX12_init 47 = .ok (.newarray .int, 2) := by decide +kernel
theorem dX12_init_49 : decode cX12_init 49 = .ok (.putfield 26, 3) := by decide +kernel
theorem dX12_init_52 : decode cX12_init 52 = .ok (.aload_n 0, 1) := by decide +kernel
theorem dX12_init_53 : decode cX12_init 53 = .ok (.iconst 4, 1) := by decide +kernel
theorem dX12_init_54 : decode cX12_init 54 = .ok (.newarray .long, 2) := by decide +kernel
theorem dX12_init_56 : decode cX12_init 56 = .ok (.putfield 29, 3) := by decide +kernel
theorem dX12_init_59 : decode cX12_init 59 = .ok (.aload_n 0, 1) := by decide +kernel
theorem dX12_init_60 : decode cX12_init 60 = .ok (.sipush 256, 3) := by decide +kernel
theorem dX12_init_63 : decode cX12_init 63 = .ok (.newarray .int, 2) := by decide +kernel
theorem dX12_init_65 : decode cX12_init 65 = .ok (.putfield 32, 3) := by decide +kernel
theorem dX12_init_68 : decode cX12_init 68 = .ok (.aload_n 0, 1) := by decide +kernel
theorem dX12_init_69 : decode cX12_init 69 = .ok (.sipush 256, 3) := by decide +kernel
theorem dX12_init_72 : decode cX12_init 72 = .ok (.newarray .long, 2) := by decide +kernel
theorem dX12_init_74 : decode cX12_init 74 = .ok (.putfield 35, 3) := by decide +kernel
theorem dX12_init_77 : decode cX12_init 77 = .ok (.aload_n 0, 1) := by decide +kernel
theorem dX12_init_78 : decode cX12_init 78 = .ok (.iconst 4, 1) := by decide +kernel
theorem dX12_init_79 : decode cX12_init 79 = .ok (.newarray .int, 2) := by decide +kernel
theorem dX12_init_81 : decode cX12_init 81 = .ok (.putfield 38, 3) := by decide +kernel
theorem dX12_init_84 : decode cX12_init 84 = .ok (.aload_n 0, 1) := by decide +kernel
theorem dX12_init_85 : decode cX12_init 85 = .ok (.sipush 256, 3) := by decide +kernel
theorem dX12_init_88 : decode cX12_init 88 = .ok (.newarray .int, 2) := by decide +kernel
theorem dX12_init_90 : decode cX12_init 90 = .ok (.putfield 41, 3) := by decide +kernel
theorem dX12_init_93 : decode cX12_init 93 = .ok (.aload_n 0, 1) := by decide +kernel
theorem dX12_init_94 : decode cX12_init 94 = .ok (.sipush 256, 3) := by decide +kernel
theorem dX12_init_97 : decode cX12_init 97 = .ok (.newarray .long, 2) := by decide +kernel
theorem dX12_init_99 : decode cX12_init 99 = .ok (.putfield 44, 3) := by decide +kernel
theorem dX12_init_102 : decode cX12_init 102 = .ok (.aload_n 0, 1) := by decide +kernel
theorem dX12_init_103 : decode cX12_init 103 = .ok (.sipush 256, 3) := by decide +kernel
theorem dX12_init_106 : decode cX12_init 106 = .ok (.newarray .long, 2) := by decide +kernel
theorem dX12_init_108 : decode cX12_init 108 = .ok (.putfield 47, 3) := by decide +kernel
theorem dX12_init_111 : decode cX12_init 111 = .ok (.aload_n 0, 1) := by decide +kernel
theorem dX12_init_112 : decode cX12_init 112 = .ok (.iconst 4, 1) := by decide +kernel
theorem dX12_init_113 : decode cX12_init 113 = .ok (.newarray .int, 2) := by decide +kernel
theorem dX12_init_115 : decode cX12_init 115 = .ok (.putfield 50, 3) := by decide +kernel
theorem dX12_init_118 : decode cX12_init 118 = .ok (.aload_n 0, 1) := by decide +kernel
theorem dX12_init_119 : decode cX12_init 119 = .ok (.iconst 4, 1) := by decide +kernel
theorem dX12_init_120 : decode cX12_init 120 = .ok (.newarray .boolean, 2) := by decide +kernel
theorem dX12_init_122 : decode cX12_init 122 = .ok (.putfield 53, 3) := by decide +kernel
theorem dX12_init_125 : decode cX12_init 125 = .ok (.aload_n 0, 1) := by decide +kernel
theorem dX12_init_126 : decode cX12_init 126 = .ok (.sipush 1200, 3) := by decide +kernel
theorem dX12_init_129 : decode cX12_init 129 = .ok (.newarray .int, 2) := by decide +kernel
theorem dX12_init_131 : decode cX12_init 131 = .ok (.putfield 57, 3) := by decide +kernel
theorem dX12_init_134 : decode cX12_init 134 = .ok (.aload_n 0, 1) := by decide +kernel
theorem dX12_init_135 : decode cX12_init 135 = .ok (.sipush 1200, 3) := by decide +kernel
theorem dX12_init_138 : decode cX12_init 138 = .ok (.newarray .long, 2) := by decide +kernel
theorem dX12_init_140 : decode cX12_init 140 = .ok (.putfield 60, 3) := by decide +kernel
theorem dX12_init_143 : decode cX12_init 143 = .ok (.aload_n 0, 1) := by decide +kernel
theorem dX12_init_144 : decode cX12_init 144 = .ok (.sipush 300, 3) := by decide +kernel
theorem dX12_init_147 : decode cX12_init 147 = .ok (.newarray .int, 2) := by decide +kernel
theorem dX12_init_149 : decode cX12_init 149 = .ok (.putfield 63, 3) := by decide +kernel
theorem dX12_init_152 : decode cX12_init 152 = .ok (.aload_n 0, 1) := by decide +kernel
theorem dX12_init_153 : decode cX12_init 153 = .ok (.sipush 300, 3) := by decide +kernel
theorem dX12_init_156 : decode cX12_init 156 = .ok (.newarray .long, 2) := by decide +kernel
theorem dX12_init_158 : decode cX12_init 158 = .ok (.putfield 66, 3) := by decide +kernel
theorem dX12_init_161 : decode cX12_init 161 = .ok (.aload_n 0, 1) := by decide +kernel
theorem dX12_init_162 : decode cX12_init 162 = .ok (.sipush 600, 3) := by decide +kernel
theorem dX12_init_165 : decode cX12_init 165 = .ok (.newarray .int, 2) := by decide +kernel
theorem dX12_init_167 : decode cX12_init 167 = .ok (.putfield 69, 3) := by decide +kernel
theorem dX12_init_170 : decode cX12_init 170 = .ok (.aload_n 0, 1) := by decide +kernel
theorem dX12_init_171 : decode cX12_init 171 = .ok (.sipush 600, 3) := by decide +kernel
theorem dX12_init_174 : decode cX12_init 174 = .ok (.newarray .long, 2) := by decide +kernel
theorem dX12_init_176 : decode cX12_init 176 = .ok (.putfield 72, 3) := by decide +kernel
theorem dX12_init_179 : decode cX12_init 179 = .ok (.aload_n 0, 1) := by decide +kernel
theorem dX12_init_180 : decode cX12_init 180 = .ok (.sipush 600, 3) := by decide +kernel
theorem dX12_init_183 : decode cX12_init 183 = .ok (.newarray .long, 2) := by decide +kernel
theorem dX12_init_185 : decode cX12_init 185 = .ok (.putfield 75, 3) := by decide +kernel
theorem dX12_init_188 : decode cX12_init 188 = .ok (.iload_n 1, 1) := by decide +kernel
theorem dX12_init_189 : decode cX12_init 189 = .ok (.iconst 2, 1) := by decide +kernel
theorem dX12_init_190 : decode cX12_init 190 = .ok (.ldc 78, 2) := by decide +kernel
theorem dX12_init_192 : decode cX12_init 192 = .ok (.invokestatic 79, 3) := by decide +kernel
theorem dX12_init_195 : decode cX12_init 195 = .ok (.istore 5, 2) := by decide +kernel
theorem dX12_init_197 : decode cX12_init 197 = .ok (.iload 5, 2) := by decide +kernel
theorem dX12_init_199 : decode cX12_init 199 = .ok (.invokestatic 83, 3) := by decide +kernel
theorem dX12_init_202 : decode cX12_init 202 = .ok (.ifCond .ne 9, 3) := by decide +kernel
theorem dX12_init_205 : decode cX12_init 205 = .ok (.iinc 5 1, 3) := by decide +kernel
theorem dX12_init_208 : decode cX12_init 208 = .ok (.goto (-11), 3) := by decide +kernel
theorem dX12_init_211 : decode cX12_init 211 = .ok (.aload_n 0, 1) := by decide +kernel
theorem dX12_init_212 : decode cX12_init 212 = .ok (.iload 5, 2) := by decide +kernel
theorem dX12_init_214 : decode cX12_init 214 = .ok (.putfield 87, 3) := by decide +kernel
theorem dX12_init_217 : decode cX12_init 217 = .ok (.aload_n 0, 1) := by decide +kernel
theorem dX12_init_218 : decode cX12_init 218 = .ok (.iload_n 2, 1) := by decide +kernel
theorem dX12_init_219 : decode cX12_init 219 = .ok (.iconst 1, 1) := by decide +kernel
theorem dX12_init_220 : decode cX12_init 220 = .ok (.sipush 256, 3) := by decide +kernel
theorem dX12_init_223 : decode cX12_init 223 = .ok (.invokestatic 79, 3) := by decide +kernel
theorem dX12_init_226 : decode cX12_init 226 = .ok (.putfield 91, 3) := by decide +kernel
theorem dX12_init_229 : decode cX12_init 229 = .ok (.aload_n 0, 1) := by decide +kernel
theorem dX12_init_230 : decode cX12_init 230 = .ok (.iload_n 3, 1) := by decide +kernel
theorem dX12_init_231 : decode cX12_init 231 = .ok (.iconst 1, 1) := by decide +kernel
theorem dX12_init_232 : decode cX12_init 232 = .ok (.bipush 8, 2) := by decide +kernel
theorem dX12_init_234 : decode cX12_init 234 = .ok (.invokestatic 79, 3) := by decide +kernel
theorem dX12_init_237 : decode cX12_init 237 = .ok (.putfield 94, 3) := by decide +kernel
theorem dX12_init_240 : decode cX12_init 240 = .ok (.aload_n 0, 1) := by decide +kernel
theorem dX12_init_241 : decode cX12_init 241 = .ok (.iload 4, 2) := by decide +kernel
theorem dX12_init_243 : decode cX12_init 243 = .ok (.iconst 1, 1) := by decide +kernel
theorem dX12_init_244 : decode cX12_init 244 = .ok (.bipush 64, 2) := by decide +kernel
theorem dX12_init_246 : decode cX12_init 246 = .ok (.invokestatic 79, 3) := by decide +kernel
theorem dX12_init_249 : decode cX12_init 249 = .ok (.putfield 97, 3) := by decide +kernel
theorem dX12_init_252 : decode cX12_init 252 = .ok (.iconst 0, 1) := by decide +kernel
theorem dX12_init_253 : decode cX12_init 253 = .ok (.istore 6, 2) := by decide +kernel
theorem dX12_init_255 : decode cX12_init 255 = .ok (.iload 6, 2) := by decide +kernel
theorem dX12_init_257 : decode cX12_init 257 = .ok (.aload_n 0, 1) := by decide +kernel
theorem dX12_init_258 : decode cX12_init 258 = .ok (.getfield 94, 3) := by decide +kernel
theorem dX12_init_261 : decode cX12_init 261 = .ok (.if_icmp .ge 53, 3) := by decide +kernel
theorem dX12_init_264 : decode cX12_init 264 = .ok (.aload_n 0, 1) := by decide +kernel
theorem dX12_init_265 : decode cX12_init 265 = .ok (.getfield 7, 3) := by decide +kernel
theorem dX12_init_268 : decode cX12_init 268 = .ok (.iload 6, 2) := by decide +kernel
theorem dX12_init_270 : decode cX12_init 270 = .ok (.iconst 1, 1) := by decide +kernel
theorem dX12_init_271 : decode cX12_init 271 = .ok (.sipush 7919, 3) := by decide +kernel
theorem dX12_init_274 : decode cX12_init 274 = .ok (.iload 6, 2) := by decide +kernel
theorem dX12_init_276 : decode cX12_init 276 = .ok (.imul, 1) := by decide +kernel
theorem dX12_init_277 : decode cX12_init 277 = .ok (.bipush 13, 2) := by decide +kernel
theorem dX12_init_279 : decode cX12_init 279 = .ok (.iadd, 1) := by decide +kernel
theorem dX12_init_280 : decode cX12_init 280 = .ok (.aload_n 0, 1) := by decide +kernel
theorem dX12_init_281 : decode cX12_init 281 = .ok (.getfield 87, 3) := by decide +kernel
theorem dX12_init_284 : decode cX12_init 284 = .ok (.iconst 1, 1) := by decide +kernel
theorem dX12_init_285 : decode cX12_init 285 = .ok (.isub, 1) := by decide +kernel
theorem dX12_init_286 : decode cX12_init 286 = .ok (.irem, 1) := by decide +kernel
theorem dX12_init_287 : decode cX12_init 287 = .ok (.iadd, 1) := by decide +kernel
theorem dX12_init_288 : decode cX12_init 288 = .ok (.iastore, 1) := by decide +kernel
theorem dX12_init_289 : decode cX12_init 289 = .ok (.aload_n 0, 1) := by decide +kernel
theorem dX12_init_290 : decode cX12_init 290 = .ok (.getfield 13, 3) := by decide +kernel
theorem dX12_init_293 : decode cX12_init 293 = .ok (.iload 6, 2) := by decide +kernel
theorem dX12_init_295 : decode cX12_init 295 = .ok (.ldc 100, 2) := by decide +kernel
theorem dX12_init_297 : decode cX12_init 297 = .ok (.iload 6, 2) := by decide +kernel
theorem dX12_init_299 : decode cX12_init 299 = .ok (.imul, 1) := by decide +kernel
theorem dX12_init_300 : decode cX12_init 300 = .ok (.iconst 5, 1) := by decide +kernel
theorem dX12_init_301 : decode cX12_init 301 = .ok (.iadd, 1) := by decide +kernel
theorem dX12_init_302 : decode cX12_init 302 = .ok (.aload_n 0, 1) := by decide +kernel
theorem dX12_init_303 : decode cX12_init 303 = .ok (.getfield 87, 3) := by decide +kernel
theorem dX12_init_306 : decode cX12_init 306 = .ok (.irem, 1) := by decide +kernel
theorem dX12_init_307 : decode cX12_init 307 = .ok (.iastore, 1) := by decide +kernel
theorem dX12_init_308 : decode cX12_init 308 = .ok (.iinc 6 1, 3) := by decide +kernel
theorem dX12_init_311 : decode cX12_init 311 = .ok (.goto (-56), 3) := by decide +kernel
theorem dX12_init_314 : decode cX12_init 314 = .ok (.return_, 1) := by decide +kernel
theorem dX12_in_0 : decode cX12_in 0 = .ok (.iload_n 0, 1) := by decide +kernel
theorem dX12_in_1 : decode cX12_in 1 = .ok (.iload_n 1, 1) := by decide +kernel
theorem dX12_in_2 : decode cX12_in 2 = .ok (.if_icmp .lt 12, 3) := by decide +kernel
theorem dX12_in_5 : decode cX12_in 5 = .ok (.iload_n 0, 1) := by decide +kernel
theorem dX12_in_6 : decode cX12_in 6 = .ok (.iload_n 2, 1) := by decide +kernel
theorem dX12_in_7 : decode cX12_in 7 = .ok (.if_icmp .gt 7, 3) := by decide +kernel
theorem dX12_in_10 : decode cX12_in 10 = .ok (.iconst 1, 1) := by decide +kernel
theorem dX12_in_11 : decode cX12_in 11 = .ok (.goto 4, 3) := by decide +kernel
theorem dX12_in_14 : decode cX12_in 14 = .ok (.iconst 0, 1) := by decide +kernel
theorem dX12_in_15 : decode cX12_in 15 = .ok (.ireturn, 1) := by decide +kernel
theorem dX12_isStream_0 : decode cX12_isStream 0 = .ok (.iload_n 0, 1) := by decide +kernel
theorem dX12_isStream_1 : decode cX12_isStream 1 = .ok (.iconst 0, 1) := by decide +kernel
theorem dX12_isStream_2 : decode cX12_isStream 2 = .ok (.iconst 3, 1) := by decide +kernel
theorem dX12_isStream_3 : decode cX12_isStream 3 = .ok (.invokestatic 101, 3) := by decide +kernel
theorem dX12_isStream_6 : decode cX12_isStream 6 = .ok (.ireturn, 1) := by decide +kernel
theorem dX12_isKey_0 : decode cX12_isKey 0 = .ok (.iload_n 1, 1) := by decide +kernel
theorem dX12_isKey_1 : decode cX12_isKey 1 = .ok (.iconst 0, 1) := by decide +kernel
theorem dX12_isKey_2 : decode cX12_isKey 2 = .ok (.aload_n 0, 1) := by decide +kernel
theorem dX12_isKey_3 : decode cX12_isKey 3 = .ok (.getfield 87, 3) := by decide +kernel
theorem dX12_isKey_6 : decode cX12_isKey 6 = .ok (.iconst 1, 1) := by decide +kernel
theorem dX12_isKey_7 : decode cX12_isKey 7 = .ok (.isub, 1) := by decide +kernel
theorem dX12_isKey_8 : decode cX12_isKey 8 = .ok (.invokestatic 101, 3) := by decide +kernel
theorem dX12_isKey_11 : decode cX12_isKey 11 = .ok (.ireturn, 1) := by decide +kernel
theorem dX12_size_0 : decode cX12_size 0 = .ok (.iload_n 1, 1) := by decide +kernel
theorem dX12_size_1 : decode cX12_size 1 = .ok (.tableswitch 51 0 3 #[31, 36, 41, 46], 31) := by decide +kernel
theorem dX12_size_32 : decode cX12_size 32 = .ok (.aload_n 0, 1) := by decide +kernel
theorem dX12_size_33 : decode cX12_size 33 = .ok (.getfield 87, 3) := by decide +kernel
theorem dX12_size_36 : decode cX12_size 36 = .ok (.ireturn, 1) := by decide +kernel
theorem dX12_size_37 : decode cX12_size 37 = .ok (.aload_n 0, 1) := by decide +kernel
theorem dX12_size_38 : decode cX12_size 38 = .ok (.getfield 91, 3) := by decide +kernel
theorem dX12_size_41 : decode cX12_size 41 = .ok (.ireturn, 1) := by decide +kernel
theorem dX12_size_42 : decode cX12_size 42 = .ok (.aload_n 0, 1) := by decide +kernel
theorem dX12_size_43 : decode cX12_size 43 = .ok (.getfield 94, 3) := by decide +kernel
theorem dX12_size_46 : decode cX12_size 46 = .ok (.ireturn, 1) := by decide +kernel
theorem dX12_size_47 : decode cX12_size 47 = .ok (.aload_n 0, 1) := by decide +kernel
theorem dX12_size_48 : decode cX12_size 48 = .ok (.getfield 97, 3) := by decide +kernel
theorem dX12_size_51 : decode cX12_size 51 = .ok (.ireturn, 1) := by decide +kernel
theorem dX12_size_52 : decode cX12_size 52 = .ok (.iconst (-1), 1) := by decide +kernel
theorem dX12_size_53 : decode cX12_size 53 = .ok (.ireturn, 1) := by decide +kernel
theorem dX12_pair_0 : decode cX12_pair 0 = .ok (.aload_n 0, 1) := by decide +kernel
theorem dX12_pair_1 : decode cX12_pair 1 = .ok (.getfield 16, 3) := by decide +kernel
theorem dX12_pair_4 : decode cX12_pair 4 = .ok (.iconst 0, 1) := by decide +kernel
theorem dX12_pair_5 : decode cX12_pair 5 = .ok (.laload, 1) := by decide +kernel
theorem dX12_pair_6 : decode cX12_pair 6 = .ok (.lconst 0, 1) := by decide +kernel
theorem dX12_pair_7 : decode cX12_pair 7 = .ok (.lcmp, 1) := by decide +kernel
theorem dX12_pair_8 : decode cX12_pair 8 = .ok (.ifCond .ne 40, 3) := by decide +kernel
theorem dX12_pair_11 : decode cX12_pair 11 = .ok (.aload_n 0, 1) := by decide +kernel
theorem dX12_pair_12 : decode cX12_pair 12 = .ok (.getfield 16, 3) := by decide +kernel
theorem dX12_pair_15 : decode cX12_pair 15 = .ok (.iconst 1, 1) := by decide +kernel
theorem dX12_pair_16 : decode cX12_pair 16 = .ok (.laload, 1) := by decide +kernel
theorem dX12_pair_17 : decode cX12_pair 17 = .ok (.lconst 0, 1) := by decide +kernel
theorem dX12_pair_18 : decode cX12_pair 18 = .ok (.lcmp, 1) := by decide +kernel
theorem dX12_pair_19 : decode cX12_pair 19 = .ok (.ifCond .ne 29, 3) := by decide +kernel
theorem dX12_pair_22 : decode cX12_pair 22 = .ok (.aload_n 0, 1) := by decide +kernel
theorem dX12_pair_23 : decode cX12_pair 23 = .ok (.getfield 16, 3) := by decide +kernel
theorem dX12_pair_26 : decode cX12_pair 26 = .ok (.iconst 2, 1) := by decide +kernel
theorem dX12_pair_27 : decode cX12_pair 27 = .ok (.laload, 1) := by decide +kernel
theorem dX12_pair_28 : decode cX12_pair 28 = .ok (.lconst 0, 1) := by decide +kernel
theorem dX12_pair_29 : decode cX12_pair 29 = .ok (.lcmp, 1) := by decide +kernel
theorem dX12_pair_30 : decode cX12_pair 30 = .ok (.ifCond .ne 18, 3) := by decide +kernel
theorem dX12_pair_33 : decode cX12_pair 33 = .ok (.aload_n 0, 1) := by decide +kernel
theorem dX12_pair_34 : decode cX12_pair 34 = .ok (.getfield 16, 3) := by decide +kernel
theorem dX12_pair_37 : decode cX12_pair 37 = .ok (.iconst 3, 1) := by decide +kernel
theorem dX12_pair_38 : decode cX12_pair 38 = .ok (.laload, 1) := by decide +kernel
theorem dX12_pair_39 : decode cX12_pair 39 = .ok (.lconst 0, 1) := by decide +kernel
theorem dX12_pair_40 : decode cX12_pair 40 = .ok (.lcmp, 1) := by decide +kernel
theorem dX12_pair_41 : decode cX12_pair 41 = .ok (.ifCond .ne 7, 3) := by decide +kernel
theorem dX12_pair_44 : decode cX12_pair 44 = .ok (.iconst 1, 1) := by decide +kernel
theorem dX12_pair_45 : decode cX12_pair 45 = .ok (.goto 4, 3) := by decide +kernel
theorem dX12_pair_48 : decode cX12_pair 48 = .ok (.iconst 0, 1) := by decide +kernel
theorem dX12_pair_49 : decode cX12_pair 49 = .ok (.istore 4, 2) := by decide +kernel
theorem dX12_pair_51 : decode cX12_pair 51 = .ok (.iload_n 1, 1) := by decide +kernel
theorem dX12_pair_52 : decode cX12_pair 52 = .ok (.iconst 0, 1) := by decide +kernel
theorem dX12_pair_53 : decode cX12_pair 53 = .ok (.aload_n 0, 1) := by decide +kernel
theorem dX12_pair_54 : decode cX12_pair 54 = .ok (.getfield 94, 3) := by decide +kernel
theorem dX12_pair_57 : decode cX12_pair 57 = .ok (.iconst 1, 1) := by decide +kernel
theorem dX12_pair_58 : decode cX12_pair 58 = .ok (.isub, 1) := by decide +kernel
theorem dX12_pair_59 : decode cX12_pair 59 = .ok (.invokestatic 101, 3) := by decide +kernel
theorem dX12_pair_62 : decode cX12_pair 62 = .ok (.ifCond .eq 36, 3) := by decide +kernel
theorem dX12_pair_65 : decode cX12_pair 65 = .ok (.iload_n 2, 1) := by decide +kernel
theorem dX12_pair_66 : decode cX12_pair 66 = .ok (.iconst 1, 1) := by decide +kernel
theorem dX12_pair_67 : decode cX12_pair 67 = .ok (.aload_n 0, 1) := by decide +kernel
theorem dX12_pair_68 : decode cX12_pair 68 = .ok (.getfield 87, 3) := by decide +kernel
theorem dX12_pair_71 : decode cX12_pair 71 = .ok (.iconst 1, 1) := by decide +kernel
theorem dX12_pair_72 : decode cX12_pair 72 = .ok (.isub, 1) := by decide +kernel
theorem dX12_pair_73 : decode cX12_pair 73 = .ok (.invokestatic 101, 3) := by decide +kernel
theorem dX12_pair_76 : decode cX12_pair 76 = .ok (.ifCond .eq 22, 3) := by decide +kernel
theorem dX12_pair_79 : decode cX12_pair 79 = .ok (.iload_n 3, 1) := by decide +kernel
theorem dX12_pair_80 : decode cX12_pair 80 = .ok (.iconst 0, 1) := by decide +kernel
theorem dX12_pair_81 : decode cX12_pair 81 = .ok (.aload_n 0, 1) := by decide +kernel
theorem dX12_pair_82 : decode cX12_pair 82 = .ok (.getfield 87, 3) := by decide +kernel
theorem dX12_pair_85 : decode cX12_pair 85 = .ok (.iconst 1, 1) := by decide +kernel
theorem dX12_pair_86 : decode cX12_pair 86 = .ok (.isub, 1) := by decide +kernel
theorem dX12_pair_87 : decode cX12_pair 87 = .ok (.invokestatic 101, 3) := by decide +kernel
theorem dX12_pair_90 : decode cX12_pair 90 = .ok (.ifCond .eq 8, 3) := by decide +kernel
theorem dX12_pair_93 : decode cX12_pair 93 = .ok (.iload 4, 2) := by decide +kernel
theorem dX12_pair_95 : decode cX12_pair 95 = .ok (.ifCond .ne 5, 3) := by decide +kernel
theorem dX12_pair_98 : decode cX12_pair 98 = .ok (.iconst 0, 1) := by decide +kernel
theorem dX12_pair_99 : decode cX12_pair 99 = .ok (.ireturn, 1) := by decide +kernel
theorem dX12_pair_100 : decode cX12_pair 100 = .ok (.aload_n 0, 1) := by decide +kernel
theorem dX12_pair_101 : decode cX12_pair 101 = .ok (.getfield 7, 3) := by decide +kernel
theorem dX12_pair_104 : decode cX12_pair 104 = .ok (.iload_n 1, 1) := by decide +kernel
theorem dX12_pair_105 : decode cX12_pair 105 = .ok (.iload_n 2, 1) := by decide +kernel
theorem dX12_pair_106 : decode cX12_pair 106 = .ok (.iastore, 1) := by decide +kernel
theorem dX12_pair_107 : decode cX12_pair 107 = .ok (.aload_n 0, 1) := by decide +kernel
theorem dX12_pair_108 : decode cX12_pair 108 = .ok (.getfield 13, 3) := by decide +kernel
theorem dX12_pair_111 : decode cX12_pair 111 = .ok (.iload_n 1, 1) := by decide +kernel
theorem dX12_pair_112 : decode cX12_pair 112 = .ok (.iload_n 3, 1) := by decide +kernel
theorem dX12_pair_113 : decode cX12_pair 113 = .ok (.iastore, 1) := by decide +kernel
theorem dX12_pair_114 : decode cX12_pair 114 = .ok (.iconst 1, 1) := by decide +kernel
theorem dX12_pair_115 : decode cX12_pair 115 = .ok (.ireturn, 1) := by decide +kernel
theorem dX12_hashed_0 : decode cX12_hashed 0 = .ok (.iload_n 1, 1) := by decide +kernel
theorem dX12_hashed_1 : decode cX12_hashed 1 = .ok (.i2l, 1) := by decide +kernel
theorem dX12_hashed_2 : decode cX12_hashed 2 = .ok (.iload_n 3, 1) := by decide +kernel
theorem dX12_hashed_3 : decode cX12_hashed 3 = .ok (.i2l, 1) := by decide +kernel
theorem dX12_hashed_4 : decode cX12_hashed 4 = .ok (.lmul, 1) := by decide +kernel
theorem dX12_hashed_5 : decode cX12_hashed 5 = .ok (.iload_n 2, 1) := by decide +kernel
theorem dX12_hashed_6 : decode cX12_hashed 6 = .ok (.i2l, 1) := by decide +kernel
theorem dX12_hashed_7 : decode cX12_hashed 7 = .ok (.ladd, 1) := by decide +kernel
theorem dX12_hashed_8 : decode cX12_hashed 8 = .ok (.aload_n 0, 1) := by decide +kernel
theorem dX12_hashed_9 : decode cX12_hashed 9 = .ok (.getfield 87, 3) := by decide +kernel
theorem dX12_hashed_12 : decode cX12_hashed 12 = .ok (.i2l, 1) := by decide +kernel
theorem dX12_hashed_13 : decode cX12_hashed 13 = .ok (.lrem, 1) := by decide +kernel
theorem dX12_hashed_14 : decode cX12_hashed 14 = .ok (.aload_n 0, 1) := by decide +kernel
theorem dX12_hashed_15 : decode cX12_hashed 15 = .ok (.getfield 91, 3) := by decide +kernel
theorem dX12_hashed_18 : decode cX12_hashed 18 = .ok (.i2l, 1) := by decide +kernel
theorem dX12_hashed_19 : decode cX12_hashed 19 = .ok (.lrem, 1) := by decide +kernel
theorem dX12_hashed_20 : decode cX12_hashed 20 = .ok (.l2i, 1) := by decide +kernel
theorem dX12_hashed_21 : decode cX12_hashed 21 = .ok (.ireturn, 1) := by decide +kernel
theorem dX12_hash_0 : decode cX12_hash 0 = .ok (.iload_n 1, 1) := by decide +kernel
theorem dX12_hash_1 : decode cX12_hash 1 = .ok (.iconst 0, 1) := by decide +kernel
theorem dX12_hash_2 : decode cX12_hash 2 = .ok (.aload_n 0, 1) := by decide +kernel
theorem dX12_hash_3 : decode cX12_hash 3 = .ok (.getfield 94, 3) := by decide +kernel
theorem dX12_hash_6 : decode cX12_hash 6 = .ok (.iconst 1, 1) := by decide +kernel
theorem dX12_hash_7 : decode cX12_hash 7 = .ok (.isub, 1) := by decide +kernel
theorem dX12_hash_8 : decode cX12_hash 8 = .ok (.invokestatic 101, 3) := by decide +kernel
theorem dX12_hash_11 : decode cX12_hash 11 = .ok (.ifCond .eq 31, 3) := by decide +kernel
theorem dX12_hash_14 : decode cX12_hash 14 = .ok (.aload_n 0, 1) := by decide +kernel
theorem dX12_hash_15 : decode cX12_hash 15 = .ok (.iload_n 2, 1) := by decide +kernel
theorem dX12_hash_16 : decode cX12_hash 16 = .ok (.invokevirtual 105, 3) := by decide +kernel
theorem dX12_hash_19 : decode cX12_hash 19 = .ok (.ifCond .eq 23, 3) := by decide +kernel
theorem dX12_hash_22 : decode cX12_hash 22 = .ok (.aload_n 0, 1) := by decide +kernel
theorem dX12_hash_23 : decode cX12_hash 23 = .ok (.aload_n 0, 1) := by decide +kernel
theorem dX12_hash_24 : decode cX12_hash 24 = .ok (.getfield 7, 3) := by decide +kernel
theorem dX12_hash_27 : decode cX12_hash 27 = .ok (.iload_n 1, 1) := by decide +kernel
theorem dX12_hash_28 : decode cX12_hash 28 = .ok (.iaload, 1) := by decide +kernel
theorem dX12_hash_29 : decode cX12_hash 29 = .ok (.aload_n 0, 1) := by decide +kernel
theorem dX12_hash_30 : decode cX12_hash 30 = .ok (.getfield 13, 3) := by decide +kernel
theorem dX12_hash_33 : decode cX12_hash 33 = .ok (.iload_n 1, 1) := by decide +kernel
theorem dX12_hash_34 : decode cX12_hash 34 = .ok (.iaload, 1) := by decide +kernel
theorem dX12_hash_35 : decode cX12_hash 35 = .ok (.iload_n 2, 1) := by decide +kernel
theorem dX12_hash_36 : decode cX12_hash 36 = .ok (.invokevirtual 108, 3) := by decide +kernel
theorem dX12_hash_39 : decode cX12_hash 39 = .ok (.goto 4, 3) := by decide +kernel
theorem dX12_hash_42 : decode cX12_hash 42 = .ok (.iconst (-1), 1) := by decide +kernel
theorem dX12_hash_43 : decode cX12_hash 43 = .ok (.ireturn, 1) := by decide +kernel
theorem dX12_cellOf_0 : decode cX12_cellOf 0 = .ok (.sipush 2048, 3) := by decide +kernel
theorem dX12_cellOf_3 : decode cX12_cellOf 3 = .ok (.iload_n 1, 1) := by decide +kernel
theorem dX12_cellOf_4 : decode cX12_cellOf 4 = .ok (.imul, 1) := by decide +kernel
theorem dX12_cellOf_5 : decode cX12_cellOf 5 = .ok (.sipush 256, 3) := by decide +kernel
theorem dX12_cellOf_8 : decode cX12_cellOf 8 = .ok (.iload_n 2, 1) := by decide +kernel
theorem dX12_cellOf_9 : decode cX12_cellOf 9 = .ok (.imul, 1) := by decide +kernel
theorem dX12_cellOf_10 : decode cX12_cellOf 10 = .ok (.iadd, 1) := by decide +kernel
theorem dX12_cellOf_11 : decode cX12_cellOf 11 = .ok (.aload_n 0, 1) := by decide +kernel
theorem dX12_cellOf_12 : decode cX12_cellOf 12 = .ok (.aload_n 0, 1) := by decide +kernel
theorem dX12_cellOf_13 : decode cX12_cellOf 13 = .ok (.getfield 7, 3) := by decide +kernel
theorem dX12_cellOf_16 : decode cX12_cellOf 16 = .ok (.iload_n 2, 1) := by decide +kernel
theorem dX12_cellOf_17 : decode cX12_cellOf 17 = .ok (.iaload, 1) := by decide +kernel
theorem dX12_cellOf_18 : decode cX12_cellOf 18 = .ok (.aload_n 0, 1) := by decide +kernel
theorem dX12_cellOf_19 : decode cX12_cellOf 19 = .ok (.getfield 13, 3) := by decide +kernel
theorem dX12_cellOf_22 : decode cX12_cellOf 22 = .ok (.iload_n 2, 1) := by decide +kernel
theorem dX12_cellOf_23 : decode cX12_cellOf 23 = .ok (.iaload, 1) := by decide +kernel
theorem dX12_cellOf_24 : decode cX12_cellOf 24 = .ok (.iload_n 3, 1) := by decide +kernel
theorem dX12_cellOf_25 : decode cX12_cellOf 25 = .ok (.invokevirtual 108, 3) := by decide +kernel
theorem dX12_cellOf_28 : decode cX12_cellOf 28 = .ok (.iadd, 1) := by decide +kernel
theorem dX12_cellOf_29 : decode cX12_cellOf 29 = .ok (.ireturn, 1) := by decide +kernel
theorem dX12_leastPlain_0 : decode cX12_leastPlain 0 = .ok (.aload_n 0, 1) := by decide +kernel
theorem dX12_leastPlain_1 : decode cX12_leastPlain 1 = .ok (.getfield 20, 3) := by decide +kernel
theorem dX12_leastPlain_4 : decode cX12_leastPlain 4 = .ok (.aload_n 0, 1) := by decide +kernel
theorem dX12_leastPlain_5 : decode cX12_leastPlain 5 = .ok (.iload_n 1, 1) := by decide +kernel
theorem dX12_leastPlain_6 : decode cX12_leastPlain 6 = .ok (.iconst 0, 1) := by decide +kernel
theorem dX12_leastPlain_7 : decode cX12_leastPlain 7 = .ok (.iload_n 2, 1) := by decide +kernel
theorem dX12_leastPlain_8 : decode cX12_leastPlain 8 = .ok (.invokevirtual 111, 3) := by decide +kernel
theorem dX12_leastPlain_11 : decode cX12_leastPlain 11 = .ok (.laload, 1) := by decide +kernel
theorem dX12_leastPlain_12 : decode cX12_leastPlain 12 = .ok (.lstore_n 3, 1) := by decide +kernel
theorem dX12_leastPlain_13 : decode cX12_leastPlain 13 = .ok (.iconst 1, 1) := by decide +kernel
theorem dX12_leastPlain_14 : decode cX12_leastPlain 14 = .ok (.istore 5, 2) := by decide +kernel
theorem dX12_leastPlain_16 : decode cX12_leastPlain 16 = .ok (.iload 5, 2) := by decide +kernel
theorem dX12_leastPlain_18 : decode cX12_leastPlain 18 = .ok (.aload_n 0, 1) := by decide +kernel
theorem dX12_leastPlain_19 : decode cX12_leastPlain 19 = .ok (.getfield 94, 3) := by decide +kernel
theorem dX12_leastPlain_22 : decode cX12_leastPlain 22 = .ok (.if_icmp .ge 38, 3) := by decide +kernel
theorem dX12_leastPlain_25 : decode cX12_leastPlain 25 = .ok (.aload_n 0, 1) := by decide +kernel
theorem dX12_leastPlain_26 : decode cX12_leastPlain 26 = .ok (.getfield 20, 3) := by decide +kernel
theorem dX12_leastPlain_29 : decode cX12_leastPlain 29 = .ok (.aload_n 0, 1) := by decide +kernel
theorem dX12_leastPlain_30 : decode cX12_leastPlain 30 = .ok (.iload_n 1, 1) := by decide +kernel
theorem dX12_leastPlain_31 : decode cX12_leastPlain 31 = .ok (.iload 5, 2) := by decide +kernel
theorem dX12_leastPlain_33 : decode cX12_leastPlain 33 = .ok (.iload_n 2, 1) := by decide +kernel
theorem dX12_leastPlain_34 : decode cX12_leastPlain 34 = .ok (.invokevirtual 111, 3) := by decide +kernel
theorem dX12_leastPlain_37 : decode cX12_leastPlain 37 = .ok (.laload, 1) := by decide +kernel
theorem dX12_leastPlain_38 : decode cX12_leastPlain 38 = .ok (.lstore 6, 2) := by decide +kernel
theorem dX12_leastPlain_40 : decode cX12_leastPlain 40 = .ok (.lload 6, 2) := by decide +kernel
theorem dX12_leastPlain_42 : decode cX12_leastPlain 42 = .ok (.lload_n 3, 1) := by decide +kernel
theorem dX12_leastPlain_43 : decode cX12_leastPlain 43 = .ok (.lcmp, 1) := by decide +kernel
theorem dX12_leastPlain_44 : decode cX12_leastPlain 44 = .ok (.ifCond .ge 8, 3) := by decide +kernel
theorem dX12_leastPlain_47 : decode cX12_leastPlain 47 = .ok (.lload 6, 2) := by decide +kernel
theorem dX12_leastPlain_49 : decode cX12_leastPlain 49 = .ok (.goto 4, 3) := by decide +kernel
theorem dX12_leastPlain_52 : decode cX12_leastPlain 52 = .ok (.lload_n 3, 1) := by decide +kernel
theorem dX12_leastPlain_53 : decode cX12_leastPlain 53 = .ok (.lstore_n 3, 1) := by decide +kernel
theorem dX12_leastPlain_54 : decode cX12_leastPlain 54 = .ok (.iinc 5 1, 3) := by decide +kernel
theorem dX12_leastPlain_57 : decode cX12_leastPlain 57 = .ok (.goto (-41), 3) := by decide +kernel
theorem dX12_leastPlain_60 : decode cX12_leastPlain 60 = .ok (.lload_n 3, 1) := by decide +kernel
theorem dX12_leastPlain_61 : decode cX12_leastPlain 61 = .ok (.lreturn, 1) := by decide +kernel
theorem dX12_leastCareful_0 : decode cX12_leastCareful 0 = .ok (.aload_n 0, 1) := by decide +kernel
theorem dX12_leastCareful_1 : decode cX12_leastCareful 1 = .ok (.getfield 23, 3) := by decide +kernel
theorem dX12_leastCareful_4 : decode cX12_leastCareful 4 = .ok (.aload_n 0, 1) := by decide +kernel
theorem dX12_leastCareful_5 : decode cX12_leastCareful 5 = .ok (.iload_n 1, 1) := by decide +kernel
theorem dX12_leastCareful_6 : decode cX12_leastCareful 6 = .ok (.iconst 0, 1) := by decide +kernel
theorem dX12_leastCareful_7 : decode cX12_leastCareful 7 = .ok (.iload_n 2, 1) := by decide +kernel
theorem dX12_leastCareful_8 : decode cX12_leastCareful 8 = .ok (.invokevirtual 111, 3) := by decide +kernel
theorem dX12_leastCareful_11 : decode cX12_leastCareful 11 = .ok (.laload, 1) := by decide +kernel
theorem dX12_leastCareful_12 : decode cX12_leastCareful 12 = .ok (.lstore_n 3, 1) := by decide +kernel
theorem dX12_leastCareful_13 : decode cX12_leastCareful 13 = .ok (.iconst 1, 1) := by decide +kernel
theorem dX12_leastCareful_14 : decode cX12_leastCareful 14 = .ok (.istore 5, 2) := by decide +kernel
theorem dX12_leastCareful_16 : decode cX12_leastCareful 16 = .ok (.iload 5, 2) := by decide +kernel
theorem dX12_leastCareful_18 : decode cX12_leastCareful 18 = .ok (.aload_n 0, 1) := by decide +kernel
theorem dX12_leastCareful_19 : decode cX12_leastCareful 19 = .ok (.getfield 94, 3) := by decide +kernel
theorem dX12_leastCareful_22 : decode cX12_leastCareful 22 = .ok (.if_icmp .ge 38, 3) := by decide +kernel
theorem dX12_leastCareful_25 : decode cX12_leastCareful 25 = .ok (.aload_n 0, 1) := by decide +kernel
theorem dX12_leastCareful_26 : decode cX12_leastCareful 26 = .ok (.getfield 23, 3) := by decide +kernel
theorem dX12_leastCareful_29 : decode cX12_leastCareful 29 = .ok (.aload_n 0, 1) := by decide +kernel
theorem dX12_leastCareful_30 : decode cX12_leastCareful 30 = .ok (.iload_n 1, 1) := by decide +kernel
theorem dX12_leastCareful_31 : decode cX12_leastCareful 31 = .ok (.iload 5, 2) := by decide +kernel
theorem dX12_leastCareful_33 : decode cX12_leastCareful 33 = .ok (.iload_n 2, 1) := by decide +kernel
theorem dX12_leastCareful_34 : decode cX12_leastCareful 34 = .ok (.invokevirtual 111, 3) := by decide +kernel
theorem dX12_leastCareful_37 : decode cX12_leastCareful 37 = .ok (.laload, 1) := by decide +kernel
theorem dX12_leastCareful_38 : decode cX12_leastCareful 38 = .ok (.lstore 6, 2) := by decide +kernel
theorem dX12_leastCareful_40 : decode cX12_leastCareful 40 = .ok (.lload 6, 2) := by decide +kernel
theorem dX12_leastCareful_42 : decode cX12_leastCareful 42 = .ok (.lload_n 3, 1) := by decide +kernel
theorem dX12_leastCareful_43 : decode cX12_leastCareful 43 = .ok (.lcmp, 1) := by decide +kernel
theorem dX12_leastCareful_44 : decode cX12_leastCareful 44 = .ok (.ifCond .ge 8, 3) := by decide +kernel
theorem dX12_leastCareful_47 : decode cX12_leastCareful 47 = .ok (.lload 6, 2) := by decide +kernel
theorem dX12_leastCareful_49 : decode cX12_leastCareful 49 = .ok (.goto 4, 3) := by decide +kernel
theorem dX12_leastCareful_52 : decode cX12_leastCareful 52 = .ok (.lload_n 3, 1) := by decide +kernel
theorem dX12_leastCareful_53 : decode cX12_leastCareful 53 = .ok (.lstore_n 3, 1) := by decide +kernel
theorem dX12_leastCareful_54 : decode cX12_leastCareful 54 = .ok (.iinc 5 1, 3) := by decide +kernel
theorem dX12_leastCareful_57 : decode cX12_leastCareful 57 = .ok (.goto (-41), 3) := by decide +kernel
theorem dX12_leastCareful_60 : decode cX12_leastCareful 60 = .ok (.lload_n 3, 1) := by decide +kernel
theorem dX12_leastCareful_61 : decode cX12_leastCareful 61 = .ok (.lreturn, 1) := by decide +kernel
theorem dX12_misraAt_0 : decode cX12_misraAt 0 = .ok (.iconst (-1), 1) := by decide +kernel
theorem dX12_misraAt_1 : decode cX12_misraAt 1 = .ok (.istore_n 3, 1) := by decide +kernel
theorem dX12_misraAt_2 : decode cX12_misraAt 2 = .ok (.bipush 64, 2) := by decide +kernel
theorem dX12_misraAt_4 : decode cX12_misraAt 4 = .ok (.iload_n 1, 1) := by decide +kernel
theorem dX12_misraAt_5 : decode cX12_misraAt 5 = .ok (.imul, 1) := by decide +kernel
theorem dX12_misraAt_6 : decode cX12_misraAt 6 = .ok (.istore 4, 2) := by decide +kernel
theorem dX12_misraAt_8 : decode cX12_misraAt 8 = .ok (.iload 4, 2) := by decide +kernel
theorem dX12_misraAt_10 : decode cX12_misraAt 10 = .ok (.bipush 64, 2) := by decide +kernel
theorem dX12_misraAt_12 : decode cX12_misraAt 12 = .ok (.iload_n 1, 1) := by decide +kernel
theorem dX12_misraAt_13 : decode cX12_misraAt 13 = .ok (.imul, 1) := by decide +kernel
theorem dX12_misraAt_14 : decode cX12_misraAt 14 = .ok (.aload_n 0, 1) := by decide +kernel
theorem dX12_misraAt_15 : decode cX12_misraAt 15 = .ok (.getfield 26, 3) := by decide +kernel
theorem dX12_misraAt_18 : decode cX12_misraAt 18 = .ok (.iload_n 1, 1) := by decide +kernel
theorem dX12_misraAt_19 : decode cX12_misraAt 19 = .ok (.iaload, 1) := by decide +kernel
theorem dX12_misraAt_20 : decode cX12_misraAt 20 = .ok (.iadd, 1) := by decide +kernel
theorem dX12_misraAt_21 : decode cX12_misraAt 21 = .ok (.if_icmp .ge 27, 3) := by decide +kernel
theorem dX12_misraAt_24 : decode cX12_misraAt 24 = .ok (.aload_n 0, 1) := by decide +kernel
theorem dX12_misraAt_25 : decode cX12_misraAt 25 = .ok (.getfield 32, 3) := by decide +kernel
theorem dX12_misraAt_28 : decode cX12_misraAt 28 = .ok (.iload 4, 2) := by decide +kernel
theorem dX12_misraAt_30 : decode cX12_misraAt 30 = .ok (.iaload, 1) := by decide +kernel
theorem dX12_misraAt_31 : decode cX12_misraAt 31 = .ok (.iload_n 2, 1) := by decide +kernel
theorem dX12_misraAt_32 : decode cX12_misraAt 32 = .ok (.if_icmp .ne 8, 3) := by decide +kernel
theorem dX12_misraAt_35 : decode cX12_misraAt 35 = .ok (.iload 4, 2) := by decide +kernel
theorem dX12_misraAt_37 : decode cX12_misraAt 37 = .ok (.goto 4, 3) := by decide +kernel
theorem dX12_misraAt_40 : decode cX12_misraAt 40 = .ok (.iload_n 3, 1) := by decide +kernel
theorem dX12_misraAt_41 : decode cX12_misraAt 41 = .ok (.istore_n 3, 1) := by decide +kernel
theorem dX12_misraAt_42 : decode cX12_misraAt 42 = .ok (.iinc 4 1, 3) := by decide +kernel
theorem dX12_misraAt_45 : decode cX12_misraAt 45 = .ok (.goto (-37), 3) := by decide +kernel
theorem dX12_misraAt_48 : decode cX12_misraAt 48 = .ok (.iload_n 3, 1) := by decide +kernel
theorem dX12_misraAt_49 : decode cX12_misraAt 49 = .ok (.ireturn, 1) := by decide +kernel
theorem dX12_savingAt_0 : decode cX12_savingAt 0 = .ok (.iconst (-1), 1) := by decide +kernel
theorem dX12_savingAt_1 : decode cX12_savingAt 1 = .ok (.istore_n 3, 1) := by decide +kernel
theorem dX12_savingAt_2 : decode cX12_savingAt 2 = .ok (.bipush 64, 2) := by decide +kernel
theorem dX12_savingAt_4 : decode cX12_savingAt 4 = .ok (.iload_n 1, 1) := by decide +kernel
theorem dX12_savingAt_5 : decode cX12_savingAt 5 = .ok (.imul, 1) := by decide +kernel
theorem dX12_savingAt_6 : decode cX12_savingAt 6 = .ok (.istore 4, 2) := by decide +kernel
theorem dX12_savingAt_8 : decode cX12_savingAt 8 = .ok (.iload 4, 2) := by decide +kernel
theorem dX12_savingAt_10 : decode cX12_savingAt 10 = .ok (.bipush 64, 2) := by decide +kernel
theorem dX12_savingAt_12 : decode cX12_savingAt 12 = .ok (.iload_n 1, 1) := by decide +kernel
theorem dX12_savingAt_13 : decode cX12_savingAt 13 = .ok (.imul, 1) := by decide +kernel
theorem dX12_savingAt_14 : decode cX12_savingAt 14 = .ok (.aload_n 0, 1) := by decide +kernel
theorem dX12_savingAt_15 : decode cX12_savingAt 15 = .ok (.getfield 38, 3) := by decide +kernel
theorem dX12_savingAt_18 : decode cX12_savingAt 18 = .ok (.iload_n 1, 1) := by decide +kernel
theorem dX12_savingAt_19 : decode cX12_savingAt 19 = .ok (.iaload, 1) := by decide +kernel
theorem dX12_savingAt_20 : decode cX12_savingAt 20 = .ok (.iadd, 1) := by decide +kernel
theorem dX12_savingAt_21 : decode cX12_savingAt 21 = .ok (.if_icmp .ge 27, 3) := by decide +kernel
theorem dX12_savingAt_24 : decode cX12_savingAt 24 = .ok (.aload_n 0, 1) := by decide +kernel
theorem dX12_savingAt_25 : decode cX12_savingAt 25 = .ok (.getfield 41, 3) := by decide +kernel
theorem dX12_savingAt_28 : decode cX12_savingAt 28 = .ok (.iload 4, 2) := by decide +kernel
theorem dX12_savingAt_30 : decode cX12_savingAt 30 = .ok (.iaload, 1) := by decide +kernel
theorem dX12_savingAt_31 : decode cX12_savingAt 31 = .ok (.iload_n 2, 1) := by decide +kernel
theorem dX12_savingAt_32 : decode cX12_savingAt 32 = .ok (.if_icmp .ne 8, 3) := by decide +kernel
theorem dX12_savingAt_35 : decode cX12_savingAt 35 = .ok (.iload 4, 2) := by decide +kernel
theorem dX12_savingAt_37 : decode cX12_savingAt 37 = .ok (.goto 4, 3) := by decide +kernel
theorem dX12_savingAt_40 : decode cX12_savingAt 40 = .ok (.iload_n 3, 1) := by decide +kernel
theorem dX12_savingAt_41 : decode cX12_savingAt 41 = .ok (.istore_n 3, 1) := by decide +kernel
theorem dX12_savingAt_42 : decode cX12_savingAt 42 = .ok (.iinc 4 1, 3) := by decide +kernel
theorem dX12_savingAt_45 : decode cX12_savingAt 45 = .ok (.goto (-37), 3) := by decide +kernel
theorem dX12_savingAt_48 : decode cX12_savingAt 48 = .ok (.iload_n 3, 1) := by decide +kernel
theorem dX12_savingAt_49 : decode cX12_savingAt 49 = .ok (.ireturn, 1) := by decide +kernel
theorem dX12_keyAt_0 : decode cX12_keyAt 0 = .ok (.iconst (-1), 1) := by decide +kernel
theorem dX12_keyAt_1 : decode cX12_keyAt 1 = .ok (.istore_n 3, 1) := by decide +kernel
theorem dX12_keyAt_2 : decode cX12_keyAt 2 = .ok (.sipush 300, 3) := by decide +kernel
theorem dX12_keyAt_5 : decode cX12_keyAt 5 = .ok (.iload_n 1, 1) := by decide +kernel
theorem dX12_keyAt_6 : decode cX12_keyAt 6 = .ok (.imul, 1) := by decide +kernel
theorem dX12_keyAt_7 : decode cX12_keyAt 7 = .ok (.istore 4, 2) := by decide +kernel
theorem dX12_keyAt_9 : decode cX12_keyAt 9 = .ok (.iload 4, 2) := by decide +kernel
theorem dX12_keyAt_11 : decode cX12_keyAt 11 = .ok (.sipush 300, 3) := by decide +kernel
theorem dX12_keyAt_14 : decode cX12_keyAt 14 = .ok (.iload_n 1, 1) := by decide +kernel
theorem dX12_keyAt_15 : decode cX12_keyAt 15 = .ok (.imul, 1) := by decide +kernel
theorem dX12_keyAt_16 : decode cX12_keyAt 16 = .ok (.aload_n 0, 1) := by decide +kernel
theorem dX12_keyAt_17 : decode cX12_keyAt 17 = .ok (.getfield 50, 3) := by decide +kernel
theorem dX12_keyAt_20 : decode cX12_keyAt 20 = .ok (.iload_n 1, 1) := by decide +kernel
theorem dX12_keyAt_21 : decode cX12_keyAt 21 = .ok (.iaload, 1) := by decide +kernel
theorem dX12_keyAt_22 : decode cX12_keyAt 22 = .ok (.iadd, 1) := by decide +kernel
theorem dX12_keyAt_23 : decode cX12_keyAt 23 = .ok (.if_icmp .ge 27, 3) := by decide +kernel
theorem dX12_keyAt_26 : decode cX12_keyAt 26 = .ok (.aload_n 0, 1) := by decide +kernel
theorem dX12_keyAt_27 : decode cX12_keyAt 27 = .ok (.getfield 57, 3) := by decide +kernel
theorem dX12_keyAt_30 : decode cX12_keyAt 30 = .ok (.iload 4, 2) := by decide +kernel
theorem dX12_keyAt_32 : decode cX12_keyAt 32 = .ok (.iaload, 1) := by decide +kernel
theorem dX12_keyAt_33 : decode cX12_keyAt 33 = .ok (.iload_n 2, 1) := by decide +kernel
theorem dX12_keyAt_34 : decode cX12_keyAt 34 = .ok (.if_icmp .ne 8, 3) := by decide +kernel
theorem dX12_keyAt_37 : decode cX12_keyAt 37 = .ok (.iload 4, 2) := by decide +kernel
theorem dX12_keyAt_39 : decode cX12_keyAt 39 = .ok (.goto 4, 3) := by decide +kernel
theorem dX12_keyAt_42 : decode cX12_keyAt 42 = .ok (.iload_n 3, 1) := by decide +kernel
theorem dX12_keyAt_43 : decode cX12_keyAt 43 = .ok (.istore_n 3, 1) := by decide +kernel
theorem dX12_keyAt_44 : decode cX12_keyAt 44 = .ok (.iinc 4 1, 3) := by decide +kernel
theorem dX12_keyAt_47 : decode cX12_keyAt 47 = .ok (.goto (-38), 3) := by decide +kernel
theorem dX12_keyAt_50 : decode cX12_keyAt 50 = .ok (.iload_n 3, 1) := by decide +kernel
theorem dX12_keyAt_51 : decode cX12_keyAt 51 = .ok (.ireturn, 1) := by decide +kernel
theorem dX12_comes_0 : decode cX12_comes 0 = .ok (.aload_n 0, 1) := by decide +kernel
theorem dX12_comes_1 : decode cX12_comes 1 = .ok (.getfield 16, 3) := by decide +kernel
theorem dX12_comes_4 : decode cX12_comes 4 = .ok (.iload_n 1, 1) := by decide +kernel
theorem dX12_comes_5 : decode cX12_comes 5 = .ok (.dup2, 1) := by decide +kernel
theorem dX12_comes_6 : decode cX12_comes 6 = .ok (.laload, 1) := by decide +kernel
theorem dX12_comes_7 : decode cX12_comes 7 = .ok (.lconst 1, 1) := by decide +kernel
theorem dX12_comes_8 : decode cX12_comes 8 = .ok (.ladd, 1) := by decide +kernel
theorem dX12_comes_9 : decode cX12_comes 9 = .ok (.lastore, 1) := by decide +kernel
theorem dX12_comes_10 : decode cX12_comes 10 = .ok (.aload_n 0, 1) := by decide +kernel
theorem dX12_comes_11 : decode cX12_comes 11 = .ok (.iload_n 1, 1) := by decide +kernel
theorem dX12_comes_12 : decode cX12_comes 12 = .ok (.iload_n 2, 1) := by decide +kernel
theorem dX12_comes_13 : decode cX12_comes 13 = .ok (.invokevirtual 114, 3) := by decide +kernel
theorem dX12_comes_16 : decode cX12_comes 16 = .ok (.lconst 1, 1) := by decide +kernel
theorem dX12_comes_17 : decode cX12_comes 17 = .ok (.ladd, 1) := by decide +kernel
theorem dX12_comes_18 : decode cX12_comes 18 = .ok (.lstore_n 3, 1) := by decide +kernel
theorem dX12_comes_19 : decode cX12_comes 19 = .ok (.iconst 0, 1) := by decide +kernel
theorem dX12_comes_20 : decode cX12_comes 20 = .ok (.istore 5, 2) := by decide +kernel
theorem dX12_comes_22 : decode cX12_comes 22 = .ok (.iload 5, 2) := by decide +kernel
theorem dX12_comes_24 : decode cX12_comes 24 = .ok (.aload_n 0, 1) := by decide +kernel
theorem dX12_comes_25 : decode cX12_comes 25 = .ok (.getfield 94, 3) := by decide +kernel
theorem dX12_comes_28 : decode cX12_comes 28 = .ok (.if_icmp .ge 60, 3) := by decide +kernel
theorem dX12_comes_31 : decode cX12_comes 31 = .ok (.aload_n 0, 1) := by decide +kernel
theorem dX12_comes_32 : decode cX12_comes 32 = .ok (.iload_n 1, 1) := by decide +kernel
theorem dX12_comes_33 : decode cX12_comes 33 = .ok (.iload 5, 2) := by decide +kernel
theorem dX12_comes_35 : decode cX12_comes 35 = .ok (.iload_n 2, 1) := by decide +kernel
theorem dX12_comes_36 : decode cX12_comes 36 = .ok (.invokevirtual 111, 3) := by decide +kernel
theorem dX12_comes_39 : decode cX12_comes 39 = .ok (.istore 6, 2) := by decide +kernel
theorem dX12_comes_41 : decode cX12_comes 41 = .ok (.aload_n 0, 1) := by decide +kernel
theorem dX12_comes_42 : decode cX12_comes 42 = .ok (.getfield 20, 3) := by decide +kernel
theorem dX12_comes_45 : decode cX12_comes 45 = .ok (.iload 6, 2) := by decide +kernel
theorem dX12_comes_47 : decode cX12_comes 47 = .ok (.dup2, 1) := by decide +kernel
theorem dX12_comes_48 : decode cX12_comes 48 = .ok (.laload, 1) := by decide +kernel
theorem dX12_comes_49 : decode cX12_comes 49 = .ok (.lconst 1, 1) := by decide +kernel
theorem dX12_comes_50 : decode cX12_comes 50 = .ok (.ladd, 1) := by decide +kernel
theorem dX12_comes_51 : decode cX12_comes 51 = .ok (.lastore, 1) := by decide +kernel
theorem dX12_comes_52 : decode cX12_comes 52 = .ok (.aload_n 0, 1) := by decide +kernel
theorem dX12_comes_53 : decode cX12_comes 53 = .ok (.getfield 23, 3) := by decide +kernel
theorem dX12_comes_56 : decode cX12_comes 56 = .ok (.iload 6, 2) := by decide +kernel
theorem dX12_comes_58 : decode cX12_comes 58 = .ok (.aload_n 0, 1) := by decide +kernel
theorem dX12_comes_59 : decode cX12_comes 59 = .ok (.getfield 23, 3) := by decide +kernel
theorem dX12_comes_62 : decode cX12_comes 62 = .ok (.iload 6, 2) := by decide +kernel
theorem dX12_comes_64 : decode cX12_comes 64 = .ok (.laload, 1) := by decide +kernel
theorem dX12_comes_65 : decode cX12_comes 65 = .ok (.lload_n 3, 1) := by decide +kernel
theorem dX12_comes_66 : decode cX12_comes 66 = .ok (.lcmp, 1) := by decide +kernel
theorem dX12_comes_67 : decode cX12_comes 67 = .ok (.ifCond .ge 7, 3) := by decide +kernel
theorem dX12_comes_70 : decode cX12_comes 70 = .ok (.lload_n 3, 1) := by decide +kernel
theorem dX12_comes_71 : decode cX12_comes 71 = .ok (.goto 10, 3) := by decide +kernel
theorem dX12_comes_74 : decode cX12_comes 74 = .ok (.aload_n 0, 1) := by decide +kernel
theorem dX12_comes_75 : decode cX12_comes 75 = .ok (.getfield 23, 3) := by decide +kernel
theorem dX12_comes_78 : decode cX12_comes 78 = .ok (.iload 6, 2) := by decide +kernel
theorem dX12_comes_80 : decode cX12_comes 80 = .ok (.laload, 1) := by decide +kernel
theorem dX12_comes_81 : decode cX12_comes 81 = .ok (.lastore, 1) := by decide +kernel
theorem dX12_comes_82 : decode cX12_comes 82 = .ok (.iinc 5 1, 3) := by decide +kernel
theorem dX12_comes_85 : decode cX12_comes 85 = .ok (.goto (-63), 3) := by decide +kernel
theorem dX12_comes_88 : decode cX12_comes 88 = .ok (.aload_n 0, 1) := by decide +kernel
theorem dX12_comes_89 : decode cX12_comes 89 = .ok (.iload_n 1, 1) := by decide +kernel
theorem dX12_comes_90 : decode cX12_comes 90 = .ok (.iload_n 2, 1) := by decide +kernel
theorem dX12_comes_91 : decode cX12_comes 91 = .ok (.invokevirtual 118, 3) := by decide +kernel
theorem dX12_comes_94 : decode cX12_comes 94 = .ok (.aload_n 0, 1) := by decide +kernel
theorem dX12_comes_95 : decode cX12_comes 95 = .ok (.iload_n 1, 1) := by decide +kernel
theorem dX12_comes_96 : decode cX12_comes 96 = .ok (.iload_n 2, 1) := by decide +kernel
theorem dX12_comes_97 : decode cX12_comes 97 = .ok (.invokevirtual 122, 3) := by decide +kernel
theorem dX12_comes_100 : decode cX12_comes 100 = .ok (.aload_n 0, 1) := by decide +kernel
theorem dX12_comes_101 : decode cX12_comes 101 = .ok (.iload_n 1, 1) := by decide +kernel
theorem dX12_comes_102 : decode cX12_comes 102 = .ok (.iload_n 2, 1) := by decide +kernel
theorem dX12_comes_103 : decode cX12_comes 103 = .ok (.lconst 1, 1) := by decide +kernel
theorem dX12_comes_104 : decode cX12_comes 104 = .ok (.invokevirtual 125, 3) := by decide +kernel
theorem dX12_comes_107 : decode cX12_comes 107 = .ok (.return_, 1) := by decide +kernel
theorem dX12_comesMisra_0 : decode cX12_comesMisra 0 = .ok (.aload_n 0, 1) := by decide +kernel
theorem dX12_comesMisra_1 : decode cX12_comesMisra 1 = .ok (.iload_n 1, 1) := by decide +kernel
theorem dX12_comesMisra_2 : decode cX12_comesMisra 2 = .ok (.iload_n 2, 1) := by decide +kernel
theorem dX12_comesMisra_3 : decode cX12_comesMisra 3 = .ok (.invokevirtual 129, 3) := by decide +kernel
theorem dX12_comesMisra_6 : decode cX12_comesMisra 6 = .ok (.istore_n 3, 1) := by decide +kernel
theorem dX12_comesMisra_7 : decode cX12_comesMisra 7 = .ok (.iload_n 3, 1) := by decide +kernel
theorem dX12_comesMisra_8 : decode cX12_comesMisra 8 = .ok (.ifCond .lt 14, 3) := by decide +kernel
theorem dX12_comesMisra_11 : decode cX12_comesMisra 11 = .ok (.aload_n 0, 1) := by decide +kernel
theorem dX12_comesMisra_12 : decode cX12_comesMisra 12 = .ok (.getfield 35, 3) := by decide +kernel
theorem dX12_comesMisra_15 : decode cX12_comesMisra 15 = .ok (.iload_n 3, 1) := by decide +kernel
theorem dX12_comesMisra_16 : decode cX12_comesMisra 16 = .ok (.dup2, 1) := by decide +kernel
theorem dX12_comesMisra_17 : decode cX12_comesMisra 17 = .ok (.laload, 1) := by decide +kernel
theorem dX12_comesMisra_18 : decode cX12_comesMisra 18 = .ok (.lconst 1, 1) := by decide +kernel
theorem dX12_comesMisra_19 : decode cX12_comesMisra 19 = .ok (.ladd, 1) := by decide +kernel
theorem dX12_comesMisra_20 : decode cX12_comesMisra 20 = .ok (.lastore, 1) := by decide +kernel
theorem dX12_comesMisra_21 : decode cX12_comesMisra 21 = .ok (.return_, 1) := by decide +kernel
theorem dX12_comesMisra_22 : decode cX12_comesMisra 22 = .ok (.aload_n 0, 1) := by decide +kernel
theorem dX12_comesMisra_23 : decode cX12_comesMisra 23 = .ok (.getfield 26, 3) := by decide +kernel
theorem dX12_comesMisra_26 : decode cX12_comesMisra 26 = .ok (.iload_n 1, 1) := by decide +kernel
theorem dX12_comesMisra_27 : decode cX12_comesMisra 27 = .ok (.iaload, 1) := by decide +kernel
theorem dX12_comesMisra_28 : decode cX12_comesMisra 28 = .ok (.aload_n 0, 1) := by decide +kernel
theorem dX12_comesMisra_29 : decode cX12_comesMisra 29 = .ok (.getfield 97, 3) := by decide +kernel
theorem dX12_comesMisra_32 : decode cX12_comesMisra 32 = .ok (.if_icmp .ge 48, 3) := by decide +kernel
theorem dX12_comesMisra_35 : decode cX12_comesMisra 35 = .ok (.aload_n 0, 1) := by decide +kernel
theorem dX12_comesMisra_36 : decode cX12_comesMisra 36 = .ok (.getfield 32, 3) := by decide +kernel
theorem dX12_comesMisra_39 : decode cX12_comesMisra 39 = .ok (.bipush 64, 2) := by decide +kernel
theorem dX12_comesMisra_41 : decode cX12_comesMisra 41 = .ok (.iload_n 1, 1) := by decide +kernel
theorem dX12_comesMisra_42 : decode cX12_comesMisra 42 = .ok (.imul, 1) := by decide +kernel
theorem dX12_comesMisra_43 : decode cX12_comesMisra 43 = .ok (.aload_n 0, 1) := by decide +kernel
theorem dX12_comesMisra_44 : decode cX12_comesMisra 44 = .ok (.getfield 26, 3) := by decide +kernel
theorem dX12_comesMisra_47 : decode cX12_comesMisra 47 = .ok (.iload_n 1, 1) := by decide +kernel
theorem dX12_comesMisra_48 : decode cX12_comesMisra 48 = .ok (.iaload, 1) := by decide +kernel
theorem dX12_comesMisra_49 : decode cX12_comesMisra 49 = .ok (.iadd, 1) := by decide +kernel
theorem dX12_comesMisra_50 : decode cX12_comesMisra 50 = .ok (.iload_n 2, 1) := by decide +kernel
theorem dX12_comesMisra_51 : decode cX12_comesMisra 51 = .ok (.iastore, 1) := by decide +kernel
theorem dX12_comesMisra_52 : decode cX12_comesMisra 52 = .ok (.aload_n 0, 1) := by decide +kernel
theorem dX12_comesMisra_53 : decode cX12_comesMisra 53 = .ok (.getfield 35, 3) := by decide +kernel
theorem dX12_comesMisra_56 : decode cX12_comesMisra 56 = .ok (.bipush 64, 2) := by decide +kernel
theorem dX12_comesMisra_58 : decode cX12_comesMisra 58 = .ok (.iload_n 1, 1) := by decide +kernel
theorem dX12_comesMisra_59 : decode cX12_comesMisra 59 = .ok (.imul, 1) := by decide +kernel
theorem dX12_comesMisra_60 : decode cX12_comesMisra 60 = .ok (.aload_n 0, 1) := by decide +kernel
theorem dX12_comesMisra_61 : decode cX12_comesMisra 61 = .ok (.getfield 26, 3) := by decide +kernel
theorem dX12_comesMisra_64 : decode cX12_comesMisra 64 = .ok (.iload_n 1, 1) := by decide +kernel
theorem dX12_comesMisra_65 : decode cX12_comesMisra 65 = .ok (.iaload, 1) := by decide +kernel
theorem dX12_comesMisra_66 : decode cX12_comesMisra 66 = .ok (.iadd, 1) := by decide +kernel
theorem dX12_comesMisra_67 : decode cX12_comesMisra 67 = .ok (.lconst 1, 1) := by decide +kernel
theorem dX12_comesMisra_68 : decode cX12_comesMisra 68 = .ok (.lastore, 1) := by decide +kernel
theorem dX12_comesMisra_69 : decode cX12_comesMisra 69 = .ok (.aload_n 0, 1) := by decide +kernel
theorem dX12_comesMisra_70 : decode cX12_comesMisra 70 = .ok (.getfield 26, 3) := by decide +kernel
theorem dX12_comesMisra_73 : decode cX12_comesMisra 73 = .ok (.iload_n 1, 1) := by decide +kernel
theorem dX12_comesMisra_74 : decode cX12_comesMisra 74 = .ok (.dup2, 1) := by decide +kernel
theorem dX12_comesMisra_75 : decode cX12_comesMisra 75 = .ok (.iaload, 1) := by decide +kernel
theorem dX12_comesMisra_76 : decode cX12_comesMisra 76 = .ok (.iconst 1, 1) := by decide +kernel
theorem dX12_comesMisra_77 : decode cX12_comesMisra 77 = .ok (.iadd, 1) := by decide +kernel
theorem dX12_comesMisra_78 : decode cX12_comesMisra 78 = .ok (.iastore, 1) := by decide +kernel
theorem dX12_comesMisra_79 : decode cX12_comesMisra 79 = .ok (.return_, 1) := by decide +kernel
theorem dX12_comesMisra_80 : decode cX12_comesMisra 80 = .ok (.aload_n 0, 1) := by decide +kernel
theorem dX12_comesMisra_81 : decode cX12_comesMisra 81 = .ok (.iload_n 1, 1) := by decide +kernel
theorem dX12_comesMisra_82 : decode cX12_comesMisra 82 = .ok (.lconst 1, 1) := by decide +kernel
theorem dX12_comesMisra_83 : decode cX12_comesMisra 83 = .ok (.invokevirtual 133, 3) := by decide +kernel
theorem dX12_comesMisra_86 : decode cX12_comesMisra 86 = .ok (.return_, 1) := by decide +kernel
theorem dX12_takes_0 : decode cX12_takes 0 = .ok (.iconst 0, 1) := by decide +kernel
theorem dX12_takes_1 : decode cX12_takes 1 = .ok (.istore 4, 2) := by decide +kernel
theorem dX12_takes_3 : decode cX12_takes 3 = .ok (.bipush 64, 2) := by decide +kernel
theorem dX12_takes_5 : decode cX12_takes 5 = .ok (.iload_n 1, 1) := by decide +kernel
theorem dX12_takes_6 : decode cX12_takes 6 = .ok (.imul, 1) := by decide +kernel
theorem dX12_takes_7 : decode cX12_takes 7 = .ok (.istore 5, 2) := by decide +kernel
theorem dX12_takes_9 : decode cX12_takes 9 = .ok (.iload 5, 2) := by decide +kernel
theorem dX12_takes_11 : decode cX12_takes 11 = .ok (.bipush 64, 2) := by decide +kernel
theorem dX12_takes_13 : decode cX12_takes 13 = .ok (.iload_n 1, 1) := by decide +kernel
theorem dX12_takes_14 : decode cX12_takes 14 = .ok (.imul, 1) := by decide +kernel
theorem dX12_takes_15 : decode cX12_takes 15 = .ok (.aload_n 0, 1) := by decide +kernel
theorem dX12_takes_16 : decode cX12_takes 16 = .ok (.getfield 26, 3) := by decide +kernel
theorem dX12_takes_19 : decode cX12_takes 19 = .ok (.iload_n 1, 1) := by decide +kernel
theorem dX12_takes_20 : decode cX12_takes 20 = .ok (.iaload, 1) := by decide +kernel
theorem dX12_takes_21 : decode cX12_takes 21 = .ok (.iadd, 1) := by decide +kernel
theorem dX12_takes_22 : decode cX12_takes 22 = .ok (.if_icmp .ge 64, 3) := by decide +kernel
theorem dX12_takes_25 : decode cX12_takes 25 = .ok (.aload_n 0, 1) := by decide +kernel
theorem dX12_takes_26 : decode cX12_takes 26 = .ok (.getfield 35, 3) := by decide +kernel
theorem dX12_takes_29 : decode cX12_takes 29 = .ok (.iload 5, 2) := by decide +kernel
theorem dX12_takes_31 : decode cX12_takes 31 = .ok (.laload, 1) := by decide +kernel
theorem dX12_takes_32 : decode cX12_takes 32 = .ok (.lload_n 2, 1) := by decide +kernel
theorem dX12_takes_33 : decode cX12_takes 33 = .ok (.lcmp, 1) := by decide +kernel
theorem dX12_takes_34 : decode cX12_takes 34 = .ok (.ifCond .le 46, 3) := by decide +kernel
theorem dX12_takes_37 : decode cX12_takes 37 = .ok (.aload_n 0, 1) := by decide +kernel
theorem dX12_takes_38 : decode cX12_takes 38 = .ok (.getfield 32, 3) := by decide +kernel
theorem dX12_takes_41 : decode cX12_takes 41 = .ok (.bipush 64, 2) := by decide +kernel
theorem dX12_takes_43 : decode cX12_takes 43 = .ok (.iload_n 1, 1) := by decide +kernel
theorem dX12_takes_44 : decode cX12_takes 44 = .ok (.imul, 1) := by decide +kernel
theorem dX12_takes_45 : decode cX12_takes 45 = .ok (.iload 4, 2) := by decide +kernel
theorem dX12_takes_47 : decode cX12_takes 47 = .ok (.iadd, 1) := by decide +kernel
theorem dX12_takes_48 : decode cX12_takes 48 = .ok (.aload_n 0, 1) := by decide +kernel
theorem dX12_takes_49 : decode cX12_takes 49 = .ok (.getfield 32, 3) := by decide +kernel
theorem dX12_takes_52 : decode cX12_takes 52 = .ok (.iload 5, 2) := by decide +kernel
theorem dX12_takes_54 : decode cX12_takes 54 = .ok (.iaload, 1) := by decide +kernel
theorem dX12_takes_55 : decode cX12_takes 55 = .ok (.iastore, 1) := by decide +kernel
theorem dX12_takes_56 : decode cX12_takes 56 = .ok (.aload_n 0, 1) := by decide +kernel
theorem dX12_takes_57 : decode cX12_takes 57 = .ok (.getfield 35, 3) := by decide +kernel
theorem dX12_takes_60 : decode cX12_takes 60 = .ok (.bipush 64, 2) := by decide +kernel
theorem dX12_takes_62 : decode cX12_takes 62 = .ok (.iload_n 1, 1) := by decide +kernel
theorem dX12_takes_63 : decode cX12_takes 63 = .ok (.imul, 1) := by decide +kernel
theorem dX12_takes_64 : decode cX12_takes 64 = .ok (.iload 4, 2) := by decide +kernel
theorem dX12_takes_66 : decode cX12_takes 66 = .ok (.iadd, 1) := by decide +kernel
theorem dX12_takes_67 : decode cX12_takes 67 = .ok (.aload_n 0, 1) := by decide +kernel
theorem dX12_takes_68 : decode cX12_takes 68 = .ok (.getfield 35, 3) := by decide +kernel
theorem dX12_takes_71 : decode cX12_takes 71 = .ok (.iload 5, 2) := by decide +kernel
theorem dX12_takes_73 : decode cX12_takes 73 = .ok (.laload, 1) := by decide +kernel
theorem dX12_takes_74 : decode cX12_takes 74 = .ok (.lload_n 2, 1) := by decide +kernel
theorem dX12_takes_75 : decode cX12_takes 75 = .ok (.lsub, 1) := by decide +kernel
theorem dX12_takes_76 : decode cX12_takes 76 = .ok (.lastore, 1) := by decide +kernel
theorem dX12_takes_77 : decode cX12_takes 77 = .ok (.iinc 4 1, 3) := by decide +kernel
theorem dX12_takes_80 : decode cX12_takes 80 = .ok (.iinc 5 1, 3) := by decide +kernel
theorem dX12_takes_83 : decode cX12_takes 83 = .ok (.goto (-74), 3) := by decide +kernel
theorem dX12_takes_86 : decode cX12_takes 86 = .ok (.aload_n 0, 1) := by decide +kernel
theorem dX12_takes_87 : decode cX12_takes 87 = .ok (.getfield 26, 3) := by decide +kernel
theorem dX12_takes_90 : decode cX12_takes 90 = .ok (.iload_n 1, 1) := by decide +kernel
theorem dX12_takes_91 : decode cX12_takes 91 = .ok (.iload 4, 2) := by decide +kernel
theorem dX12_takes_93 : decode cX12_takes 93 = .ok (.iastore, 1) := by decide +kernel
theorem dX12_takes_94 : decode cX12_takes 94 = .ok (.aload_n 0, 1) := by decide +kernel
theorem dX12_takes_95 : decode cX12_takes 95 = .ok (.getfield 29, 3) := by decide +kernel
theorem dX12_takes_98 : decode cX12_takes 98 = .ok (.iload_n 1, 1) := by decide +kernel
theorem dX12_takes_99 : decode cX12_takes 99 = .ok (.dup2, 1) := by decide +kernel
theorem dX12_takes_100 : decode cX12_takes 100 = .ok (.laload, 1) := by decide +kernel
theorem dX12_takes_101 : decode cX12_takes 101 = .ok (.lload_n 2, 1) := by decide +kernel
theorem dX12_takes_102 : decode cX12_takes 102 = .ok (.ladd, 1) := by decide +kernel
theorem dX12_takes_103 : decode cX12_takes 103 = .ok (.lastore, 1) := by decide +kernel
theorem dX12_takes_104 : decode cX12_takes 104 = .ok (.return_, 1) := by decide +kernel
theorem dX12_comesSaving_0 : decode cX12_comesSaving 0 = .ok (.aload_n 0, 1) := by decide +kernel
theorem dX12_comesSaving_1 : decode cX12_comesSaving 1 = .ok (.iload_n 1, 1) := by decide +kernel
theorem dX12_comesSaving_2 : decode cX12_comesSaving 2 = .ok (.iload_n 2, 1) := by decide +kernel
theorem dX12_comesSaving_3 : decode cX12_comesSaving 3 = .ok (.invokevirtual 137, 3) := by decide +kernel
theorem dX12_comesSaving_6 : decode cX12_comesSaving 6 = .ok (.istore_n 3, 1) := by decide +kernel
theorem dX12_comesSaving_7 : decode cX12_comesSaving 7 = .ok (.lconst 1, 1) := by decide +kernel
theorem dX12_comesSaving_8 : decode cX12_comesSaving 8 = .ok (.lstore 4, 2) := by decide +kernel
theorem dX12_comesSaving_10 : decode cX12_comesSaving 10 = .ok (.lconst 0, 1) := by decide +kernel
theorem dX12_comesSaving_11 : decode cX12_comesSaving 11 = .ok (.lstore 6, 2) := by decide +kernel
theorem dX12_comesSaving_13 : decode cX12_comesSaving 13 = .ok (.iload_n 3, 1) := by decide +kernel
theorem dX12_comesSaving_14 : decode cX12_comesSaving 14 = .ok (.ifCond .ge 41, 3) := by decide +kernel
theorem dX12_comesSaving_17 : decode cX12_comesSaving 17 = .ok (.aload_n 0, 1) := by decide +kernel
theorem dX12_comesSaving_18 : decode cX12_comesSaving 18 = .ok (.getfield 38, 3) := by decide +kernel
theorem dX12_comesSaving_21 : decode cX12_comesSaving 21 = .ok (.iload_n 1, 1) := by decide +kernel
theorem dX12_comesSaving_22 : decode cX12_comesSaving 22 = .ok (.iaload, 1) := by decide +kernel
theorem dX12_comesSaving_23 : decode cX12_comesSaving 23 = .ok (.aload_n 0, 1) := by decide +kernel
theorem dX12_comesSaving_24 : decode cX12_comesSaving 24 = .ok (.getfield 97, 3) := by decide +kernel
theorem dX12_comesSaving_27 : decode cX12_comesSaving 27 = .ok (.if_icmp .ge 28, 3) := by decide +kernel
theorem dX12_comesSaving_30 : decode cX12_comesSaving 30 = .ok (.bipush 64, 2) := by decide +kernel
theorem dX12_comesSaving_32 : decode cX12_comesSaving 32 = .ok (.iload_n 1, 1) := by decide +kernel
theorem dX12_comesSaving_33 : decode cX12_comesSaving 33 = .ok (.imul, 1) := by decide +kernel
theorem dX12_comesSaving_34 : decode cX12_comesSaving 34 = .ok (.aload_n 0, 1) := by decide +kernel
theorem dX12_comesSaving_35 : decode cX12_comesSaving 35 = .ok (.getfield 38, 3) := by decide +kernel
theorem dX12_comesSaving_38 : decode cX12_comesSaving 38 = .ok (.iload_n 1, 1) := by decide +kernel
theorem dX12_comesSaving_39 : decode cX12_comesSaving 39 = .ok (.iaload, 1) := by decide +kernel
theorem dX12_comesSaving_40 : decode cX12_comesSaving 40 = .ok (.iadd, 1) := by decide +kernel
theorem dX12_comesSaving_41 : decode cX12_comesSaving 41 = .ok (.istore_n 3, 1) := by decide +kernel
theorem dX12_comesSaving_42 : decode cX12_comesSaving 42 = .ok (.aload_n 0, 1) := by decide +kernel
theorem dX12_comesSaving_43 : decode cX12_comesSaving 43 = .ok (.getfield 38, 3) := by decide +kernel
theorem dX12_comesSaving_46 : decode cX12_comesSaving 46 = .ok (.iload_n 1, 1) := by decide +kernel
theorem dX12_comesSaving_47 : decode cX12_comesSaving 47 = .ok (.dup2, 1) := by decide +kernel
theorem dX12_comesSaving_48 : decode cX12_comesSaving 48 = .ok (.iaload, 1) := by decide +kernel
theorem dX12_comesSaving_49 : decode cX12_comesSaving 49 = .ok (.iconst 1, 1) := by decide +kernel
theorem dX12_comesSaving_50 : decode cX12_comesSaving 50 = .ok (.iadd, 1) := by decide +kernel
theorem dX12_comesSaving_51 : decode cX12_comesSaving 51 = .ok (.iastore, 1) := by decide +kernel
theorem dX12_comesSaving_52 : decode cX12_comesSaving 52 = .ok (.goto 51, 3) := by decide +kernel
theorem dX12_comesSaving_55 : decode cX12_comesSaving 55 = .ok (.iload_n 3, 1) := by decide +kernel
theorem dX12_comesSaving_56 : decode cX12_comesSaving 56 = .ok (.ifCond .ge 29, 3) := by decide +kernel
theorem dX12_comesSaving_59 : decode cX12_comesSaving 59 = .ok (.bipush 64, 2) := by decide +kernel
theorem dX12_comesSaving_61 : decode cX12_comesSaving 61 = .ok (.iload_n 1, 1) := by decide +kernel
theorem dX12_comesSaving_62 : decode cX12_comesSaving 62 = .ok (.imul, 1) := by decide +kernel
theorem dX12_comesSaving_63 : decode cX12_comesSaving 63 = .ok (.istore_n 3, 1) := by decide +kernel
theorem dX12_comesSaving_64 : decode cX12_comesSaving 64 = .ok (.aload_n 0, 1) := by decide +kernel
theorem dX12_comesSaving_65 : decode cX12_comesSaving 65 = .ok (.getfield 44, 3) := by decide +kernel
theorem dX12_comesSaving_68 : decode cX12_comesSaving 68 = .ok (.iload_n 3, 1) := by decide +kernel
theorem dX12_comesSaving_69 : decode cX12_comesSaving 69 = .ok (.laload, 1) := by decide +kernel
theorem dX12_comesSaving_70 : decode cX12_comesSaving 70 = .ok (.lstore 6, 2) := by decide +kernel
theorem dX12_comesSaving_72 : decode cX12_comesSaving 72 = .ok (.aload_n 0, 1) := by decide +kernel
theorem dX12_comesSaving_73 : decode cX12_comesSaving 73 = .ok (.getfield 44, 3) := by decide +kernel
theorem dX12_comesSaving_76 : decode cX12_comesSaving 76 = .ok (.iload_n 3, 1) := by decide +kernel
theorem dX12_comesSaving_77 : decode cX12_comesSaving 77 = .ok (.laload, 1) := by decide +kernel
theorem dX12_comesSaving_78 : decode cX12_comesSaving 78 = .ok (.lconst 1, 1) := by decide +kernel
theorem dX12_comesSaving_79 : decode cX12_comesSaving 79 = .ok (.ladd, 1) := by decide +kernel
theorem dX12_comesSaving_80 : decode cX12_comesSaving 80 = .ok (.lstore 4, 2) := by decide +kernel
theorem dX12_comesSaving_82 : decode cX12_comesSaving 82 = .ok (.goto 21, 3) := by decide +kernel
theorem dX12_comesSaving_85 : decode cX12_comesSaving 85 = .ok (.aload_n 0, 1) := by decide +kernel
theorem dX12_comesSaving_86 : decode cX12_comesSaving 86 = .ok (.getfield 47, 3) := by decide +kernel
theorem dX12_comesSaving_89 : decode cX12_comesSaving 89 = .ok (.iload_n 3, 1) := by decide +kernel
theorem dX12_comesSaving_90 : decode cX12_comesSaving 90 = .ok (.laload, 1) := by decide +kernel
theorem dX12_comesSaving_91 : decode cX12_comesSaving 91 = .ok (.lstore 6, 2) := by decide +kernel
theorem dX12_comesSaving_93 : decode cX12_comesSaving 93 = .ok (.aload_n 0, 1) := by decide +kernel
theorem dX12_comesSaving_94 : decode cX12_comesSaving 94 = .ok (.getfield 44, 3) := by decide +kernel
theorem dX12_comesSaving_97 : decode cX12_comesSaving 97 = .ok (.iload_n 3, 1) := by decide +kernel
theorem dX12_comesSaving_98 : decode cX12_comesSaving 98 = .ok (.laload, 1) := by decide +kernel
theorem dX12_comesSaving_99 : decode cX12_comesSaving 99 = .ok (.lconst 1, 1) := by decide +kernel
theorem dX12_comesSaving_100 : decode cX12_comesSaving 100 = .ok (.ladd, 1) := by decide +kernel
theorem dX12_comesSaving_101 : decode cX12_comesSaving 101 = .ok (.lstore 4, 2) := by decide +kernel
theorem dX12_comesSaving_103 : decode cX12_comesSaving 103 = .ok (.iload_n 3, 1) := by decide +kernel
theorem dX12_comesSaving_104 : decode cX12_comesSaving 104 = .ok (.istore 8, 2) := by decide +kernel
theorem dX12_comesSaving_106 : decode cX12_comesSaving 106 = .ok (.iload 8, 2) := by decide +kernel
theorem dX12_comesSaving_108 : decode cX12_comesSaving 108 = .ok (.iconst 1, 1) := by decide +kernel
theorem dX12_comesSaving_109 : decode cX12_comesSaving 109 = .ok (.iadd, 1) := by decide +kernel
theorem dX12_comesSaving_110 : decode cX12_comesSaving 110 = .ok (.bipush 64, 2) := by decide +kernel
theorem dX12_comesSaving_112 : decode cX12_comesSaving 112 = .ok (.iload_n 1, 1) := by decide +kernel
theorem dX12_comesSaving_113 : decode cX12_comesSaving 113 = .ok (.imul, 1) := by decide +kernel
theorem dX12_comesSaving_114 : decode cX12_comesSaving 114 = .ok (.aload_n 0, 1) := by decide +kernel
theorem dX12_comesSaving_115 : decode cX12_comesSaving 115 = .ok (.getfield 38, 3) := by decide +kernel
theorem dX12_comesSaving_118 : decode cX12_comesSaving 118 = .ok (.iload_n 1, 1) := by decide +kernel
theorem dX12_comesSaving_119 : decode cX12_comesSaving 119 = .ok (.iaload, 1) := by decide +kernel
theorem dX12_comesSaving_120 : decode cX12_comesSaving 120 = .ok (.iadd, 1) := by decide +kernel
theorem dX12_comesSaving_121 : decode cX12_comesSaving 121 = .ok (.if_icmp .ge 34, 3) := by decide +kernel
theorem dX12_comesSaving_124 : decode cX12_comesSaving 124 = .ok (.aload_n 0, 1) := by decide +kernel
theorem dX12_comesSaving_125 : decode cX12_comesSaving 125 = .ok (.getfield 44, 3) := by decide +kernel
theorem dX12_comesSaving_128 : decode cX12_comesSaving 128 = .ok (.iload 8, 2) := by decide +kernel
theorem dX12_comesSaving_130 : decode cX12_comesSaving 130 = .ok (.iconst 1, 1) := by decide +kernel
theorem dX12_comesSaving_131 : decode cX12_comesSaving 131 = .ok (.iadd, 1) := by decide +kernel
theorem dX12_comesSaving_132 : decode cX12_comesSaving 132 = .ok (.laload, 1) := by decide +kernel
theorem dX12_comesSaving_133 : decode cX12_comesSaving 133 = .ok (.lload 4, 2) := by decide +kernel
theorem dX12_comesSaving_135 : decode cX12_comesSaving 135 = .ok (.lcmp, 1) := by decide +kernel
theorem dX12_comesSaving_136 : decode cX12_comesSaving 136 = .ok (.ifCond .gt 19, 3) := by decide +kernel
theorem dX12_comesSaving_139 : decode cX12_comesSaving 139 = .ok (.aload_n 0, 1) := by decide +kernel
theorem dX12_comesSaving_140 : decode cX12_comesSaving 140 = .ok (.iload 8, 2) := by decide +kernel
theorem dX12_comesSaving_142 : decode cX12_comesSaving 142 = .ok (.iconst 1, 1) := by decide +kernel
theorem dX12_comesSaving_143 : decode cX12_comesSaving 143 = .ok (.iadd, 1) := by decide +kernel
theorem dX12_comesSaving_144 : decode cX12_comesSaving 144 = .ok (.iload 8, 2) := by decide +kernel
theorem dX12_comesSaving_146 : decode cX12_comesSaving 146 = .ok (.invokevirtual 140, 3) := by decide +kernel
theorem dX12_comesSaving_149 : decode cX12_comesSaving 149 = .ok (.iinc 8 1, 3) := by decide +kernel
theorem dX12_comesSaving_152 : decode cX12_comesSaving 152 = .ok (.goto (-46), 3) := by decide +kernel
theorem dX12_comesSaving_155 : decode cX12_comesSaving 155 = .ok (.iload 8, 2) := by decide +kernel
theorem dX12_comesSaving_157 : decode cX12_comesSaving 157 = .ok (.bipush 64, 2) := by decide +kernel
theorem dX12_comesSaving_159 : decode cX12_comesSaving 159 = .ok (.iload_n 1, 1) := by decide +kernel
theorem dX12_comesSaving_160 : decode cX12_comesSaving 160 = .ok (.imul, 1) := by decide +kernel
theorem dX12_comesSaving_161 : decode cX12_comesSaving 161 = .ok (.if_icmp .le 34, 3) := by decide +kernel
theorem dX12_comesSaving_164 : decode cX12_comesSaving 164 = .ok (.aload_n 0, 1) := by decide +kernel
theorem dX12_comesSaving_165 : decode cX12_comesSaving 165 = .ok (.getfield 44, 3) := by decide +kernel
theorem dX12_comesSaving_168 : decode cX12_comesSaving 168 = .ok (.iload 8, 2) := by decide +kernel
theorem dX12_comesSaving_170 : decode cX12_comesSaving 170 = .ok (.iconst 1, 1) := by decide +kernel
theorem dX12_comesSaving_171 : decode cX12_comesSaving 171 = .ok (.isub, 1) := by decide +kernel
theorem dX12_comesSaving_172 : decode cX12_comesSaving 172 = .ok (.laload, 1) := by decide +kernel
theorem dX12_comesSaving_173 : decode cX12_comesSaving 173 = .ok (.lload 4, 2) := by decide +kernel
theorem dX12_comesSaving_175 : decode cX12_comesSaving 175 = .ok (.lcmp, 1) := by decide +kernel
theorem dX12_comesSaving_176 : decode cX12_comesSaving 176 = .ok (.ifCond .le 19, 3) := by decide +kernel
theorem dX12_comesSaving_179 : decode cX12_comesSaving 179 = .ok (.aload_n 0, 1) := by decide +kernel
theorem dX12_comesSaving_180 : decode cX12_comesSaving 180 = .ok (.iload 8, 2) := by decide +kernel
theorem dX12_comesSaving_182 : decode cX12_comesSaving 182 = .ok (.iconst 1, 1) := by decide +kernel
theorem dX12_comesSaving_183 : decode cX12_comesSaving 183 = .ok (.isub, 1) := by decide +kernel
theorem dX12_comesSaving_184 : decode cX12_comesSaving 184 = .ok (.iload 8, 2) := by decide +kernel
theorem dX12_comesSaving_186 : decode cX12_comesSaving 186 = .ok (.invokevirtual 140, 3) := by decide +kernel
theorem dX12_comesSaving_189 : decode cX12_comesSaving 189 = .ok (.iinc 8 (-1), 3) := by decide +kernel
theorem dX12_comesSaving_192 : decode cX12_comesSaving 192 = .ok (.goto (-37), 3) := by decide +kernel
theorem dX12_comesSaving_195 : decode cX12_comesSaving 195 = .ok (.aload_n 0, 1) := by decide +kernel
theorem dX12_comesSaving_196 : decode cX12_comesSaving 196 = .ok (.getfield 41, 3) := by decide +kernel
theorem dX12_comesSaving_199 : decode cX12_comesSaving 199 = .ok (.iload 8, 2) := by decide +kernel
theorem dX12_comesSaving_201 : decode cX12_comesSaving 201 = .ok (.iload_n 2, 1) := by decide +kernel
theorem dX12_comesSaving_202 : decode cX12_comesSaving 202 = .ok (.iastore, 1) := by decide +kernel
theorem dX12_comesSaving_203 : decode cX12_comesSaving 203 = .ok (.aload_n 0, 1) := by decide +kernel
theorem dX12_comesSaving_204 : decode cX12_comesSaving 204 = .ok (.getfield 44, 3) := by decide +kernel
theorem dX12_comesSaving_207 : decode cX12_comesSaving 207 = .ok (.iload 8, 2) := by decide +kernel
theorem dX12_comesSaving_209 : decode cX12_comesSaving 209 = .ok (.lload 4, 2) := by decide +kernel
theorem dX12_comesSaving_211 : decode cX12_comesSaving 211 = .ok (.lastore, 1) := by decide +kernel
theorem dX12_comesSaving_212 : decode cX12_comesSaving 212 = .ok (.aload_n 0, 1) := by decide +kernel
theorem dX12_comesSaving_213 : decode cX12_comesSaving 213 = .ok (.getfield 47, 3) := by decide +kernel
theorem dX12_comesSaving_216 : decode cX12_comesSaving 216 = .ok (.iload 8, 2) := by decide +kernel
theorem dX12_comesSaving_218 : decode cX12_comesSaving 218 = .ok (.lload 6, 2) := by decide +kernel
theorem dX12_comesSaving_220 : decode cX12_comesSaving 220 = .ok (.lastore, 1) := by decide +kernel
theorem dX12_comesSaving_221 : decode cX12_comesSaving 221 = .ok (.return_, 1) := by decide +kernel
theorem dX12_moveSaving_0 : decode cX12_moveSaving 0 = .ok (.aload_n 0, 1) := by decide +kernel
theorem dX12_moveSaving_1 : decode cX12_moveSaving 1 = .ok (.getfield 41, 3) := by decide +kernel
theorem dX12_moveSaving_4 : decode cX12_moveSaving 4 = .ok (.iload_n 2, 1) := by decide +kernel
theorem dX12_moveSaving_5 : decode cX12_moveSaving 5 = .ok (.aload_n 0, 1) := by decide +kernel
theorem dX12_moveSaving_6 : decode cX12_moveSaving 6 = .ok (.getfield 41, 3) := by decide +kernel
theorem dX12_moveSaving_9 : decode cX12_moveSaving 9 = .ok (.iload_n 1, 1) := by decide +kernel
theorem dX12_moveSaving_10 : decode cX12_moveSaving 10 = .ok (.iaload, 1) := by decide +kernel
theorem dX12_moveSaving_11 : decode cX12_moveSaving 11 = .ok (.iastore, 1) := by decide +kernel
theorem dX12_moveSaving_12 : decode cX12_moveSaving 12 = .ok (.aload_n 0, 1) := by decide +kernel
theorem dX12_moveSaving_13 : decode cX12_moveSaving 13 = .ok (.getfield 44, 3) := by decide +kernel
theorem dX12_moveSaving_16 : decode cX12_moveSaving 16 = .ok (.iload_n 2, 1) := by decide +kernel
theorem dX12_moveSaving_17 : decode cX12_moveSaving 17 = .ok (.aload_n 0, 1) := by decide +kernel
theorem dX12_moveSaving_18 : decode cX12_moveSaving 18 = .ok (.getfield 44, 3) := by decide +kernel
theorem dX12_moveSaving_21 : decode cX12_moveSaving 21 = .ok (.iload_n 1, 1) := by decide +kernel
theorem dX12_moveSaving_22 : decode cX12_moveSaving 22 = .ok (.laload, 1) := by decide +kernel
theorem dX12_moveSaving_23 : decode cX12_moveSaving 23 = .ok (.lastore, 1) := by decide +kernel
theorem dX12_moveSaving_24 : decode cX12_moveSaving 24 = .ok (.aload_n 0, 1) := by decide +kernel
theorem dX12_moveSaving_25 : decode cX12_moveSaving 25 = .ok (.getfield 47, 3) := by decide +kernel
theorem dX12_moveSaving_28 : decode cX12_moveSaving 28 = .ok (.iload_n 2, 1) := by decide +kernel
theorem dX12_moveSaving_29 : decode cX12_moveSaving 29 = .ok (.aload_n 0, 1) := by decide +kernel
theorem dX12_moveSaving_30 : decode cX12_moveSaving 30 = .ok (.getfield 47, 3) := by decide +kernel
theorem dX12_moveSaving_33 : decode cX12_moveSaving 33 = .ok (.iload_n 1, 1) := by decide +kernel
theorem dX12_moveSaving_34 : decode cX12_moveSaving 34 = .ok (.laload, 1) := by decide +kernel
theorem dX12_moveSaving_35 : decode cX12_moveSaving 35 = .ok (.lastore, 1) := by decide +kernel
theorem dX12_moveSaving_36 : decode cX12_moveSaving 36 = .ok (.return_, 1) := by decide +kernel
theorem dX12_comesCounts_0 : decode cX12_comesCounts 0 = .ok (.aload_n 0, 1) := by decide +kernel
theorem dX12_comesCounts_1 : decode cX12_comesCounts 1 = .ok (.getfield 53, 3) := by decide +kernel
theorem dX12_comesCounts_4 : decode cX12_comesCounts 4 = .ok (.iload_n 1, 1) := by decide +kernel
theorem dX12_comesCounts_5 : decode cX12_comesCounts 5 = .ok (.baload, 1) := by decide +kernel
theorem dX12_comesCounts_6 : decode cX12_comesCounts 6 = .ok (.ifCond .eq 4, 3) := by decide +kernel
theorem dX12_comesCounts_9 : decode cX12_comesCounts 9 = .ok (.return_, 1) := by decide +kernel
theorem dX12_comesCounts_10 : decode cX12_comesCounts 10 = .ok (.aload_n 0, 1) := by decide +kernel
theorem dX12_comesCounts_11 : decode cX12_comesCounts 11 = .ok (.iload_n 1, 1) := by decide +kernel
theorem dX12_comesCounts_12 : decode cX12_comesCounts 12 = .ok (.iload_n 2, 1) := by decide +kernel
theorem dX12_comesCounts_13 : decode cX12_comesCounts 13 = .ok (.invokevirtual 143, 3) := by decide +kernel
theorem dX12_comesCounts_16 : decode cX12_comesCounts 16 = .ok (.istore 5, 2) := by decide +kernel
theorem dX12_comesCounts_18 : decode cX12_comesCounts 18 = .ok (.iload 5, 2) := by decide +kernel
theorem dX12_comesCounts_20 : decode cX12_comesCounts 20 = .ok (.ifCond .lt 17, 3) := by decide +kernel
theorem dX12_comesCounts_23 : decode cX12_comesCounts 23 = .ok (.aload_n 0, 1) := by decide +kernel
theorem dX12_comesCounts_24 : decode cX12_comesCounts 24 = .ok (.getfield 60, 3) := by decide +kernel
theorem dX12_comesCounts_27 : decode cX12_comesCounts 27 = .ok (.iload 5, 2) := by decide +kernel
theorem dX12_comesCounts_29 : decode cX12_comesCounts 29 = .ok (.dup2, 1) := by decide +kernel
theorem dX12_comesCounts_30 : decode cX12_comesCounts 30 = .ok (.laload, 1) := by decide +kernel
theorem dX12_comesCounts_31 : decode cX12_comesCounts 31 = .ok (.lload_n 3, 1) := by decide +kernel
theorem dX12_comesCounts_32 : decode cX12_comesCounts 32 = .ok (.ladd, 1) := by decide +kernel
theorem dX12_comesCounts_33 : decode cX12_comesCounts 33 = .ok (.lastore, 1) := by decide +kernel
theorem dX12_comesCounts_34 : decode cX12_comesCounts 34 = .ok (.goto 71, 3) := by decide +kernel
theorem dX12_comesCounts_37 : decode cX12_comesCounts 37 = .ok (.aload_n 0, 1) := by decide +kernel
theorem dX12_comesCounts_38 : decode cX12_comesCounts 38 = .ok (.getfield 50, 3) := by decide +kernel
theorem dX12_comesCounts_41 : decode cX12_comesCounts 41 = .ok (.iload_n 1, 1) := by decide +kernel
theorem dX12_comesCounts_42 : decode cX12_comesCounts 42 = .ok (.iaload, 1) := by decide +kernel
theorem dX12_comesCounts_43 : decode cX12_comesCounts 43 = .ok (.sipush 300, 3) := by decide +kernel
theorem dX12_comesCounts_46 : decode cX12_comesCounts 46 = .ok (.if_icmp .ne 13, 3) := by decide +kernel
theorem dX12_comesCounts_49 : decode cX12_comesCounts 49 = .ok (.aload_n 0, 1) := by decide +kernel
theorem dX12_comesCounts_50 : decode cX12_comesCounts 50 = .ok (.getfield 53, 3) := by decide +kernel
theorem dX12_comesCounts_53 : decode cX12_comesCounts 53 = .ok (.iload_n 1, 1) := by decide +kernel
theorem dX12_comesCounts_54 : decode cX12_comesCounts 54 = .ok (.iconst 1, 1) := by decide +kernel
theorem dX12_comesCounts_55 : decode cX12_comesCounts 55 = .ok (.bastore, 1) := by decide +kernel
theorem dX12_comesCounts_56 : decode cX12_comesCounts 56 = .ok (.goto 49, 3) := by decide +kernel
theorem dX12_comesCounts_59 : decode cX12_comesCounts 59 = .ok (.aload_n 0, 1) := by decide +kernel
theorem dX12_comesCounts_60 : decode cX12_comesCounts 60 = .ok (.getfield 57, 3) := by decide +kernel
theorem dX12_comesCounts_63 : decode cX12_comesCounts 63 = .ok (.sipush 300, 3) := by decide +kernel
theorem dX12_comesCounts_66 : decode cX12_comesCounts 66 = .ok (.iload_n 1, 1) := by decide +kernel
theorem dX12_comesCounts_67 : decode cX12_comesCounts 67 = .ok (.imul, 1) := by decide +kernel
theorem dX12_comesCounts_68 : decode cX12_comesCounts 68 = .ok (.aload_n 0, 1) := by decide +kernel
theorem dX12_comesCounts_69 : decode cX12_comesCounts 69 = .ok (.getfield 50, 3) := by decide +kernel
theorem dX12_comesCounts_72 : decode cX12_comesCounts 72 = .ok (.iload_n 1, 1) := by decide +kernel
theorem dX12_comesCounts_73 : decode cX12_comesCounts 73 = .ok (.iaload, 1) := by decide +kernel
theorem dX12_comesCounts_74 : decode cX12_comesCounts 74 = .ok (.iadd, 1) := by decide +kernel
theorem dX12_comesCounts_75 : decode cX12_comesCounts 75 = .ok (.iload_n 2, 1) := by decide +kernel
theorem dX12_comesCounts_76 : decode cX12_comesCounts 76 = .ok (.iastore, 1) := by decide +kernel
theorem dX12_comesCounts_77 : decode cX12_comesCounts 77 = .ok (.aload_n 0, 1) := by decide +kernel
theorem dX12_comesCounts_78 : decode cX12_comesCounts 78 = .ok (.getfield 60, 3) := by decide +kernel
theorem dX12_comesCounts_81 : decode cX12_comesCounts 81 = .ok (.sipush 300, 3) := by decide +kernel
theorem dX12_comesCounts_84 : decode cX12_comesCounts 84 = .ok (.iload_n 1, 1) := by decide +kernel
theorem dX12_comesCounts_85 : decode cX12_comesCounts 85 = .ok (.imul, 1) := by decide +kernel
theorem dX12_comesCounts_86 : decode cX12_comesCounts 86 = .ok (.aload_n 0, 1) := by decide +kernel
theorem dX12_comesCounts_87 : decode cX12_comesCounts 87 = .ok (.getfield 50, 3) := by decide +kernel
theorem dX12_comesCounts_90 : decode cX12_comesCounts 90 = .ok (.iload_n 1, 1) := by decide +kernel
theorem dX12_comesCounts_91 : decode cX12_comesCounts 91 = .ok (.iaload, 1) := by decide +kernel
theorem dX12_comesCounts_92 : decode cX12_comesCounts 92 = .ok (.iadd, 1) := by decide +kernel
theorem dX12_comesCounts_93 : decode cX12_comesCounts 93 = .ok (.lload_n 3, 1) := by decide +kernel
theorem dX12_comesCounts_94 : decode cX12_comesCounts 94 = .ok (.lastore, 1) := by decide +kernel
theorem dX12_comesCounts_95 : decode cX12_comesCounts 95 = .ok (.aload_n 0, 1) := by decide +kernel
theorem dX12_comesCounts_96 : decode cX12_comesCounts 96 = .ok (.getfield 50, 3) := by decide +kernel
theorem dX12_comesCounts_99 : decode cX12_comesCounts 99 = .ok (.iload_n 1, 1) := by decide +kernel
theorem dX12_comesCounts_100 : decode cX12_comesCounts 100 = .ok (.dup2, 1) := by decide +kernel
theorem dX12_comesCounts_101 : decode cX12_comesCounts 101 = .ok (.iaload, 1) := by decide +kernel
theorem dX12_comesCounts_102 : decode cX12_comesCounts 102 = .ok (.iconst 1, 1) := by decide +kernel
theorem dX12_comesCounts_103 : decode cX12_comesCounts 103 = .ok (.iadd, 1) := by decide +kernel
theorem dX12_comesCounts_104 : decode cX12_comesCounts 104 = .ok (.iastore, 1) := by decide +kernel
theorem dX12_comesCounts_105 : decode cX12_comesCounts 105 = .ok (.return_, 1) := by decide +kernel
theorem dX12_add_0 : decode cX12_add 0 = .ok (.iload_n 1, 1) := by decide +kernel
theorem dX12_add_1 : decode cX12_add 1 = .ok (.invokestatic 146, 3) := by decide +kernel
theorem dX12_add_4 : decode cX12_add 4 = .ok (.ifCond .eq 38, 3) := by decide +kernel
theorem dX12_add_7 : decode cX12_add 7 = .ok (.aload_n 0, 1) := by decide +kernel
theorem dX12_add_8 : decode cX12_add 8 = .ok (.iload_n 2, 1) := by decide +kernel
theorem dX12_add_9 : decode cX12_add 9 = .ok (.invokevirtual 105, 3) := by decide +kernel
theorem dX12_add_12 : decode cX12_add 12 = .ok (.ifCond .eq 30, 3) := by decide +kernel
theorem dX12_add_15 : decode cX12_add 15 = .ok (.iload_n 3, 1) := by decide +kernel
theorem dX12_add_16 : decode cX12_add 16 = .ok (.iconst 1, 1) := by decide +kernel
theorem dX12_add_17 : decode cX12_add 17 = .ok (.sipush 1000, 3) := by decide +kernel
theorem dX12_add_20 : decode cX12_add 20 = .ok (.invokestatic 101, 3) := by decide +kernel
theorem dX12_add_23 : decode cX12_add 23 = .ok (.ifCond .eq 19, 3) := by decide +kernel
theorem dX12_add_26 : decode cX12_add 26 = .ok (.aload_n 0, 1) := by decide +kernel
theorem dX12_add_27 : decode cX12_add 27 = .ok (.getfield 16, 3) := by decide +kernel
theorem dX12_add_30 : decode cX12_add 30 = .ok (.iload_n 1, 1) := by decide +kernel
theorem dX12_add_31 : decode cX12_add 31 = .ok (.laload, 1) := by decide +kernel
theorem dX12_add_32 : decode cX12_add 32 = .ok (.iload_n 3, 1) := by decide +kernel
theorem dX12_add_33 : decode cX12_add 33 = .ok (.i2l, 1) := by decide +kernel
theorem dX12_add_34 : decode cX12_add 34 = .ok (.ladd, 1) := by decide +kernel
theorem dX12_add_35 : decode cX12_add 35 = .ok (.ldc2_w 149, 3) := by decide +kernel
theorem dX12_add_38 : decode cX12_add 38 = .ok (.lcmp, 1) := by decide +kernel
theorem dX12_add_39 : decode cX12_add 39 = .ok (.ifCond .le 7, 3) := by decide +kernel
theorem dX12_add_42 : decode cX12_add 42 = .ok (.ldc2_w 151, 3) := by decide +kernel
theorem dX12_add_45 : decode cX12_add 45 = .ok (.lreturn, 1) := by decide +kernel
theorem dX12_add_46 : decode cX12_add 46 = .ok (.iconst 0, 1) := by decide +kernel
theorem dX12_add_47 : decode cX12_add 47 = .ok (.istore 4, 2) := by decide +kernel
theorem dX12_add_49 : decode cX12_add 49 = .ok (.iload 4, 2) := by decide +kernel
theorem dX12_add_51 : decode cX12_add 51 = .ok (.iload_n 3, 1) := by decide +kernel
theorem dX12_add_52 : decode cX12_add 52 = .ok (.if_icmp .ge 15, 3) := by decide +kernel
theorem dX12_add_55 : decode cX12_add 55 = .ok (.aload_n 0, 1) := by decide +kernel
theorem dX12_add_56 : decode cX12_add 56 = .ok (.iload_n 1, 1) := by decide +kernel
theorem dX12_add_57 : decode cX12_add 57 = .ok (.iload_n 2, 1) := by decide +kernel
theorem dX12_add_58 : decode cX12_add 58 = .ok (.invokevirtual 153, 3) := by decide +kernel
theorem dX12_add_61 : decode cX12_add 61 = .ok (.iinc 4 1, 3) := by decide +kernel
theorem dX12_add_64 : decode cX12_add 64 = .ok (.goto (-15), 3) := by decide +kernel
theorem dX12_add_67 : decode cX12_add 67 = .ok (.aload_n 0, 1) := by decide +kernel
theorem dX12_add_68 : decode cX12_add 68 = .ok (.getfield 16, 3) := by decide +kernel
theorem dX12_add_71 : decode cX12_add 71 = .ok (.iload_n 1, 1) := by decide +kernel
theorem dX12_add_72 : decode cX12_add 72 = .ok (.laload, 1) := by decide +kernel
theorem dX12_add_73 : decode cX12_add 73 = .ok (.lreturn, 1) := by decide +kernel
theorem dX12_clear_0 : decode cX12_clear 0 = .ok (.iload_n 1, 1) := by decide +kernel
theorem dX12_clear_1 : decode cX12_clear 1 = .ok (.invokestatic 146, 3) := by decide +kernel
theorem dX12_clear_4 : decode cX12_clear 4 = .ok (.ifCond .ne 5, 3) := by decide +kernel
theorem dX12_clear_7 : decode cX12_clear 7 = .ok (.iconst 0, 1) := by decide +kernel
theorem dX12_clear_8 : decode cX12_clear 8 = .ok (.ireturn, 1) := by decide +kernel
theorem dX12_clear_9 : decode cX12_clear 9 = .ok (.aload_n 0, 1) := by decide +kernel
theorem dX12_clear_10 : decode cX12_clear 10 = .ok (.getfield 16, 3) := by decide +kernel
theorem dX12_clear_13 : decode cX12_clear 13 = .ok (.iload_n 1, 1) := by decide +kernel
theorem dX12_clear_14 : decode cX12_clear 14 = .ok (.lconst 0, 1) := by decide +kernel
theorem dX12_clear_15 : decode cX12_clear 15 = .ok (.lastore, 1) := by decide +kernel
theorem dX12_clear_16 : decode cX12_clear 16 = .ok (.sipush 2048, 3) := by decide +kernel
theorem dX12_clear_19 : decode cX12_clear 19 = .ok (.iload_n 1, 1) := by decide +kernel
theorem dX12_clear_20 : decode cX12_clear 20 = .ok (.imul, 1) := by decide +kernel
theorem dX12_clear_21 : decode cX12_clear 21 = .ok (.istore_n 2, 1) := by decide +kernel
theorem dX12_clear_22 : decode cX12_clear 22 = .ok (.iload_n 2, 1) := by decide +kernel
theorem dX12_clear_23 : decode cX12_clear 23 = .ok (.sipush 2048, 3) := by decide +kernel
theorem dX12_clear_26 : decode cX12_clear 26 = .ok (.iload_n 1, 1) := by decide +kernel
theorem dX12_clear_27 : decode cX12_clear 27 = .ok (.imul, 1) := by decide +kernel
theorem dX12_clear_28 : decode cX12_clear 28 = .ok (.sipush 2048, 3) := by decide +kernel
theorem dX12_clear_31 : decode cX12_clear 31 = .ok (.iadd, 1) := by decide +kernel
theorem dX12_clear_32 : decode cX12_clear 32 = .ok (.if_icmp .ge 23, 3) := by decide +kernel
theorem dX12_clear_35 : decode cX12_clear 35 = .ok (.aload_n 0, 1) := by decide +kernel
theorem dX12_clear_36 : decode cX12_clear 36 = .ok (.getfield 20, 3) := by decide +kernel
theorem dX12_clear_39 : decode cX12_clear 39 = .ok (.iload_n 2, 1) := by decide +kernel
theorem dX12_clear_40 : decode cX12_clear 40 = .ok (.lconst 0, 1) := by decide +kernel
theorem dX12_clear_41 : decode cX12_clear 41 = .ok (.lastore, 1) := by decide +kernel
theorem dX12_clear_42 : decode cX12_clear 42 = .ok (.aload_n 0, 1) := by decide +kernel
theorem dX12_clear_43 : decode cX12_clear 43 = .ok (.getfield 23, 3) := by decide +kernel
theorem dX12_clear_46 : decode cX12_clear 46 = .ok (.iload_n 2, 1) := by decide +kernel
theorem dX12_clear_47 : decode cX12_clear 47 = .ok (.lconst 0, 1) := by decide +kernel
theorem dX12_clear_48 : decode cX12_clear 48 = .ok (.lastore, 1) := by decide +kernel
theorem dX12_clear_49 : decode cX12_clear 49 = .ok (.iinc 2 1, 3) := by decide +kernel
theorem dX12_clear_52 : decode cX12_clear 52 = .ok (.goto (-30), 3) := by decide +kernel
theorem dX12_clear_55 : decode cX12_clear 55 = .ok (.aload_n 0, 1) := by decide +kernel
theorem dX12_clear_56 : decode cX12_clear 56 = .ok (.getfield 26, 3) := by decide +kernel
theorem dX12_clear_59 : decode cX12_clear 59 = .ok (.iload_n 1, 1) := by decide +kernel
theorem dX12_clear_60 : decode cX12_clear 60 = .ok (.iconst 0, 1) := by decide +kernel
theorem dX12_clear_61 : decode cX12_clear 61 = .ok (.iastore, 1) := by decide +kernel
theorem dX12_clear_62 : decode cX12_clear 62 = .ok (.aload_n 0, 1) := by decide +kernel
theorem dX12_clear_63 : decode cX12_clear 63 = .ok (.getfield 29, 3) := by decide +kernel
theorem dX12_clear_66 : decode cX12_clear 66 = .ok (.iload_n 1, 1) := by decide +kernel
theorem dX12_clear_67 : decode cX12_clear 67 = .ok (.lconst 0, 1) := by decide +kernel
theorem dX12_clear_68 : decode cX12_clear 68 = .ok (.lastore, 1) := by decide +kernel
theorem dX12_clear_69 : decode cX12_clear 69 = .ok (.aload_n 0, 1) := by decide +kernel
theorem dX12_clear_70 : decode cX12_clear 70 = .ok (.getfield 38, 3) := by decide +kernel
theorem dX12_clear_73 : decode cX12_clear 73 = .ok (.iload_n 1, 1) := by decide +kernel
theorem dX12_clear_74 : decode cX12_clear 74 = .ok (.iconst 0, 1) := by decide +kernel
theorem dX12_clear_75 : decode cX12_clear 75 = .ok (.iastore, 1) := by decide +kernel
theorem dX12_clear_76 : decode cX12_clear 76 = .ok (.aload_n 0, 1) := by decide +kernel
theorem dX12_clear_77 : decode cX12_clear 77 = .ok (.getfield 50, 3) := by decide +kernel
theorem dX12_clear_80 : decode cX12_clear 80 = .ok (.iload_n 1, 1) := by decide +kernel
theorem dX12_clear_81 : decode cX12_clear 81 = .ok (.iconst 0, 1) := by decide +kernel
theorem dX12_clear_82 : decode cX12_clear 82 = .ok (.iastore, 1) := by decide +kernel
theorem dX12_clear_83 : decode cX12_clear 83 = .ok (.aload_n 0, 1) := by decide +kernel
theorem dX12_clear_84 : decode cX12_clear 84 = .ok (.getfield 53, 3) := by decide +kernel
theorem dX12_clear_87 : decode cX12_clear 87 = .ok (.iload_n 1, 1) := by decide +kernel
theorem dX12_clear_88 : decode cX12_clear 88 = .ok (.iconst 0, 1) := by decide +kernel
theorem dX12_clear_89 : decode cX12_clear 89 = .ok (.bastore, 1) := by decide +kernel
theorem dX12_clear_90 : decode cX12_clear 90 = .ok (.iconst 1, 1) := by decide +kernel
theorem dX12_clear_91 : decode cX12_clear 91 = .ok (.ireturn, 1) := by decide +kernel
theorem dX12_copy_0 : decode cX12_copy 0 = .ok (.iload_n 1, 1) := by decide +kernel
theorem dX12_copy_1 : decode cX12_copy 1 = .ok (.invokestatic 146, 3) := by decide +kernel
theorem dX12_copy_4 : decode cX12_copy 4 = .ok (.ifCond .eq 10, 3) := by decide +kernel
theorem dX12_copy_7 : decode cX12_copy 7 = .ok (.iload_n 2, 1) := by decide +kernel
theorem dX12_copy_8 : decode cX12_copy 8 = .ok (.invokestatic 146, 3) := by decide +kernel
theorem dX12_copy_11 : decode cX12_copy 11 = .ok (.ifCond .ne 5, 3) := by decide +kernel
theorem dX12_copy_14 : decode cX12_copy 14 = .ok (.iconst 0, 1) := by decide +kernel
theorem dX12_copy_15 : decode cX12_copy 15 = .ok (.ireturn, 1) := by decide +kernel
theorem dX12_copy_16 : decode cX12_copy 16 = .ok (.aload_n 0, 1) := by decide +kernel
theorem dX12_copy_17 : decode cX12_copy 17 = .ok (.getfield 16, 3) := by decide +kernel
theorem dX12_copy_20 : decode cX12_copy 20 = .ok (.iload_n 1, 1) := by decide +kernel
theorem dX12_copy_21 : decode cX12_copy 21 = .ok (.aload_n 0, 1) := by decide +kernel
theorem dX12_copy_22 : decode cX12_copy 22 = .ok (.getfield 16, 3) := by decide +kernel
theorem dX12_copy_25 : decode cX12_copy 25 = .ok (.iload_n 2, 1) := by decide +kernel
theorem dX12_copy_26 : decode cX12_copy 26 = .ok (.laload, 1) := by decide +kernel
theorem dX12_copy_27 : decode cX12_copy 27 = .ok (.lastore, 1) := by decide +kernel
theorem dX12_copy_28 : decode cX12_copy 28 = .ok (.iconst 0, 1) := by decide +kernel
theorem dX12_copy_29 : decode cX12_copy 29 = .ok (.istore_n 3, 1) := by decide +kernel
theorem dX12_copy_30 : decode cX12_copy 30 = .ok (.iload_n 3, 1) := by decide +kernel
theorem dX12_copy_31 : decode cX12_copy 31 = .ok (.sipush 2048, 3) := by decide +kernel
theorem dX12_copy_34 : decode cX12_copy 34 = .ok (.if_icmp .ge 57, 3) := by decide +kernel
theorem dX12_copy_37 : decode cX12_copy 37 = .ok (.aload_n 0, 1) := by decide +kernel
theorem dX12_copy_38 : decode cX12_copy 38 = .ok (.getfield 20, 3) := by decide +kernel
theorem dX12_copy_41 : decode cX12_copy 41 = .ok (.sipush 2048, 3) := by decide +kernel
theorem dX12_copy_44 : decode cX12_copy 44 = .ok (.iload_n 1, 1) := by decide +kernel
theorem dX12_copy_45 : decode cX12_copy 45 = .ok (.imul, 1) := by decide +kernel
theorem dX12_copy_46 : decode cX12_copy 46 = .ok (.iload_n 3, 1) := by decide +kernel
theorem dX12_copy_47 : decode cX12_copy 47 = .ok (.iadd, 1) := by decide +kernel
theorem dX12_copy_48 : decode cX12_copy 48 = .ok (.aload_n 0, 1) := by decide +kernel
theorem dX12_copy_49 : decode cX12_copy 49 = .ok (.getfield 20, 3) := by decide +kernel
theorem dX12_copy_52 : decode cX12_copy 52 = .ok (.sipush 2048, 3) := by decide +kernel
theorem dX12_copy_55 : decode cX12_copy 55 = .ok (.iload_n 2, 1) := by decide +kernel
theorem dX12_copy_56 : decode cX12_copy 56 = .ok (.imul, 1) := by decide +kernel
theorem dX12_copy_57 : decode cX12_copy 57 = .ok (.iload_n 3, 1) := by decide +kernel
theorem dX12_copy_58 : decode cX12_copy 58 = .ok (.iadd, 1) := by decide +kernel
theorem dX12_copy_59 : decode cX12_copy 59 = .ok (.laload, 1) := by decide +kernel
theorem dX12_copy_60 : decode cX12_copy 60 = .ok (.lastore, 1) := by decide +kernel
theorem dX12_copy_61 : decode cX12_copy 61 = .ok (.aload_n 0, 1) := by decide +kernel
theorem dX12_copy_62 : decode cX12_copy 62 = .ok (.getfield 23, 3) := by decide +kernel
theorem dX12_copy_65 : decode cX12_copy 65 = .ok (.sipush 2048, 3) := by decide +kernel
theorem dX12_copy_68 : decode cX12_copy 68 = .ok (.iload_n 1, 1) := by decide +kernel
theorem dX12_copy_69 : decode cX12_copy 69 = .ok (.imul, 1) := by decide +kernel
theorem dX12_copy_70 : decode cX12_copy 70 = .ok (.iload_n 3, 1) := by decide +kernel
theorem dX12_copy_71 : decode cX12_copy 71 = .ok (.iadd, 1) := by decide +kernel
theorem dX12_copy_72 : decode cX12_copy 72 = .ok (.aload_n 0, 1) := by decide +kernel
theorem dX12_copy_73 : decode cX12_copy 73 = .ok (.getfield 23, 3) := by decide +kernel
theorem dX12_copy_76 : decode cX12_copy 76 = .ok (.sipush 2048, 3) := by decide +kernel
theorem dX12_copy_79 : decode cX12_copy 79 = .ok (.iload_n 2, 1) := by decide +kernel
theorem dX12_copy_80 : decode cX12_copy 80 = .ok (.imul, 1) := by decide +kernel
theorem dX12_copy_81 : decode cX12_copy 81 = .ok (.iload_n 3, 1) := by decide +kernel
theorem dX12_copy_82 : decode cX12_copy 82 = .ok (.iadd, 1) := by decide +kernel
theorem dX12_copy_83 : decode cX12_copy 83 = .ok (.laload, 1) := by decide +kernel
theorem dX12_copy_84 : decode cX12_copy 84 = .ok (.lastore, 1) := by decide +kernel
theorem dX12_copy_85 : decode cX12_copy 85 = .ok (.iinc 3 1, 3) := by decide +kernel
theorem dX12_copy_88 : decode cX12_copy 88 = .ok (.goto (-58), 3) := by decide +kernel
theorem dX12_copy_91 : decode cX12_copy 91 = .ok (.aload_n 0, 1) := by decide +kernel
theorem dX12_copy_92 : decode cX12_copy 92 = .ok (.getfield 26, 3) := by decide +kernel
theorem dX12_copy_95 : decode cX12_copy 95 = .ok (.iload_n 1, 1) := by decide +kernel
theorem dX12_copy_96 : decode cX12_copy 96 = .ok (.aload_n 0, 1) := by decide +kernel
theorem dX12_copy_97 : decode cX12_copy 97 = .ok (.getfield 26, 3) := by decide +kernel
theorem dX12_copy_100 : decode cX12_copy 100 = .ok (.iload_n 2, 1) := by decide +kernel
theorem dX12_copy_101 : decode cX12_copy 101 = .ok (.iaload, 1) := by decide +kernel
theorem dX12_copy_102 : decode cX12_copy 102 = .ok (.iastore, 1) := by decide +kernel
theorem dX12_copy_103 : decode cX12_copy 103 = .ok (.aload_n 0, 1) := by decide +kernel
theorem dX12_copy_104 : decode cX12_copy 104 = .ok (.getfield 29, 3) := by decide +kernel
theorem dX12_copy_107 : decode cX12_copy 107 = .ok (.iload_n 1, 1) := by decide +kernel
theorem dX12_copy_108 : decode cX12_copy 108 = .ok (.aload_n 0, 1) := by decide +kernel
theorem dX12_copy_109 : decode cX12_copy 109 = .ok (.getfield 29, 3) := by decide +kernel
theorem dX12_copy_112 : decode cX12_copy 112 = .ok (.iload_n 2, 1) := by decide +kernel
theorem dX12_copy_113 : decode cX12_copy 113 = .ok (.laload, 1) := by decide +kernel
theorem dX12_copy_114 : decode cX12_copy 114 = .ok (.lastore, 1) := by decide +kernel
theorem dX12_copy_115 : decode cX12_copy 115 = .ok (.aload_n 0, 1) := by decide +kernel
theorem dX12_copy_116 : decode cX12_copy 116 = .ok (.getfield 38, 3) := by decide +kernel
theorem dX12_copy_119 : decode cX12_copy 119 = .ok (.iload_n 1, 1) := by decide +kernel
theorem dX12_copy_120 : decode cX12_copy 120 = .ok (.aload_n 0, 1) := by decide +kernel
theorem dX12_copy_121 : decode cX12_copy 121 = .ok (.getfield 38, 3) := by decide +kernel
theorem dX12_copy_124 : decode cX12_copy 124 = .ok (.iload_n 2, 1) := by decide +kernel
theorem dX12_copy_125 : decode cX12_copy 125 = .ok (.iaload, 1) := by decide +kernel
theorem dX12_copy_126 : decode cX12_copy 126 = .ok (.iastore, 1) := by decide +kernel
theorem dX12_copy_127 : decode cX12_copy 127 = .ok (.iconst 0, 1) := by decide +kernel
theorem dX12_copy_128 : decode cX12_copy 128 = .ok (.istore_n 3, 1) := by decide +kernel
theorem dX12_copy_129 : decode cX12_copy 129 = .ok (.iload_n 3, 1) := by decide +kernel
theorem dX12_copy_130 : decode cX12_copy 130 = .ok (.bipush 64, 2) := by decide +kernel
theorem dX12_copy_132 : decode cX12_copy 132 = .ok (.if_icmp .ge 69, 3) := by decide +kernel
theorem dX12_copy_135 : decode cX12_copy 135 = .ok (.aload_n 0, 1) := by decide +kernel
theorem dX12_copy_136 : decode cX12_copy 136 = .ok (.getfield 32, 3) := by decide +kernel
theorem dX12_copy_139 : decode cX12_copy 139 = .ok (.bipush 64, 2) := by decide +kernel
theorem dX12_copy_141 : decode cX12_copy 141 = .ok (.iload_n 1, 1) := by decide +kernel
theorem dX12_copy_142 : decode cX12_copy 142 = .ok (.imul, 1) := by decide +kernel
theorem dX12_copy_143 : decode cX12_copy 143 = .ok (.iload_n 3, 1) := by decide +kernel
theorem dX12_copy_144 : decode cX12_copy 144 = .ok (.iadd, 1) := by decide +kernel
theorem dX12_copy_145 : decode cX12_copy 145 = .ok (.aload_n 0, 1) := by decide +kernel
theorem dX12_copy_146 : decode cX12_copy 146 = .ok (.getfield 32, 3) := by decide +kernel
theorem dX12_copy_149 : decode cX12_copy 149 = .ok (.bipush 64, 2) := by decide +kernel
theorem dX12_copy_151 : decode cX12_copy 151 = .ok (.iload_n 2, 1) := by decide +kernel
theorem dX12_copy_152 : decode cX12_copy 152 = .ok (.imul, 1) := by decide +kernel
theorem dX12_copy_153 : decode cX12_copy 153 = .ok (.iload_n 3, 1) := by decide +kernel
theorem dX12_copy_154 : decode cX12_copy 154 = .ok (.iadd, 1) := by decide +kernel
theorem dX12_copy_155 : decode cX12_copy 155 = .ok (.iaload, 1) := by decide +kernel
theorem dX12_copy_156 : decode cX12_copy 156 = .ok (.iastore, 1) := by decide +kernel
theorem dX12_copy_157 : decode cX12_copy 157 = .ok (.aload_n 0, 1) := by decide +kernel
theorem dX12_copy_158 : decode cX12_copy 158 = .ok (.getfield 35, 3) := by decide +kernel
theorem dX12_copy_161 : decode cX12_copy 161 = .ok (.bipush 64, 2) := by decide +kernel
theorem dX12_copy_163 : decode cX12_copy 163 = .ok (.iload_n 1, 1) := by decide +kernel
theorem dX12_copy_164 : decode cX12_copy 164 = .ok (.imul, 1) := by decide +kernel
theorem dX12_copy_165 : decode cX12_copy 165 = .ok (.iload_n 3, 1) := by decide +kernel
theorem dX12_copy_166 : decode cX12_copy 166 = .ok (.iadd, 1) := by decide +kernel
theorem dX12_copy_167 : decode cX12_copy 167 = .ok (.aload_n 0, 1) := by decide +kernel
theorem dX12_copy_168 : decode cX12_copy 168 = .ok (.getfield 35, 3) := by decide +kernel
theorem dX12_copy_171 : decode cX12_copy 171 = .ok (.bipush 64, 2) := by decide +kernel
theorem dX12_copy_173 : decode cX12_copy 173 = .ok (.iload_n 2, 1) := by decide +kernel
theorem dX12_copy_174 : decode cX12_copy 174 = .ok (.imul, 1) := by decide +kernel
theorem dX12_copy_175 : decode cX12_copy 175 = .ok (.iload_n 3, 1) := by decide +kernel
theorem dX12_copy_176 : decode cX12_copy 176 = .ok (.iadd, 1) := by decide +kernel
theorem dX12_copy_177 : decode cX12_copy 177 = .ok (.laload, 1) := by decide +kernel
theorem dX12_copy_178 : decode cX12_copy 178 = .ok (.lastore, 1) := by decide +kernel
theorem dX12_copy_179 : decode cX12_copy 179 = .ok (.aload_n 0, 1) := by decide +kernel
theorem dX12_copy_180 : decode cX12_copy 180 = .ok (.bipush 64, 2) := by decide +kernel
theorem dX12_copy_182 : decode cX12_copy 182 = .ok (.iload_n 2, 1) := by decide +kernel
theorem dX12_copy_183 : decode cX12_copy 183 = .ok (.imul, 1) := by decide +kernel
theorem dX12_copy_184 : decode cX12_copy 184 = .ok (.iload_n 3, 1) := by decide +kernel
theorem dX12_copy_185 : decode cX12_copy 185 = .ok (.iadd, 1) := by decide +kernel
theorem dX12_copy_186 : decode cX12_copy 186 = .ok (.bipush 64, 2) := by decide +kernel
theorem dX12_copy_188 : decode cX12_copy 188 = .ok (.iload_n 1, 1) := by decide +kernel
theorem dX12_copy_189 : decode cX12_copy 189 = .ok (.imul, 1) := by decide +kernel
theorem dX12_copy_190 : decode cX12_copy 190 = .ok (.iload_n 3, 1) := by decide +kernel
theorem dX12_copy_191 : decode cX12_copy 191 = .ok (.iadd, 1) := by decide +kernel
theorem dX12_copy_192 : decode cX12_copy 192 = .ok (.invokevirtual 140, 3) := by decide +kernel
theorem dX12_copy_195 : decode cX12_copy 195 = .ok (.iinc 3 1, 3) := by decide +kernel
theorem dX12_copy_198 : decode cX12_copy 198 = .ok (.goto (-69), 3) := by decide +kernel
theorem dX12_copy_201 : decode cX12_copy 201 = .ok (.aload_n 0, 1) := by decide +kernel
theorem dX12_copy_202 : decode cX12_copy 202 = .ok (.getfield 50, 3) := by decide +kernel
theorem dX12_copy_205 : decode cX12_copy 205 = .ok (.iload_n 1, 1) := by decide +kernel
theorem dX12_copy_206 : decode cX12_copy 206 = .ok (.aload_n 0, 1) := by decide +kernel
theorem dX12_copy_207 : decode cX12_copy 207 = .ok (.getfield 50, 3) := by decide +kernel
theorem dX12_copy_210 : decode cX12_copy 210 = .ok (.iload_n 2, 1) := by decide +kernel
theorem dX12_copy_211 : decode cX12_copy 211 = .ok (.iaload, 1) := by decide +kernel
theorem dX12_copy_212 : decode cX12_copy 212 = .ok (.iastore, 1) := by decide +kernel
theorem dX12_copy_213 : decode cX12_copy 213 = .ok (.aload_n 0, 1) := by decide +kernel
theorem dX12_copy_214 : decode cX12_copy 214 = .ok (.getfield 53, 3) := by decide +kernel
theorem dX12_copy_217 : decode cX12_copy 217 = .ok (.iload_n 1, 1) := by decide +kernel
theorem dX12_copy_218 : decode cX12_copy 218 = .ok (.aload_n 0, 1) := by decide +kernel
theorem dX12_copy_219 : decode cX12_copy 219 = .ok (.getfield 53, 3) := by decide +kernel
theorem dX12_copy_222 : decode cX12_copy 222 = .ok (.iload_n 2, 1) := by decide +kernel
theorem dX12_copy_223 : decode cX12_copy 223 = .ok (.baload, 1) := by decide +kernel
theorem dX12_copy_224 : decode cX12_copy 224 = .ok (.bastore, 1) := by decide +kernel
theorem dX12_copy_225 : decode cX12_copy 225 = .ok (.iconst 0, 1) := by decide +kernel
theorem dX12_copy_226 : decode cX12_copy 226 = .ok (.istore_n 3, 1) := by decide +kernel
theorem dX12_copy_227 : decode cX12_copy 227 = .ok (.iload_n 3, 1) := by decide +kernel
theorem dX12_copy_228 : decode cX12_copy 228 = .ok (.sipush 300, 3) := by decide +kernel
theorem dX12_copy_231 : decode cX12_copy 231 = .ok (.if_icmp .ge 57, 3) := by decide +kernel
theorem dX12_copy_234 : decode cX12_copy 234 = .ok (.aload_n 0, 1) := by decide +kernel
theorem dX12_copy_235 : decode cX12_copy 235 = .ok (.getfield 57, 3) := by decide +kernel
theorem dX12_copy_238 : decode cX12_copy 238 = .ok (.sipush 300, 3) := by decide +kernel
theorem dX12_copy_241 : decode cX12_copy 241 = .ok (.iload_n 1, 1) := by decide +kernel
theorem dX12_copy_242 : decode cX12_copy 242 = .ok (.imul, 1) := by decide +kernel
theorem dX12_copy_243 : decode cX12_copy 243 = .ok (.iload_n 3, 1) := by decide +kernel
theorem dX12_copy_244 : decode cX12_copy 244 = .ok (.iadd, 1) := by decide +kernel
theorem dX12_copy_245 : decode cX12_copy 245 = .ok (.aload_n 0, 1) := by decide +kernel
theorem dX12_copy_246 : decode cX12_copy 246 = .ok (.getfield 57, 3) := by decide +kernel
theorem dX12_copy_249 : decode cX12_copy 249 = .ok (.sipush 300, 3) := by decide +kernel
theorem dX12_copy_252 : decode cX12_copy 252 = .ok (.iload_n 2, 1) := by decide +kernel
theorem dX12_copy_253 : decode cX12_copy 253 = .ok (.imul, 1) := by decide +kernel
theorem dX12_copy_254 : decode cX12_copy 254 = .ok (.iload_n 3, 1) := by decide +kernel
theorem dX12_copy_255 : decode cX12_copy 255 = .ok (.iadd, 1) := by decide +kernel
theorem dX12_copy_256 : decode cX12_copy 256 = .ok (.iaload, 1) := by decide +kernel
theorem dX12_copy_257 : decode cX12_copy 257 = .ok (.iastore, 1) := by decide +kernel
theorem dX12_copy_258 : decode cX12_copy 258 = .ok (.aload_n 0, 1) := by decide +kernel
theorem dX12_copy_259 : decode cX12_copy 259 = .ok (.getfield 60, 3) := by decide +kernel
theorem dX12_copy_262 : decode cX12_copy 262 = .ok (.sipush 300, 3) := by decide +kernel
theorem dX12_copy_265 : decode cX12_copy 265 = .ok (.iload_n 1, 1) := by decide +kernel
theorem dX12_copy_266 : decode cX12_copy 266 = .ok (.imul, 1) := by decide +kernel
theorem dX12_copy_267 : decode cX12_copy 267 = .ok (.iload_n 3, 1) := by decide +kernel
theorem dX12_copy_268 : decode cX12_copy 268 = .ok (.iadd, 1) := by decide +kernel
theorem dX12_copy_269 : decode cX12_copy 269 = .ok (.aload_n 0, 1) := by decide +kernel
theorem dX12_copy_270 : decode cX12_copy 270 = .ok (.getfield 60, 3) := by decide +kernel
theorem dX12_copy_273 : decode cX12_copy 273 = .ok (.sipush 300, 3) := by decide +kernel
theorem dX12_copy_276 : decode cX12_copy 276 = .ok (.iload_n 2, 1) := by decide +kernel
theorem dX12_copy_277 : decode cX12_copy 277 = .ok (.imul, 1) := by decide +kernel
theorem dX12_copy_278 : decode cX12_copy 278 = .ok (.iload_n 3, 1) := by decide +kernel
theorem dX12_copy_279 : decode cX12_copy 279 = .ok (.iadd, 1) := by decide +kernel
theorem dX12_copy_280 : decode cX12_copy 280 = .ok (.laload, 1) := by decide +kernel
theorem dX12_copy_281 : decode cX12_copy 281 = .ok (.lastore, 1) := by decide +kernel
theorem dX12_copy_282 : decode cX12_copy 282 = .ok (.iinc 3 1, 3) := by decide +kernel
theorem dX12_copy_285 : decode cX12_copy 285 = .ok (.goto (-58), 3) := by decide +kernel
theorem dX12_copy_288 : decode cX12_copy 288 = .ok (.iconst 1, 1) := by decide +kernel
theorem dX12_copy_289 : decode cX12_copy 289 = .ok (.ireturn, 1) := by decide +kernel
theorem dX12_pooledAt_0 : decode cX12_pooledAt 0 = .ok (.iconst (-1), 1) := by decide +kernel
theorem dX12_pooledAt_1 : decode cX12_pooledAt 1 = .ok (.istore_n 2, 1) := by decide +kernel
theorem dX12_pooledAt_2 : decode cX12_pooledAt 2 = .ok (.iconst 0, 1) := by decide +kernel
theorem dX12_pooledAt_3 : decode cX12_pooledAt 3 = .ok (.istore_n 3, 1) := by decide +kernel
theorem dX12_pooledAt_4 : decode cX12_pooledAt 4 = .ok (.iload_n 3, 1) := by decide +kernel
theorem dX12_pooledAt_5 : decode cX12_pooledAt 5 = .ok (.aload_n 0, 1) := by decide +kernel
theorem dX12_pooledAt_6 : decode cX12_pooledAt 6 = .ok (.getfield 156, 3) := by decide +kernel
theorem dX12_pooledAt_9 : decode cX12_pooledAt 9 = .ok (.if_icmp .ge 25, 3) := by decide +kernel
theorem dX12_pooledAt_12 : decode cX12_pooledAt 12 = .ok (.aload_n 0, 1) := by decide +kernel
theorem dX12_pooledAt_13 : decode cX12_pooledAt 13 = .ok (.getfield 69, 3) := by decide +kernel
theorem dX12_pooledAt_16 : decode cX12_pooledAt 16 = .ok (.iload_n 3, 1) := by decide +kernel
theorem dX12_pooledAt_17 : decode cX12_pooledAt 17 = .ok (.iaload, 1) := by decide +kernel
theorem dX12_pooledAt_18 : decode cX12_pooledAt 18 = .ok (.iload_n 1, 1) := by decide +kernel
theorem dX12_pooledAt_19 : decode cX12_pooledAt 19 = .ok (.if_icmp .ne 7, 3) := by decide +kernel
theorem dX12_pooledAt_22 : decode cX12_pooledAt 22 = .ok (.iload_n 3, 1) := by decide +kernel
theorem dX12_pooledAt_23 : decode cX12_pooledAt 23 = .ok (.goto 4, 3) := by decide +kernel
theorem dX12_pooledAt_26 : decode cX12_pooledAt 26 = .ok (.iload_n 2, 1) := by decide +kernel
theorem dX12_pooledAt_27 : decode cX12_pooledAt 27 = .ok (.istore_n 2, 1) := by decide +kernel
theorem dX12_pooledAt_28 : decode cX12_pooledAt 28 = .ok (.iinc 3 1, 3) := by decide +kernel
theorem dX12_pooledAt_31 : decode cX12_pooledAt 31 = .ok (.goto (-27), 3) := by decide +kernel
theorem dX12_pooledAt_34 : decode cX12_pooledAt 34 = .ok (.iload_n 2, 1) := by decide +kernel
theorem dX12_pooledAt_35 : decode cX12_pooledAt 35 = .ok (.ireturn, 1) := by decide +kernel
theorem dX12_pools_0 : decode cX12_pools 0 = .ok (.aload_n 0, 1) := by decide +kernel
theorem dX12_pools_1 : decode cX12_pools 1 = .ok (.iload_n 1, 1) := by decide +kernel
theorem dX12_pools_2 : decode cX12_pools 2 = .ok (.invokevirtual 159, 3) := by decide +kernel
theorem dX12_pools_5 : decode cX12_pools 5 = .ok (.istore 6, 2) := by decide +kernel
theorem dX12_pools_7 : decode cX12_pools 7 = .ok (.iload 6, 2) := by decide +kernel
theorem dX12_pools_9 : decode cX12_pools 9 = .ok (.ifCond .ge 43, 3) := by decide +kernel
theorem dX12_pools_12 : decode cX12_pools 12 = .ok (.aload_n 0, 1) := by decide +kernel
theorem dX12_pools_13 : decode cX12_pools 13 = .ok (.getfield 156, 3) := by decide +kernel
theorem dX12_pools_16 : decode cX12_pools 16 = .ok (.istore 6, 2) := by decide +kernel
theorem dX12_pools_18 : decode cX12_pools 18 = .ok (.aload_n 0, 1) := by decide +kernel
theorem dX12_pools_19 : decode cX12_pools 19 = .ok (.getfield 69, 3) := by decide +kernel
theorem dX12_pools_22 : decode cX12_pools 22 = .ok (.iload 6, 2) := by decide +kernel
theorem dX12_pools_24 : decode cX12_pools 24 = .ok (.iload_n 1, 1) := by decide +kernel
theorem dX12_pools_25 : decode cX12_pools 25 = .ok (.iastore, 1) := by decide +kernel
theorem dX12_pools_26 : decode cX12_pools 26 = .ok (.aload_n 0, 1) := by decide +kernel
theorem dX12_pools_27 : decode cX12_pools 27 = .ok (.getfield 72, 3) := by decide +kernel
theorem dX12_pools_30 : decode cX12_pools 30 = .ok (.iload 6, 2) := by decide +kernel
theorem dX12_pools_32 : decode cX12_pools 32 = .ok (.lconst 0, 1) := by decide +kernel
theorem dX12_pools_33 : decode cX12_pools 33 = .ok (.lastore, 1) := by decide +kernel
theorem dX12_pools_34 : decode cX12_pools 34 = .ok (.aload_n 0, 1) := by decide +kernel
theorem dX12_pools_35 : decode cX12_pools 35 = .ok (.getfield 75, 3) := by decide +kernel
theorem dX12_pools_38 : decode cX12_pools 38 = .ok (.iload 6, 2) := by decide +kernel
theorem dX12_pools_40 : decode cX12_pools 40 = .ok (.lconst 0, 1) := by decide +kernel
theorem dX12_pools_41 : decode cX12_pools 41 = .ok (.lastore, 1) := by decide +kernel
theorem dX12_pools_42 : decode cX12_pools 42 = .ok (.aload_n 0, 1) := by decide +kernel
theorem dX12_pools_43 : decode cX12_pools 43 = .ok (.dup, 1) := by decide +kernel
theorem dX12_pools_44 : decode cX12_pools 44 = .ok (.getfield 156, 3) := by decide +kernel
theorem dX12_pools_47 : decode cX12_pools 47 = .ok (.iconst 1, 1) := by decide +kernel
theorem dX12_pools_48 : decode cX12_pools 48 = .ok (.iadd, 1) := by decide +kernel
theorem dX12_pools_49 : decode cX12_pools 49 = .ok (.putfield 156, 3) := by decide +kernel
theorem dX12_pools_52 : decode cX12_pools 52 = .ok (.aload_n 0, 1) := by decide +kernel
theorem dX12_pools_53 : decode cX12_pools 53 = .ok (.getfield 72, 3) := by decide +kernel
theorem dX12_pools_56 : decode cX12_pools 56 = .ok (.iload 6, 2) := by decide +kernel
theorem dX12_pools_58 : decode cX12_pools 58 = .ok (.dup2, 1) := by decide +kernel
theorem dX12_pools_59 : decode cX12_pools 59 = .ok (.laload, 1) := by decide +kernel
theorem dX12_pools_60 : decode cX12_pools 60 = .ok (.lload_n 2, 1) := by decide +kernel
theorem dX12_pools_61 : decode cX12_pools 61 = .ok (.ladd, 1) := by decide +kernel
theorem dX12_pools_62 : decode cX12_pools 62 = .ok (.lastore, 1) := by decide +kernel
theorem dX12_pools_63 : decode cX12_pools 63 = .ok (.aload_n 0, 1) := by decide +kernel
theorem dX12_pools_64 : decode cX12_pools 64 = .ok (.getfield 75, 3) := by decide +kernel
theorem dX12_pools_67 : decode cX12_pools 67 = .ok (.iload 6, 2) := by decide +kernel
theorem dX12_pools_69 : decode cX12_pools 69 = .ok (.dup2, 1) := by decide +kernel
theorem dX12_pools_70 : decode cX12_pools 70 = .ok (.laload, 1) := by decide +kernel
theorem dX12_pools_71 : decode cX12_pools 71 = .ok (.lload 4, 2) := by decide +kernel
theorem dX12_pools_73 : decode cX12_pools 73 = .ok (.ladd, 1) := by decide +kernel
theorem dX12_pools_74 : decode cX12_pools 74 = .ok (.lastore, 1) := by decide +kernel
theorem dX12_pools_75 : decode cX12_pools 75 = .ok (.return_, 1) := by decide +kernel
theorem dX12_join_0 : decode cX12_join 0 = .ok (.iload_n 1, 1) := by decide +kernel
theorem dX12_join_1 : decode cX12_join 1 = .ok (.invokestatic 146, 3) := by decide +kernel
theorem dX12_join_4 : decode cX12_join 4 = .ok (.ifCond .eq 30, 3) := by decide +kernel
theorem dX12_join_7 : decode cX12_join 7 = .ok (.iload_n 2, 1) := by decide +kernel
theorem dX12_join_8 : decode cX12_join 8 = .ok (.invokestatic 146, 3) := by decide +kernel
theorem dX12_join_11 : decode cX12_join 11 = .ok (.ifCond .eq 23, 3) := by decide +kernel
theorem dX12_join_14 : decode cX12_join 14 = .ok (.aload_n 0, 1) := by decide +kernel
theorem dX12_join_15 : decode cX12_join 15 = .ok (.getfield 16, 3) := by decide +kernel
theorem dX12_join_18 : decode cX12_join 18 = .ok (.iload_n 1, 1) := by decide +kernel
theorem dX12_join_19 : decode cX12_join 19 = .ok (.laload, 1) := by decide +kernel
theorem dX12_join_20 : decode cX12_join 20 = .ok (.aload_n 0, 1) := by decide +kernel
theorem dX12_join_21 : decode cX12_join 21 = .ok (.getfield 16, 3) := by decide +kernel
theorem dX12_join_24 : decode cX12_join 24 = .ok (.iload_n 2, 1) := by decide +kernel
theorem dX12_join_25 : decode cX12_join 25 = .ok (.laload, 1) := by decide +kernel
theorem dX12_join_26 : decode cX12_join 26 = .ok (.ladd, 1) := by decide +kernel
theorem dX12_join_27 : decode cX12_join 27 = .ok (.ldc2_w 149, 3) := by decide +kernel
theorem dX12_join_30 : decode cX12_join 30 = .ok (.lcmp, 1) := by decide +kernel
theorem dX12_join_31 : decode cX12_join 31 = .ok (.ifCond .le 7, 3) := by decide +kernel
theorem dX12_join_34 : decode cX12_join 34 = .ok (.ldc2_w 151, 3) := by decide +kernel
theorem dX12_join_37 : decode cX12_join 37 = .ok (.lreturn, 1) := by decide +kernel
theorem dX12_join_38 : decode cX12_join 38 = .ok (.aload_n 0, 1) := by decide +kernel
theorem dX12_join_39 : decode cX12_join 39 = .ok (.iload_n 1, 1) := by decide +kernel
theorem dX12_join_40 : decode cX12_join 40 = .ok (.iload_n 2, 1) := by decide +kernel
theorem dX12_join_41 : decode cX12_join 41 = .ok (.invokevirtual 163, 3) := by decide +kernel
theorem dX12_join_44 : decode cX12_join 44 = .ok (.aload_n 0, 1) := by decide +kernel
theorem dX12_join_45 : decode cX12_join 45 = .ok (.iload_n 1, 1) := by decide +kernel
theorem dX12_join_46 : decode cX12_join 46 = .ok (.iload_n 2, 1) := by decide +kernel
theorem dX12_join_47 : decode cX12_join 47 = .ok (.invokevirtual 166, 3) := by decide +kernel
theorem dX12_join_50 : decode cX12_join 50 = .ok (.aload_n 0, 1) := by decide +kernel
theorem dX12_join_51 : decode cX12_join 51 = .ok (.iload_n 1, 1) := by decide +kernel
theorem dX12_join_52 : decode cX12_join 52 = .ok (.iload_n 2, 1) := by decide +kernel
theorem dX12_join_53 : decode cX12_join 53 = .ok (.invokevirtual 169, 3) := by decide +kernel
theorem dX12_join_56 : decode cX12_join 56 = .ok (.iconst 0, 1) := by decide +kernel
theorem dX12_join_57 : decode cX12_join 57 = .ok (.istore_n 3, 1) := by decide +kernel
theorem dX12_join_58 : decode cX12_join 58 = .ok (.iload_n 3, 1) := by decide +kernel
theorem dX12_join_59 : decode cX12_join 59 = .ok (.sipush 2048, 3) := by decide +kernel
theorem dX12_join_62 : decode cX12_join 62 = .ok (.if_icmp .ge 63, 3) := by decide +kernel
theorem dX12_join_65 : decode cX12_join 65 = .ok (.aload_n 0, 1) := by decide +kernel
theorem dX12_join_66 : decode cX12_join 66 = .ok (.getfield 20, 3) := by decide +kernel
theorem dX12_join_69 : decode cX12_join 69 = .ok (.sipush 2048, 3) := by decide +kernel
theorem dX12_join_72 : decode cX12_join 72 = .ok (.iload_n 1, 1) := by decide +kernel
theorem dX12_join_73 : decode cX12_join 73 = .ok (.imul, 1) := by decide +kernel
theorem dX12_join_74 : decode cX12_join 74 = .ok (.iload_n 3, 1) := by decide +kernel
theorem dX12_join_75 : decode cX12_join 75 = .ok (.iadd, 1) := by decide +kernel
theorem dX12_join_76 : decode cX12_join 76 = .ok (.dup2, 1) := by decide +kernel
theorem dX12_join_77 : decode cX12_join 77 = .ok (.laload, 1) := by decide +kernel
theorem dX12_join_78 : decode cX12_join 78 = .ok (.aload_n 0, 1) := by decide +kernel
theorem dX12_join_79 : decode cX12_join 79 = .ok (.getfield 20, 3) := by decide +kernel
theorem dX12_join_82 : decode cX12_join 82 = .ok (.sipush 2048, 3) := by decide +kernel
theorem dX12_join_85 : decode cX12_join 85 = .ok (.iload_n 2, 1) := by decide +kernel
theorem dX12_join_86 : decode cX12_join 86 = .ok (.imul, 1) := by decide +kernel
theorem dX12_join_87 : decode cX12_join 87 = .ok (.iload_n 3, 1) := by decide +kernel
theorem dX12_join_88 : decode cX12_join 88 = .ok (.iadd, 1) := by decide +kernel
theorem dX12_join_89 : decode cX12_join 89 = .ok (.laload, 1) := by decide +kernel
theorem dX12_join_90 : decode cX12_join 90 = .ok (.ladd, 1) := by decide +kernel
theorem dX12_join_91 : decode cX12_join 91 = .ok (.lastore, 1) := by decide +kernel
theorem dX12_join_92 : decode cX12_join 92 = .ok (.aload_n 0, 1) := by decide +kernel
theorem dX12_join_93 : decode cX12_join 93 = .ok (.getfield 23, 3) := by decide +kernel
theorem dX12_join_96 : decode cX12_join 96 = .ok (.sipush 2048, 3) := by decide +kernel
theorem dX12_join_99 : decode cX12_join 99 = .ok (.iload_n 1, 1) := by decide +kernel
theorem dX12_join_100 : decode cX12_join 100 = .ok (.imul, 1) := by decide +kernel
theorem dX12_join_101 : decode cX12_join 101 = .ok (.iload_n 3, 1) := by decide +kernel
theorem dX12_join_102 : decode cX12_join 102 = .ok (.iadd, 1) := by decide +kernel
theorem dX12_join_103 : decode cX12_join 103 = .ok (.dup2, 1) := by decide +kernel
theorem dX12_join_104 : decode cX12_join 104 = .ok (.laload, 1) := by decide +kernel
theorem dX12_join_105 : decode cX12_join 105 = .ok (.aload_n 0, 1) := by decide +kernel
theorem dX12_join_106 : decode cX12_join 106 = .ok (.getfield 23, 3) := by decide +kernel
theorem dX12_join_109 : decode cX12_join 109 = .ok (.sipush 2048, 3) := by decide +kernel
theorem dX12_join_112 : decode cX12_join 112 = .ok (.iload_n 2, 1) := by decide +kernel
theorem dX12_join_113 : decode cX12_join 113 = .ok (.imul, 1) := by decide +kernel
theorem dX12_join_114 : decode cX12_join 114 = .ok (.iload_n 3, 1) := by decide +kernel
theorem dX12_join_115 : decode cX12_join 115 = .ok (.iadd, 1) := by decide +kernel
theorem dX12_join_116 : decode cX12_join 116 = .ok (.laload, 1) := by decide +kernel
theorem dX12_join_117 : decode cX12_join 117 = .ok (.ladd, 1) := by decide +kernel
theorem dX12_join_118 : decode cX12_join 118 = .ok (.lastore, 1) := by decide +kernel
theorem dX12_join_119 : decode cX12_join 119 = .ok (.iinc 3 1, 3) := by decide +kernel
theorem dX12_join_122 : decode cX12_join 122 = .ok (.goto (-64), 3) := by decide +kernel
theorem dX12_join_125 : decode cX12_join 125 = .ok (.aload_n 0, 1) := by decide +kernel
theorem dX12_join_126 : decode cX12_join 126 = .ok (.getfield 16, 3) := by decide +kernel
theorem dX12_join_129 : decode cX12_join 129 = .ok (.iload_n 1, 1) := by decide +kernel
theorem dX12_join_130 : decode cX12_join 130 = .ok (.dup2, 1) := by decide +kernel
theorem dX12_join_131 : decode cX12_join 131 = .ok (.laload, 1) := by decide +kernel
theorem dX12_join_132 : decode cX12_join 132 = .ok (.aload_n 0, 1) := by decide +kernel
theorem dX12_join_133 : decode cX12_join 133 = .ok (.getfield 16, 3) := by decide +kernel
theorem dX12_join_136 : decode cX12_join 136 = .ok (.iload_n 2, 1) := by decide +kernel
theorem dX12_join_137 : decode cX12_join 137 = .ok (.laload, 1) := by decide +kernel
theorem dX12_join_138 : decode cX12_join 138 = .ok (.ladd, 1) := by decide +kernel
theorem dX12_join_139 : decode cX12_join 139 = .ok (.lastore, 1) := by decide +kernel
theorem dX12_join_140 : decode cX12_join 140 = .ok (.aload_n 0, 1) := by decide +kernel
theorem dX12_join_141 : decode cX12_join 141 = .ok (.getfield 16, 3) := by decide +kernel
theorem dX12_join_144 : decode cX12_join 144 = .ok (.iload_n 1, 1) := by decide +kernel
theorem dX12_join_145 : decode cX12_join 145 = .ok (.laload, 1) := by decide +kernel
theorem dX12_join_146 : decode cX12_join 146 = .ok (.lreturn, 1) := by decide +kernel
theorem dX12_joinMisra_0 : decode cX12_joinMisra 0 = .ok (.aload_n 0, 1) := by decide +kernel
theorem dX12_joinMisra_1 : decode cX12_joinMisra 1 = .ok (.iconst 0, 1) := by decide +kernel
theorem dX12_joinMisra_2 : decode cX12_joinMisra 2 = .ok (.putfield 156, 3) := by decide +kernel
theorem dX12_joinMisra_5 : decode cX12_joinMisra 5 = .ok (.bipush 64, 2) := by decide +kernel
theorem dX12_joinMisra_7 : decode cX12_joinMisra 7 = .ok (.iload_n 1, 1) := by decide +kernel
theorem dX12_joinMisra_8 : decode cX12_joinMisra 8 = .ok (.imul, 1) := by decide +kernel
theorem dX12_joinMisra_9 : decode cX12_joinMisra 9 = .ok (.istore_n 3, 1) := by decide +kernel
theorem dX12_joinMisra_10 : decode cX12_joinMisra 10 = .ok (.iload_n 3, 1) := by decide +kernel
theorem dX12_joinMisra_11 : decode cX12_joinMisra 11 = .ok (.bipush 64, 2) := by decide +kernel
theorem dX12_joinMisra_13 : decode cX12_joinMisra 13 = .ok (.iload_n 1, 1) := by decide +kernel
theorem dX12_joinMisra_14 : decode cX12_joinMisra 14 = .ok (.imul, 1) := by decide +kernel
theorem dX12_joinMisra_15 : decode cX12_joinMisra 15 = .ok (.aload_n 0, 1) := by decide +kernel
theorem dX12_joinMisra_16 : decode cX12_joinMisra 16 = .ok (.getfield 26, 3) := by decide +kernel
theorem dX12_joinMisra_19 : decode cX12_joinMisra 19 = .ok (.iload_n 1, 1) := by decide +kernel
theorem dX12_joinMisra_20 : decode cX12_joinMisra 20 = .ok (.iaload, 1) := by decide +kernel
theorem dX12_joinMisra_21 : decode cX12_joinMisra 21 = .ok (.iadd, 1) := by decide +kernel
theorem dX12_joinMisra_22 : decode cX12_joinMisra 22 = .ok (.if_icmp .ge 26, 3) := by decide +kernel
theorem dX12_joinMisra_25 : decode cX12_joinMisra 25 = .ok (.aload_n 0, 1) := by decide +kernel
theorem dX12_joinMisra_26 : decode cX12_joinMisra 26 = .ok (.aload_n 0, 1) := by decide +kernel
theorem dX12_joinMisra_27 : decode cX12_joinMisra 27 = .ok (.getfield 32, 3) := by decide +kernel
theorem dX12_joinMisra_30 : decode cX12_joinMisra 30 = .ok (.iload_n 3, 1) := by decide +kernel
theorem dX12_joinMisra_31 : decode cX12_joinMisra 31 = .ok (.iaload, 1) := by decide +kernel
theorem dX12_joinMisra_32 : decode cX12_joinMisra 32 = .ok (.aload_n 0, 1) := by decide +kernel
theorem dX12_joinMisra_33 : decode cX12_joinMisra 33 = .ok (.getfield 35, 3) := by decide +kernel
theorem dX12_joinMisra_36 : decode cX12_joinMisra 36 = .ok (.iload_n 3, 1) := by decide +kernel
theorem dX12_joinMisra_37 : decode cX12_joinMisra 37 = .ok (.laload, 1) := by decide +kernel
theorem dX12_joinMisra_38 : decode cX12_joinMisra 38 = .ok (.lconst 0, 1) := by decide +kernel
theorem dX12_joinMisra_39 : decode cX12_joinMisra 39 = .ok (.invokevirtual 172, 3) := by decide +kernel
theorem dX12_joinMisra_42 : decode cX12_joinMisra 42 = .ok (.iinc 3 1, 3) := by decide +kernel
theorem dX12_joinMisra_45 : decode cX12_joinMisra 45 = .ok (.goto (-35), 3) := by decide +kernel
theorem dX12_joinMisra_48 : decode cX12_joinMisra 48 = .ok (.bipush 64, 2) := by decide +kernel
theorem dX12_joinMisra_50 : decode cX12_joinMisra 50 = .ok (.iload_n 2, 1) := by decide +kernel
theorem dX12_joinMisra_51 : decode cX12_joinMisra 51 = .ok (.imul, 1) := by decide +kernel
theorem dX12_joinMisra_52 : decode cX12_joinMisra 52 = .ok (.istore_n 3, 1) := by decide +kernel
theorem dX12_joinMisra_53 : decode cX12_joinMisra 53 = .ok (.iload_n 3, 1) := by decide +kernel
theorem dX12_joinMisra_54 : decode cX12_joinMisra 54 = .ok (.bipush 64, 2) := by decide +kernel
theorem dX12_joinMisra_56 : decode cX12_joinMisra 56 = .ok (.iload_n 2, 1) := by decide +kernel
theorem dX12_joinMisra_57 : decode cX12_joinMisra 57 = .ok (.imul, 1) := by decide +kernel
theorem dX12_joinMisra_58 : decode cX12_joinMisra 58 = .ok (.aload_n 0, 1) := by decide +kernel
theorem dX12_joinMisra_59 : decode cX12_joinMisra 59 = .ok (.getfield 26, 3) := by decide +kernel
theorem dX12_joinMisra_62 : decode cX12_joinMisra 62 = .ok (.iload_n 2, 1) := by decide +kernel
theorem dX12_joinMisra_63 : decode cX12_joinMisra 63 = .ok (.iaload, 1) := by decide +kernel
theorem dX12_joinMisra_64 : decode cX12_joinMisra 64 = .ok (.iadd, 1) := by decide +kernel
theorem dX12_joinMisra_65 : decode cX12_joinMisra 65 = .ok (.if_icmp .ge 26, 3) := by decide +kernel
theorem dX12_joinMisra_68 : decode cX12_joinMisra 68 = .ok (.aload_n 0, 1) := by decide +kernel
theorem dX12_joinMisra_69 : decode cX12_joinMisra 69 = .ok (.aload_n 0, 1) := by decide +kernel
theorem dX12_joinMisra_70 : decode cX12_joinMisra 70 = .ok (.getfield 32, 3) := by decide +kernel
theorem dX12_joinMisra_73 : decode cX12_joinMisra 73 = .ok (.iload_n 3, 1) := by decide +kernel
theorem dX12_joinMisra_74 : decode cX12_joinMisra 74 = .ok (.iaload, 1) := by decide +kernel
theorem dX12_joinMisra_75 : decode cX12_joinMisra 75 = .ok (.aload_n 0, 1) := by decide +kernel
theorem dX12_joinMisra_76 : decode cX12_joinMisra 76 = .ok (.getfield 35, 3) := by decide +kernel
theorem dX12_joinMisra_79 : decode cX12_joinMisra 79 = .ok (.iload_n 3, 1) := by decide +kernel
theorem dX12_joinMisra_80 : decode cX12_joinMisra 80 = .ok (.laload, 1) := by decide +kernel
theorem dX12_joinMisra_81 : decode cX12_joinMisra 81 = .ok (.lconst 0, 1) := by decide +kernel
theorem dX12_joinMisra_82 : decode cX12_joinMisra 82 = .ok (.invokevirtual 172, 3) := by decide +kernel
theorem dX12_joinMisra_85 : decode cX12_joinMisra 85 = .ok (.iinc 3 1, 3) := by decide +kernel
theorem dX12_joinMisra_88 : decode cX12_joinMisra 88 = .ok (.goto (-35), 3) := by decide +kernel
theorem dX12_joinMisra_91 : decode cX12_joinMisra 91 = .ok (.aload_n 0, 1) := by decide +kernel
theorem dX12_joinMisra_92 : decode cX12_joinMisra 92 = .ok (.getfield 156, 3) := by decide +kernel
theorem dX12_joinMisra_95 : decode cX12_joinMisra 95 = .ok (.aload_n 0, 1) := by decide +kernel
theorem dX12_joinMisra_96 : decode cX12_joinMisra 96 = .ok (.getfield 97, 3) := by decide +kernel
theorem dX12_joinMisra_99 : decode cX12_joinMisra 99 = .ok (.if_icmp .le 16, 3) := by decide +kernel
theorem dX12_joinMisra_102 : decode cX12_joinMisra 102 = .ok (.aload_n 0, 1) := by decide +kernel
theorem dX12_joinMisra_103 : decode cX12_joinMisra 103 = .ok (.aload_n 0, 1) := by decide +kernel
theorem dX12_joinMisra_104 : decode cX12_joinMisra 104 = .ok (.getfield 97, 3) := by decide +kernel
theorem dX12_joinMisra_107 : decode cX12_joinMisra 107 = .ok (.iconst 1, 1) := by decide +kernel
theorem dX12_joinMisra_108 : decode cX12_joinMisra 108 = .ok (.iadd, 1) := by decide +kernel
theorem dX12_joinMisra_109 : decode cX12_joinMisra 109 = .ok (.invokevirtual 176, 3) := by decide +kernel
theorem dX12_joinMisra_112 : decode cX12_joinMisra 112 = .ok (.goto 4, 3) := by decide +kernel
theorem dX12_joinMisra_115 : decode cX12_joinMisra 115 = .ok (.lconst 0, 1) := by decide +kernel
theorem dX12_joinMisra_116 : decode cX12_joinMisra 116 = .ok (.lstore_n 3, 1) := by decide +kernel
theorem dX12_joinMisra_117 : decode cX12_joinMisra 117 = .ok (.aload_n 0, 1) := by decide +kernel
theorem dX12_joinMisra_118 : decode cX12_joinMisra 118 = .ok (.getfield 29, 3) := by decide +kernel
theorem dX12_joinMisra_121 : decode cX12_joinMisra 121 = .ok (.iload_n 1, 1) := by decide +kernel
theorem dX12_joinMisra_122 : decode cX12_joinMisra 122 = .ok (.dup2, 1) := by decide +kernel
theorem dX12_joinMisra_123 : decode cX12_joinMisra 123 = .ok (.laload, 1) := by decide +kernel
theorem dX12_joinMisra_124 : decode cX12_joinMisra 124 = .ok (.aload_n 0, 1) := by decide +kernel
theorem dX12_joinMisra_125 : decode cX12_joinMisra 125 = .ok (.getfield 29, 3) := by decide +kernel
theorem dX12_joinMisra_128 : decode cX12_joinMisra 128 = .ok (.iload_n 2, 1) := by decide +kernel
theorem dX12_joinMisra_129 : decode cX12_joinMisra 129 = .ok (.laload, 1) := by decide +kernel
theorem dX12_joinMisra_130 : decode cX12_joinMisra 130 = .ok (.lload_n 3, 1) := by decide +kernel
theorem dX12_joinMisra_131 : decode cX12_joinMisra 131 = .ok (.ladd, 1) := by decide +kernel
theorem dX12_joinMisra_132 : decode cX12_joinMisra 132 = .ok (.ladd, 1) := by decide +kernel
theorem dX12_joinMisra_133 : decode cX12_joinMisra 133 = .ok (.lastore, 1) := by decide +kernel
theorem dX12_joinMisra_134 : decode cX12_joinMisra 134 = .ok (.aload_n 0, 1) := by decide +kernel
theorem dX12_joinMisra_135 : decode cX12_joinMisra 135 = .ok (.getfield 26, 3) := by decide +kernel
theorem dX12_joinMisra_138 : decode cX12_joinMisra 138 = .ok (.iload_n 1, 1) := by decide +kernel
theorem dX12_joinMisra_139 : decode cX12_joinMisra 139 = .ok (.iconst 0, 1) := by decide +kernel
theorem dX12_joinMisra_140 : decode cX12_joinMisra 140 = .ok (.iastore, 1) := by decide +kernel
theorem dX12_joinMisra_141 : decode cX12_joinMisra 141 = .ok (.iconst 0, 1) := by decide +kernel
theorem dX12_joinMisra_142 : decode cX12_joinMisra 142 = .ok (.istore 5, 2) := by decide +kernel
theorem dX12_joinMisra_144 : decode cX12_joinMisra 144 = .ok (.iload 5, 2) := by decide +kernel
theorem dX12_joinMisra_146 : decode cX12_joinMisra 146 = .ok (.aload_n 0, 1) := by decide +kernel
theorem dX12_joinMisra_147 : decode cX12_joinMisra 147 = .ok (.getfield 156, 3) := by decide +kernel
theorem dX12_joinMisra_150 : decode cX12_joinMisra 150 = .ok (.if_icmp .ge 79, 3) := by decide +kernel
theorem dX12_joinMisra_153 : decode cX12_joinMisra 153 = .ok (.aload_n 0, 1) := by decide +kernel
theorem dX12_joinMisra_154 : decode cX12_joinMisra 154 = .ok (.getfield 72, 3) := by decide +kernel
theorem dX12_joinMisra_157 : decode cX12_joinMisra 157 = .ok (.iload 5, 2) := by decide +kernel
theorem dX12_joinMisra_159 : decode cX12_joinMisra 159 = .ok (.laload, 1) := by decide +kernel
theorem dX12_joinMisra_160 : decode cX12_joinMisra 160 = .ok (.lload_n 3, 1) := by decide +kernel
theorem dX12_joinMisra_161 : decode cX12_joinMisra 161 = .ok (.lcmp, 1) := by decide +kernel
theorem dX12_joinMisra_162 : decode cX12_joinMisra 162 = .ok (.ifCond .le 61, 3) := by decide +kernel
theorem dX12_joinMisra_165 : decode cX12_joinMisra 165 = .ok (.aload_n 0, 1) := by decide +kernel
theorem dX12_joinMisra_166 : decode cX12_joinMisra 166 = .ok (.getfield 32, 3) := by decide +kernel
theorem dX12_joinMisra_169 : decode cX12_joinMisra 169 = .ok (.bipush 64, 2) := by decide +kernel
theorem dX12_joinMisra_171 : decode cX12_joinMisra 171 = .ok (.iload_n 1, 1) := by decide +kernel
theorem dX12_joinMisra_172 : decode cX12_joinMisra 172 = .ok (.imul, 1) := by decide +kernel
theorem dX12_joinMisra_173 : decode cX12_joinMisra 173 = .ok (.aload_n 0, 1) := by decide +kernel
theorem dX12_joinMisra_174 : decode cX12_joinMisra 174 = .ok (.getfield 26, 3) := by decide +kernel
theorem dX12_joinMisra_177 : decode cX12_joinMisra 177 = .ok (.iload_n 1, 1) := by decide +kernel
theorem dX12_joinMisra_178 : decode cX12_joinMisra 178 = .ok (.iaload, 1) := by decide +kernel
theorem dX12_joinMisra_179 : decode cX12_joinMisra 179 = .ok (.iadd, 1) := by decide +kernel
theorem dX12_joinMisra_180 : decode cX12_joinMisra 180 = .ok (.aload_n 0, 1) := by decide +kernel
theorem dX12_joinMisra_181 : decode cX12_joinMisra 181 = .ok (.getfield 69, 3) := by decide +kernel
theorem dX12_joinMisra_184 : decode cX12_joinMisra 184 = .ok (.iload 5, 2) := by decide +kernel
theorem dX12_joinMisra_186 : decode cX12_joinMisra 186 = .ok (.iaload, 1) := by decide +kernel
theorem dX12_joinMisra_187 : decode cX12_joinMisra 187 = .ok (.iastore, 1) := by decide +kernel
theorem dX12_joinMisra_188 : decode cX12_joinMisra 188 = .ok (.aload_n 0, 1) := by decide +kernel
theorem dX12_joinMisra_189 : decode cX12_joinMisra 189 = .ok (.getfield 35, 3) := by decide +kernel
theorem dX12_joinMisra_192 : decode cX12_joinMisra 192 = .ok (.bipush 64, 2) := by decide +kernel
theorem dX12_joinMisra_194 : decode cX12_joinMisra 194 = .ok (.iload_n 1, 1) := by decide +kernel
theorem dX12_joinMisra_195 : decode cX12_joinMisra 195 = .ok (.imul, 1) := by decide +kernel
theorem dX12_joinMisra_196 : decode cX12_joinMisra 196 = .ok (.aload_n 0, 1) := by decide +kernel
theorem dX12_joinMisra_197 : decode cX12_joinMisra 197 = .ok (.getfield 26, 3) := by decide +kernel
theorem dX12_joinMisra_200 : decode cX12_joinMisra 200 = .ok (.iload_n 1, 1) := by decide +kernel
theorem dX12_joinMisra_201 : decode cX12_joinMisra 201 = .ok (.iaload, 1) := by decide +kernel
theorem dX12_joinMisra_202 : decode cX12_joinMisra 202 = .ok (.iadd, 1) := by decide +kernel
theorem dX12_joinMisra_203 : decode cX12_joinMisra 203 = .ok (.aload_n 0, 1) := by decide +kernel
theorem dX12_joinMisra_204 : decode cX12_joinMisra 204 = .ok (.getfield 72, 3) := by decide +kernel
theorem dX12_joinMisra_207 : decode cX12_joinMisra 207 = .ok (.iload 5, 2) := by decide +kernel
theorem dX12_joinMisra_209 : decode cX12_joinMisra 209 = .ok (.laload, 1) := by decide +kernel
theorem dX12_joinMisra_210 : decode cX12_joinMisra 210 = .ok (.lload_n 3, 1) := by decide +kernel
theorem dX12_joinMisra_211 : decode cX12_joinMisra 211 = .ok (.lsub, 1) := by decide +kernel
theorem dX12_joinMisra_212 : decode cX12_joinMisra 212 = .ok (.lastore, 1) := by decide +kernel
theorem dX12_joinMisra_213 : decode cX12_joinMisra 213 = .ok (.aload_n 0, 1) := by decide +kernel
theorem dX12_joinMisra_214 : decode cX12_joinMisra 214 = .ok (.getfield 26, 3) := by decide +kernel
theorem dX12_joinMisra_217 : decode cX12_joinMisra 217 = .ok (.iload_n 1, 1) := by decide +kernel
theorem dX12_joinMisra_218 : decode cX12_joinMisra 218 = .ok (.dup2, 1) := by decide +kernel
theorem dX12_joinMisra_219 : decode cX12_joinMisra 219 = .ok (.iaload, 1) := by decide +kernel
theorem dX12_joinMisra_220 : decode cX12_joinMisra 220 = .ok (.iconst 1, 1) := by decide +kernel
theorem dX12_joinMisra_221 : decode cX12_joinMisra 221 = .ok (.iadd, 1) := by decide +kernel
theorem dX12_joinMisra_222 : decode cX12_joinMisra 222 = .ok (.iastore, 1) := by decide +kernel
theorem dX12_joinMisra_223 : decode cX12_joinMisra 223 = .ok (.iinc 5 1, 3) := by decide +kernel
theorem dX12_joinMisra_226 : decode cX12_joinMisra 226 = .ok (.goto (-82), 3) := by decide +kernel
theorem dX12_joinMisra_229 : decode cX12_joinMisra 229 = .ok (.return_, 1) := by decide +kernel
theorem dX12_greatest_0 : decode cX12_greatest 0 = .ok (.lconst 0, 1) := by decide +kernel
theorem dX12_greatest_1 : decode cX12_greatest 1 = .ok (.lstore_n 2, 1) := by decide +kernel
theorem dX12_greatest_2 : decode cX12_greatest 2 = .ok (.iconst 0, 1) := by decide +kernel
theorem dX12_greatest_3 : decode cX12_greatest 3 = .ok (.istore 4, 2) := by decide +kernel
theorem dX12_greatest_5 : decode cX12_greatest 5 = .ok (.iload 4, 2) := by decide +kernel
theorem dX12_greatest_7 : decode cX12_greatest 7 = .ok (.aload_n 0, 1) := by decide +kernel
theorem dX12_greatest_8 : decode cX12_greatest 8 = .ok (.getfield 156, 3) := by decide +kernel
theorem dX12_greatest_11 : decode cX12_greatest 11 = .ok (.if_icmp .ge 116, 3) := by decide +kernel
theorem dX12_greatest_14 : decode cX12_greatest 14 = .ok (.iconst 0, 1) := by decide +kernel
theorem dX12_greatest_15 : decode cX12_greatest 15 = .ok (.istore 5, 2) := by decide +kernel
theorem dX12_greatest_17 : decode cX12_greatest 17 = .ok (.iconst 0, 1) := by decide +kernel
theorem dX12_greatest_18 : decode cX12_greatest 18 = .ok (.istore 6, 2) := by decide +kernel
theorem dX12_greatest_20 : decode cX12_greatest 20 = .ok (.iconst 0, 1) := by decide +kernel
theorem dX12_greatest_21 : decode cX12_greatest 21 = .ok (.istore 7, 2) := by decide +kernel
theorem dX12_greatest_23 : decode cX12_greatest 23 = .ok (.iload 7, 2) := by decide +kernel
theorem dX12_greatest_25 : decode cX12_greatest 25 = .ok (.aload_n 0, 1) := by decide +kernel
theorem dX12_greatest_26 : decode cX12_greatest 26 = .ok (.getfield 156, 3) := by decide +kernel
theorem dX12_greatest_29 : decode cX12_greatest 29 = .ok (.if_icmp .ge 65, 3) := by decide +kernel
theorem dX12_greatest_32 : decode cX12_greatest 32 = .ok (.iload 5, 2) := by decide +kernel
theorem dX12_greatest_34 : decode cX12_greatest 34 = .ok (.aload_n 0, 1) := by decide +kernel
theorem dX12_greatest_35 : decode cX12_greatest 35 = .ok (.getfield 72, 3) := by decide +kernel
theorem dX12_greatest_38 : decode cX12_greatest 38 = .ok (.iload 7, 2) := by decide +kernel
theorem dX12_greatest_40 : decode cX12_greatest 40 = .ok (.laload, 1) := by decide +kernel
theorem dX12_greatest_41 : decode cX12_greatest 41 = .ok (.aload_n 0, 1) := by decide +kernel
theorem dX12_greatest_42 : decode cX12_greatest 42 = .ok (.getfield 72, 3) := by decide +kernel
theorem dX12_greatest_45 : decode cX12_greatest 45 = .ok (.iload 4, 2) := by decide +kernel
theorem dX12_greatest_47 : decode cX12_greatest 47 = .ok (.laload, 1) := by decide +kernel
theorem dX12_greatest_48 : decode cX12_greatest 48 = .ok (.lcmp, 1) := by decide +kernel
theorem dX12_greatest_49 : decode cX12_greatest 49 = .ok (.ifCond .le 7, 3) := by decide +kernel
theorem dX12_greatest_52 : decode cX12_greatest 52 = .ok (.iconst 1, 1) := by decide +kernel
theorem dX12_greatest_53 : decode cX12_greatest 53 = .ok (.goto 4, 3) := by decide +kernel
theorem dX12_greatest_56 : decode cX12_greatest 56 = .ok (.iconst 0, 1) := by decide +kernel
theorem dX12_greatest_57 : decode cX12_greatest 57 = .ok (.iadd, 1) := by decide +kernel
theorem dX12_greatest_58 : decode cX12_greatest 58 = .ok (.istore 5, 2) := by decide +kernel
theorem dX12_greatest_60 : decode cX12_greatest 60 = .ok (.iload 6, 2) := by decide +kernel
theorem dX12_greatest_62 : decode cX12_greatest 62 = .ok (.aload_n 0, 1) := by decide +kernel
theorem dX12_greatest_63 : decode cX12_greatest 63 = .ok (.getfield 72, 3) := by decide +kernel
theorem dX12_greatest_66 : decode cX12_greatest 66 = .ok (.iload 7, 2) := by decide +kernel
theorem dX12_greatest_68 : decode cX12_greatest 68 = .ok (.laload, 1) := by decide +kernel
theorem dX12_greatest_69 : decode cX12_greatest 69 = .ok (.aload_n 0, 1) := by decide +kernel
theorem dX12_greatest_70 : decode cX12_greatest 70 = .ok (.getfield 72, 3) := by decide +kernel
theorem dX12_greatest_73 : decode cX12_greatest 73 = .ok (.iload 4, 2) := by decide +kernel
theorem dX12_greatest_75 : decode cX12_greatest 75 = .ok (.laload, 1) := by decide +kernel
theorem dX12_greatest_76 : decode cX12_greatest 76 = .ok (.lcmp, 1) := by decide +kernel
theorem dX12_greatest_77 : decode cX12_greatest 77 = .ok (.ifCond .ne 7, 3) := by decide +kernel
theorem dX12_greatest_80 : decode cX12_greatest 80 = .ok (.iconst 1, 1) := by decide +kernel
theorem dX12_greatest_81 : decode cX12_greatest 81 = .ok (.goto 4, 3) := by decide +kernel
theorem dX12_greatest_84 : decode cX12_greatest 84 = .ok (.iconst 0, 1) := by decide +kernel
theorem dX12_greatest_85 : decode cX12_greatest 85 = .ok (.iadd, 1) := by decide +kernel
theorem dX12_greatest_86 : decode cX12_greatest 86 = .ok (.istore 6, 2) := by decide +kernel
theorem dX12_greatest_88 : decode cX12_greatest 88 = .ok (.iinc 7 1, 3) := by decide +kernel
theorem dX12_greatest_91 : decode cX12_greatest 91 = .ok (.goto (-68), 3) := by decide +kernel
theorem dX12_greatest_94 : decode cX12_greatest 94 = .ok (.iload 5, 2) := by decide +kernel
theorem dX12_greatest_96 : decode cX12_greatest 96 = .ok (.iload_n 1, 1) := by decide +kernel
theorem dX12_greatest_97 : decode cX12_greatest 97 = .ok (.if_icmp .ge 22, 3) := by decide +kernel
theorem dX12_greatest_100 : decode cX12_greatest 100 = .ok (.iload 5, 2) := by decide +kernel
theorem dX12_greatest_102 : decode cX12_greatest 102 = .ok (.iload 6, 2) := by decide +kernel
theorem dX12_greatest_104 : decode cX12_greatest 104 = .ok (.iadd, 1) := by decide +kernel
theorem dX12_greatest_105 : decode cX12_greatest 105 = .ok (.iload_n 1, 1) := by decide +kernel
theorem dX12_greatest_106 : decode cX12_greatest 106 = .ok (.if_icmp .lt 13, 3) := by decide +kernel
theorem dX12_greatest_109 : decode cX12_greatest 109 = .ok (.aload_n 0, 1) := by decide +kernel
theorem dX12_greatest_110 : decode cX12_greatest 110 = .ok (.getfield 72, 3) := by decide +kernel
theorem dX12_greatest_113 : decode cX12_greatest 113 = .ok (.iload 4, 2) := by decide +kernel
theorem dX12_greatest_115 : decode cX12_greatest 115 = .ok (.laload, 1) := by decide +kernel
theorem dX12_greatest_116 : decode cX12_greatest 116 = .ok (.goto 4, 3) := by decide +kernel
theorem dX12_greatest_119 : decode cX12_greatest 119 = .ok (.lload_n 2, 1) := by decide +kernel
theorem dX12_greatest_120 : decode cX12_greatest 120 = .ok (.lstore_n 2, 1) := by decide +kernel
theorem dX12_greatest_121 : decode cX12_greatest 121 = .ok (.iinc 4 1, 3) := by decide +kernel
theorem dX12_greatest_124 : decode cX12_greatest 124 = .ok (.goto (-119), 3) := by decide +kernel
theorem dX12_greatest_127 : decode cX12_greatest 127 = .ok (.lload_n 2, 1) := by decide +kernel
theorem dX12_greatest_128 : decode cX12_greatest 128 = .ok (.lreturn, 1) := by decide +kernel
theorem dX12_least_0 : decode cX12_least 0 = .ok (.aload_n 0, 1) := by decide +kernel
theorem dX12_least_1 : decode cX12_least 1 = .ok (.getfield 38, 3) := by decide +kernel
theorem dX12_least_4 : decode cX12_least 4 = .ok (.iload_n 1, 1) := by decide +kernel
theorem dX12_least_5 : decode cX12_least 5 = .ok (.iaload, 1) := by decide +kernel
theorem dX12_least_6 : decode cX12_least 6 = .ok (.aload_n 0, 1) := by decide +kernel
theorem dX12_least_7 : decode cX12_least 7 = .ok (.getfield 97, 3) := by decide +kernel
theorem dX12_least_10 : decode cX12_least 10 = .ok (.if_icmp .ne 15, 3) := by decide +kernel
theorem dX12_least_13 : decode cX12_least 13 = .ok (.aload_n 0, 1) := by decide +kernel
theorem dX12_least_14 : decode cX12_least 14 = .ok (.getfield 44, 3) := by decide +kernel
theorem dX12_least_17 : decode cX12_least 17 = .ok (.bipush 64, 2) := by decide +kernel
theorem dX12_least_19 : decode cX12_least 19 = .ok (.iload_n 1, 1) := by decide +kernel
theorem dX12_least_20 : decode cX12_least 20 = .ok (.imul, 1) := by decide +kernel
theorem dX12_least_21 : decode cX12_least 21 = .ok (.laload, 1) := by decide +kernel
theorem dX12_least_22 : decode cX12_least 22 = .ok (.goto 4, 3) := by decide +kernel
theorem dX12_least_25 : decode cX12_least 25 = .ok (.lconst 0, 1) := by decide +kernel
theorem dX12_least_26 : decode cX12_least 26 = .ok (.lreturn, 1) := by decide +kernel
theorem dX12_joinSaving_0 : decode cX12_joinSaving 0 = .ok (.aload_n 0, 1) := by decide +kernel
theorem dX12_joinSaving_1 : decode cX12_joinSaving 1 = .ok (.iconst 0, 1) := by decide +kernel
theorem dX12_joinSaving_2 : decode cX12_joinSaving 2 = .ok (.putfield 156, 3) := by decide +kernel
theorem dX12_joinSaving_5 : decode cX12_joinSaving 5 = .ok (.bipush 64, 2) := by decide +kernel
theorem dX12_joinSaving_7 : decode cX12_joinSaving 7 = .ok (.iload_n 1, 1) := by decide +kernel
theorem dX12_joinSaving_8 : decode cX12_joinSaving 8 = .ok (.imul, 1) := by decide +kernel
theorem dX12_joinSaving_9 : decode cX12_joinSaving 9 = .ok (.istore_n 3, 1) := by decide +kernel
theorem dX12_joinSaving_10 : decode cX12_joinSaving 10 = .ok (.iload_n 3, 1) := by decide +kernel
theorem dX12_joinSaving_11 : decode cX12_joinSaving 11 = .ok (.bipush 64, 2) := by decide +kernel
theorem dX12_joinSaving_13 : decode cX12_joinSaving 13 = .ok (.iload_n 1, 1) := by decide +kernel
theorem dX12_joinSaving_14 : decode cX12_joinSaving 14 = .ok (.imul, 1) := by decide +kernel
theorem dX12_joinSaving_15 : decode cX12_joinSaving 15 = .ok (.aload_n 0, 1) := by decide +kernel
theorem dX12_joinSaving_16 : decode cX12_joinSaving 16 = .ok (.getfield 38, 3) := by decide +kernel
theorem dX12_joinSaving_19 : decode cX12_joinSaving 19 = .ok (.iload_n 1, 1) := by decide +kernel
theorem dX12_joinSaving_20 : decode cX12_joinSaving 20 = .ok (.iaload, 1) := by decide +kernel
theorem dX12_joinSaving_21 : decode cX12_joinSaving 21 = .ok (.iadd, 1) := by decide +kernel
theorem dX12_joinSaving_22 : decode cX12_joinSaving 22 = .ok (.if_icmp .ge 86, 3) := by decide +kernel
theorem dX12_joinSaving_25 : decode cX12_joinSaving 25 = .ok (.aload_n 0, 1) := by decide +kernel
theorem dX12_joinSaving_26 : decode cX12_joinSaving 26 = .ok (.iload_n 2, 1) := by decide +kernel
theorem dX12_joinSaving_27 : decode cX12_joinSaving 27 = .ok (.aload_n 0, 1) := by decide +kernel
theorem dX12_joinSaving_28 : decode cX12_joinSaving 28 = .ok (.getfield 41, 3) := by decide +kernel
theorem dX12_joinSaving_31 : decode cX12_joinSaving 31 = .ok (.iload_n 3, 1) := by decide +kernel
theorem dX12_joinSaving_32 : decode cX12_joinSaving 32 = .ok (.iaload, 1) := by decide +kernel
theorem dX12_joinSaving_33 : decode cX12_joinSaving 33 = .ok (.invokevirtual 137, 3) := by decide +kernel
theorem dX12_joinSaving_36 : decode cX12_joinSaving 36 = .ok (.istore 4, 2) := by decide +kernel
theorem dX12_joinSaving_38 : decode cX12_joinSaving 38 = .ok (.aload_n 0, 1) := by decide +kernel
theorem dX12_joinSaving_39 : decode cX12_joinSaving 39 = .ok (.aload_n 0, 1) := by decide +kernel
theorem dX12_joinSaving_40 : decode cX12_joinSaving 40 = .ok (.getfield 41, 3) := by decide +kernel
theorem dX12_joinSaving_43 : decode cX12_joinSaving 43 = .ok (.iload_n 3, 1) := by decide +kernel
theorem dX12_joinSaving_44 : decode cX12_joinSaving 44 = .ok (.iaload, 1) := by decide +kernel
theorem dX12_joinSaving_45 : decode cX12_joinSaving 45 = .ok (.aload_n 0, 1) := by decide +kernel
theorem dX12_joinSaving_46 : decode cX12_joinSaving 46 = .ok (.getfield 44, 3) := by decide +kernel
theorem dX12_joinSaving_49 : decode cX12_joinSaving 49 = .ok (.iload_n 3, 1) := by decide +kernel
theorem dX12_joinSaving_50 : decode cX12_joinSaving 50 = .ok (.laload, 1) := by decide +kernel
theorem dX12_joinSaving_51 : decode cX12_joinSaving 51 = .ok (.iload 4, 2) := by decide +kernel
theorem dX12_joinSaving_53 : decode cX12_joinSaving 53 = .ok (.ifCond .ge 11, 3) := by decide +kernel
theorem dX12_joinSaving_56 : decode cX12_joinSaving 56 = .ok (.aload_n 0, 1) := by decide +kernel
theorem dX12_joinSaving_57 : decode cX12_joinSaving 57 = .ok (.iload_n 2, 1) := by decide +kernel
theorem dX12_joinSaving_58 : decode cX12_joinSaving 58 = .ok (.invokevirtual 180, 3) := by decide +kernel
theorem dX12_joinSaving_61 : decode cX12_joinSaving 61 = .ok (.goto 10, 3) := by decide +kernel
theorem dX12_joinSaving_64 : decode cX12_joinSaving 64 = .ok (.aload_n 0, 1) := by decide +kernel
theorem dX12_joinSaving_65 : decode cX12_joinSaving 65 = .ok (.getfield 44, 3) := by decide +kernel
theorem dX12_joinSaving_68 : decode cX12_joinSaving 68 = .ok (.iload 4, 2) := by decide +kernel
theorem dX12_joinSaving_70 : decode cX12_joinSaving 70 = .ok (.laload, 1) := by decide +kernel
theorem dX12_joinSaving_71 : decode cX12_joinSaving 71 = .ok (.ladd, 1) := by decide +kernel
theorem dX12_joinSaving_72 : decode cX12_joinSaving 72 = .ok (.aload_n 0, 1) := by decide +kernel
theorem dX12_joinSaving_73 : decode cX12_joinSaving 73 = .ok (.getfield 47, 3) := by decide +kernel
theorem dX12_joinSaving_76 : decode cX12_joinSaving 76 = .ok (.iload_n 3, 1) := by decide +kernel
theorem dX12_joinSaving_77 : decode cX12_joinSaving 77 = .ok (.laload, 1) := by decide +kernel
theorem dX12_joinSaving_78 : decode cX12_joinSaving 78 = .ok (.iload 4, 2) := by decide +kernel
theorem dX12_joinSaving_80 : decode cX12_joinSaving 80 = .ok (.ifCond .ge 11, 3) := by decide +kernel
theorem dX12_joinSaving_83 : decode cX12_joinSaving 83 = .ok (.aload_n 0, 1) := by decide +kernel
theorem dX12_joinSaving_84 : decode cX12_joinSaving 84 = .ok (.iload_n 2, 1) := by decide +kernel
theorem dX12_joinSaving_85 : decode cX12_joinSaving 85 = .ok (.invokevirtual 180, 3) := by decide +kernel
theorem dX12_joinSaving_88 : decode cX12_joinSaving 88 = .ok (.goto 10, 3) := by decide +kernel
theorem dX12_joinSaving_91 : decode cX12_joinSaving 91 = .ok (.aload_n 0, 1) := by decide +kernel
theorem dX12_joinSaving_92 : decode cX12_joinSaving 92 = .ok (.getfield 47, 3) := by decide +kernel
theorem dX12_joinSaving_95 : decode cX12_joinSaving 95 = .ok (.iload 4, 2) := by decide +kernel
theorem dX12_joinSaving_97 : decode cX12_joinSaving 97 = .ok (.laload, 1) := by decide +kernel
theorem dX12_joinSaving_98 : decode cX12_joinSaving 98 = .ok (.ladd, 1) := by decide +kernel
theorem dX12_joinSaving_99 : decode cX12_joinSaving 99 = .ok (.invokevirtual 172, 3) := by decide +kernel
theorem dX12_joinSaving_102 : decode cX12_joinSaving 102 = .ok (.iinc 3 1, 3) := by decide +kernel
theorem dX12_joinSaving_105 : decode cX12_joinSaving 105 = .ok (.goto (-95), 3) := by decide +kernel
theorem dX12_joinSaving_108 : decode cX12_joinSaving 108 = .ok (.bipush 64, 2) := by decide +kernel
theorem dX12_joinSaving_110 : decode cX12_joinSaving 110 = .ok (.iload_n 2, 1) := by decide +kernel
theorem dX12_joinSaving_111 : decode cX12_joinSaving 111 = .ok (.imul, 1) := by decide +kernel
theorem dX12_joinSaving_112 : decode cX12_joinSaving 112 = .ok (.istore_n 3, 1) := by decide +kernel
theorem dX12_joinSaving_113 : decode cX12_joinSaving 113 = .ok (.iload_n 3, 1) := by decide +kernel
theorem dX12_joinSaving_114 : decode cX12_joinSaving 114 = .ok (.bipush 64, 2) := by decide +kernel
theorem dX12_joinSaving_116 : decode cX12_joinSaving 116 = .ok (.iload_n 2, 1) := by decide +kernel
theorem dX12_joinSaving_117 : decode cX12_joinSaving 117 = .ok (.imul, 1) := by decide +kernel
theorem dX12_joinSaving_118 : decode cX12_joinSaving 118 = .ok (.aload_n 0, 1) := by decide +kernel
theorem dX12_joinSaving_119 : decode cX12_joinSaving 119 = .ok (.getfield 38, 3) := by decide +kernel
theorem dX12_joinSaving_122 : decode cX12_joinSaving 122 = .ok (.iload_n 2, 1) := by decide +kernel
theorem dX12_joinSaving_123 : decode cX12_joinSaving 123 = .ok (.iaload, 1) := by decide +kernel
theorem dX12_joinSaving_124 : decode cX12_joinSaving 124 = .ok (.iadd, 1) := by decide +kernel
theorem dX12_joinSaving_125 : decode cX12_joinSaving 125 = .ok (.if_icmp .ge 57, 3) := by decide +kernel
theorem dX12_joinSaving_128 : decode cX12_joinSaving 128 = .ok (.aload_n 0, 1) := by decide +kernel
theorem dX12_joinSaving_129 : decode cX12_joinSaving 129 = .ok (.iload_n 1, 1) := by decide +kernel
theorem dX12_joinSaving_130 : decode cX12_joinSaving 130 = .ok (.aload_n 0, 1) := by decide +kernel
theorem dX12_joinSaving_131 : decode cX12_joinSaving 131 = .ok (.getfield 41, 3) := by decide +kernel
theorem dX12_joinSaving_134 : decode cX12_joinSaving 134 = .ok (.iload_n 3, 1) := by decide +kernel
theorem dX12_joinSaving_135 : decode cX12_joinSaving 135 = .ok (.iaload, 1) := by decide +kernel
theorem dX12_joinSaving_136 : decode cX12_joinSaving 136 = .ok (.invokevirtual 137, 3) := by decide +kernel
theorem dX12_joinSaving_139 : decode cX12_joinSaving 139 = .ok (.ifCond .ge 37, 3) := by decide +kernel
theorem dX12_joinSaving_142 : decode cX12_joinSaving 142 = .ok (.aload_n 0, 1) := by decide +kernel
theorem dX12_joinSaving_143 : decode cX12_joinSaving 143 = .ok (.aload_n 0, 1) := by decide +kernel
theorem dX12_joinSaving_144 : decode cX12_joinSaving 144 = .ok (.getfield 41, 3) := by decide +kernel
theorem dX12_joinSaving_147 : decode cX12_joinSaving 147 = .ok (.iload_n 3, 1) := by decide +kernel
theorem dX12_joinSaving_148 : decode cX12_joinSaving 148 = .ok (.iaload, 1) := by decide +kernel
theorem dX12_joinSaving_149 : decode cX12_joinSaving 149 = .ok (.aload_n 0, 1) := by decide +kernel
theorem dX12_joinSaving_150 : decode cX12_joinSaving 150 = .ok (.getfield 44, 3) := by decide +kernel
theorem dX12_joinSaving_153 : decode cX12_joinSaving 153 = .ok (.iload_n 3, 1) := by decide +kernel
theorem dX12_joinSaving_154 : decode cX12_joinSaving 154 = .ok (.laload, 1) := by decide +kernel
theorem dX12_joinSaving_155 : decode cX12_joinSaving 155 = .ok (.aload_n 0, 1) := by decide +kernel
theorem dX12_joinSaving_156 : decode cX12_joinSaving 156 = .ok (.iload_n 1, 1) := by decide +kernel
theorem dX12_joinSaving_157 : decode cX12_joinSaving 157 = .ok (.invokevirtual 180, 3) := by decide +kernel
theorem dX12_joinSaving_160 : decode cX12_joinSaving 160 = .ok (.ladd, 1) := by decide +kernel
theorem dX12_joinSaving_161 : decode cX12_joinSaving 161 = .ok (.aload_n 0, 1) := by decide +kernel
theorem dX12_joinSaving_162 : decode cX12_joinSaving 162 = .ok (.getfield 47, 3) := by decide +kernel
theorem dX12_joinSaving_165 : decode cX12_joinSaving 165 = .ok (.iload_n 3, 1) := by decide +kernel
theorem dX12_joinSaving_166 : decode cX12_joinSaving 166 = .ok (.laload, 1) := by decide +kernel
theorem dX12_joinSaving_167 : decode cX12_joinSaving 167 = .ok (.aload_n 0, 1) := by decide +kernel
theorem dX12_joinSaving_168 : decode cX12_joinSaving 168 = .ok (.iload_n 1, 1) := by decide +kernel
theorem dX12_joinSaving_169 : decode cX12_joinSaving 169 = .ok (.invokevirtual 180, 3) := by decide +kernel
theorem dX12_joinSaving_172 : decode cX12_joinSaving 172 = .ok (.ladd, 1) := by decide +kernel
theorem dX12_joinSaving_173 : decode cX12_joinSaving 173 = .ok (.invokevirtual 172, 3) := by decide +kernel
theorem dX12_joinSaving_176 : decode cX12_joinSaving 176 = .ok (.iinc 3 1, 3) := by decide +kernel
theorem dX12_joinSaving_179 : decode cX12_joinSaving 179 = .ok (.goto (-66), 3) := by decide +kernel
theorem dX12_joinSaving_182 : decode cX12_joinSaving 182 = .ok (.aload_n 0, 1) := by decide +kernel
theorem dX12_joinSaving_183 : decode cX12_joinSaving 183 = .ok (.getfield 156, 3) := by decide +kernel
theorem dX12_joinSaving_186 : decode cX12_joinSaving 186 = .ok (.aload_n 0, 1) := by decide +kernel
theorem dX12_joinSaving_187 : decode cX12_joinSaving 187 = .ok (.getfield 97, 3) := by decide +kernel
theorem dX12_joinSaving_190 : decode cX12_joinSaving 190 = .ok (.if_icmp .ge 10, 3) := by decide +kernel
theorem dX12_joinSaving_193 : decode cX12_joinSaving 193 = .ok (.aload_n 0, 1) := by decide +kernel
theorem dX12_joinSaving_194 : decode cX12_joinSaving 194 = .ok (.getfield 156, 3) := by decide +kernel
theorem dX12_joinSaving_197 : decode cX12_joinSaving 197 = .ok (.goto 7, 3) := by decide +kernel
theorem dX12_joinSaving_200 : decode cX12_joinSaving 200 = .ok (.aload_n 0, 1) := by decide +kernel
theorem dX12_joinSaving_201 : decode cX12_joinSaving 201 = .ok (.getfield 97, 3) := by decide +kernel
theorem dX12_joinSaving_204 : decode cX12_joinSaving 204 = .ok (.istore_n 3, 1) := by decide +kernel
theorem dX12_joinSaving_205 : decode cX12_joinSaving 205 = .ok (.aload_n 0, 1) := by decide +kernel
theorem dX12_joinSaving_206 : decode cX12_joinSaving 206 = .ok (.getfield 38, 3) := by decide +kernel
theorem dX12_joinSaving_209 : decode cX12_joinSaving 209 = .ok (.iload_n 1, 1) := by decide +kernel
theorem dX12_joinSaving_210 : decode cX12_joinSaving 210 = .ok (.iload_n 3, 1) := by decide +kernel
theorem dX12_joinSaving_211 : decode cX12_joinSaving 211 = .ok (.iastore, 1) := by decide +kernel
theorem dX12_joinSaving_212 : decode cX12_joinSaving 212 = .ok (.iconst 0, 1) := by decide +kernel
theorem dX12_joinSaving_213 : decode cX12_joinSaving 213 = .ok (.istore 4, 2) := by decide +kernel
theorem dX12_joinSaving_215 : decode cX12_joinSaving 215 = .ok (.iload 4, 2) := by decide +kernel
theorem dX12_joinSaving_217 : decode cX12_joinSaving 217 = .ok (.iload_n 3, 1) := by decide +kernel
theorem dX12_joinSaving_218 : decode cX12_joinSaving 218 = .ok (.if_icmp .ge 183, 3) := by decide +kernel
theorem dX12_joinSaving_221 : decode cX12_joinSaving 221 = .ok (.iconst (-1), 1) := by decide +kernel
theorem dX12_joinSaving_222 : decode cX12_joinSaving 222 = .ok (.istore 5, 2) := by decide +kernel
theorem dX12_joinSaving_224 : decode cX12_joinSaving 224 = .ok (.iconst 0, 1) := by decide +kernel
theorem dX12_joinSaving_225 : decode cX12_joinSaving 225 = .ok (.istore 6, 2) := by decide +kernel
theorem dX12_joinSaving_227 : decode cX12_joinSaving 227 = .ok (.iload 6, 2) := by decide +kernel
theorem dX12_joinSaving_229 : decode cX12_joinSaving 229 = .ok (.aload_n 0, 1) := by decide +kernel
theorem dX12_joinSaving_230 : decode cX12_joinSaving 230 = .ok (.getfield 156, 3) := by decide +kernel
theorem dX12_joinSaving_233 : decode cX12_joinSaving 233 = .ok (.if_icmp .ge 83, 3) := by decide +kernel
theorem dX12_joinSaving_236 : decode cX12_joinSaving 236 = .ok (.aload_n 0, 1) := by decide +kernel
theorem dX12_joinSaving_237 : decode cX12_joinSaving 237 = .ok (.getfield 72, 3) := by decide +kernel
theorem dX12_joinSaving_240 : decode cX12_joinSaving 240 = .ok (.iload 6, 2) := by decide +kernel
theorem dX12_joinSaving_242 : decode cX12_joinSaving 242 = .ok (.laload, 1) := by decide +kernel
theorem dX12_joinSaving_243 : decode cX12_joinSaving 243 = .ok (.lconst 0, 1) := by decide +kernel
theorem dX12_joinSaving_244 : decode cX12_joinSaving 244 = .ok (.lcmp, 1) := by decide +kernel
theorem dX12_joinSaving_245 : decode cX12_joinSaving 245 = .ok (.ifCond .lt 65, 3) := by decide +kernel
theorem dX12_joinSaving_248 : decode cX12_joinSaving 248 = .ok (.iload 5, 2) := by decide +kernel
theorem dX12_joinSaving_250 : decode cX12_joinSaving 250 = .ok (.ifCond .lt 56, 3) := by decide +kernel
theorem dX12_joinSaving_253 : decode cX12_joinSaving 253 = .ok (.aload_n 0, 1) := by decide +kernel
theorem dX12_joinSaving_254 : decode cX12_joinSaving 254 = .ok (.getfield 72, 3) := by decide +kernel
theorem dX12_joinSaving_257 : decode cX12_joinSaving 257 = .ok (.iload 6, 2) := by decide +kernel
theorem dX12_joinSaving_259 : decode cX12_joinSaving 259 = .ok (.laload, 1) := by decide +kernel
theorem dX12_joinSaving_260 : decode cX12_joinSaving 260 = .ok (.aload_n 0, 1) := by decide +kernel
theorem dX12_joinSaving_261 : decode cX12_joinSaving 261 = .ok (.getfield 72, 3) := by decide +kernel
theorem dX12_joinSaving_264 : decode cX12_joinSaving 264 = .ok (.iload 5, 2) := by decide +kernel
theorem dX12_joinSaving_266 : decode cX12_joinSaving 266 = .ok (.laload, 1) := by decide +kernel
theorem dX12_joinSaving_267 : decode cX12_joinSaving 267 = .ok (.lcmp, 1) := by decide +kernel
theorem dX12_joinSaving_268 : decode cX12_joinSaving 268 = .ok (.ifCond .gt 38, 3) := by decide +kernel
theorem dX12_joinSaving_271 : decode cX12_joinSaving 271 = .ok (.aload_n 0, 1) := by decide +kernel
theorem dX12_joinSaving_272 : decode cX12_joinSaving 272 = .ok (.getfield 72, 3) := by decide +kernel
theorem dX12_joinSaving_275 : decode cX12_joinSaving 275 = .ok (.iload 6, 2) := by decide +kernel
theorem dX12_joinSaving_277 : decode cX12_joinSaving 277 = .ok (.laload, 1) := by decide +kernel
theorem dX12_joinSaving_278 : decode cX12_joinSaving 278 = .ok (.aload_n 0, 1) := by decide +kernel
theorem dX12_joinSaving_279 : decode cX12_joinSaving 279 = .ok (.getfield 72, 3) := by decide +kernel
theorem dX12_joinSaving_282 : decode cX12_joinSaving 282 = .ok (.iload 5, 2) := by decide +kernel
theorem dX12_joinSaving_284 : decode cX12_joinSaving 284 = .ok (.laload, 1) := by decide +kernel
theorem dX12_joinSaving_285 : decode cX12_joinSaving 285 = .ok (.lcmp, 1) := by decide +kernel
theorem dX12_joinSaving_286 : decode cX12_joinSaving 286 = .ok (.ifCond .ne 24, 3) := by decide +kernel
theorem dX12_joinSaving_289 : decode cX12_joinSaving 289 = .ok (.aload_n 0, 1) := by decide +kernel
theorem dX12_joinSaving_290 : decode cX12_joinSaving 290 = .ok (.getfield 69, 3) := by decide +kernel
theorem dX12_joinSaving_293 : decode cX12_joinSaving 293 = .ok (.iload 6, 2) := by decide +kernel
theorem dX12_joinSaving_295 : decode cX12_joinSaving 295 = .ok (.iaload, 1) := by decide +kernel
theorem dX12_joinSaving_296 : decode cX12_joinSaving 296 = .ok (.aload_n 0, 1) := by decide +kernel
theorem dX12_joinSaving_297 : decode cX12_joinSaving 297 = .ok (.getfield 69, 3) := by decide +kernel
theorem dX12_joinSaving_300 : decode cX12_joinSaving 300 = .ok (.iload 5, 2) := by decide +kernel
theorem dX12_joinSaving_302 : decode cX12_joinSaving 302 = .ok (.iaload, 1) := by decide +kernel
theorem dX12_joinSaving_303 : decode cX12_joinSaving 303 = .ok (.if_icmp .ge 7, 3) := by decide +kernel
theorem dX12_joinSaving_306 : decode cX12_joinSaving 306 = .ok (.iload 6, 2) := by decide +kernel
theorem dX12_joinSaving_308 : decode cX12_joinSaving 308 = .ok (.istore 5, 2) := by decide +kernel
theorem dX12_joinSaving_310 : decode cX12_joinSaving 310 = .ok (.iinc 6 1, 3) := by decide +kernel
theorem dX12_joinSaving_313 : decode cX12_joinSaving 313 = .ok (.goto (-86), 3) := by decide +kernel
theorem dX12_joinSaving_316 : decode cX12_joinSaving 316 = .ok (.aload_n 0, 1) := by decide +kernel
theorem dX12_joinSaving_317 : decode cX12_joinSaving 317 = .ok (.getfield 41, 3) := by decide +kernel
theorem dX12_joinSaving_320 : decode cX12_joinSaving 320 = .ok (.bipush 64, 2) := by decide +kernel
theorem dX12_joinSaving_322 : decode cX12_joinSaving 322 = .ok (.iload_n 1, 1) := by decide +kernel
theorem dX12_joinSaving_323 : decode cX12_joinSaving 323 = .ok (.imul, 1) := by decide +kernel
theorem dX12_joinSaving_324 : decode cX12_joinSaving 324 = .ok (.iload_n 3, 1) := by decide +kernel
theorem dX12_joinSaving_325 : decode cX12_joinSaving 325 = .ok (.iadd, 1) := by decide +kernel
theorem dX12_joinSaving_326 : decode cX12_joinSaving 326 = .ok (.iconst 1, 1) := by decide +kernel
theorem dX12_joinSaving_327 : decode cX12_joinSaving 327 = .ok (.isub, 1) := by decide +kernel
theorem dX12_joinSaving_328 : decode cX12_joinSaving 328 = .ok (.iload 4, 2) := by decide +kernel
theorem dX12_joinSaving_330 : decode cX12_joinSaving 330 = .ok (.isub, 1) := by decide +kernel
theorem dX12_joinSaving_331 : decode cX12_joinSaving 331 = .ok (.aload_n 0, 1) := by decide +kernel
theorem dX12_joinSaving_332 : decode cX12_joinSaving 332 = .ok (.getfield 69, 3) := by decide +kernel
theorem dX12_joinSaving_335 : decode cX12_joinSaving 335 = .ok (.iload 5, 2) := by decide +kernel
theorem dX12_joinSaving_337 : decode cX12_joinSaving 337 = .ok (.iaload, 1) := by decide +kernel
theorem dX12_joinSaving_338 : decode cX12_joinSaving 338 = .ok (.iastore, 1) := by decide +kernel
theorem dX12_joinSaving_339 : decode cX12_joinSaving 339 = .ok (.aload_n 0, 1) := by decide +kernel
theorem dX12_joinSaving_340 : decode cX12_joinSaving 340 = .ok (.getfield 44, 3) := by decide +kernel
theorem dX12_joinSaving_343 : decode cX12_joinSaving 343 = .ok (.bipush 64, 2) := by decide +kernel
theorem dX12_joinSaving_345 : decode cX12_joinSaving 345 = .ok (.iload_n 1, 1) := by decide +kernel
theorem dX12_joinSaving_346 : decode cX12_joinSaving 346 = .ok (.imul, 1) := by decide +kernel
theorem dX12_joinSaving_347 : decode cX12_joinSaving 347 = .ok (.iload_n 3, 1) := by decide +kernel
theorem dX12_joinSaving_348 : decode cX12_joinSaving 348 = .ok (.iadd, 1) := by decide +kernel
theorem dX12_joinSaving_349 : decode cX12_joinSaving 349 = .ok (.iconst 1, 1) := by decide +kernel
theorem dX12_joinSaving_350 : decode cX12_joinSaving 350 = .ok (.isub, 1) := by decide +kernel
theorem dX12_joinSaving_351 : decode cX12_joinSaving 351 = .ok (.iload 4, 2) := by decide +kernel
theorem dX12_joinSaving_353 : decode cX12_joinSaving 353 = .ok (.isub, 1) := by decide +kernel
theorem dX12_joinSaving_354 : decode cX12_joinSaving 354 = .ok (.aload_n 0, 1) := by decide +kernel
theorem dX12_joinSaving_355 : decode cX12_joinSaving 355 = .ok (.getfield 72, 3) := by decide +kernel
theorem dX12_joinSaving_358 : decode cX12_joinSaving 358 = .ok (.iload 5, 2) := by decide +kernel
theorem dX12_joinSaving_360 : decode cX12_joinSaving 360 = .ok (.laload, 1) := by decide +kernel
theorem dX12_joinSaving_361 : decode cX12_joinSaving 361 = .ok (.lastore, 1) := by decide +kernel
theorem dX12_joinSaving_362 : decode cX12_joinSaving 362 = .ok (.aload_n 0, 1) := by decide +kernel
theorem dX12_joinSaving_363 : decode cX12_joinSaving 363 = .ok (.getfield 47, 3) := by decide +kernel
theorem dX12_joinSaving_366 : decode cX12_joinSaving 366 = .ok (.bipush 64, 2) := by decide +kernel
theorem dX12_joinSaving_368 : decode cX12_joinSaving 368 = .ok (.iload_n 1, 1) := by decide +kernel
theorem dX12_joinSaving_369 : decode cX12_joinSaving 369 = .ok (.imul, 1) := by decide +kernel
theorem dX12_joinSaving_370 : decode cX12_joinSaving 370 = .ok (.iload_n 3, 1) := by decide +kernel
theorem dX12_joinSaving_371 : decode cX12_joinSaving 371 = .ok (.iadd, 1) := by decide +kernel
theorem dX12_joinSaving_372 : decode cX12_joinSaving 372 = .ok (.iconst 1, 1) := by decide +kernel
theorem dX12_joinSaving_373 : decode cX12_joinSaving 373 = .ok (.isub, 1) := by decide +kernel
theorem dX12_joinSaving_374 : decode cX12_joinSaving 374 = .ok (.iload 4, 2) := by decide +kernel
theorem dX12_joinSaving_376 : decode cX12_joinSaving 376 = .ok (.isub, 1) := by decide +kernel
theorem dX12_joinSaving_377 : decode cX12_joinSaving 377 = .ok (.aload_n 0, 1) := by decide +kernel
theorem dX12_joinSaving_378 : decode cX12_joinSaving 378 = .ok (.getfield 75, 3) := by decide +kernel
theorem dX12_joinSaving_381 : decode cX12_joinSaving 381 = .ok (.iload 5, 2) := by decide +kernel
theorem dX12_joinSaving_383 : decode cX12_joinSaving 383 = .ok (.laload, 1) := by decide +kernel
theorem dX12_joinSaving_384 : decode cX12_joinSaving 384 = .ok (.lastore, 1) := by decide +kernel
theorem dX12_joinSaving_385 : decode cX12_joinSaving 385 = .ok (.aload_n 0, 1) := by decide +kernel
theorem dX12_joinSaving_386 : decode cX12_joinSaving 386 = .ok (.getfield 72, 3) := by decide +kernel
theorem dX12_joinSaving_389 : decode cX12_joinSaving 389 = .ok (.iload 5, 2) := by decide +kernel
theorem dX12_joinSaving_391 : decode cX12_joinSaving 391 = .ok (.ldc2_w 151, 3) := by decide +kernel
theorem dX12_joinSaving_394 : decode cX12_joinSaving 394 = .ok (.lastore, 1) := by decide +kernel
theorem dX12_joinSaving_395 : decode cX12_joinSaving 395 = .ok (.iinc 4 1, 3) := by decide +kernel
theorem dX12_joinSaving_398 : decode cX12_joinSaving 398 = .ok (.goto (-183), 3) := by decide +kernel
theorem dX12_joinSaving_401 : decode cX12_joinSaving 401 = .ok (.aload_n 0, 1) := by decide +kernel
theorem dX12_joinSaving_402 : decode cX12_joinSaving 402 = .ok (.iload_n 1, 1) := by decide +kernel
theorem dX12_joinSaving_403 : decode cX12_joinSaving 403 = .ok (.invokevirtual 183, 3) := by decide +kernel
theorem dX12_joinSaving_406 : decode cX12_joinSaving 406 = .ok (.return_, 1) := by decide +kernel
theorem dX12_sortLike_0 : decode cX12_sortLike 0 = .ok (.bipush 64, 2) := by decide +kernel
theorem dX12_sortLike_2 : decode cX12_sortLike 2 = .ok (.iload_n 1, 1) := by decide +kernel
theorem dX12_sortLike_3 : decode cX12_sortLike 3 = .ok (.imul, 1) := by decide +kernel
theorem dX12_sortLike_4 : decode cX12_sortLike 4 = .ok (.iconst 1, 1) := by decide +kernel
theorem dX12_sortLike_5 : decode cX12_sortLike 5 = .ok (.iadd, 1) := by decide +kernel
theorem dX12_sortLike_6 : decode cX12_sortLike 6 = .ok (.istore_n 2, 1) := by decide +kernel
theorem dX12_sortLike_7 : decode cX12_sortLike 7 = .ok (.iload_n 2, 1) := by decide +kernel
theorem dX12_sortLike_8 : decode cX12_sortLike 8 = .ok (.bipush 64, 2) := by decide +kernel
theorem dX12_sortLike_10 : decode cX12_sortLike 10 = .ok (.iload_n 1, 1) := by decide +kernel
theorem dX12_sortLike_11 : decode cX12_sortLike 11 = .ok (.imul, 1) := by decide +kernel
theorem dX12_sortLike_12 : decode cX12_sortLike 12 = .ok (.aload_n 0, 1) := by decide +kernel
theorem dX12_sortLike_13 : decode cX12_sortLike 13 = .ok (.getfield 38, 3) := by decide +kernel
theorem dX12_sortLike_16 : decode cX12_sortLike 16 = .ok (.iload_n 1, 1) := by decide +kernel
theorem dX12_sortLike_17 : decode cX12_sortLike 17 = .ok (.iaload, 1) := by decide +kernel
theorem dX12_sortLike_18 : decode cX12_sortLike 18 = .ok (.iadd, 1) := by decide +kernel
theorem dX12_sortLike_19 : decode cX12_sortLike 19 = .ok (.if_icmp .ge 114, 3) := by decide +kernel
theorem dX12_sortLike_22 : decode cX12_sortLike 22 = .ok (.aload_n 0, 1) := by decide +kernel
theorem dX12_sortLike_23 : decode cX12_sortLike 23 = .ok (.getfield 41, 3) := by decide +kernel
theorem dX12_sortLike_26 : decode cX12_sortLike 26 = .ok (.iload_n 2, 1) := by decide +kernel
theorem dX12_sortLike_27 : decode cX12_sortLike 27 = .ok (.iaload, 1) := by decide +kernel
theorem dX12_sortLike_28 : decode cX12_sortLike 28 = .ok (.istore_n 3, 1) := by decide +kernel
theorem dX12_sortLike_29 : decode cX12_sortLike 29 = .ok (.aload_n 0, 1) := by decide +kernel
theorem dX12_sortLike_30 : decode cX12_sortLike 30 = .ok (.getfield 44, 3) := by decide +kernel
theorem dX12_sortLike_33 : decode cX12_sortLike 33 = .ok (.iload_n 2, 1) := by decide +kernel
theorem dX12_sortLike_34 : decode cX12_sortLike 34 = .ok (.laload, 1) := by decide +kernel
theorem dX12_sortLike_35 : decode cX12_sortLike 35 = .ok (.lstore 4, 2) := by decide +kernel
theorem dX12_sortLike_37 : decode cX12_sortLike 37 = .ok (.aload_n 0, 1) := by decide +kernel
theorem dX12_sortLike_38 : decode cX12_sortLike 38 = .ok (.getfield 47, 3) := by decide +kernel
theorem dX12_sortLike_41 : decode cX12_sortLike 41 = .ok (.iload_n 2, 1) := by decide +kernel
theorem dX12_sortLike_42 : decode cX12_sortLike 42 = .ok (.laload, 1) := by decide +kernel
theorem dX12_sortLike_43 : decode cX12_sortLike 43 = .ok (.lstore 6, 2) := by decide +kernel
theorem dX12_sortLike_45 : decode cX12_sortLike 45 = .ok (.iload_n 2, 1) := by decide +kernel
theorem dX12_sortLike_46 : decode cX12_sortLike 46 = .ok (.istore 8, 2) := by decide +kernel
theorem dX12_sortLike_48 : decode cX12_sortLike 48 = .ok (.iload 8, 2) := by decide +kernel
theorem dX12_sortLike_50 : decode cX12_sortLike 50 = .ok (.bipush 64, 2) := by decide +kernel
theorem dX12_sortLike_52 : decode cX12_sortLike 52 = .ok (.iload_n 1, 1) := by decide +kernel
theorem dX12_sortLike_53 : decode cX12_sortLike 53 = .ok (.imul, 1) := by decide +kernel
theorem dX12_sortLike_54 : decode cX12_sortLike 54 = .ok (.if_icmp .le 47, 3) := by decide +kernel
theorem dX12_sortLike_57 : decode cX12_sortLike 57 = .ok (.aload_n 0, 1) := by decide +kernel
theorem dX12_sortLike_58 : decode cX12_sortLike 58 = .ok (.getfield 44, 3) := by decide +kernel
theorem dX12_sortLike_61 : decode cX12_sortLike 61 = .ok (.iload 8, 2) := by decide +kernel
theorem dX12_sortLike_63 : decode cX12_sortLike 63 = .ok (.iconst 1, 1) := by decide +kernel
theorem dX12_sortLike_64 : decode cX12_sortLike 64 = .ok (.isub, 1) := by decide +kernel
theorem dX12_sortLike_65 : decode cX12_sortLike 65 = .ok (.laload, 1) := by decide +kernel
theorem dX12_sortLike_66 : decode cX12_sortLike 66 = .ok (.lload 4, 2) := by decide +kernel
theorem dX12_sortLike_68 : decode cX12_sortLike 68 = .ok (.lcmp, 1) := by decide +kernel
theorem dX12_sortLike_69 : decode cX12_sortLike 69 = .ok (.ifCond .ne 32, 3) := by decide +kernel
theorem dX12_sortLike_72 : decode cX12_sortLike 72 = .ok (.aload_n 0, 1) := by decide +kernel
theorem dX12_sortLike_73 : decode cX12_sortLike 73 = .ok (.getfield 41, 3) := by decide +kernel
theorem dX12_sortLike_76 : decode cX12_sortLike 76 = .ok (.iload 8, 2) := by decide +kernel
theorem dX12_sortLike_78 : decode cX12_sortLike 78 = .ok (.iconst 1, 1) := by decide +kernel
theorem dX12_sortLike_79 : decode cX12_sortLike 79 = .ok (.isub, 1) := by decide +kernel
theorem dX12_sortLike_80 : decode cX12_sortLike 80 = .ok (.iaload, 1) := by decide +kernel
theorem dX12_sortLike_81 : decode cX12_sortLike 81 = .ok (.iload_n 3, 1) := by decide +kernel
theorem dX12_sortLike_82 : decode cX12_sortLike 82 = .ok (.if_icmp .le 19, 3) := by decide +kernel
theorem dX12_sortLike_85 : decode cX12_sortLike 85 = .ok (.aload_n 0, 1) := by decide +kernel
theorem dX12_sortLike_86 : decode cX12_sortLike 86 = .ok (.iload 8, 2) := by decide +kernel
theorem dX12_sortLike_88 : decode cX12_sortLike 88 = .ok (.iconst 1, 1) := by decide +kernel
theorem dX12_sortLike_89 : decode cX12_sortLike 89 = .ok (.isub, 1) := by decide +kernel
theorem dX12_sortLike_90 : decode cX12_sortLike 90 = .ok (.iload 8, 2) := by decide +kernel
theorem dX12_sortLike_92 : decode cX12_sortLike 92 = .ok (.invokevirtual 140, 3) := by decide +kernel
theorem dX12_sortLike_95 : decode cX12_sortLike 95 = .ok (.iinc 8 (-1), 3) := by decide +kernel
theorem dX12_sortLike_98 : decode cX12_sortLike 98 = .ok (.goto (-50), 3) := by decide +kernel
theorem dX12_sortLike_101 : decode cX12_sortLike 101 = .ok (.aload_n 0, 1) := by decide +kernel
theorem dX12_sortLike_102 : decode cX12_sortLike 102 = .ok (.getfield 41, 3) := by decide +kernel
theorem dX12_sortLike_105 : decode cX12_sortLike 105 = .ok (.iload 8, 2) := by decide +kernel
theorem dX12_sortLike_107 : decode cX12_sortLike 107 = .ok (.iload_n 3, 1) := by decide +kernel
theorem dX12_sortLike_108 : decode cX12_sortLike 108 = .ok (.iastore, 1) := by decide +kernel
theorem dX12_sortLike_109 : decode cX12_sortLike 109 = .ok (.aload_n 0, 1) := by decide +kernel
theorem dX12_sortLike_110 : decode cX12_sortLike 110 = .ok (.getfield 44, 3) := by decide +kernel
theorem dX12_sortLike_113 : decode cX12_sortLike 113 = .ok (.iload 8, 2) := by decide +kernel
theorem dX12_sortLike_115 : decode cX12_sortLike 115 = .ok (.lload 4, 2) := by decide +kernel
theorem dX12_sortLike_117 : decode cX12_sortLike 117 = .ok (.lastore, 1) := by decide +kernel
theorem dX12_sortLike_118 : decode cX12_sortLike 118 = .ok (.aload_n 0, 1) := by decide +kernel
theorem dX12_sortLike_119 : decode cX12_sortLike 119 = .ok (.getfield 47, 3) := by decide +kernel
theorem dX12_sortLike_122 : decode cX12_sortLike 122 = .ok (.iload 8, 2) := by decide +kernel
theorem dX12_sortLike_124 : decode cX12_sortLike 124 = .ok (.lload 6, 2) := by decide +kernel
theorem dX12_sortLike_126 : decode cX12_sortLike 126 = .ok (.lastore, 1) := by decide +kernel
theorem dX12_sortLike_127 : decode cX12_sortLike 127 = .ok (.iinc 2 1, 3) := by decide +kernel
theorem dX12_sortLike_130 : decode cX12_sortLike 130 = .ok (.goto (-123), 3) := by decide +kernel
theorem dX12_sortLike_133 : decode cX12_sortLike 133 = .ok (.return_, 1) := by decide +kernel
theorem dX12_joinCounts_0 : decode cX12_joinCounts 0 = .ok (.aload_n 0, 1) := by decide +kernel
theorem dX12_joinCounts_1 : decode cX12_joinCounts 1 = .ok (.getfield 53, 3) := by decide +kernel
theorem dX12_joinCounts_4 : decode cX12_joinCounts 4 = .ok (.iload_n 1, 1) := by decide +kernel
theorem dX12_joinCounts_5 : decode cX12_joinCounts 5 = .ok (.baload, 1) := by decide +kernel
theorem dX12_joinCounts_6 : decode cX12_joinCounts 6 = .ok (.ifCond .ne 12, 3) := by decide +kernel
theorem dX12_joinCounts_9 : decode cX12_joinCounts 9 = .ok (.aload_n 0, 1) := by decide +kernel
theorem dX12_joinCounts_10 : decode cX12_joinCounts 10 = .ok (.getfield 53, 3) := by decide +kernel
theorem dX12_joinCounts_13 : decode cX12_joinCounts 13 = .ok (.iload_n 2, 1) := by decide +kernel
theorem dX12_joinCounts_14 : decode cX12_joinCounts 14 = .ok (.baload, 1) := by decide +kernel
theorem dX12_joinCounts_15 : decode cX12_joinCounts 15 = .ok (.ifCond .eq 11, 3) := by decide +kernel
theorem dX12_joinCounts_18 : decode cX12_joinCounts 18 = .ok (.aload_n 0, 1) := by decide +kernel
theorem dX12_joinCounts_19 : decode cX12_joinCounts 19 = .ok (.getfield 53, 3) := by decide +kernel
theorem dX12_joinCounts_22 : decode cX12_joinCounts 22 = .ok (.iload_n 1, 1) := by decide +kernel
theorem dX12_joinCounts_23 : decode cX12_joinCounts 23 = .ok (.iconst 1, 1) := by decide +kernel
theorem dX12_joinCounts_24 : decode cX12_joinCounts 24 = .ok (.bastore, 1) := by decide +kernel
theorem dX12_joinCounts_25 : decode cX12_joinCounts 25 = .ok (.return_, 1) := by decide +kernel
theorem dX12_joinCounts_26 : decode cX12_joinCounts 26 = .ok (.aload_n 0, 1) := by decide +kernel
theorem dX12_joinCounts_27 : decode cX12_joinCounts 27 = .ok (.iconst 0, 1) := by decide +kernel
theorem dX12_joinCounts_28 : decode cX12_joinCounts 28 = .ok (.putfield 156, 3) := by decide +kernel
theorem dX12_joinCounts_31 : decode cX12_joinCounts 31 = .ok (.sipush 300, 3) := by decide +kernel
theorem dX12_joinCounts_34 : decode cX12_joinCounts 34 = .ok (.iload_n 1, 1) := by decide +kernel
theorem dX12_joinCounts_35 : decode cX12_joinCounts 35 = .ok (.imul, 1) := by decide +kernel
theorem dX12_joinCounts_36 : decode cX12_joinCounts 36 = .ok (.istore_n 3, 1) := by decide +kernel
theorem dX12_joinCounts_37 : decode cX12_joinCounts 37 = .ok (.iload_n 3, 1) := by decide +kernel
theorem dX12_joinCounts_38 : decode cX12_joinCounts 38 = .ok (.sipush 300, 3) := by decide +kernel
theorem dX12_joinCounts_41 : decode cX12_joinCounts 41 = .ok (.iload_n 1, 1) := by decide +kernel
theorem dX12_joinCounts_42 : decode cX12_joinCounts 42 = .ok (.imul, 1) := by decide +kernel
theorem dX12_joinCounts_43 : decode cX12_joinCounts 43 = .ok (.aload_n 0, 1) := by decide +kernel
theorem dX12_joinCounts_44 : decode cX12_joinCounts 44 = .ok (.getfield 50, 3) := by decide +kernel
theorem dX12_joinCounts_47 : decode cX12_joinCounts 47 = .ok (.iload_n 1, 1) := by decide +kernel
theorem dX12_joinCounts_48 : decode cX12_joinCounts 48 = .ok (.iaload, 1) := by decide +kernel
theorem dX12_joinCounts_49 : decode cX12_joinCounts 49 = .ok (.iadd, 1) := by decide +kernel
theorem dX12_joinCounts_50 : decode cX12_joinCounts 50 = .ok (.if_icmp .ge 26, 3) := by decide +kernel
theorem dX12_joinCounts_53 : decode cX12_joinCounts 53 = .ok (.aload_n 0, 1) := by decide +kernel
theorem dX12_joinCounts_54 : decode cX12_joinCounts 54 = .ok (.aload_n 0, 1) := by decide +kernel
theorem dX12_joinCounts_55 : decode cX12_joinCounts 55 = .ok (.getfield 57, 3) := by decide +kernel
theorem dX12_joinCounts_58 : decode cX12_joinCounts 58 = .ok (.iload_n 3, 1) := by decide +kernel
theorem dX12_joinCounts_59 : decode cX12_joinCounts 59 = .ok (.iaload, 1) := by decide +kernel
theorem dX12_joinCounts_60 : decode cX12_joinCounts 60 = .ok (.aload_n 0, 1) := by decide +kernel
theorem dX12_joinCounts_61 : decode cX12_joinCounts 61 = .ok (.getfield 60, 3) := by decide +kernel
theorem dX12_joinCounts_64 : decode cX12_joinCounts 64 = .ok (.iload_n 3, 1) := by decide +kernel
theorem dX12_joinCounts_65 : decode cX12_joinCounts 65 = .ok (.laload, 1) := by decide +kernel
theorem dX12_joinCounts_66 : decode cX12_joinCounts 66 = .ok (.lconst 0, 1) := by decide +kernel
theorem dX12_joinCounts_67 : decode cX12_joinCounts 67 = .ok (.invokevirtual 172, 3) := by decide +kernel
theorem dX12_joinCounts_70 : decode cX12_joinCounts 70 = .ok (.iinc 3 1, 3) := by decide +kernel
theorem dX12_joinCounts_73 : decode cX12_joinCounts 73 = .ok (.goto (-36), 3) := by decide +kernel
theorem dX12_joinCounts_76 : decode cX12_joinCounts 76 = .ok (.sipush 300, 3) := by decide +kernel
theorem dX12_joinCounts_79 : decode cX12_joinCounts 79 = .ok (.iload_n 2, 1) := by decide +kernel
theorem dX12_joinCounts_80 : decode cX12_joinCounts 80 = .ok (.imul, 1) := by decide +kernel
theorem dX12_joinCounts_81 : decode cX12_joinCounts 81 = .ok (.istore_n 3, 1) := by decide +kernel
theorem dX12_joinCounts_82 : decode cX12_joinCounts 82 = .ok (.iload_n 3, 1) := by decide +kernel
theorem dX12_joinCounts_83 : decode cX12_joinCounts 83 = .ok (.sipush 300, 3) := by decide +kernel
theorem dX12_joinCounts_86 : decode cX12_joinCounts 86 = .ok (.iload_n 2, 1) := by decide +kernel
theorem dX12_joinCounts_87 : decode cX12_joinCounts 87 = .ok (.imul, 1) := by decide +kernel
theorem dX12_joinCounts_88 : decode cX12_joinCounts 88 = .ok (.aload_n 0, 1) := by decide +kernel
theorem dX12_joinCounts_89 : decode cX12_joinCounts 89 = .ok (.getfield 50, 3) := by decide +kernel
theorem dX12_joinCounts_92 : decode cX12_joinCounts 92 = .ok (.iload_n 2, 1) := by decide +kernel
theorem dX12_joinCounts_93 : decode cX12_joinCounts 93 = .ok (.iaload, 1) := by decide +kernel
theorem dX12_joinCounts_94 : decode cX12_joinCounts 94 = .ok (.iadd, 1) := by decide +kernel
theorem dX12_joinCounts_95 : decode cX12_joinCounts 95 = .ok (.if_icmp .ge 26, 3) := by decide +kernel
theorem dX12_joinCounts_98 : decode cX12_joinCounts 98 = .ok (.aload_n 0, 1) := by decide +kernel
theorem dX12_joinCounts_99 : decode cX12_joinCounts 99 = .ok (.aload_n 0, 1) := by decide +kernel
theorem dX12_joinCounts_100 : decode cX12_joinCounts 100 = .ok (.getfield 57, 3) := by decide +kernel
theorem dX12_joinCounts_103 : decode cX12_joinCounts 103 = .ok (.iload_n 3, 1) := by decide +kernel
theorem dX12_joinCounts_104 : decode cX12_joinCounts 104 = .ok (.iaload, 1) := by decide +kernel
theorem dX12_joinCounts_105 : decode cX12_joinCounts 105 = .ok (.aload_n 0, 1) := by decide +kernel
theorem dX12_joinCounts_106 : decode cX12_joinCounts 106 = .ok (.getfield 60, 3) := by decide +kernel
theorem dX12_joinCounts_109 : decode cX12_joinCounts 109 = .ok (.iload_n 3, 1) := by decide +kernel
theorem dX12_joinCounts_110 : decode cX12_joinCounts 110 = .ok (.laload, 1) := by decide +kernel
theorem dX12_joinCounts_111 : decode cX12_joinCounts 111 = .ok (.lconst 0, 1) := by decide +kernel
theorem dX12_joinCounts_112 : decode cX12_joinCounts 112 = .ok (.invokevirtual 172, 3) := by decide +kernel
theorem dX12_joinCounts_115 : decode cX12_joinCounts 115 = .ok (.iinc 3 1, 3) := by decide +kernel
theorem dX12_joinCounts_118 : decode cX12_joinCounts 118 = .ok (.goto (-36), 3) := by decide +kernel
theorem dX12_joinCounts_121 : decode cX12_joinCounts 121 = .ok (.aload_n 0, 1) := by decide +kernel
theorem dX12_joinCounts_122 : decode cX12_joinCounts 122 = .ok (.getfield 156, 3) := by decide +kernel
theorem dX12_joinCounts_125 : decode cX12_joinCounts 125 = .ok (.sipush 300, 3) := by decide +kernel
theorem dX12_joinCounts_128 : decode cX12_joinCounts 128 = .ok (.if_icmp .le 11, 3) := by decide +kernel
theorem dX12_joinCounts_131 : decode cX12_joinCounts 131 = .ok (.aload_n 0, 1) := by decide +kernel
theorem dX12_joinCounts_132 : decode cX12_joinCounts 132 = .ok (.getfield 53, 3) := by decide +kernel
theorem dX12_joinCounts_135 : decode cX12_joinCounts 135 = .ok (.iload_n 1, 1) := by decide +kernel
theorem dX12_joinCounts_136 : decode cX12_joinCounts 136 = .ok (.iconst 1, 1) := by decide +kernel
theorem dX12_joinCounts_137 : decode cX12_joinCounts 137 = .ok (.bastore, 1) := by decide +kernel
theorem dX12_joinCounts_138 : decode cX12_joinCounts 138 = .ok (.return_, 1) := by decide +kernel
theorem dX12_joinCounts_139 : decode cX12_joinCounts 139 = .ok (.aload_n 0, 1) := by decide +kernel
theorem dX12_joinCounts_140 : decode cX12_joinCounts 140 = .ok (.getfield 50, 3) := by decide +kernel
theorem dX12_joinCounts_143 : decode cX12_joinCounts 143 = .ok (.iload_n 1, 1) := by decide +kernel
theorem dX12_joinCounts_144 : decode cX12_joinCounts 144 = .ok (.aload_n 0, 1) := by decide +kernel
theorem dX12_joinCounts_145 : decode cX12_joinCounts 145 = .ok (.getfield 156, 3) := by decide +kernel
theorem dX12_joinCounts_148 : decode cX12_joinCounts 148 = .ok (.iastore, 1) := by decide +kernel
theorem dX12_joinCounts_149 : decode cX12_joinCounts 149 = .ok (.iconst 0, 1) := by decide +kernel
theorem dX12_joinCounts_150 : decode cX12_joinCounts 150 = .ok (.istore_n 3, 1) := by decide +kernel
theorem dX12_joinCounts_151 : decode cX12_joinCounts 151 = .ok (.iload_n 3, 1) := by decide +kernel
theorem dX12_joinCounts_152 : decode cX12_joinCounts 152 = .ok (.aload_n 0, 1) := by decide +kernel
theorem dX12_joinCounts_153 : decode cX12_joinCounts 153 = .ok (.getfield 156, 3) := by decide +kernel
theorem dX12_joinCounts_156 : decode cX12_joinCounts 156 = .ok (.if_icmp .ge 45, 3) := by decide +kernel
theorem dX12_joinCounts_159 : decode cX12_joinCounts 159 = .ok (.aload_n 0, 1) := by decide +kernel
theorem dX12_joinCounts_160 : decode cX12_joinCounts 160 = .ok (.getfield 57, 3) := by decide +kernel
theorem dX12_joinCounts_163 : decode cX12_joinCounts 163 = .ok (.sipush 300, 3) := by decide +kernel
theorem dX12_joinCounts_166 : decode cX12_joinCounts 166 = .ok (.iload_n 1, 1) := by decide +kernel
theorem dX12_joinCounts_167 : decode cX12_joinCounts 167 = .ok (.imul, 1) := by decide +kernel
theorem dX12_joinCounts_168 : decode cX12_joinCounts 168 = .ok (.iload_n 3, 1) := by decide +kernel
theorem dX12_joinCounts_169 : decode cX12_joinCounts 169 = .ok (.iadd, 1) := by decide +kernel
theorem dX12_joinCounts_170 : decode cX12_joinCounts 170 = .ok (.aload_n 0, 1) := by decide +kernel
theorem dX12_joinCounts_171 : decode cX12_joinCounts 171 = .ok (.getfield 69, 3) := by decide +kernel
theorem dX12_joinCounts_174 : decode cX12_joinCounts 174 = .ok (.iload_n 3, 1) := by decide +kernel
theorem dX12_joinCounts_175 : decode cX12_joinCounts 175 = .ok (.iaload, 1) := by decide +kernel
theorem dX12_joinCounts_176 : decode cX12_joinCounts 176 = .ok (.iastore, 1) := by decide +kernel
theorem dX12_joinCounts_177 : decode cX12_joinCounts 177 = .ok (.aload_n 0, 1) := by decide +kernel
theorem dX12_joinCounts_178 : decode cX12_joinCounts 178 = .ok (.getfield 60, 3) := by decide +kernel
theorem dX12_joinCounts_181 : decode cX12_joinCounts 181 = .ok (.sipush 300, 3) := by decide +kernel
theorem dX12_joinCounts_184 : decode cX12_joinCounts 184 = .ok (.iload_n 1, 1) := by decide +kernel
theorem dX12_joinCounts_185 : decode cX12_joinCounts 185 = .ok (.imul, 1) := by decide +kernel
theorem dX12_joinCounts_186 : decode cX12_joinCounts 186 = .ok (.iload_n 3, 1) := by decide +kernel
theorem dX12_joinCounts_187 : decode cX12_joinCounts 187 = .ok (.iadd, 1) := by decide +kernel
theorem dX12_joinCounts_188 : decode cX12_joinCounts 188 = .ok (.aload_n 0, 1) := by decide +kernel
theorem dX12_joinCounts_189 : decode cX12_joinCounts 189 = .ok (.getfield 72, 3) := by decide +kernel
theorem dX12_joinCounts_192 : decode cX12_joinCounts 192 = .ok (.iload_n 3, 1) := by decide +kernel
theorem dX12_joinCounts_193 : decode cX12_joinCounts 193 = .ok (.laload, 1) := by decide +kernel
theorem dX12_joinCounts_194 : decode cX12_joinCounts 194 = .ok (.lastore, 1) := by decide +kernel
theorem dX12_joinCounts_195 : decode cX12_joinCounts 195 = .ok (.iinc 3 1, 3) := by decide +kernel
theorem dX12_joinCounts_198 : decode cX12_joinCounts 198 = .ok (.goto (-47), 3) := by decide +kernel
theorem dX12_joinCounts_201 : decode cX12_joinCounts 201 = .ok (.return_, 1) := by decide +kernel
theorem dX12_total_0 : decode cX12_total 0 = .ok (.iload_n 1, 1) := by decide +kernel
theorem dX12_total_1 : decode cX12_total 1 = .ok (.invokestatic 146, 3) := by decide +kernel
theorem dX12_total_4 : decode cX12_total 4 = .ok (.ifCond .eq 12, 3) := by decide +kernel
theorem dX12_total_7 : decode cX12_total 7 = .ok (.aload_n 0, 1) := by decide +kernel
theorem dX12_total_8 : decode cX12_total 8 = .ok (.getfield 16, 3) := by decide +kernel
theorem dX12_total_11 : decode cX12_total 11 = .ok (.iload_n 1, 1) := by decide +kernel
theorem dX12_total_12 : decode cX12_total 12 = .ok (.laload, 1) := by decide +kernel
theorem dX12_total_13 : decode cX12_total 13 = .ok (.goto 6, 3) := by decide +kernel
theorem dX12_total_16 : decode cX12_total 16 = .ok (.ldc2_w 151, 3) := by decide +kernel
theorem dX12_total_19 : decode cX12_total 19 = .ok (.lreturn, 1) := by decide +kernel
theorem dX12_one_0 : decode cX12_one 0 = .ok (.iload_n 2, 1) := by decide +kernel
theorem dX12_one_1 : decode cX12_one 1 = .ok (.iconst 2, 1) := by decide +kernel
theorem dX12_one_2 : decode cX12_one 2 = .ok (.if_icmp .ge 33, 3) := by decide +kernel
theorem dX12_one_5 : decode cX12_one 5 = .ok (.iload 4, 2) := by decide +kernel
theorem dX12_one_7 : decode cX12_one 7 = .ok (.iconst 1, 1) := by decide +kernel
theorem dX12_one_8 : decode cX12_one 8 = .ok (.if_icmp .ne 7, 3) := by decide +kernel
theorem dX12_one_11 : decode cX12_one 11 = .ok (.lconst 0, 1) := by decide +kernel
theorem dX12_one_12 : decode cX12_one 12 = .ok (.goto 22, 3) := by decide +kernel
theorem dX12_one_15 : decode cX12_one 15 = .ok (.iload_n 2, 1) := by decide +kernel
theorem dX12_one_16 : decode cX12_one 16 = .ok (.ifCond .ne 12, 3) := by decide +kernel
theorem dX12_one_19 : decode cX12_one 19 = .ok (.aload_n 0, 1) := by decide +kernel
theorem dX12_one_20 : decode cX12_one 20 = .ok (.iload_n 1, 1) := by decide +kernel
theorem dX12_one_21 : decode cX12_one 21 = .ok (.iload_n 3, 1) := by decide +kernel
theorem dX12_one_22 : decode cX12_one 22 = .ok (.invokevirtual 187, 3) := by decide +kernel
theorem dX12_one_25 : decode cX12_one 25 = .ok (.goto 9, 3) := by decide +kernel
theorem dX12_one_28 : decode cX12_one 28 = .ok (.aload_n 0, 1) := by decide +kernel
theorem dX12_one_29 : decode cX12_one 29 = .ok (.iload_n 1, 1) := by decide +kernel
theorem dX12_one_30 : decode cX12_one 30 = .ok (.iload_n 3, 1) := by decide +kernel
theorem dX12_one_31 : decode cX12_one 31 = .ok (.invokevirtual 114, 3) := by decide +kernel
theorem dX12_one_34 : decode cX12_one 34 = .ok (.lreturn, 1) := by decide +kernel
theorem dX12_one_35 : decode cX12_one 35 = .ok (.iload_n 2, 1) := by decide +kernel
theorem dX12_one_36 : decode cX12_one 36 = .ok (.iconst 2, 1) := by decide +kernel
theorem dX12_one_37 : decode cX12_one 37 = .ok (.if_icmp .ne 50, 3) := by decide +kernel
theorem dX12_one_40 : decode cX12_one 40 = .ok (.aload_n 0, 1) := by decide +kernel
theorem dX12_one_41 : decode cX12_one 41 = .ok (.iload_n 1, 1) := by decide +kernel
theorem dX12_one_42 : decode cX12_one 42 = .ok (.iload_n 3, 1) := by decide +kernel
theorem dX12_one_43 : decode cX12_one 43 = .ok (.invokevirtual 129, 3) := by decide +kernel
theorem dX12_one_46 : decode cX12_one 46 = .ok (.istore 5, 2) := by decide +kernel
theorem dX12_one_48 : decode cX12_one 48 = .ok (.iload 5, 2) := by decide +kernel
theorem dX12_one_50 : decode cX12_one 50 = .ok (.ifCond .ge 7, 3) := by decide +kernel
theorem dX12_one_53 : decode cX12_one 53 = .ok (.lconst 0, 1) := by decide +kernel
theorem dX12_one_54 : decode cX12_one 54 = .ok (.goto 10, 3) := by decide +kernel
theorem dX12_one_57 : decode cX12_one 57 = .ok (.aload_n 0, 1) := by decide +kernel
theorem dX12_one_58 : decode cX12_one 58 = .ok (.getfield 35, 3) := by decide +kernel
theorem dX12_one_61 : decode cX12_one 61 = .ok (.iload 5, 2) := by decide +kernel
theorem dX12_one_63 : decode cX12_one 63 = .ok (.laload, 1) := by decide +kernel
theorem dX12_one_64 : decode cX12_one 64 = .ok (.lstore 6, 2) := by decide +kernel
theorem dX12_one_66 : decode cX12_one 66 = .ok (.iload 4, 2) := by decide +kernel
theorem dX12_one_68 : decode cX12_one 68 = .ok (.iconst 2, 1) := by decide +kernel
theorem dX12_one_69 : decode cX12_one 69 = .ok (.if_icmp .ne 15, 3) := by decide +kernel
theorem dX12_one_72 : decode cX12_one 72 = .ok (.lload 6, 2) := by decide +kernel
theorem dX12_one_74 : decode cX12_one 74 = .ok (.aload_n 0, 1) := by decide +kernel
theorem dX12_one_75 : decode cX12_one 75 = .ok (.getfield 29, 3) := by decide +kernel
theorem dX12_one_78 : decode cX12_one 78 = .ok (.iload_n 1, 1) := by decide +kernel
theorem dX12_one_79 : decode cX12_one 79 = .ok (.laload, 1) := by decide +kernel
theorem dX12_one_80 : decode cX12_one 80 = .ok (.ladd, 1) := by decide +kernel
theorem dX12_one_81 : decode cX12_one 81 = .ok (.goto 5, 3) := by decide +kernel
theorem dX12_one_84 : decode cX12_one 84 = .ok (.lload 6, 2) := by decide +kernel
theorem dX12_one_86 : decode cX12_one 86 = .ok (.lreturn, 1) := by decide +kernel
theorem dX12_one_87 : decode cX12_one 87 = .ok (.aload_n 0, 1) := by decide +kernel
theorem dX12_one_88 : decode cX12_one 88 = .ok (.iload_n 1, 1) := by decide +kernel
theorem dX12_one_89 : decode cX12_one 89 = .ok (.iload_n 3, 1) := by decide +kernel
theorem dX12_one_90 : decode cX12_one 90 = .ok (.invokevirtual 137, 3) := by decide +kernel
theorem dX12_one_93 : decode cX12_one 93 = .ok (.istore 5, 2) := by decide +kernel
theorem dX12_one_95 : decode cX12_one 95 = .ok (.iload 4, 2) := by decide +kernel
theorem dX12_one_97 : decode cX12_one 97 = .ok (.iconst 1, 1) := by decide +kernel
theorem dX12_one_98 : decode cX12_one 98 = .ok (.if_icmp .ne 28, 3) := by decide +kernel
theorem dX12_one_101 : decode cX12_one 101 = .ok (.iload 5, 2) := by decide +kernel
theorem dX12_one_103 : decode cX12_one 103 = .ok (.ifCond .ge 7, 3) := by decide +kernel
theorem dX12_one_106 : decode cX12_one 106 = .ok (.lconst 0, 1) := by decide +kernel
theorem dX12_one_107 : decode cX12_one 107 = .ok (.goto 18, 3) := by decide +kernel
theorem dX12_one_110 : decode cX12_one 110 = .ok (.aload_n 0, 1) := by decide +kernel
theorem dX12_one_111 : decode cX12_one 111 = .ok (.getfield 44, 3) := by decide +kernel
theorem dX12_one_114 : decode cX12_one 114 = .ok (.iload 5, 2) := by decide +kernel
theorem dX12_one_116 : decode cX12_one 116 = .ok (.laload, 1) := by decide +kernel
theorem dX12_one_117 : decode cX12_one 117 = .ok (.aload_n 0, 1) := by decide +kernel
theorem dX12_one_118 : decode cX12_one 118 = .ok (.getfield 47, 3) := by decide +kernel
theorem dX12_one_121 : decode cX12_one 121 = .ok (.iload 5, 2) := by decide +kernel
theorem dX12_one_123 : decode cX12_one 123 = .ok (.laload, 1) := by decide +kernel
theorem dX12_one_124 : decode cX12_one 124 = .ok (.lsub, 1) := by decide +kernel
theorem dX12_one_125 : decode cX12_one 125 = .ok (.lreturn, 1) := by decide +kernel
theorem dX12_one_126 : decode cX12_one 126 = .ok (.iload 5, 2) := by decide +kernel
theorem dX12_one_128 : decode cX12_one 128 = .ok (.ifCond .ge 11, 3) := by decide +kernel
theorem dX12_one_131 : decode cX12_one 131 = .ok (.aload_n 0, 1) := by decide +kernel
theorem dX12_one_132 : decode cX12_one 132 = .ok (.iload_n 1, 1) := by decide +kernel
theorem dX12_one_133 : decode cX12_one 133 = .ok (.invokevirtual 180, 3) := by decide +kernel
theorem dX12_one_136 : decode cX12_one 136 = .ok (.goto 10, 3) := by decide +kernel
theorem dX12_one_139 : decode cX12_one 139 = .ok (.aload_n 0, 1) := by decide +kernel
theorem dX12_one_140 : decode cX12_one 140 = .ok (.getfield 44, 3) := by decide +kernel
theorem dX12_one_143 : decode cX12_one 143 = .ok (.iload 5, 2) := by decide +kernel
theorem dX12_one_145 : decode cX12_one 145 = .ok (.laload, 1) := by decide +kernel
theorem dX12_one_146 : decode cX12_one 146 = .ok (.lreturn, 1) := by decide +kernel
theorem dX12_estimated_0 : decode cX12_estimated 0 = .ok (.iload_n 2, 1) := by decide +kernel
theorem dX12_estimated_1 : decode cX12_estimated 1 = .ok (.iconst 4, 1) := by decide +kernel
theorem dX12_estimated_2 : decode cX12_estimated 2 = .ok (.if_icmp .ge 13, 3) := by decide +kernel
theorem dX12_estimated_5 : decode cX12_estimated 5 = .ok (.aload_n 0, 1) := by decide +kernel
theorem dX12_estimated_6 : decode cX12_estimated 6 = .ok (.iload_n 1, 1) := by decide +kernel
theorem dX12_estimated_7 : decode cX12_estimated 7 = .ok (.iload_n 2, 1) := by decide +kernel
theorem dX12_estimated_8 : decode cX12_estimated 8 = .ok (.iload_n 3, 1) := by decide +kernel
theorem dX12_estimated_9 : decode cX12_estimated 9 = .ok (.iload 4, 2) := by decide +kernel
theorem dX12_estimated_11 : decode cX12_estimated 11 = .ok (.invokevirtual 190, 3) := by decide +kernel
theorem dX12_estimated_14 : decode cX12_estimated 14 = .ok (.lreturn, 1) := by decide +kernel
theorem dX12_estimated_15 : decode cX12_estimated 15 = .ok (.aload_n 0, 1) := by decide +kernel
theorem dX12_estimated_16 : decode cX12_estimated 16 = .ok (.iload_n 1, 1) := by decide +kernel
theorem dX12_estimated_17 : decode cX12_estimated 17 = .ok (.iconst 0, 1) := by decide +kernel
theorem dX12_estimated_18 : decode cX12_estimated 18 = .ok (.iload_n 3, 1) := by decide +kernel
theorem dX12_estimated_19 : decode cX12_estimated 19 = .ok (.iconst 1, 1) := by decide +kernel
theorem dX12_estimated_20 : decode cX12_estimated 20 = .ok (.invokevirtual 190, 3) := by decide +kernel
theorem dX12_estimated_23 : decode cX12_estimated 23 = .ok (.lstore 5, 2) := by decide +kernel
theorem dX12_estimated_25 : decode cX12_estimated 25 = .ok (.aload_n 0, 1) := by decide +kernel
theorem dX12_estimated_26 : decode cX12_estimated 26 = .ok (.iload_n 1, 1) := by decide +kernel
theorem dX12_estimated_27 : decode cX12_estimated 27 = .ok (.iconst 0, 1) := by decide +kernel
theorem dX12_estimated_28 : decode cX12_estimated 28 = .ok (.iload_n 3, 1) := by decide +kernel
theorem dX12_estimated_29 : decode cX12_estimated 29 = .ok (.iconst 2, 1) := by decide +kernel
theorem dX12_estimated_30 : decode cX12_estimated 30 = .ok (.invokevirtual 190, 3) := by decide +kernel
theorem dX12_estimated_33 : decode cX12_estimated 33 = .ok (.lstore 7, 2) := by decide +kernel
theorem dX12_estimated_35 : decode cX12_estimated 35 = .ok (.iconst 1, 1) := by decide +kernel
theorem dX12_estimated_36 : decode cX12_estimated 36 = .ok (.istore 9, 2) := by decide +kernel
theorem dX12_estimated_38 : decode cX12_estimated 38 = .ok (.iload 9, 2) := by decide +kernel
theorem dX12_estimated_40 : decode cX12_estimated 40 = .ok (.iconst 4, 1) := by decide +kernel
theorem dX12_estimated_41 : decode cX12_estimated 41 = .ok (.if_icmp .ge 65, 3) := by decide +kernel
theorem dX12_estimated_44 : decode cX12_estimated 44 = .ok (.aload_n 0, 1) := by decide +kernel
theorem dX12_estimated_45 : decode cX12_estimated 45 = .ok (.iload_n 1, 1) := by decide +kernel
theorem dX12_estimated_46 : decode cX12_estimated 46 = .ok (.iload 9, 2) := by decide +kernel
theorem dX12_estimated_48 : decode cX12_estimated 48 = .ok (.iload_n 3, 1) := by decide +kernel
theorem dX12_estimated_49 : decode cX12_estimated 49 = .ok (.iconst 1, 1) := by decide +kernel
theorem dX12_estimated_50 : decode cX12_estimated 50 = .ok (.invokevirtual 190, 3) := by decide +kernel
theorem dX12_estimated_53 : decode cX12_estimated 53 = .ok (.lstore 10, 2) := by decide +kernel
theorem dX12_estimated_55 : decode cX12_estimated 55 = .ok (.aload_n 0, 1) := by decide +kernel
theorem dX12_estimated_56 : decode cX12_estimated 56 = .ok (.iload_n 1, 1) := by decide +kernel
theorem dX12_estimated_57 : decode cX12_estimated 57 = .ok (.iload 9, 2) := by decide +kernel
theorem dX12_estimated_59 : decode cX12_estimated 59 = .ok (.iload_n 3, 1) := by decide +kernel
theorem dX12_estimated_60 : decode cX12_estimated 60 = .ok (.iconst 2, 1) := by decide +kernel
theorem dX12_estimated_61 : decode cX12_estimated 61 = .ok (.invokevirtual 190, 3) := by decide +kernel
theorem dX12_estimated_64 : decode cX12_estimated 64 = .ok (.lstore 12, 2) := by decide +kernel
theorem dX12_estimated_66 : decode cX12_estimated 66 = .ok (.lload 10, 2) := by decide +kernel
theorem dX12_estimated_68 : decode cX12_estimated 68 = .ok (.lload 5, 2) := by decide +kernel
theorem dX12_estimated_70 : decode cX12_estimated 70 = .ok (.lcmp, 1) := by decide +kernel
theorem dX12_estimated_71 : decode cX12_estimated 71 = .ok (.ifCond .le 8, 3) := by decide +kernel
theorem dX12_estimated_74 : decode cX12_estimated 74 = .ok (.lload 10, 2) := by decide +kernel
theorem dX12_estimated_76 : decode cX12_estimated 76 = .ok (.goto 5, 3) := by decide +kernel
theorem dX12_estimated_79 : decode cX12_estimated 79 = .ok (.lload 5, 2) := by decide +kernel
theorem dX12_estimated_81 : decode cX12_estimated 81 = .ok (.lstore 5, 2) := by decide +kernel
theorem dX12_estimated_83 : decode cX12_estimated 83 = .ok (.lload 12, 2) := by decide +kernel
theorem dX12_estimated_85 : decode cX12_estimated 85 = .ok (.lload 7, 2) := by decide +kernel
theorem dX12_estimated_87 : decode cX12_estimated 87 = .ok (.lcmp, 1) := by decide +kernel
theorem dX12_estimated_88 : decode cX12_estimated 88 = .ok (.ifCond .ge 8, 3) := by decide +kernel
theorem dX12_estimated_91 : decode cX12_estimated 91 = .ok (.lload 12, 2) := by decide +kernel
theorem dX12_estimated_93 : decode cX12_estimated 93 = .ok (.goto 5, 3) := by decide +kernel
theorem dX12_estimated_96 : decode cX12_estimated 96 = .ok (.lload 7, 2) := by decide +kernel
theorem dX12_estimated_98 : decode cX12_estimated 98 = .ok (.lstore 7, 2) := by decide +kernel
theorem dX12_estimated_100 : decode cX12_estimated 100 = .ok (.iinc 9 1, 3) := by decide +kernel
theorem dX12_estimated_103 : decode cX12_estimated 103 = .ok (.goto (-65), 3) := by decide +kernel
theorem dX12_estimated_106 : decode cX12_estimated 106 = .ok (.iload 4, 2) := by decide +kernel
theorem dX12_estimated_108 : decode cX12_estimated 108 = .ok (.iconst 1, 1) := by decide +kernel
theorem dX12_estimated_109 : decode cX12_estimated 109 = .ok (.if_icmp .ne 8, 3) := by decide +kernel
theorem dX12_estimated_112 : decode cX12_estimated 112 = .ok (.lload 5, 2) := by decide +kernel
theorem dX12_estimated_114 : decode cX12_estimated 114 = .ok (.goto 23, 3) := by decide +kernel
theorem dX12_estimated_117 : decode cX12_estimated 117 = .ok (.iload 4, 2) := by decide +kernel
theorem dX12_estimated_119 : decode cX12_estimated 119 = .ok (.iconst 2, 1) := by decide +kernel
theorem dX12_estimated_120 : decode cX12_estimated 120 = .ok (.if_icmp .ne 8, 3) := by decide +kernel
theorem dX12_estimated_123 : decode cX12_estimated 123 = .ok (.lload 7, 2) := by decide +kernel
theorem dX12_estimated_125 : decode cX12_estimated 125 = .ok (.goto 12, 3) := by decide +kernel
theorem dX12_estimated_128 : decode cX12_estimated 128 = .ok (.lload 5, 2) := by decide +kernel
theorem dX12_estimated_130 : decode cX12_estimated 130 = .ok (.lload 7, 2) := by decide +kernel
theorem dX12_estimated_132 : decode cX12_estimated 132 = .ok (.ladd, 1) := by decide +kernel
theorem dX12_estimated_133 : decode cX12_estimated 133 = .ok (.ldc2_w 194, 3) := by decide +kernel
theorem dX12_estimated_136 : decode cX12_estimated 136 = .ok (.ldiv, 1) := by decide +kernel
theorem dX12_estimated_137 : decode cX12_estimated 137 = .ok (.lreturn, 1) := by decide +kernel
theorem dX12_estimate_0 : decode cX12_estimate 0 = .ok (.iload_n 1, 1) := by decide +kernel
theorem dX12_estimate_1 : decode cX12_estimate 1 = .ok (.invokestatic 146, 3) := by decide +kernel
theorem dX12_estimate_4 : decode cX12_estimate 4 = .ok (.ifCond .eq 42, 3) := by decide +kernel
theorem dX12_estimate_7 : decode cX12_estimate 7 = .ok (.iload_n 2, 1) := by decide +kernel
theorem dX12_estimate_8 : decode cX12_estimate 8 = .ok (.iconst 0, 1) := by decide +kernel
theorem dX12_estimate_9 : decode cX12_estimate 9 = .ok (.iconst 4, 1) := by decide +kernel
theorem dX12_estimate_10 : decode cX12_estimate 10 = .ok (.invokestatic 101, 3) := by decide +kernel
theorem dX12_estimate_13 : decode cX12_estimate 13 = .ok (.ifCond .eq 33, 3) := by decide +kernel
theorem dX12_estimate_16 : decode cX12_estimate 16 = .ok (.aload_n 0, 1) := by decide +kernel
theorem dX12_estimate_17 : decode cX12_estimate 17 = .ok (.iload_n 3, 1) := by decide +kernel
theorem dX12_estimate_18 : decode cX12_estimate 18 = .ok (.invokevirtual 105, 3) := by decide +kernel
theorem dX12_estimate_21 : decode cX12_estimate 21 = .ok (.ifCond .eq 25, 3) := by decide +kernel
theorem dX12_estimate_24 : decode cX12_estimate 24 = .ok (.iload 4, 2) := by decide +kernel
theorem dX12_estimate_26 : decode cX12_estimate 26 = .ok (.iconst 0, 1) := by decide +kernel
theorem dX12_estimate_27 : decode cX12_estimate 27 = .ok (.iconst 2, 1) := by decide +kernel
theorem dX12_estimate_28 : decode cX12_estimate 28 = .ok (.invokestatic 101, 3) := by decide +kernel
theorem dX12_estimate_31 : decode cX12_estimate 31 = .ok (.ifCond .eq 15, 3) := by decide +kernel
theorem dX12_estimate_34 : decode cX12_estimate 34 = .ok (.aload_n 0, 1) := by decide +kernel
theorem dX12_estimate_35 : decode cX12_estimate 35 = .ok (.iload_n 1, 1) := by decide +kernel
theorem dX12_estimate_36 : decode cX12_estimate 36 = .ok (.iload_n 2, 1) := by decide +kernel
theorem dX12_estimate_37 : decode cX12_estimate 37 = .ok (.iload_n 3, 1) := by decide +kernel
theorem dX12_estimate_38 : decode cX12_estimate 38 = .ok (.iload 4, 2) := by decide +kernel
theorem dX12_estimate_40 : decode cX12_estimate 40 = .ok (.invokevirtual 196, 3) := by decide +kernel
theorem dX12_estimate_43 : decode cX12_estimate 43 = .ok (.goto 6, 3) := by decide +kernel
theorem dX12_estimate_46 : decode cX12_estimate 46 = .ok (.ldc2_w 151, 3) := by decide +kernel
theorem dX12_estimate_49 : decode cX12_estimate 49 = .ok (.lreturn, 1) := by decide +kernel
theorem dX12_count_0 : decode cX12_count 0 = .ok (.iload_n 1, 1) := by decide +kernel
theorem dX12_count_1 : decode cX12_count 1 = .ok (.invokestatic 146, 3) := by decide +kernel
theorem dX12_count_4 : decode cX12_count 4 = .ok (.ifCond .eq 20, 3) := by decide +kernel
theorem dX12_count_7 : decode cX12_count 7 = .ok (.aload_n 0, 1) := by decide +kernel
theorem dX12_count_8 : decode cX12_count 8 = .ok (.iload_n 2, 1) := by decide +kernel
theorem dX12_count_9 : decode cX12_count 9 = .ok (.invokevirtual 105, 3) := by decide +kernel
theorem dX12_count_12 : decode cX12_count 12 = .ok (.ifCond .eq 12, 3) := by decide +kernel
theorem dX12_count_15 : decode cX12_count 15 = .ok (.aload_n 0, 1) := by decide +kernel
theorem dX12_count_16 : decode cX12_count 16 = .ok (.getfield 53, 3) := by decide +kernel
theorem dX12_count_19 : decode cX12_count 19 = .ok (.iload_n 1, 1) := by decide +kernel
theorem dX12_count_20 : decode cX12_count 20 = .ok (.baload, 1) := by decide +kernel
theorem dX12_count_21 : decode cX12_count 21 = .ok (.ifCond .eq 7, 3) := by decide +kernel
theorem dX12_count_24 : decode cX12_count 24 = .ok (.ldc2_w 151, 3) := by decide +kernel
theorem dX12_count_27 : decode cX12_count 27 = .ok (.lreturn, 1) := by decide +kernel
theorem dX12_count_28 : decode cX12_count 28 = .ok (.aload_n 0, 1) := by decide +kernel
theorem dX12_count_29 : decode cX12_count 29 = .ok (.iload_n 1, 1) := by decide +kernel
theorem dX12_count_30 : decode cX12_count 30 = .ok (.iload_n 2, 1) := by decide +kernel
theorem dX12_count_31 : decode cX12_count 31 = .ok (.invokevirtual 143, 3) := by decide +kernel
theorem dX12_count_34 : decode cX12_count 34 = .ok (.istore_n 3, 1) := by decide +kernel
theorem dX12_count_35 : decode cX12_count 35 = .ok (.iload_n 3, 1) := by decide +kernel
theorem dX12_count_36 : decode cX12_count 36 = .ok (.ifCond .ge 7, 3) := by decide +kernel
theorem dX12_count_39 : decode cX12_count 39 = .ok (.lconst 0, 1) := by decide +kernel
theorem dX12_count_40 : decode cX12_count 40 = .ok (.goto 9, 3) := by decide +kernel
theorem dX12_count_43 : decode cX12_count 43 = .ok (.aload_n 0, 1) := by decide +kernel
theorem dX12_count_44 : decode cX12_count 44 = .ok (.getfield 60, 3) := by decide +kernel
theorem dX12_count_47 : decode cX12_count 47 = .ok (.iload_n 3, 1) := by decide +kernel
theorem dX12_count_48 : decode cX12_count 48 = .ok (.laload, 1) := by decide +kernel
theorem dX12_count_49 : decode cX12_count 49 = .ok (.lreturn, 1) := by decide +kernel
theorem dX12_cell_0 : decode cX12_cell 0 = .ok (.iload_n 1, 1) := by decide +kernel
theorem dX12_cell_1 : decode cX12_cell 1 = .ok (.invokestatic 146, 3) := by decide +kernel
theorem dX12_cell_4 : decode cX12_cell 4 = .ok (.ifCond .eq 41, 3) := by decide +kernel
theorem dX12_cell_7 : decode cX12_cell 7 = .ok (.iload_n 2, 1) := by decide +kernel
theorem dX12_cell_8 : decode cX12_cell 8 = .ok (.iconst 0, 1) := by decide +kernel
theorem dX12_cell_9 : decode cX12_cell 9 = .ok (.iconst 1, 1) := by decide +kernel
theorem dX12_cell_10 : decode cX12_cell 10 = .ok (.invokestatic 101, 3) := by decide +kernel
theorem dX12_cell_13 : decode cX12_cell 13 = .ok (.ifCond .eq 32, 3) := by decide +kernel
theorem dX12_cell_16 : decode cX12_cell 16 = .ok (.iload_n 3, 1) := by decide +kernel
theorem dX12_cell_17 : decode cX12_cell 17 = .ok (.iconst 0, 1) := by decide +kernel
theorem dX12_cell_18 : decode cX12_cell 18 = .ok (.aload_n 0, 1) := by decide +kernel
theorem dX12_cell_19 : decode cX12_cell 19 = .ok (.getfield 94, 3) := by decide +kernel
theorem dX12_cell_22 : decode cX12_cell 22 = .ok (.iconst 1, 1) := by decide +kernel
theorem dX12_cell_23 : decode cX12_cell 23 = .ok (.isub, 1) := by decide +kernel
theorem dX12_cell_24 : decode cX12_cell 24 = .ok (.invokestatic 101, 3) := by decide +kernel
theorem dX12_cell_27 : decode cX12_cell 27 = .ok (.ifCond .eq 18, 3) := by decide +kernel
theorem dX12_cell_30 : decode cX12_cell 30 = .ok (.iload 4, 2) := by decide +kernel
theorem dX12_cell_32 : decode cX12_cell 32 = .ok (.iconst 0, 1) := by decide +kernel
theorem dX12_cell_33 : decode cX12_cell 33 = .ok (.aload_n 0, 1) := by decide +kernel
theorem dX12_cell_34 : decode cX12_cell 34 = .ok (.getfield 91, 3) := by decide +kernel
theorem dX12_cell_37 : decode cX12_cell 37 = .ok (.iconst 1, 1) := by decide +kernel
theorem dX12_cell_38 : decode cX12_cell 38 = .ok (.isub, 1) := by decide +kernel
theorem dX12_cell_39 : decode cX12_cell 39 = .ok (.invokestatic 101, 3) := by decide +kernel
theorem dX12_cell_42 : decode cX12_cell 42 = .ok (.ifCond .ne 7, 3) := by decide +kernel
theorem dX12_cell_45 : decode cX12_cell 45 = .ok (.ldc2_w 151, 3) := by decide +kernel
theorem dX12_cell_48 : decode cX12_cell 48 = .ok (.lreturn, 1) := by decide +kernel
theorem dX12_cell_49 : decode cX12_cell 49 = .ok (.sipush 2048, 3) := by decide +kernel
theorem dX12_cell_52 : decode cX12_cell 52 = .ok (.iload_n 1, 1) := by decide +kernel
theorem dX12_cell_53 : decode cX12_cell 53 = .ok (.imul, 1) := by decide +kernel
theorem dX12_cell_54 : decode cX12_cell 54 = .ok (.sipush 256, 3) := by decide +kernel
theorem dX12_cell_57 : decode cX12_cell 57 = .ok (.iload_n 3, 1) := by decide +kernel
theorem dX12_cell_58 : decode cX12_cell 58 = .ok (.imul, 1) := by decide +kernel
theorem dX12_cell_59 : decode cX12_cell 59 = .ok (.iadd, 1) := by decide +kernel
theorem dX12_cell_60 : decode cX12_cell 60 = .ok (.iload 4, 2) := by decide +kernel
theorem dX12_cell_62 : decode cX12_cell 62 = .ok (.iadd, 1) := by decide +kernel
theorem dX12_cell_63 : decode cX12_cell 63 = .ok (.istore 5, 2) := by decide +kernel
theorem dX12_cell_65 : decode cX12_cell 65 = .ok (.iload_n 2, 1) := by decide +kernel
theorem dX12_cell_66 : decode cX12_cell 66 = .ok (.ifCond .ne 13, 3) := by decide +kernel
theorem dX12_cell_69 : decode cX12_cell 69 = .ok (.aload_n 0, 1) := by decide +kernel
theorem dX12_cell_70 : decode cX12_cell 70 = .ok (.getfield 20, 3) := by decide +kernel
theorem dX12_cell_73 : decode cX12_cell 73 = .ok (.iload 5, 2) := by decide +kernel
theorem dX12_cell_75 : decode cX12_cell 75 = .ok (.laload, 1) := by decide +kernel
theorem dX12_cell_76 : decode cX12_cell 76 = .ok (.goto 10, 3) := by decide +kernel
theorem dX12_cell_79 : decode cX12_cell 79 = .ok (.aload_n 0, 1) := by decide +kernel
theorem dX12_cell_80 : decode cX12_cell 80 = .ok (.getfield 23, 3) := by decide +kernel
theorem dX12_cell_83 : decode cX12_cell 83 = .ok (.iload 5, 2) := by decide +kernel
theorem dX12_cell_85 : decode cX12_cell 85 = .ok (.laload, 1) := by decide +kernel
theorem dX12_cell_86 : decode cX12_cell 86 = .ok (.lreturn, 1) := by decide +kernel
theorem dX12_counter_0 : decode cX12_counter 0 = .ok (.iload_n 1, 1) := by decide +kernel
theorem dX12_counter_1 : decode cX12_counter 1 = .ok (.invokestatic 146, 3) := by decide +kernel
theorem dX12_counter_4 : decode cX12_counter 4 = .ok (.ifCond .eq 52, 3) := by decide +kernel
theorem dX12_counter_7 : decode cX12_counter 7 = .ok (.iload_n 2, 1) := by decide +kernel
theorem dX12_counter_8 : decode cX12_counter 8 = .ok (.iconst 2, 1) := by decide +kernel
theorem dX12_counter_9 : decode cX12_counter 9 = .ok (.iconst 3, 1) := by decide +kernel
theorem dX12_counter_10 : decode cX12_counter 10 = .ok (.invokestatic 101, 3) := by decide +kernel
theorem dX12_counter_13 : decode cX12_counter 13 = .ok (.ifCond .eq 43, 3) := by decide +kernel
theorem dX12_counter_16 : decode cX12_counter 16 = .ok (.iload 4, 2) := by decide +kernel
theorem dX12_counter_18 : decode cX12_counter 18 = .ok (.iconst 0, 1) := by decide +kernel
theorem dX12_counter_19 : decode cX12_counter 19 = .ok (.iconst 2, 1) := by decide +kernel
theorem dX12_counter_20 : decode cX12_counter 20 = .ok (.invokestatic 101, 3) := by decide +kernel
theorem dX12_counter_23 : decode cX12_counter 23 = .ok (.ifCond .eq 33, 3) := by decide +kernel
theorem dX12_counter_26 : decode cX12_counter 26 = .ok (.iload_n 3, 1) := by decide +kernel
theorem dX12_counter_27 : decode cX12_counter 27 = .ok (.iconst 0, 1) := by decide +kernel
theorem dX12_counter_28 : decode cX12_counter 28 = .ok (.iload_n 2, 1) := by decide +kernel
theorem dX12_counter_29 : decode cX12_counter 29 = .ok (.iconst 2, 1) := by decide +kernel
theorem dX12_counter_30 : decode cX12_counter 30 = .ok (.if_icmp .ne 12, 3) := by decide +kernel
theorem dX12_counter_33 : decode cX12_counter 33 = .ok (.aload_n 0, 1) := by decide +kernel
theorem dX12_counter_34 : decode cX12_counter 34 = .ok (.getfield 26, 3) := by decide +kernel
theorem dX12_counter_37 : decode cX12_counter 37 = .ok (.iload_n 1, 1) := by decide +kernel
theorem dX12_counter_38 : decode cX12_counter 38 = .ok (.iaload, 1) := by decide +kernel
theorem dX12_counter_39 : decode cX12_counter 39 = .ok (.goto 9, 3) := by decide +kernel
theorem dX12_counter_42 : decode cX12_counter 42 = .ok (.aload_n 0, 1) := by decide +kernel
theorem dX12_counter_43 : decode cX12_counter 43 = .ok (.getfield 38, 3) := by decide +kernel
theorem dX12_counter_46 : decode cX12_counter 46 = .ok (.iload_n 1, 1) := by decide +kernel
theorem dX12_counter_47 : decode cX12_counter 47 = .ok (.iaload, 1) := by decide +kernel
theorem dX12_counter_48 : decode cX12_counter 48 = .ok (.iconst 1, 1) := by decide +kernel
theorem dX12_counter_49 : decode cX12_counter 49 = .ok (.isub, 1) := by decide +kernel
theorem dX12_counter_50 : decode cX12_counter 50 = .ok (.invokestatic 101, 3) := by decide +kernel
theorem dX12_counter_53 : decode cX12_counter 53 = .ok (.ifCond .ne 7, 3) := by decide +kernel
theorem dX12_counter_56 : decode cX12_counter 56 = .ok (.ldc2_w 151, 3) := by decide +kernel
theorem dX12_counter_59 : decode cX12_counter 59 = .ok (.lreturn, 1) := by decide +kernel
theorem dX12_counter_60 : decode cX12_counter 60 = .ok (.bipush 64, 2) := by decide +kernel
theorem dX12_counter_62 : decode cX12_counter 62 = .ok (.iload_n 1, 1) := by decide +kernel
theorem dX12_counter_63 : decode cX12_counter 63 = .ok (.imul, 1) := by decide +kernel
theorem dX12_counter_64 : decode cX12_counter 64 = .ok (.iload_n 3, 1) := by decide +kernel
theorem dX12_counter_65 : decode cX12_counter 65 = .ok (.iadd, 1) := by decide +kernel
theorem dX12_counter_66 : decode cX12_counter 66 = .ok (.istore 5, 2) := by decide +kernel
theorem dX12_counter_68 : decode cX12_counter 68 = .ok (.iload_n 2, 1) := by decide +kernel
theorem dX12_counter_69 : decode cX12_counter 69 = .ok (.iconst 2, 1) := by decide +kernel
theorem dX12_counter_70 : decode cX12_counter 70 = .ok (.if_icmp .ne 37, 3) := by decide +kernel
theorem dX12_counter_73 : decode cX12_counter 73 = .ok (.iload 4, 2) := by decide +kernel
theorem dX12_counter_75 : decode cX12_counter 75 = .ok (.ifCond .ne 14, 3) := by decide +kernel
theorem dX12_counter_78 : decode cX12_counter 78 = .ok (.aload_n 0, 1) := by decide +kernel
theorem dX12_counter_79 : decode cX12_counter 79 = .ok (.getfield 32, 3) := by decide +kernel
theorem dX12_counter_82 : decode cX12_counter 82 = .ok (.iload 5, 2) := by decide +kernel
theorem dX12_counter_84 : decode cX12_counter 84 = .ok (.iaload, 1) := by decide +kernel
theorem dX12_counter_85 : decode cX12_counter 85 = .ok (.i2l, 1) := by decide +kernel
theorem dX12_counter_86 : decode cX12_counter 86 = .ok (.goto 20, 3) := by decide +kernel
theorem dX12_counter_89 : decode cX12_counter 89 = .ok (.iload 4, 2) := by decide +kernel
theorem dX12_counter_91 : decode cX12_counter 91 = .ok (.iconst 1, 1) := by decide +kernel
theorem dX12_counter_92 : decode cX12_counter 92 = .ok (.if_icmp .ne 13, 3) := by decide +kernel
theorem dX12_counter_95 : decode cX12_counter 95 = .ok (.aload_n 0, 1) := by decide +kernel
theorem dX12_counter_96 : decode cX12_counter 96 = .ok (.getfield 35, 3) := by decide +kernel
theorem dX12_counter_99 : decode cX12_counter 99 = .ok (.iload 5, 2) := by decide +kernel
theorem dX12_counter_101 : decode cX12_counter 101 = .ok (.laload, 1) := by decide +kernel
theorem dX12_counter_102 : decode cX12_counter 102 = .ok (.goto 4, 3) := by decide +kernel
theorem dX12_counter_105 : decode cX12_counter 105 = .ok (.lconst 0, 1) := by decide +kernel
theorem dX12_counter_106 : decode cX12_counter 106 = .ok (.lreturn, 1) := by decide +kernel
theorem dX12_counter_107 : decode cX12_counter 107 = .ok (.iload 4, 2) := by decide +kernel
theorem dX12_counter_109 : decode cX12_counter 109 = .ok (.ifCond .ne 14, 3) := by decide +kernel
theorem dX12_counter_112 : decode cX12_counter 112 = .ok (.aload_n 0, 1) := by decide +kernel
theorem dX12_counter_113 : decode cX12_counter 113 = .ok (.getfield 41, 3) := by decide +kernel
theorem dX12_counter_116 : decode cX12_counter 116 = .ok (.iload 5, 2) := by decide +kernel
theorem dX12_counter_118 : decode cX12_counter 118 = .ok (.iaload, 1) := by decide +kernel
theorem dX12_counter_119 : decode cX12_counter 119 = .ok (.i2l, 1) := by decide +kernel
theorem dX12_counter_120 : decode cX12_counter 120 = .ok (.goto 26, 3) := by decide +kernel
theorem dX12_counter_123 : decode cX12_counter 123 = .ok (.iload 4, 2) := by decide +kernel
theorem dX12_counter_125 : decode cX12_counter 125 = .ok (.iconst 1, 1) := by decide +kernel
theorem dX12_counter_126 : decode cX12_counter 126 = .ok (.if_icmp .ne 13, 3) := by decide +kernel
theorem dX12_counter_129 : decode cX12_counter 129 = .ok (.aload_n 0, 1) := by decide +kernel
theorem dX12_counter_130 : decode cX12_counter 130 = .ok (.getfield 44, 3) := by decide +kernel
theorem dX12_counter_133 : decode cX12_counter 133 = .ok (.iload 5, 2) := by decide +kernel
theorem dX12_counter_135 : decode cX12_counter 135 = .ok (.laload, 1) := by decide +kernel
theorem dX12_counter_136 : decode cX12_counter 136 = .ok (.goto 10, 3) := by decide +kernel
theorem dX12_counter_139 : decode cX12_counter 139 = .ok (.aload_n 0, 1) := by decide +kernel
theorem dX12_counter_140 : decode cX12_counter 140 = .ok (.getfield 47, 3) := by decide +kernel
theorem dX12_counter_143 : decode cX12_counter 143 = .ok (.iload 5, 2) := by decide +kernel
theorem dX12_counter_145 : decode cX12_counter 145 = .ok (.laload, 1) := by decide +kernel
theorem dX12_counter_146 : decode cX12_counter 146 = .ok (.lreturn, 1) := by decide +kernel
theorem dX12_state_0 : decode cX12_state 0 = .ok (.iload_n 1, 1) := by decide +kernel
theorem dX12_state_1 : decode cX12_state 1 = .ok (.invokestatic 146, 3) := by decide +kernel
theorem dX12_state_4 : decode cX12_state 4 = .ok (.ifCond .ne 7, 3) := by decide +kernel
theorem dX12_state_7 : decode cX12_state 7 = .ok (.ldc2_w 151, 3) := by decide +kernel
theorem dX12_state_10 : decode cX12_state 10 = .ok (.lreturn, 1) := by decide +kernel
theorem dX12_state_11 : decode cX12_state 11 = .ok (.iload_n 2, 1) := by decide +kernel
theorem dX12_state_12 : decode cX12_state 12 = .ok (.tableswitch 88 0 4 #[36, 44, 51, 59, 65], 36) := by decide +kernel
theorem dX12_state_48 : decode cX12_state 48 = .ok (.aload_n 0, 1) := by decide +kernel
theorem dX12_state_49 : decode cX12_state 49 = .ok (.getfield 26, 3) := by decide +kernel
theorem dX12_state_52 : decode cX12_state 52 = .ok (.iload_n 1, 1) := by decide +kernel
theorem dX12_state_53 : decode cX12_state 53 = .ok (.iaload, 1) := by decide +kernel
theorem dX12_state_54 : decode cX12_state 54 = .ok (.i2l, 1) := by decide +kernel
theorem dX12_state_55 : decode cX12_state 55 = .ok (.lreturn, 1) := by decide +kernel
theorem dX12_state_56 : decode cX12_state 56 = .ok (.aload_n 0, 1) := by decide +kernel
theorem dX12_state_57 : decode cX12_state 57 = .ok (.getfield 29, 3) := by decide +kernel
theorem dX12_state_60 : decode cX12_state 60 = .ok (.iload_n 1, 1) := by decide +kernel
theorem dX12_state_61 : decode cX12_state 61 = .ok (.laload, 1) := by decide +kernel
theorem dX12_state_62 : decode cX12_state 62 = .ok (.lreturn, 1) := by decide +kernel
theorem dX12_state_63 : decode cX12_state 63 = .ok (.aload_n 0, 1) := by decide +kernel
theorem dX12_state_64 : decode cX12_state 64 = .ok (.getfield 38, 3) := by decide +kernel
theorem dX12_state_67 : decode cX12_state 67 = .ok (.iload_n 1, 1) := by decide +kernel
theorem dX12_state_68 : decode cX12_state 68 = .ok (.iaload, 1) := by decide +kernel
theorem dX12_state_69 : decode cX12_state 69 = .ok (.i2l, 1) := by decide +kernel
theorem dX12_state_70 : decode cX12_state 70 = .ok (.lreturn, 1) := by decide +kernel
theorem dX12_state_71 : decode cX12_state 71 = .ok (.aload_n 0, 1) := by decide +kernel
theorem dX12_state_72 : decode cX12_state 72 = .ok (.iload_n 1, 1) := by decide +kernel
theorem dX12_state_73 : decode cX12_state 73 = .ok (.invokevirtual 180, 3) := by decide +kernel
theorem dX12_state_76 : decode cX12_state 76 = .ok (.lreturn, 1) := by decide +kernel
theorem dX12_state_77 : decode cX12_state 77 = .ok (.aload_n 0, 1) := by decide +kernel
theorem dX12_state_78 : decode cX12_state 78 = .ok (.getfield 53, 3) := by decide +kernel
theorem dX12_state_81 : decode cX12_state 81 = .ok (.iload_n 1, 1) := by decide +kernel
theorem dX12_state_82 : decode cX12_state 82 = .ok (.baload, 1) := by decide +kernel
theorem dX12_state_83 : decode cX12_state 83 = .ok (.ifCond .eq 9, 3) := by decide +kernel
theorem dX12_state_86 : decode cX12_state 86 = .ok (.ldc2_w 151, 3) := by decide +kernel
theorem dX12_state_89 : decode cX12_state 89 = .ok (.goto 10, 3) := by decide +kernel
theorem dX12_state_92 : decode cX12_state 92 = .ok (.aload_n 0, 1) := by decide +kernel
theorem dX12_state_93 : decode cX12_state 93 = .ok (.getfield 50, 3) := by decide +kernel
theorem dX12_state_96 : decode cX12_state 96 = .ok (.iload_n 1, 1) := by decide +kernel
theorem dX12_state_97 : decode cX12_state 97 = .ok (.iaload, 1) := by decide +kernel
theorem dX12_state_98 : decode cX12_state 98 = .ok (.i2l, 1) := by decide +kernel
theorem dX12_state_99 : decode cX12_state 99 = .ok (.lreturn, 1) := by decide +kernel
theorem dX12_state_100 : decode cX12_state 100 = .ok (.ldc2_w 151, 3) := by decide +kernel
theorem dX12_state_103 : decode cX12_state 103 = .ok (.lreturn, 1) := by decide +kernel
theorem dX12_report_0 : decode cX12_report 0 = .ok (.iload_n 1, 1) := by decide +kernel
theorem dX12_report_1 : decode cX12_report 1 = .ok (.invokestatic 146, 3) := by decide +kernel
theorem dX12_report_4 : decode cX12_report 4 = .ok (.ifCond .eq 22, 3) := by decide +kernel
theorem dX12_report_7 : decode cX12_report 7 = .ok (.iload_n 2, 1) := by decide +kernel
theorem dX12_report_8 : decode cX12_report 8 = .ok (.iconst 0, 1) := by decide +kernel
theorem dX12_report_9 : decode cX12_report 9 = .ok (.iconst 4, 1) := by decide +kernel
theorem dX12_report_10 : decode cX12_report 10 = .ok (.invokestatic 101, 3) := by decide +kernel
theorem dX12_report_13 : decode cX12_report 13 = .ok (.ifCond .eq 13, 3) := by decide +kernel
theorem dX12_report_16 : decode cX12_report 16 = .ok (.iload_n 3, 1) := by decide +kernel
theorem dX12_report_17 : decode cX12_report 17 = .ok (.iconst 1, 1) := by decide +kernel
theorem dX12_report_18 : decode cX12_report 18 = .ok (.ldc 199, 2) := by decide +kernel
theorem dX12_report_20 : decode cX12_report 20 = .ok (.invokestatic 101, 3) := by decide +kernel
theorem dX12_report_23 : decode cX12_report 23 = .ok (.ifCond .ne 5, 3) := by decide +kernel
theorem dX12_report_26 : decode cX12_report 26 = .ok (.iconst (-1), 1) := by decide +kernel
theorem dX12_report_27 : decode cX12_report 27 = .ok (.ireturn, 1) := by decide +kernel
theorem dX12_report_28 : decode cX12_report 28 = .ok (.iconst 0, 1) := by decide +kernel
theorem dX12_report_29 : decode cX12_report 29 = .ok (.istore 5, 2) := by decide +kernel
theorem dX12_report_31 : decode cX12_report 31 = .ok (.aload_n 0, 1) := by decide +kernel
theorem dX12_report_32 : decode cX12_report 32 = .ok (.iconst 0, 1) := by decide +kernel
theorem dX12_report_33 : decode cX12_report 33 = .ok (.putfield 200, 3) := by decide +kernel
theorem dX12_report_36 : decode cX12_report 36 = .ok (.iconst 0, 1) := by decide +kernel
theorem dX12_report_37 : decode cX12_report 37 = .ok (.istore 6, 2) := by decide +kernel
theorem dX12_report_39 : decode cX12_report 39 = .ok (.iload 6, 2) := by decide +kernel
theorem dX12_report_41 : decode cX12_report 41 = .ok (.aload_n 0, 1) := by decide +kernel
theorem dX12_report_42 : decode cX12_report 42 = .ok (.getfield 87, 3) := by decide +kernel
theorem dX12_report_45 : decode cX12_report 45 = .ok (.if_icmp .ge 55, 3) := by decide +kernel
theorem dX12_report_48 : decode cX12_report 48 = .ok (.aload_n 0, 1) := by decide +kernel
theorem dX12_report_49 : decode cX12_report 49 = .ok (.iload_n 1, 1) := by decide +kernel
theorem dX12_report_50 : decode cX12_report 50 = .ok (.iload_n 2, 1) := by decide +kernel
theorem dX12_report_51 : decode cX12_report 51 = .ok (.iload 6, 2) := by decide +kernel
theorem dX12_report_53 : decode cX12_report 53 = .ok (.iload 4, 2) := by decide +kernel
theorem dX12_report_55 : decode cX12_report 55 = .ok (.ifCond .eq 7, 3) := by decide +kernel
theorem dX12_report_58 : decode cX12_report 58 = .ok (.iconst 1, 1) := by decide +kernel
theorem dX12_report_59 : decode cX12_report 59 = .ok (.goto 4, 3) := by decide +kernel
theorem dX12_report_62 : decode cX12_report 62 = .ok (.iconst 2, 1) := by decide +kernel
theorem dX12_report_63 : decode cX12_report 63 = .ok (.invokevirtual 196, 3) := by decide +kernel
theorem dX12_report_66 : decode cX12_report 66 = .ok (.lstore 7, 2) := by decide +kernel
theorem dX12_report_68 : decode cX12_report 68 = .ok (.lload 7, 2) := by decide +kernel
theorem dX12_report_70 : decode cX12_report 70 = .ok (.aload_n 0, 1) := by decide +kernel
theorem dX12_report_71 : decode cX12_report 71 = .ok (.getfield 16, 3) := by decide +kernel
theorem dX12_report_74 : decode cX12_report 74 = .ok (.iload_n 1, 1) := by decide +kernel
theorem dX12_report_75 : decode cX12_report 75 = .ok (.laload, 1) := by decide +kernel
theorem dX12_report_76 : decode cX12_report 76 = .ok (.iload_n 3, 1) := by decide +kernel
theorem dX12_report_77 : decode cX12_report 77 = .ok (.i2l, 1) := by decide +kernel
theorem dX12_report_78 : decode cX12_report 78 = .ok (.ldiv, 1) := by decide +kernel
theorem dX12_report_79 : decode cX12_report 79 = .ok (.lcmp, 1) := by decide +kernel
theorem dX12_report_80 : decode cX12_report 80 = .ok (.ifCond .le 14, 3) := by decide +kernel
theorem dX12_report_83 : decode cX12_report 83 = .ok (.iinc 5 1, 3) := by decide +kernel
theorem dX12_report_86 : decode cX12_report 86 = .ok (.aload_n 0, 1) := by decide +kernel
theorem dX12_report_87 : decode cX12_report 87 = .ok (.iload 6, 2) := by decide +kernel
theorem dX12_report_89 : decode cX12_report 89 = .ok (.lload 7, 2) := by decide +kernel
theorem dX12_report_91 : decode cX12_report 91 = .ok (.invokevirtual 203, 3) := by decide +kernel
theorem dX12_report_94 : decode cX12_report 94 = .ok (.iinc 6 1, 3) := by decide +kernel
theorem dX12_report_97 : decode cX12_report 97 = .ok (.goto (-58), 3) := by decide +kernel
theorem dX12_report_100 : decode cX12_report 100 = .ok (.iload 5, 2) := by decide +kernel
theorem dX12_report_102 : decode cX12_report 102 = .ok (.ireturn, 1) := by decide +kernel
theorem dX12_reports_0 : decode cX12_reports 0 = .ok (.aload_n 0, 1) := by decide +kernel
theorem dX12_reports_1 : decode cX12_reports 1 = .ok (.getfield 200, 3) := by decide +kernel
theorem dX12_reports_4 : decode cX12_reports 4 = .ok (.sipush 300, 3) := by decide +kernel
theorem dX12_reports_7 : decode cX12_reports 7 = .ok (.if_icmp .ge 10, 3) := by decide +kernel
theorem dX12_reports_10 : decode cX12_reports 10 = .ok (.aload_n 0, 1) := by decide +kernel
theorem dX12_reports_11 : decode cX12_reports 11 = .ok (.getfield 200, 3) := by decide +kernel
theorem dX12_reports_14 : decode cX12_reports 14 = .ok (.goto 6, 3) := by decide +kernel
theorem dX12_reports_17 : decode cX12_reports 17 = .ok (.sipush 299, 3) := by decide +kernel
theorem dX12_reports_20 : decode cX12_reports 20 = .ok (.istore 4, 2) := by decide +kernel
theorem dX12_reports_22 : decode cX12_reports 22 = .ok (.aload_n 0, 1) := by decide +kernel
theorem dX12_reports_23 : decode cX12_reports 23 = .ok (.getfield 200, 3) := by decide +kernel
theorem dX12_reports_26 : decode cX12_reports 26 = .ok (.sipush 300, 3) := by decide +kernel
theorem dX12_reports_29 : decode cX12_reports 29 = .ok (.if_icmp .ne 17, 3) := by decide +kernel
theorem dX12_reports_32 : decode cX12_reports 32 = .ok (.aload_n 0, 1) := by decide +kernel
theorem dX12_reports_33 : decode cX12_reports 33 = .ok (.getfield 66, 3) := by decide +kernel
theorem dX12_reports_36 : decode cX12_reports 36 = .ok (.sipush 299, 3) := by decide +kernel
theorem dX12_reports_39 : decode cX12_reports 39 = .ok (.laload, 1) := by decide +kernel
theorem dX12_reports_40 : decode cX12_reports 40 = .ok (.lload_n 2, 1) := by decide +kernel
theorem dX12_reports_41 : decode cX12_reports 41 = .ok (.lcmp, 1) := by decide +kernel
theorem dX12_reports_42 : decode cX12_reports 42 = .ok (.ifCond .lt 4, 3) := by decide +kernel
theorem dX12_reports_45 : decode cX12_reports 45 = .ok (.return_, 1) := by decide +kernel
theorem dX12_reports_46 : decode cX12_reports 46 = .ok (.iload 4, 2) := by decide +kernel
theorem dX12_reports_48 : decode cX12_reports 48 = .ok (.ifCond .le 55, 3) := by decide +kernel
theorem dX12_reports_51 : decode cX12_reports 51 = .ok (.aload_n 0, 1) := by decide +kernel
theorem dX12_reports_52 : decode cX12_reports 52 = .ok (.getfield 66, 3) := by decide +kernel
theorem dX12_reports_55 : decode cX12_reports 55 = .ok (.iload 4, 2) := by decide +kernel
theorem dX12_reports_57 : decode cX12_reports 57 = .ok (.iconst 1, 1) := by decide +kernel
theorem dX12_reports_58 : decode cX12_reports 58 = .ok (.isub, 1) := by decide +kernel
theorem dX12_reports_59 : decode cX12_reports 59 = .ok (.laload, 1) := by decide +kernel
theorem dX12_reports_60 : decode cX12_reports 60 = .ok (.lload_n 2, 1) := by decide +kernel
theorem dX12_reports_61 : decode cX12_reports 61 = .ok (.lcmp, 1) := by decide +kernel
theorem dX12_reports_62 : decode cX12_reports 62 = .ok (.ifCond .ge 41, 3) := by decide +kernel
theorem dX12_reports_65 : decode cX12_reports 65 = .ok (.aload_n 0, 1) := by decide +kernel
theorem dX12_reports_66 : decode cX12_reports 66 = .ok (.getfield 66, 3) := by decide +kernel
theorem dX12_reports_69 : decode cX12_reports 69 = .ok (.iload 4, 2) := by decide +kernel
theorem dX12_reports_71 : decode cX12_reports 71 = .ok (.aload_n 0, 1) := by decide +kernel
theorem dX12_reports_72 : decode cX12_reports 72 = .ok (.getfield 66, 3) := by decide +kernel
theorem dX12_reports_75 : decode cX12_reports 75 = .ok (.iload 4, 2) := by decide +kernel
theorem dX12_reports_77 : decode cX12_reports 77 = .ok (.iconst 1, 1) := by decide +kernel
theorem dX12_reports_78 : decode cX12_reports 78 = .ok (.isub, 1) := by decide +kernel
theorem dX12_reports_79 : decode cX12_reports 79 = .ok (.laload, 1) := by decide +kernel
theorem dX12_reports_80 : decode cX12_reports 80 = .ok (.lastore, 1) := by decide +kernel
theorem dX12_reports_81 : decode cX12_reports 81 = .ok (.aload_n 0, 1) := by decide +kernel
theorem dX12_reports_82 : decode cX12_reports 82 = .ok (.getfield 63, 3) := by decide +kernel
theorem dX12_reports_85 : decode cX12_reports 85 = .ok (.iload 4, 2) := by decide +kernel
theorem dX12_reports_87 : decode cX12_reports 87 = .ok (.aload_n 0, 1) := by decide +kernel
theorem dX12_reports_88 : decode cX12_reports 88 = .ok (.getfield 63, 3) := by decide +kernel
theorem dX12_reports_91 : decode cX12_reports 91 = .ok (.iload 4, 2) := by decide +kernel
theorem dX12_reports_93 : decode cX12_reports 93 = .ok (.iconst 1, 1) := by decide +kernel
theorem dX12_reports_94 : decode cX12_reports 94 = .ok (.isub, 1) := by decide +kernel
theorem dX12_reports_95 : decode cX12_reports 95 = .ok (.iaload, 1) := by decide +kernel
theorem dX12_reports_96 : decode cX12_reports 96 = .ok (.iastore, 1) := by decide +kernel
theorem dX12_reports_97 : decode cX12_reports 97 = .ok (.iinc 4 (-1), 3) := by decide +kernel
theorem dX12_reports_100 : decode cX12_reports 100 = .ok (.goto (-54), 3) := by decide +kernel
theorem dX12_reports_103 : decode cX12_reports 103 = .ok (.aload_n 0, 1) := by decide +kernel
theorem dX12_reports_104 : decode cX12_reports 104 = .ok (.getfield 66, 3) := by decide +kernel
theorem dX12_reports_107 : decode cX12_reports 107 = .ok (.iload 4, 2) := by decide +kernel
theorem dX12_reports_109 : decode cX12_reports 109 = .ok (.lload_n 2, 1) := by decide +kernel
theorem dX12_reports_110 : decode cX12_reports 110 = .ok (.lastore, 1) := by decide +kernel
theorem dX12_reports_111 : decode cX12_reports 111 = .ok (.aload_n 0, 1) := by decide +kernel
theorem dX12_reports_112 : decode cX12_reports 112 = .ok (.getfield 63, 3) := by decide +kernel
theorem dX12_reports_115 : decode cX12_reports 115 = .ok (.iload 4, 2) := by decide +kernel
theorem dX12_reports_117 : decode cX12_reports 117 = .ok (.iload_n 1, 1) := by decide +kernel
theorem dX12_reports_118 : decode cX12_reports 118 = .ok (.iastore, 1) := by decide +kernel
theorem dX12_reports_119 : decode cX12_reports 119 = .ok (.aload_n 0, 1) := by decide +kernel
theorem dX12_reports_120 : decode cX12_reports 120 = .ok (.aload_n 0, 1) := by decide +kernel
theorem dX12_reports_121 : decode cX12_reports 121 = .ok (.getfield 200, 3) := by decide +kernel
theorem dX12_reports_124 : decode cX12_reports 124 = .ok (.sipush 300, 3) := by decide +kernel
theorem dX12_reports_127 : decode cX12_reports 127 = .ok (.if_icmp .ge 12, 3) := by decide +kernel
theorem dX12_reports_130 : decode cX12_reports 130 = .ok (.aload_n 0, 1) := by decide +kernel
theorem dX12_reports_131 : decode cX12_reports 131 = .ok (.getfield 200, 3) := by decide +kernel
theorem dX12_reports_134 : decode cX12_reports 134 = .ok (.iconst 1, 1) := by decide +kernel
theorem dX12_reports_135 : decode cX12_reports 135 = .ok (.iadd, 1) := by decide +kernel
theorem dX12_reports_136 : decode cX12_reports 136 = .ok (.goto 6, 3) := by decide +kernel
theorem dX12_reports_139 : decode cX12_reports 139 = .ok (.sipush 300, 3) := by decide +kernel
theorem dX12_reports_142 : decode cX12_reports 142 = .ok (.putfield 200, 3) := by decide +kernel
theorem dX12_reports_145 : decode cX12_reports 145 = .ok (.return_, 1) := by decide +kernel
theorem dX12_reported_0 : decode cX12_reported 0 = .ok (.iload_n 1, 1) := by decide +kernel
theorem dX12_reported_1 : decode cX12_reported 1 = .ok (.iconst 0, 1) := by decide +kernel
theorem dX12_reported_2 : decode cX12_reported 2 = .ok (.aload_n 0, 1) := by decide +kernel
theorem dX12_reported_3 : decode cX12_reported 3 = .ok (.getfield 200, 3) := by decide +kernel
theorem dX12_reported_6 : decode cX12_reported 6 = .ok (.iconst 1, 1) := by decide +kernel
theorem dX12_reported_7 : decode cX12_reported 7 = .ok (.isub, 1) := by decide +kernel
theorem dX12_reported_8 : decode cX12_reported 8 = .ok (.invokestatic 101, 3) := by decide +kernel
theorem dX12_reported_11 : decode cX12_reported 11 = .ok (.ifCond .eq 12, 3) := by decide +kernel
theorem dX12_reported_14 : decode cX12_reported 14 = .ok (.iload_n 2, 1) := by decide +kernel
theorem dX12_reported_15 : decode cX12_reported 15 = .ok (.iconst 0, 1) := by decide +kernel
theorem dX12_reported_16 : decode cX12_reported 16 = .ok (.iconst 1, 1) := by decide +kernel
theorem dX12_reported_17 : decode cX12_reported 17 = .ok (.invokestatic 101, 3) := by decide +kernel
theorem dX12_reported_20 : decode cX12_reported 20 = .ok (.ifCond .ne 7, 3) := by decide +kernel
theorem dX12_reported_23 : decode cX12_reported 23 = .ok (.ldc2_w 151, 3) := by decide +kernel
theorem dX12_reported_26 : decode cX12_reported 26 = .ok (.lreturn, 1) := by decide +kernel
theorem dX12_reported_27 : decode cX12_reported 27 = .ok (.iload_n 2, 1) := by decide +kernel
theorem dX12_reported_28 : decode cX12_reported 28 = .ok (.ifCond .ne 13, 3) := by decide +kernel
theorem dX12_reported_31 : decode cX12_reported 31 = .ok (.aload_n 0, 1) := by decide +kernel
theorem dX12_reported_32 : decode cX12_reported 32 = .ok (.getfield 63, 3) := by decide +kernel
theorem dX12_reported_35 : decode cX12_reported 35 = .ok (.iload_n 1, 1) := by decide +kernel
theorem dX12_reported_36 : decode cX12_reported 36 = .ok (.iaload, 1) := by decide +kernel
theorem dX12_reported_37 : decode cX12_reported 37 = .ok (.i2l, 1) := by decide +kernel
theorem dX12_reported_38 : decode cX12_reported 38 = .ok (.goto 9, 3) := by decide +kernel
theorem dX12_reported_41 : decode cX12_reported 41 = .ok (.aload_n 0, 1) := by decide +kernel
theorem dX12_reported_42 : decode cX12_reported 42 = .ok (.getfield 66, 3) := by decide +kernel
theorem dX12_reported_45 : decode cX12_reported 45 = .ok (.iload_n 1, 1) := by decide +kernel
theorem dX12_reported_46 : decode cX12_reported 46 = .ok (.laload, 1) := by decide +kernel
theorem dX12_reported_47 : decode cX12_reported 47 = .ok (.lreturn, 1) := by decide +kernel
theorem dX12_overcounts_0 : decode cX12_overcounts 0 = .ok (.iload_n 1, 1) := by decide +kernel
theorem dX12_overcounts_1 : decode cX12_overcounts 1 = .ok (.invokestatic 146, 3) := by decide +kernel
theorem dX12_overcounts_4 : decode cX12_overcounts 4 = .ok (.ifCond .eq 43, 3) := by decide +kernel
theorem dX12_overcounts_7 : decode cX12_overcounts 7 = .ok (.aload_n 0, 1) := by decide +kernel
theorem dX12_overcounts_8 : decode cX12_overcounts 8 = .ok (.iload_n 2, 1) := by decide +kernel
theorem dX12_overcounts_9 : decode cX12_overcounts 9 = .ok (.invokevirtual 105, 3) := by decide +kernel
theorem dX12_overcounts_12 : decode cX12_overcounts 12 = .ok (.ifCond .eq 35, 3) := by decide +kernel
theorem dX12_overcounts_15 : decode cX12_overcounts 15 = .ok (.aload_n 0, 1) := by decide +kernel
theorem dX12_overcounts_16 : decode cX12_overcounts 16 = .ok (.getfield 87, 3) := by decide +kernel
theorem dX12_overcounts_19 : decode cX12_overcounts 19 = .ok (.sipush 131, 3) := by decide +kernel
theorem dX12_overcounts_22 : decode cX12_overcounts 22 = .ok (.if_icmp .gt 25, 3) := by decide +kernel
theorem dX12_overcounts_25 : decode cX12_overcounts 25 = .ok (.aload_n 0, 1) := by decide +kernel
theorem dX12_overcounts_26 : decode cX12_overcounts 26 = .ok (.getfield 53, 3) := by decide +kernel
theorem dX12_overcounts_29 : decode cX12_overcounts 29 = .ok (.iload_n 1, 1) := by decide +kernel
theorem dX12_overcounts_30 : decode cX12_overcounts 30 = .ok (.baload, 1) := by decide +kernel
theorem dX12_overcounts_31 : decode cX12_overcounts 31 = .ok (.ifCond .ne 16, 3) := by decide +kernel
theorem dX12_overcounts_34 : decode cX12_overcounts 34 = .ok (.aload_n 0, 1) := by decide +kernel
theorem dX12_overcounts_35 : decode cX12_overcounts 35 = .ok (.getfield 16, 3) := by decide +kernel
theorem dX12_overcounts_38 : decode cX12_overcounts 38 = .ok (.iload_n 1, 1) := by decide +kernel
theorem dX12_overcounts_39 : decode cX12_overcounts 39 = .ok (.laload, 1) := by decide +kernel
theorem dX12_overcounts_40 : decode cX12_overcounts 40 = .ok (.ldc2_w 205, 3) := by decide +kernel
theorem dX12_overcounts_43 : decode cX12_overcounts 43 = .ok (.lcmp, 1) := by decide +kernel
theorem dX12_overcounts_44 : decode cX12_overcounts 44 = .ok (.ifCond .le 7, 3) := by decide +kernel
theorem dX12_overcounts_47 : decode cX12_overcounts 47 = .ok (.ldc2_w 151, 3) := by decide +kernel
theorem dX12_overcounts_50 : decode cX12_overcounts 50 = .ok (.lreturn, 1) := by decide +kernel
theorem dX12_overcounts_51 : decode cX12_overcounts 51 = .ok (.lconst 0, 1) := by decide +kernel
theorem dX12_overcounts_52 : decode cX12_overcounts 52 = .ok (.lstore_n 3, 1) := by decide +kernel
theorem dX12_overcounts_53 : decode cX12_overcounts 53 = .ok (.iconst 1, 1) := by decide +kernel
theorem dX12_overcounts_54 : decode cX12_overcounts 54 = .ok (.istore 5, 2) := by decide +kernel
theorem dX12_overcounts_56 : decode cX12_overcounts 56 = .ok (.iload 5, 2) := by decide +kernel
theorem dX12_overcounts_58 : decode cX12_overcounts 58 = .ok (.aload_n 0, 1) := by decide +kernel
theorem dX12_overcounts_59 : decode cX12_overcounts 59 = .ok (.getfield 87, 3) := by decide +kernel
theorem dX12_overcounts_62 : decode cX12_overcounts 62 = .ok (.if_icmp .ge 113, 3) := by decide +kernel
theorem dX12_overcounts_65 : decode cX12_overcounts 65 = .ok (.iconst 0, 1) := by decide +kernel
theorem dX12_overcounts_66 : decode cX12_overcounts 66 = .ok (.istore 6, 2) := by decide +kernel
theorem dX12_overcounts_68 : decode cX12_overcounts 68 = .ok (.iload 6, 2) := by decide +kernel
theorem dX12_overcounts_70 : decode cX12_overcounts 70 = .ok (.aload_n 0, 1) := by decide +kernel
theorem dX12_overcounts_71 : decode cX12_overcounts 71 = .ok (.getfield 87, 3) := by decide +kernel
theorem dX12_overcounts_74 : decode cX12_overcounts 74 = .ok (.if_icmp .ge 95, 3) := by decide +kernel
theorem dX12_overcounts_77 : decode cX12_overcounts 77 = .ok (.aload_n 0, 1) := by decide +kernel
theorem dX12_overcounts_78 : decode cX12_overcounts 78 = .ok (.iload 5, 2) := by decide +kernel
theorem dX12_overcounts_80 : decode cX12_overcounts 80 = .ok (.iload 6, 2) := by decide +kernel
theorem dX12_overcounts_82 : decode cX12_overcounts 82 = .ok (.iload_n 2, 1) := by decide +kernel
theorem dX12_overcounts_83 : decode cX12_overcounts 83 = .ok (.invokevirtual 108, 3) := by decide +kernel
theorem dX12_overcounts_86 : decode cX12_overcounts 86 = .ok (.istore 7, 2) := by decide +kernel
theorem dX12_overcounts_88 : decode cX12_overcounts 88 = .ok (.sipush 300, 3) := by decide +kernel
theorem dX12_overcounts_91 : decode cX12_overcounts 91 = .ok (.iload_n 1, 1) := by decide +kernel
theorem dX12_overcounts_92 : decode cX12_overcounts 92 = .ok (.imul, 1) := by decide +kernel
theorem dX12_overcounts_93 : decode cX12_overcounts 93 = .ok (.istore 8, 2) := by decide +kernel
theorem dX12_overcounts_95 : decode cX12_overcounts 95 = .ok (.iload 8, 2) := by decide +kernel
theorem dX12_overcounts_97 : decode cX12_overcounts 97 = .ok (.sipush 300, 3) := by decide +kernel
theorem dX12_overcounts_100 : decode cX12_overcounts 100 = .ok (.iload_n 1, 1) := by decide +kernel
theorem dX12_overcounts_101 : decode cX12_overcounts 101 = .ok (.imul, 1) := by decide +kernel
theorem dX12_overcounts_102 : decode cX12_overcounts 102 = .ok (.aload_n 0, 1) := by decide +kernel
theorem dX12_overcounts_103 : decode cX12_overcounts 103 = .ok (.getfield 50, 3) := by decide +kernel
theorem dX12_overcounts_106 : decode cX12_overcounts 106 = .ok (.iload_n 1, 1) := by decide +kernel
theorem dX12_overcounts_107 : decode cX12_overcounts 107 = .ok (.iaload, 1) := by decide +kernel
theorem dX12_overcounts_108 : decode cX12_overcounts 108 = .ok (.iadd, 1) := by decide +kernel
theorem dX12_overcounts_109 : decode cX12_overcounts 109 = .ok (.if_icmp .ge 54, 3) := by decide +kernel
theorem dX12_overcounts_112 : decode cX12_overcounts 112 = .ok (.lload_n 3, 1) := by decide +kernel
theorem dX12_overcounts_113 : decode cX12_overcounts 113 = .ok (.aload_n 0, 1) := by decide +kernel
theorem dX12_overcounts_114 : decode cX12_overcounts 114 = .ok (.getfield 57, 3) := by decide +kernel
theorem dX12_overcounts_117 : decode cX12_overcounts 117 = .ok (.iload 8, 2) := by decide +kernel
theorem dX12_overcounts_119 : decode cX12_overcounts 119 = .ok (.iaload, 1) := by decide +kernel
theorem dX12_overcounts_120 : decode cX12_overcounts 120 = .ok (.iload_n 2, 1) := by decide +kernel
theorem dX12_overcounts_121 : decode cX12_overcounts 121 = .ok (.if_icmp .eq 33, 3) := by decide +kernel
theorem dX12_overcounts_124 : decode cX12_overcounts 124 = .ok (.aload_n 0, 1) := by decide +kernel
theorem dX12_overcounts_125 : decode cX12_overcounts 125 = .ok (.iload 5, 2) := by decide +kernel
theorem dX12_overcounts_127 : decode cX12_overcounts 127 = .ok (.iload 6, 2) := by decide +kernel
theorem dX12_overcounts_129 : decode cX12_overcounts 129 = .ok (.aload_n 0, 1) := by decide +kernel
theorem dX12_overcounts_130 : decode cX12_overcounts 130 = .ok (.getfield 57, 3) := by decide +kernel
theorem dX12_overcounts_133 : decode cX12_overcounts 133 = .ok (.iload 8, 2) := by decide +kernel
theorem dX12_overcounts_135 : decode cX12_overcounts 135 = .ok (.iaload, 1) := by decide +kernel
theorem dX12_overcounts_136 : decode cX12_overcounts 136 = .ok (.invokevirtual 108, 3) := by decide +kernel
theorem dX12_overcounts_139 : decode cX12_overcounts 139 = .ok (.iload 7, 2) := by decide +kernel
theorem dX12_overcounts_141 : decode cX12_overcounts 141 = .ok (.if_icmp .ne 13, 3) := by decide +kernel
theorem dX12_overcounts_144 : decode cX12_overcounts 144 = .ok (.aload_n 0, 1) := by decide +kernel
theorem dX12_overcounts_145 : decode cX12_overcounts 145 = .ok (.getfield 60, 3) := by decide +kernel
theorem dX12_overcounts_148 : decode cX12_overcounts 148 = .ok (.iload 8, 2) := by decide +kernel
theorem dX12_overcounts_150 : decode cX12_overcounts 150 = .ok (.laload, 1) := by decide +kernel
theorem dX12_overcounts_151 : decode cX12_overcounts 151 = .ok (.goto 4, 3) := by decide +kernel
theorem dX12_overcounts_154 : decode cX12_overcounts 154 = .ok (.lconst 0, 1) := by decide +kernel
theorem dX12_overcounts_155 : decode cX12_overcounts 155 = .ok (.ladd, 1) := by decide +kernel
theorem dX12_overcounts_156 : decode cX12_overcounts 156 = .ok (.lstore_n 3, 1) := by decide +kernel
theorem dX12_overcounts_157 : decode cX12_overcounts 157 = .ok (.iinc 8 1, 3) := by decide +kernel
theorem dX12_overcounts_160 : decode cX12_overcounts 160 = .ok (.goto (-65), 3) := by decide +kernel
theorem dX12_overcounts_163 : decode cX12_overcounts 163 = .ok (.iinc 6 1, 3) := by decide +kernel
theorem dX12_overcounts_166 : decode cX12_overcounts 166 = .ok (.goto (-98), 3) := by decide +kernel
theorem dX12_overcounts_169 : decode cX12_overcounts 169 = .ok (.iinc 5 1, 3) := by decide +kernel
theorem dX12_overcounts_172 : decode cX12_overcounts 172 = .ok (.goto (-116), 3) := by decide +kernel
theorem dX12_overcounts_175 : decode cX12_overcounts 175 = .ok (.lload_n 3, 1) := by decide +kernel
theorem dX12_overcounts_176 : decode cX12_overcounts 176 = .ok (.lreturn, 1) := by decide +kernel
theorem dX12_isWithin_0 : decode cX12_isWithin 0 = .ok (.iconst 1, 1) := by decide +kernel
theorem dX12_isWithin_1 : decode cX12_isWithin 1 = .ok (.istore_n 3, 1) := by decide +kernel
theorem dX12_isWithin_2 : decode cX12_isWithin 2 = .ok (.sipush 300, 3) := by decide +kernel
theorem dX12_isWithin_5 : decode cX12_isWithin 5 = .ok (.iload_n 1, 1) := by decide +kernel
theorem dX12_isWithin_6 : decode cX12_isWithin 6 = .ok (.imul, 1) := by decide +kernel
theorem dX12_isWithin_7 : decode cX12_isWithin 7 = .ok (.istore 4, 2) := by decide +kernel
theorem dX12_isWithin_9 : decode cX12_isWithin 9 = .ok (.iload 4, 2) := by decide +kernel
theorem dX12_isWithin_11 : decode cX12_isWithin 11 = .ok (.sipush 300, 3) := by decide +kernel
theorem dX12_isWithin_14 : decode cX12_isWithin 14 = .ok (.iload_n 1, 1) := by decide +kernel
theorem dX12_isWithin_15 : decode cX12_isWithin 15 = .ok (.imul, 1) := by decide +kernel
theorem dX12_isWithin_16 : decode cX12_isWithin 16 = .ok (.aload_n 0, 1) := by decide +kernel
theorem dX12_isWithin_17 : decode cX12_isWithin 17 = .ok (.getfield 50, 3) := by decide +kernel
theorem dX12_isWithin_20 : decode cX12_isWithin 20 = .ok (.iload_n 1, 1) := by decide +kernel
theorem dX12_isWithin_21 : decode cX12_isWithin 21 = .ok (.iaload, 1) := by decide +kernel
theorem dX12_isWithin_22 : decode cX12_isWithin 22 = .ok (.iadd, 1) := by decide +kernel
theorem dX12_isWithin_23 : decode cX12_isWithin 23 = .ok (.if_icmp .ge 69, 3) := by decide +kernel
theorem dX12_isWithin_26 : decode cX12_isWithin 26 = .ok (.iload_n 3, 1) := by decide +kernel
theorem dX12_isWithin_27 : decode cX12_isWithin 27 = .ok (.ifCond .eq 57, 3) := by decide +kernel
theorem dX12_isWithin_30 : decode cX12_isWithin 30 = .ok (.aload_n 0, 1) := by decide +kernel
theorem dX12_isWithin_31 : decode cX12_isWithin 31 = .ok (.iload_n 1, 1) := by decide +kernel
theorem dX12_isWithin_32 : decode cX12_isWithin 32 = .ok (.iload_n 2, 1) := by decide +kernel
theorem dX12_isWithin_33 : decode cX12_isWithin 33 = .ok (.aload_n 0, 1) := by decide +kernel
theorem dX12_isWithin_34 : decode cX12_isWithin 34 = .ok (.getfield 57, 3) := by decide +kernel
theorem dX12_isWithin_37 : decode cX12_isWithin 37 = .ok (.iload 4, 2) := by decide +kernel
theorem dX12_isWithin_39 : decode cX12_isWithin 39 = .ok (.iaload, 1) := by decide +kernel
theorem dX12_isWithin_40 : decode cX12_isWithin 40 = .ok (.iconst 1, 1) := by decide +kernel
theorem dX12_isWithin_41 : decode cX12_isWithin 41 = .ok (.invokevirtual 190, 3) := by decide +kernel
theorem dX12_isWithin_44 : decode cX12_isWithin 44 = .ok (.aload_n 0, 1) := by decide +kernel
theorem dX12_isWithin_45 : decode cX12_isWithin 45 = .ok (.getfield 60, 3) := by decide +kernel
theorem dX12_isWithin_48 : decode cX12_isWithin 48 = .ok (.iload 4, 2) := by decide +kernel
theorem dX12_isWithin_50 : decode cX12_isWithin 50 = .ok (.laload, 1) := by decide +kernel
theorem dX12_isWithin_51 : decode cX12_isWithin 51 = .ok (.lcmp, 1) := by decide +kernel
theorem dX12_isWithin_52 : decode cX12_isWithin 52 = .ok (.ifCond .gt 32, 3) := by decide +kernel
theorem dX12_isWithin_55 : decode cX12_isWithin 55 = .ok (.aload_n 0, 1) := by decide +kernel
theorem dX12_isWithin_56 : decode cX12_isWithin 56 = .ok (.iload_n 1, 1) := by decide +kernel
theorem dX12_isWithin_57 : decode cX12_isWithin 57 = .ok (.iload_n 2, 1) := by decide +kernel
theorem dX12_isWithin_58 : decode cX12_isWithin 58 = .ok (.aload_n 0, 1) := by decide +kernel
theorem dX12_isWithin_59 : decode cX12_isWithin 59 = .ok (.getfield 57, 3) := by decide +kernel
theorem dX12_isWithin_62 : decode cX12_isWithin 62 = .ok (.iload 4, 2) := by decide +kernel
theorem dX12_isWithin_64 : decode cX12_isWithin 64 = .ok (.iaload, 1) := by decide +kernel
theorem dX12_isWithin_65 : decode cX12_isWithin 65 = .ok (.iconst 2, 1) := by decide +kernel
theorem dX12_isWithin_66 : decode cX12_isWithin 66 = .ok (.invokevirtual 190, 3) := by decide +kernel
theorem dX12_isWithin_69 : decode cX12_isWithin 69 = .ok (.aload_n 0, 1) := by decide +kernel
theorem dX12_isWithin_70 : decode cX12_isWithin 70 = .ok (.getfield 60, 3) := by decide +kernel
theorem dX12_isWithin_73 : decode cX12_isWithin 73 = .ok (.iload 4, 2) := by decide +kernel
theorem dX12_isWithin_75 : decode cX12_isWithin 75 = .ok (.laload, 1) := by decide +kernel
theorem dX12_isWithin_76 : decode cX12_isWithin 76 = .ok (.lcmp, 1) := by decide +kernel
theorem dX12_isWithin_77 : decode cX12_isWithin 77 = .ok (.ifCond .lt 7, 3) := by decide +kernel
theorem dX12_isWithin_80 : decode cX12_isWithin 80 = .ok (.iconst 1, 1) := by decide +kernel
theorem dX12_isWithin_81 : decode cX12_isWithin 81 = .ok (.goto 4, 3) := by decide +kernel
theorem dX12_isWithin_84 : decode cX12_isWithin 84 = .ok (.iconst 0, 1) := by decide +kernel
theorem dX12_isWithin_85 : decode cX12_isWithin 85 = .ok (.istore_n 3, 1) := by decide +kernel
theorem dX12_isWithin_86 : decode cX12_isWithin 86 = .ok (.iinc 4 1, 3) := by decide +kernel
theorem dX12_isWithin_89 : decode cX12_isWithin 89 = .ok (.goto (-80), 3) := by decide +kernel
theorem dX12_isWithin_92 : decode cX12_isWithin 92 = .ok (.iload_n 3, 1) := by decide +kernel
theorem dX12_isWithin_93 : decode cX12_isWithin 93 = .ok (.ireturn, 1) := by decide +kernel
theorem dX12_audit_0 : decode cX12_audit 0 = .ok (.iload_n 1, 1) := by decide +kernel
theorem dX12_audit_1 : decode cX12_audit 1 = .ok (.invokestatic 146, 3) := by decide +kernel
theorem dX12_audit_4 : decode cX12_audit 4 = .ok (.ifCond .eq 12, 3) := by decide +kernel
theorem dX12_audit_7 : decode cX12_audit 7 = .ok (.aload_n 0, 1) := by decide +kernel
theorem dX12_audit_8 : decode cX12_audit 8 = .ok (.getfield 53, 3) := by decide +kernel
theorem dX12_audit_11 : decode cX12_audit 11 = .ok (.iload_n 1, 1) := by decide +kernel
theorem dX12_audit_12 : decode cX12_audit 12 = .ok (.baload, 1) := by decide +kernel
theorem dX12_audit_13 : decode cX12_audit 13 = .ok (.ifCond .eq 5, 3) := by decide +kernel
theorem dX12_audit_16 : decode cX12_audit 16 = .ok (.iconst (-1), 1) := by decide +kernel
theorem dX12_audit_17 : decode cX12_audit 17 = .ok (.ireturn, 1) := by decide +kernel
theorem dX12_audit_18 : decode cX12_audit 18 = .ok (.iconst 0, 1) := by decide +kernel
theorem dX12_audit_19 : decode cX12_audit 19 = .ok (.istore_n 2, 1) := by decide +kernel
theorem dX12_audit_20 : decode cX12_audit 20 = .ok (.iload_n 2, 1) := by decide +kernel
theorem dX12_audit_21 : decode cX12_audit 21 = .ok (.iconst 4, 1) := by decide +kernel
theorem dX12_audit_22 : decode cX12_audit 22 = .ok (.if_icmp .ge 22, 3) := by decide +kernel
theorem dX12_audit_25 : decode cX12_audit 25 = .ok (.aload_n 0, 1) := by decide +kernel
theorem dX12_audit_26 : decode cX12_audit 26 = .ok (.iload_n 1, 1) := by decide +kernel
theorem dX12_audit_27 : decode cX12_audit 27 = .ok (.iload_n 2, 1) := by decide +kernel
theorem dX12_audit_28 : decode cX12_audit 28 = .ok (.invokevirtual 207, 3) := by decide +kernel
theorem dX12_audit_31 : decode cX12_audit 31 = .ok (.ifCond .ne 7, 3) := by decide +kernel
theorem dX12_audit_34 : decode cX12_audit 34 = .ok (.iconst 1, 1) := by decide +kernel
theorem dX12_audit_35 : decode cX12_audit 35 = .ok (.iload_n 2, 1) := by decide +kernel
theorem dX12_audit_36 : decode cX12_audit 36 = .ok (.iadd, 1) := by decide +kernel
theorem dX12_audit_37 : decode cX12_audit 37 = .ok (.ireturn, 1) := by decide +kernel
theorem dX12_audit_38 : decode cX12_audit 38 = .ok (.iinc 2 1, 3) := by decide +kernel
theorem dX12_audit_41 : decode cX12_audit 41 = .ok (.goto (-21), 3) := by decide +kernel
theorem dX12_audit_44 : decode cX12_audit 44 = .ok (.lconst 0, 1) := by decide +kernel
theorem dX12_audit_45 : decode cX12_audit 45 = .ok (.lstore_n 2, 1) := by decide +kernel
theorem dX12_audit_46 : decode cX12_audit 46 = .ok (.iconst 1, 1) := by decide +kernel
theorem dX12_audit_47 : decode cX12_audit 47 = .ok (.istore 4, 2) := by decide +kernel
theorem dX12_audit_49 : decode cX12_audit 49 = .ok (.sipush 300, 3) := by decide +kernel
theorem dX12_audit_52 : decode cX12_audit 52 = .ok (.iload_n 1, 1) := by decide +kernel
theorem dX12_audit_53 : decode cX12_audit 53 = .ok (.imul, 1) := by decide +kernel
theorem dX12_audit_54 : decode cX12_audit 54 = .ok (.istore 5, 2) := by decide +kernel
theorem dX12_audit_56 : decode cX12_audit 56 = .ok (.iload 5, 2) := by decide +kernel
theorem dX12_audit_58 : decode cX12_audit 58 = .ok (.sipush 300, 3) := by decide +kernel
theorem dX12_audit_61 : decode cX12_audit 61 = .ok (.iload_n 1, 1) := by decide +kernel
theorem dX12_audit_62 : decode cX12_audit 62 = .ok (.imul, 1) := by decide +kernel
theorem dX12_audit_63 : decode cX12_audit 63 = .ok (.aload_n 0, 1) := by decide +kernel
theorem dX12_audit_64 : decode cX12_audit 64 = .ok (.getfield 50, 3) := by decide +kernel
theorem dX12_audit_67 : decode cX12_audit 67 = .ok (.iload_n 1, 1) := by decide +kernel
theorem dX12_audit_68 : decode cX12_audit 68 = .ok (.iaload, 1) := by decide +kernel
theorem dX12_audit_69 : decode cX12_audit 69 = .ok (.iadd, 1) := by decide +kernel
theorem dX12_audit_70 : decode cX12_audit 70 = .ok (.if_icmp .ge 59, 3) := by decide +kernel
theorem dX12_audit_73 : decode cX12_audit 73 = .ok (.lload_n 2, 1) := by decide +kernel
theorem dX12_audit_74 : decode cX12_audit 74 = .ok (.aload_n 0, 1) := by decide +kernel
theorem dX12_audit_75 : decode cX12_audit 75 = .ok (.getfield 60, 3) := by decide +kernel
theorem dX12_audit_78 : decode cX12_audit 78 = .ok (.iload 5, 2) := by decide +kernel
theorem dX12_audit_80 : decode cX12_audit 80 = .ok (.laload, 1) := by decide +kernel
theorem dX12_audit_81 : decode cX12_audit 81 = .ok (.ladd, 1) := by decide +kernel
theorem dX12_audit_82 : decode cX12_audit 82 = .ok (.lstore_n 2, 1) := by decide +kernel
theorem dX12_audit_83 : decode cX12_audit 83 = .ok (.iload 4, 2) := by decide +kernel
theorem dX12_audit_85 : decode cX12_audit 85 = .ok (.ifCond .eq 35, 3) := by decide +kernel
theorem dX12_audit_88 : decode cX12_audit 88 = .ok (.aload_n 0, 1) := by decide +kernel
theorem dX12_audit_89 : decode cX12_audit 89 = .ok (.iload_n 1, 1) := by decide +kernel
theorem dX12_audit_90 : decode cX12_audit 90 = .ok (.aload_n 0, 1) := by decide +kernel
theorem dX12_audit_91 : decode cX12_audit 91 = .ok (.getfield 57, 3) := by decide +kernel
theorem dX12_audit_94 : decode cX12_audit 94 = .ok (.iload 5, 2) := by decide +kernel
theorem dX12_audit_96 : decode cX12_audit 96 = .ok (.iaload, 1) := by decide +kernel
theorem dX12_audit_97 : decode cX12_audit 97 = .ok (.invokevirtual 114, 3) := by decide +kernel
theorem dX12_audit_100 : decode cX12_audit 100 = .ok (.aload_n 0, 1) := by decide +kernel
theorem dX12_audit_101 : decode cX12_audit 101 = .ok (.iload_n 1, 1) := by decide +kernel
theorem dX12_audit_102 : decode cX12_audit 102 = .ok (.aload_n 0, 1) := by decide +kernel
theorem dX12_audit_103 : decode cX12_audit 103 = .ok (.getfield 57, 3) := by decide +kernel
theorem dX12_audit_106 : decode cX12_audit 106 = .ok (.iload 5, 2) := by decide +kernel
theorem dX12_audit_108 : decode cX12_audit 108 = .ok (.iaload, 1) := by decide +kernel
theorem dX12_audit_109 : decode cX12_audit 109 = .ok (.invokevirtual 187, 3) := by decide +kernel
theorem dX12_audit_112 : decode cX12_audit 112 = .ok (.lcmp, 1) := by decide +kernel
theorem dX12_audit_113 : decode cX12_audit 113 = .ok (.ifCond .gt 7, 3) := by decide +kernel
theorem dX12_audit_116 : decode cX12_audit 116 = .ok (.iconst 1, 1) := by decide +kernel
theorem dX12_audit_117 : decode cX12_audit 117 = .ok (.goto 4, 3) := by decide +kernel
theorem dX12_audit_120 : decode cX12_audit 120 = .ok (.iconst 0, 1) := by decide +kernel
theorem dX12_audit_121 : decode cX12_audit 121 = .ok (.istore 4, 2) := by decide +kernel
theorem dX12_audit_123 : decode cX12_audit 123 = .ok (.iinc 5 1, 3) := by decide +kernel
theorem dX12_audit_126 : decode cX12_audit 126 = .ok (.goto (-70), 3) := by decide +kernel
theorem dX12_audit_129 : decode cX12_audit 129 = .ok (.iload 4, 2) := by decide +kernel
theorem dX12_audit_131 : decode cX12_audit 131 = .ok (.ifCond .ne 5, 3) := by decide +kernel
theorem dX12_audit_134 : decode cX12_audit 134 = .ok (.iconst 5, 1) := by decide +kernel
theorem dX12_audit_135 : decode cX12_audit 135 = .ok (.ireturn, 1) := by decide +kernel
theorem dX12_audit_136 : decode cX12_audit 136 = .ok (.aload_n 0, 1) := by decide +kernel
theorem dX12_audit_137 : decode cX12_audit 137 = .ok (.getfield 97, 3) := by decide +kernel
theorem dX12_audit_140 : decode cX12_audit 140 = .ok (.i2l, 1) := by decide +kernel
theorem dX12_audit_141 : decode cX12_audit 141 = .ok (.lconst 1, 1) := by decide +kernel
theorem dX12_audit_142 : decode cX12_audit 142 = .ok (.ladd, 1) := by decide +kernel
theorem dX12_audit_143 : decode cX12_audit 143 = .ok (.aload_n 0, 1) := by decide +kernel
theorem dX12_audit_144 : decode cX12_audit 144 = .ok (.getfield 29, 3) := by decide +kernel
theorem dX12_audit_147 : decode cX12_audit 147 = .ok (.iload_n 1, 1) := by decide +kernel
theorem dX12_audit_148 : decode cX12_audit 148 = .ok (.laload, 1) := by decide +kernel
theorem dX12_audit_149 : decode cX12_audit 149 = .ok (.lmul, 1) := by decide +kernel
theorem dX12_audit_150 : decode cX12_audit 150 = .ok (.aload_n 0, 1) := by decide +kernel
theorem dX12_audit_151 : decode cX12_audit 151 = .ok (.getfield 16, 3) := by decide +kernel
theorem dX12_audit_154 : decode cX12_audit 154 = .ok (.iload_n 1, 1) := by decide +kernel
theorem dX12_audit_155 : decode cX12_audit 155 = .ok (.laload, 1) := by decide +kernel
theorem dX12_audit_156 : decode cX12_audit 156 = .ok (.lcmp, 1) := by decide +kernel
theorem dX12_audit_157 : decode cX12_audit 157 = .ok (.ifCond .le 8, 3) := by decide +kernel
theorem dX12_audit_160 : decode cX12_audit 160 = .ok (.bipush 6, 2) := by decide +kernel
theorem dX12_audit_162 : decode cX12_audit 162 = .ok (.goto 20, 3) := by decide +kernel
theorem dX12_audit_165 : decode cX12_audit 165 = .ok (.lload_n 2, 1) := by decide +kernel
theorem dX12_audit_166 : decode cX12_audit 166 = .ok (.aload_n 0, 1) := by decide +kernel
theorem dX12_audit_167 : decode cX12_audit 167 = .ok (.getfield 16, 3) := by decide +kernel
theorem dX12_audit_170 : decode cX12_audit 170 = .ok (.iload_n 1, 1) := by decide +kernel
theorem dX12_audit_171 : decode cX12_audit 171 = .ok (.laload, 1) := by decide +kernel
theorem dX12_audit_172 : decode cX12_audit 172 = .ok (.lcmp, 1) := by decide +kernel
theorem dX12_audit_173 : decode cX12_audit 173 = .ok (.ifCond .eq 8, 3) := by decide +kernel
theorem dX12_audit_176 : decode cX12_audit 176 = .ok (.bipush 7, 2) := by decide +kernel
theorem dX12_audit_178 : decode cX12_audit 178 = .ok (.goto 4, 3) := by decide +kernel
theorem dX12_audit_181 : decode cX12_audit 181 = .ok (.iconst 0, 1) := by decide +kernel
theorem dX12_audit_182 : decode cX12_audit 182 = .ok (.ireturn, 1) := by decide +kernel
end
section
theorem dL_cell_0 : decode cL_cell 0 = .ok (.iload_n 1, 1) := by decide +kernel
theorem dL_cell_1 : decode cL_cell 1 = .ok (.aload_n 0, 1) := by decide +kernel
theorem dL_cell_2 : decode cL_cell 2 = .ok (.arraylength, 1) := by decide +kernel
theorem dL_cell_3 : decode cL_cell 3 = .ok (.if_icmp .ge 9, 3) := by decide +kernel
theorem dL_cell_6 : decode cL_cell 6 = .ok (.aload_n 0, 1) := by decide +kernel
theorem dL_cell_7 : decode cL_cell 7 = .ok (.iload_n 1, 1) := by decide +kernel
theorem dL_cell_8 : decode cL_cell 8 = .ok (.iaload, 1) := by decide +kernel
theorem dL_cell_9 : decode cL_cell 9 = .ok (.goto 4, 3) := by decide +kernel
theorem dL_cell_12 : decode cL_cell 12 = .ok (.iconst 0, 1) := by decide +kernel
theorem dL_cell_13 : decode cL_cell 13 = .ok (.ireturn, 1) := by decide +kernel
theorem dL_law_0 : decode cL_law 0 = .ok (.new 7, 3) := by decide +kernel
theorem dL_law_3 : decode cL_law 3 = .ok (.dup, 1) := by decide +kernel
theorem dL_law_4 : decode cL_law 4 = .ok (.aload_n 0, 1) := by decide +kernel
theorem dL_law_5 : decode cL_law 5 = .ok (.iconst 0, 1) := by decide +kernel
theorem dL_law_6 : decode cL_law 6 = .ok (.invokestatic 9, 3) := by decide +kernel
theorem dL_law_9 : decode cL_law 9 = .ok (.aload_n 0, 1) := by decide +kernel
theorem dL_law_10 : decode cL_law 10 = .ok (.iconst 1, 1) := by decide +kernel
theorem dL_law_11 : decode cL_law 11 = .ok (.invokestatic 9, 3) := by decide +kernel
theorem dL_law_14 : decode cL_law 14 = .ok (.aload_n 0, 1) := by decide +kernel
theorem dL_law_15 : decode cL_law 15 = .ok (.iconst 2, 1) := by decide +kernel
theorem dL_law_16 : decode cL_law 16 = .ok (.invokestatic 9, 3) := by decide +kernel
theorem dL_law_19 : decode cL_law 19 = .ok (.aload_n 0, 1) := by decide +kernel
theorem dL_law_20 : decode cL_law 20 = .ok (.iconst 3, 1) := by decide +kernel
theorem dL_law_21 : decode cL_law 21 = .ok (.invokestatic 9, 3) := by decide +kernel
theorem dL_law_24 : decode cL_law 24 = .ok (.invokespecial 15, 3) := by decide +kernel
theorem dL_law_27 : decode cL_law 27 = .ok (.astore_n 1, 1) := by decide +kernel
theorem dL_law_28 : decode cL_law 28 = .ok (.new 18, 3) := by decide +kernel
theorem dL_law_31 : decode cL_law 31 = .ok (.dup, 1) := by decide +kernel
theorem dL_law_32 : decode cL_law 32 = .ok (.aload_n 0, 1) := by decide +kernel
theorem dL_law_33 : decode cL_law 33 = .ok (.iconst 0, 1) := by decide +kernel
theorem dL_law_34 : decode cL_law 34 = .ok (.invokestatic 9, 3) := by decide +kernel
theorem dL_law_37 : decode cL_law 37 = .ok (.aload_n 0, 1) := by decide +kernel
theorem dL_law_38 : decode cL_law 38 = .ok (.iconst 1, 1) := by decide +kernel
theorem dL_law_39 : decode cL_law 39 = .ok (.invokestatic 9, 3) := by decide +kernel
theorem dL_law_42 : decode cL_law 42 = .ok (.aload_n 0, 1) := by decide +kernel
theorem dL_law_43 : decode cL_law 43 = .ok (.iconst 2, 1) := by decide +kernel
theorem dL_law_44 : decode cL_law 44 = .ok (.invokestatic 9, 3) := by decide +kernel
theorem dL_law_47 : decode cL_law 47 = .ok (.aload_n 0, 1) := by decide +kernel
theorem dL_law_48 : decode cL_law 48 = .ok (.iconst 3, 1) := by decide +kernel
theorem dL_law_49 : decode cL_law 49 = .ok (.invokestatic 9, 3) := by decide +kernel
theorem dL_law_52 : decode cL_law 52 = .ok (.invokespecial 20, 3) := by decide +kernel
theorem dL_law_55 : decode cL_law 55 = .ok (.astore_n 2, 1) := by decide +kernel
theorem dL_law_56 : decode cL_law 56 = .ok (.iconst 4, 1) := by decide +kernel
theorem dL_law_57 : decode cL_law 57 = .ok (.istore_n 3, 1) := by decide +kernel
theorem dL_law_58 : decode cL_law 58 = .ok (.iload_n 3, 1) := by decide +kernel
theorem dL_law_59 : decode cL_law 59 = .ok (.aload_n 0, 1) := by decide +kernel
theorem dL_law_60 : decode cL_law 60 = .ok (.arraylength, 1) := by decide +kernel
theorem dL_law_61 : decode cL_law 61 = .ok (.iconst 5, 1) := by decide +kernel
theorem dL_law_62 : decode cL_law 62 = .ok (.isub, 1) := by decide +kernel
theorem dL_law_63 : decode cL_law 63 = .ok (.if_icmp .gt 746, 3) := by decide +kernel
theorem dL_law_66 : decode cL_law 66 = .ok (.aload_n 0, 1) := by decide +kernel
theorem dL_law_67 : decode cL_law 67 = .ok (.iload_n 3, 1) := by decide +kernel
theorem dL_law_68 : decode cL_law 68 = .ok (.iaload, 1) := by decide +kernel
theorem dL_law_69 : decode cL_law 69 = .ok (.bipush 31, 2) := by decide +kernel
theorem dL_law_71 : decode cL_law 71 = .ok (.iand, 1) := by decide +kernel
theorem dL_law_72 : decode cL_law 72 = .ok (.tableswitch 731 0 16 #[84, 107, 150, 183, 227, 250, 283, 317, 341, 395, 429, 483, 537, 571, 640, 674, 708], 84) := by decide +kernel
theorem dL_law_156 : decode cL_law 156 = .ok (.aload_n 1, 1) := by decide +kernel
theorem dL_law_157 : decode cL_law 157 = .ok (.aload_n 0, 1) := by decide +kernel
theorem dL_law_158 : decode cL_law 158 = .ok (.iload_n 3, 1) := by decide +kernel
theorem dL_law_159 : decode cL_law 159 = .ok (.iconst 1, 1) := by decide +kernel
theorem dL_law_160 : decode cL_law 160 = .ok (.iadd, 1) := by decide +kernel
theorem dL_law_161 : decode cL_law 161 = .ok (.iaload, 1) := by decide +kernel
theorem dL_law_162 : decode cL_law 162 = .ok (.invokevirtual 21, 3) := by decide +kernel
theorem dL_law_165 : decode cL_law 165 = .ok (.aload_n 2, 1) := by decide +kernel
theorem dL_law_166 : decode cL_law 166 = .ok (.aload_n 0, 1) := by decide +kernel
theorem dL_law_167 : decode cL_law 167 = .ok (.iload_n 3, 1) := by decide +kernel
theorem dL_law_168 : decode cL_law 168 = .ok (.iconst 1, 1) := by decide +kernel
theorem dL_law_169 : decode cL_law 169 = .ok (.iadd, 1) := by decide +kernel
theorem dL_law_170 : decode cL_law 170 = .ok (.iaload, 1) := by decide +kernel
theorem dL_law_171 : decode cL_law 171 = .ok (.invokevirtual 25, 3) := by decide +kernel
theorem dL_law_174 : decode cL_law 174 = .ok (.if_icmp .eq 629, 3) := by decide +kernel
theorem dL_law_177 : decode cL_law 177 = .ok (.iconst 0, 1) := by decide +kernel
theorem dL_law_178 : decode cL_law 178 = .ok (.ireturn, 1) := by decide +kernel
theorem dL_law_179 : decode cL_law 179 = .ok (.aload_n 1, 1) := by decide +kernel
theorem dL_law_180 : decode cL_law 180 = .ok (.aload_n 0, 1) := by decide +kernel
theorem dL_law_181 : decode cL_law 181 = .ok (.iload_n 3, 1) := by decide +kernel
theorem dL_law_182 : decode cL_law 182 = .ok (.iconst 1, 1) := by decide +kernel
theorem dL_law_183 : decode cL_law 183 = .ok (.iadd, 1) := by decide +kernel
theorem dL_law_184 : decode cL_law 184 = .ok (.iaload, 1) := by decide +kernel
theorem dL_law_185 : decode cL_law 185 = .ok (.aload_n 0, 1) := by decide +kernel
theorem dL_law_186 : decode cL_law 186 = .ok (.iload_n 3, 1) := by decide +kernel
theorem dL_law_187 : decode cL_law 187 = .ok (.iconst 2, 1) := by decide +kernel
theorem dL_law_188 : decode cL_law 188 = .ok (.iadd, 1) := by decide +kernel
theorem dL_law_189 : decode cL_law 189 = .ok (.iaload, 1) := by decide +kernel
theorem dL_law_190 : decode cL_law 190 = .ok (.aload_n 0, 1) := by decide +kernel
theorem dL_law_191 : decode cL_law 191 = .ok (.iload_n 3, 1) := by decide +kernel
theorem dL_law_192 : decode cL_law 192 = .ok (.iconst 3, 1) := by decide +kernel
theorem dL_law_193 : decode cL_law 193 = .ok (.iadd, 1) := by decide +kernel
theorem dL_law_194 : decode cL_law 194 = .ok (.iaload, 1) := by decide +kernel
theorem dL_law_195 : decode cL_law 195 = .ok (.invokevirtual 26, 3) := by decide +kernel
theorem dL_law_198 : decode cL_law 198 = .ok (.aload_n 2, 1) := by decide +kernel
theorem dL_law_199 : decode cL_law 199 = .ok (.aload_n 0, 1) := by decide +kernel
theorem dL_law_200 : decode cL_law 200 = .ok (.iload_n 3, 1) := by decide +kernel
theorem dL_law_201 : decode cL_law 201 = .ok (.iconst 1, 1) := by decide +kernel
theorem dL_law_202 : decode cL_law 202 = .ok (.iadd, 1) := by decide +kernel
theorem dL_law_203 : decode cL_law 203 = .ok (.iaload, 1) := by decide +kernel
theorem dL_law_204 : decode cL_law 204 = .ok (.aload_n 0, 1) := by decide +kernel
theorem dL_law_205 : decode cL_law 205 = .ok (.iload_n 3, 1) := by decide +kernel
theorem dL_law_206 : decode cL_law 206 = .ok (.iconst 2, 1) := by decide +kernel
theorem dL_law_207 : decode cL_law 207 = .ok (.iadd, 1) := by decide +kernel
theorem dL_law_208 : decode cL_law 208 = .ok (.iaload, 1) := by decide +kernel
theorem dL_law_209 : decode cL_law 209 = .ok (.aload_n 0, 1) := by decide +kernel
theorem dL_law_210 : decode cL_law 210 = .ok (.iload_n 3, 1) := by decide +kernel
theorem dL_law_211 : decode cL_law 211 = .ok (.iconst 3, 1) := by decide +kernel
theorem dL_law_212 : decode cL_law 212 = .ok (.iadd, 1) := by decide +kernel
theorem dL_law_213 : decode cL_law 213 = .ok (.iaload, 1) := by decide +kernel
theorem dL_law_214 : decode cL_law 214 = .ok (.invokevirtual 30, 3) := by decide +kernel
theorem dL_law_217 : decode cL_law 217 = .ok (.if_icmp .eq 586, 3) := by decide +kernel
theorem dL_law_220 : decode cL_law 220 = .ok (.iconst 0, 1) := by decide +kernel
theorem dL_law_221 : decode cL_law 221 = .ok (.ireturn, 1) := by decide +kernel
theorem dL_law_222 : decode cL_law 222 = .ok (.aload_n 1, 1) := by decide +kernel
theorem dL_law_223 : decode cL_law 223 = .ok (.aload_n 0, 1) := by decide +kernel
theorem dL_law_224 : decode cL_law 224 = .ok (.iload_n 3, 1) := by decide +kernel
theorem dL_law_225 : decode cL_law 225 = .ok (.iconst 1, 1) := by decide +kernel
theorem dL_law_226 : decode cL_law 226 = .ok (.iadd, 1) := by decide +kernel
theorem dL_law_227 : decode cL_law 227 = .ok (.iaload, 1) := by decide +kernel
theorem dL_law_228 : decode cL_law 228 = .ok (.aload_n 0, 1) := by decide +kernel
theorem dL_law_229 : decode cL_law 229 = .ok (.iload_n 3, 1) := by decide +kernel
theorem dL_law_230 : decode cL_law 230 = .ok (.iconst 2, 1) := by decide +kernel
theorem dL_law_231 : decode cL_law 231 = .ok (.iadd, 1) := by decide +kernel
theorem dL_law_232 : decode cL_law 232 = .ok (.iaload, 1) := by decide +kernel
theorem dL_law_233 : decode cL_law 233 = .ok (.invokevirtual 31, 3) := by decide +kernel
theorem dL_law_236 : decode cL_law 236 = .ok (.aload_n 2, 1) := by decide +kernel
theorem dL_law_237 : decode cL_law 237 = .ok (.aload_n 0, 1) := by decide +kernel
theorem dL_law_238 : decode cL_law 238 = .ok (.iload_n 3, 1) := by decide +kernel
theorem dL_law_239 : decode cL_law 239 = .ok (.iconst 1, 1) := by decide +kernel
theorem dL_law_240 : decode cL_law 240 = .ok (.iadd, 1) := by decide +kernel
theorem dL_law_241 : decode cL_law 241 = .ok (.iaload, 1) := by decide +kernel
theorem dL_law_242 : decode cL_law 242 = .ok (.aload_n 0, 1) := by decide +kernel
theorem dL_law_243 : decode cL_law 243 = .ok (.iload_n 3, 1) := by decide +kernel
theorem dL_law_244 : decode cL_law 244 = .ok (.iconst 2, 1) := by decide +kernel
theorem dL_law_245 : decode cL_law 245 = .ok (.iadd, 1) := by decide +kernel
theorem dL_law_246 : decode cL_law 246 = .ok (.iaload, 1) := by decide +kernel
theorem dL_law_247 : decode cL_law 247 = .ok (.invokevirtual 35, 3) := by decide +kernel
theorem dL_law_250 : decode cL_law 250 = .ok (.if_icmp .eq 553, 3) := by decide +kernel
theorem dL_law_253 : decode cL_law 253 = .ok (.iconst 0, 1) := by decide +kernel
theorem dL_law_254 : decode cL_law 254 = .ok (.ireturn, 1) := by decide +kernel
theorem dL_law_255 : decode cL_law 255 = .ok (.aload_n 1, 1) := by decide +kernel
theorem dL_law_256 : decode cL_law 256 = .ok (.aload_n 0, 1) := by decide +kernel
theorem dL_law_257 : decode cL_law 257 = .ok (.iload_n 3, 1) := by decide +kernel
theorem dL_law_258 : decode cL_law 258 = .ok (.iconst 1, 1) := by decide +kernel
theorem dL_law_259 : decode cL_law 259 = .ok (.iadd, 1) := by decide +kernel
theorem dL_law_260 : decode cL_law 260 = .ok (.iaload, 1) := by decide +kernel
theorem dL_law_261 : decode cL_law 261 = .ok (.aload_n 0, 1) := by decide +kernel
theorem dL_law_262 : decode cL_law 262 = .ok (.iload_n 3, 1) := by decide +kernel
theorem dL_law_263 : decode cL_law 263 = .ok (.iconst 2, 1) := by decide +kernel
theorem dL_law_264 : decode cL_law 264 = .ok (.iadd, 1) := by decide +kernel
theorem dL_law_265 : decode cL_law 265 = .ok (.iaload, 1) := by decide +kernel
theorem dL_law_266 : decode cL_law 266 = .ok (.aload_n 0, 1) := by decide +kernel
theorem dL_law_267 : decode cL_law 267 = .ok (.iload_n 3, 1) := by decide +kernel
theorem dL_law_268 : decode cL_law 268 = .ok (.iconst 3, 1) := by decide +kernel
theorem dL_law_269 : decode cL_law 269 = .ok (.iadd, 1) := by decide +kernel
theorem dL_law_270 : decode cL_law 270 = .ok (.iaload, 1) := by decide +kernel
theorem dL_law_271 : decode cL_law 271 = .ok (.invokevirtual 36, 3) := by decide +kernel
theorem dL_law_274 : decode cL_law 274 = .ok (.aload_n 2, 1) := by decide +kernel
theorem dL_law_275 : decode cL_law 275 = .ok (.aload_n 0, 1) := by decide +kernel
theorem dL_law_276 : decode cL_law 276 = .ok (.iload_n 3, 1) := by decide +kernel
theorem dL_law_277 : decode cL_law 277 = .ok (.iconst 1, 1) := by decide +kernel
theorem dL_law_278 : decode cL_law 278 = .ok (.iadd, 1) := by decide +kernel
theorem dL_law_279 : decode cL_law 279 = .ok (.iaload, 1) := by decide +kernel
theorem dL_law_280 : decode cL_law 280 = .ok (.aload_n 0, 1) := by decide +kernel
theorem dL_law_281 : decode cL_law 281 = .ok (.iload_n 3, 1) := by decide +kernel
theorem dL_law_282 : decode cL_law 282 = .ok (.iconst 2, 1) := by decide +kernel
theorem dL_law_283 : decode cL_law 283 = .ok (.iadd, 1) := by decide +kernel
theorem dL_law_284 : decode cL_law 284 = .ok (.iaload, 1) := by decide +kernel
theorem dL_law_285 : decode cL_law 285 = .ok (.aload_n 0, 1) := by decide +kernel
theorem dL_law_286 : decode cL_law 286 = .ok (.iload_n 3, 1) := by decide +kernel
theorem dL_law_287 : decode cL_law 287 = .ok (.iconst 3, 1) := by decide +kernel
theorem dL_law_288 : decode cL_law 288 = .ok (.iadd, 1) := by decide +kernel
theorem dL_law_289 : decode cL_law 289 = .ok (.iaload, 1) := by decide +kernel
theorem dL_law_290 : decode cL_law 290 = .ok (.invokevirtual 40, 3) := by decide +kernel
theorem dL_law_293 : decode cL_law 293 = .ok (.lcmp, 1) := by decide +kernel
theorem dL_law_294 : decode cL_law 294 = .ok (.ifCond .eq 509, 3) := by decide +kernel
theorem dL_law_297 : decode cL_law 297 = .ok (.iconst 0, 1) := by decide +kernel
theorem dL_law_298 : decode cL_law 298 = .ok (.ireturn, 1) := by decide +kernel
theorem dL_law_299 : decode cL_law 299 = .ok (.aload_n 1, 1) := by decide +kernel
theorem dL_law_300 : decode cL_law 300 = .ok (.aload_n 0, 1) := by decide +kernel
theorem dL_law_301 : decode cL_law 301 = .ok (.iload_n 3, 1) := by decide +kernel
theorem dL_law_302 : decode cL_law 302 = .ok (.iconst 1, 1) := by decide +kernel
theorem dL_law_303 : decode cL_law 303 = .ok (.iadd, 1) := by decide +kernel
theorem dL_law_304 : decode cL_law 304 = .ok (.iaload, 1) := by decide +kernel
theorem dL_law_305 : decode cL_law 305 = .ok (.invokevirtual 41, 3) := by decide +kernel
theorem dL_law_308 : decode cL_law 308 = .ok (.aload_n 2, 1) := by decide +kernel
theorem dL_law_309 : decode cL_law 309 = .ok (.aload_n 0, 1) := by decide +kernel
theorem dL_law_310 : decode cL_law 310 = .ok (.iload_n 3, 1) := by decide +kernel
theorem dL_law_311 : decode cL_law 311 = .ok (.iconst 1, 1) := by decide +kernel
theorem dL_law_312 : decode cL_law 312 = .ok (.iadd, 1) := by decide +kernel
theorem dL_law_313 : decode cL_law 313 = .ok (.iaload, 1) := by decide +kernel
theorem dL_law_314 : decode cL_law 314 = .ok (.invokevirtual 45, 3) := by decide +kernel
theorem dL_law_317 : decode cL_law 317 = .ok (.if_icmp .eq 486, 3) := by decide +kernel
theorem dL_law_320 : decode cL_law 320 = .ok (.iconst 0, 1) := by decide +kernel
theorem dL_law_321 : decode cL_law 321 = .ok (.ireturn, 1) := by decide +kernel
theorem dL_law_322 : decode cL_law 322 = .ok (.aload_n 1, 1) := by decide +kernel
theorem dL_law_323 : decode cL_law 323 = .ok (.aload_n 0, 1) := by decide +kernel
theorem dL_law_324 : decode cL_law 324 = .ok (.iload_n 3, 1) := by decide +kernel
theorem dL_law_325 : decode cL_law 325 = .ok (.iconst 1, 1) := by decide +kernel
theorem dL_law_326 : decode cL_law 326 = .ok (.iadd, 1) := by decide +kernel
theorem dL_law_327 : decode cL_law 327 = .ok (.iaload, 1) := by decide +kernel
theorem dL_law_328 : decode cL_law 328 = .ok (.aload_n 0, 1) := by decide +kernel
theorem dL_law_329 : decode cL_law 329 = .ok (.iload_n 3, 1) := by decide +kernel
theorem dL_law_330 : decode cL_law 330 = .ok (.iconst 2, 1) := by decide +kernel
theorem dL_law_331 : decode cL_law 331 = .ok (.iadd, 1) := by decide +kernel
theorem dL_law_332 : decode cL_law 332 = .ok (.iaload, 1) := by decide +kernel
theorem dL_law_333 : decode cL_law 333 = .ok (.invokevirtual 46, 3) := by decide +kernel
theorem dL_law_336 : decode cL_law 336 = .ok (.aload_n 2, 1) := by decide +kernel
theorem dL_law_337 : decode cL_law 337 = .ok (.aload_n 0, 1) := by decide +kernel
theorem dL_law_338 : decode cL_law 338 = .ok (.iload_n 3, 1) := by decide +kernel
theorem dL_law_339 : decode cL_law 339 = .ok (.iconst 1, 1) := by decide +kernel
theorem dL_law_340 : decode cL_law 340 = .ok (.iadd, 1) := by decide +kernel
theorem dL_law_341 : decode cL_law 341 = .ok (.iaload, 1) := by decide +kernel
theorem dL_law_342 : decode cL_law 342 = .ok (.aload_n 0, 1) := by decide +kernel
theorem dL_law_343 : decode cL_law 343 = .ok (.iload_n 3, 1) := by decide +kernel
theorem dL_law_344 : decode cL_law 344 = .ok (.iconst 2, 1) := by decide +kernel
theorem dL_law_345 : decode cL_law 345 = .ok (.iadd, 1) := by decide +kernel
theorem dL_law_346 : decode cL_law 346 = .ok (.iaload, 1) := by decide +kernel
theorem dL_law_347 : decode cL_law 347 = .ok (.invokevirtual 50, 3) := by decide +kernel
theorem dL_law_350 : decode cL_law 350 = .ok (.if_icmp .eq 453, 3) := by decide +kernel
theorem dL_law_353 : decode cL_law 353 = .ok (.iconst 0, 1) := by decide +kernel
theorem dL_law_354 : decode cL_law 354 = .ok (.ireturn, 1) := by decide +kernel
theorem dL_law_355 : decode cL_law 355 = .ok (.aload_n 1, 1) := by decide +kernel
theorem dL_law_356 : decode cL_law 356 = .ok (.aload_n 0, 1) := by decide +kernel
theorem dL_law_357 : decode cL_law 357 = .ok (.iload_n 3, 1) := by decide +kernel
theorem dL_law_358 : decode cL_law 358 = .ok (.iconst 1, 1) := by decide +kernel
theorem dL_law_359 : decode cL_law 359 = .ok (.iadd, 1) := by decide +kernel
theorem dL_law_360 : decode cL_law 360 = .ok (.iaload, 1) := by decide +kernel
theorem dL_law_361 : decode cL_law 361 = .ok (.aload_n 0, 1) := by decide +kernel
theorem dL_law_362 : decode cL_law 362 = .ok (.iload_n 3, 1) := by decide +kernel
theorem dL_law_363 : decode cL_law 363 = .ok (.iconst 2, 1) := by decide +kernel
theorem dL_law_364 : decode cL_law 364 = .ok (.iadd, 1) := by decide +kernel
theorem dL_law_365 : decode cL_law 365 = .ok (.iaload, 1) := by decide +kernel
theorem dL_law_366 : decode cL_law 366 = .ok (.invokevirtual 51, 3) := by decide +kernel
theorem dL_law_369 : decode cL_law 369 = .ok (.aload_n 2, 1) := by decide +kernel
theorem dL_law_370 : decode cL_law 370 = .ok (.aload_n 0, 1) := by decide +kernel
theorem dL_law_371 : decode cL_law 371 = .ok (.iload_n 3, 1) := by decide +kernel
theorem dL_law_372 : decode cL_law 372 = .ok (.iconst 1, 1) := by decide +kernel
theorem dL_law_373 : decode cL_law 373 = .ok (.iadd, 1) := by decide +kernel
theorem dL_law_374 : decode cL_law 374 = .ok (.iaload, 1) := by decide +kernel
theorem dL_law_375 : decode cL_law 375 = .ok (.aload_n 0, 1) := by decide +kernel
theorem dL_law_376 : decode cL_law 376 = .ok (.iload_n 3, 1) := by decide +kernel
theorem dL_law_377 : decode cL_law 377 = .ok (.iconst 2, 1) := by decide +kernel
theorem dL_law_378 : decode cL_law 378 = .ok (.iadd, 1) := by decide +kernel
theorem dL_law_379 : decode cL_law 379 = .ok (.iaload, 1) := by decide +kernel
theorem dL_law_380 : decode cL_law 380 = .ok (.invokevirtual 55, 3) := by decide +kernel
theorem dL_law_383 : decode cL_law 383 = .ok (.lcmp, 1) := by decide +kernel
theorem dL_law_384 : decode cL_law 384 = .ok (.ifCond .eq 419, 3) := by decide +kernel
theorem dL_law_387 : decode cL_law 387 = .ok (.iconst 0, 1) := by decide +kernel
theorem dL_law_388 : decode cL_law 388 = .ok (.ireturn, 1) := by decide +kernel
theorem dL_law_389 : decode cL_law 389 = .ok (.aload_n 1, 1) := by decide +kernel
theorem dL_law_390 : decode cL_law 390 = .ok (.aload_n 0, 1) := by decide +kernel
theorem dL_law_391 : decode cL_law 391 = .ok (.iload_n 3, 1) := by decide +kernel
theorem dL_law_392 : decode cL_law 392 = .ok (.iconst 1, 1) := by decide +kernel
theorem dL_law_393 : decode cL_law 393 = .ok (.iadd, 1) := by decide +kernel
theorem dL_law_394 : decode cL_law 394 = .ok (.iaload, 1) := by decide +kernel
theorem dL_law_395 : decode cL_law 395 = .ok (.invokevirtual 56, 3) := by decide +kernel
theorem dL_law_398 : decode cL_law 398 = .ok (.aload_n 2, 1) := by decide +kernel
theorem dL_law_399 : decode cL_law 399 = .ok (.aload_n 0, 1) := by decide +kernel
theorem dL_law_400 : decode cL_law 400 = .ok (.iload_n 3, 1) := by decide +kernel
theorem dL_law_401 : decode cL_law 401 = .ok (.iconst 1, 1) := by decide +kernel
theorem dL_law_402 : decode cL_law 402 = .ok (.iadd, 1) := by decide +kernel
theorem dL_law_403 : decode cL_law 403 = .ok (.iaload, 1) := by decide +kernel
theorem dL_law_404 : decode cL_law 404 = .ok (.invokevirtual 60, 3) := by decide +kernel
theorem dL_law_407 : decode cL_law 407 = .ok (.lcmp, 1) := by decide +kernel
theorem dL_law_408 : decode cL_law 408 = .ok (.ifCond .eq 395, 3) := by decide +kernel
theorem dL_law_411 : decode cL_law 411 = .ok (.iconst 0, 1) := by decide +kernel
theorem dL_law_412 : decode cL_law 412 = .ok (.ireturn, 1) := by decide +kernel
theorem dL_law_413 : decode cL_law 413 = .ok (.aload_n 1, 1) := by decide +kernel
theorem dL_law_414 : decode cL_law 414 = .ok (.aload_n 0, 1) := by decide +kernel
theorem dL_law_415 : decode cL_law 415 = .ok (.iload_n 3, 1) := by decide +kernel
theorem dL_law_416 : decode cL_law 416 = .ok (.iconst 1, 1) := by decide +kernel
theorem dL_law_417 : decode cL_law 417 = .ok (.iadd, 1) := by decide +kernel
theorem dL_law_418 : decode cL_law 418 = .ok (.iaload, 1) := by decide +kernel
theorem dL_law_419 : decode cL_law 419 = .ok (.aload_n 0, 1) := by decide +kernel
theorem dL_law_420 : decode cL_law 420 = .ok (.iload_n 3, 1) := by decide +kernel
theorem dL_law_421 : decode cL_law 421 = .ok (.iconst 2, 1) := by decide +kernel
theorem dL_law_422 : decode cL_law 422 = .ok (.iadd, 1) := by decide +kernel
theorem dL_law_423 : decode cL_law 423 = .ok (.iaload, 1) := by decide +kernel
theorem dL_law_424 : decode cL_law 424 = .ok (.aload_n 0, 1) := by decide +kernel
theorem dL_law_425 : decode cL_law 425 = .ok (.iload_n 3, 1) := by decide +kernel
theorem dL_law_426 : decode cL_law 426 = .ok (.iconst 3, 1) := by decide +kernel
theorem dL_law_427 : decode cL_law 427 = .ok (.iadd, 1) := by decide +kernel
theorem dL_law_428 : decode cL_law 428 = .ok (.iaload, 1) := by decide +kernel
theorem dL_law_429 : decode cL_law 429 = .ok (.aload_n 0, 1) := by decide +kernel
theorem dL_law_430 : decode cL_law 430 = .ok (.iload_n 3, 1) := by decide +kernel
theorem dL_law_431 : decode cL_law 431 = .ok (.iconst 4, 1) := by decide +kernel
theorem dL_law_432 : decode cL_law 432 = .ok (.iadd, 1) := by decide +kernel
theorem dL_law_433 : decode cL_law 433 = .ok (.iaload, 1) := by decide +kernel
theorem dL_law_434 : decode cL_law 434 = .ok (.invokevirtual 61, 3) := by decide +kernel
theorem dL_law_437 : decode cL_law 437 = .ok (.aload_n 2, 1) := by decide +kernel
theorem dL_law_438 : decode cL_law 438 = .ok (.aload_n 0, 1) := by decide +kernel
theorem dL_law_439 : decode cL_law 439 = .ok (.iload_n 3, 1) := by decide +kernel
theorem dL_law_440 : decode cL_law 440 = .ok (.iconst 1, 1) := by decide +kernel
theorem dL_law_441 : decode cL_law 441 = .ok (.iadd, 1) := by decide +kernel
theorem dL_law_442 : decode cL_law 442 = .ok (.iaload, 1) := by decide +kernel
theorem dL_law_443 : decode cL_law 443 = .ok (.aload_n 0, 1) := by decide +kernel
theorem dL_law_444 : decode cL_law 444 = .ok (.iload_n 3, 1) := by decide +kernel
theorem dL_law_445 : decode cL_law 445 = .ok (.iconst 2, 1) := by decide +kernel
theorem dL_law_446 : decode cL_law 446 = .ok (.iadd, 1) := by decide +kernel
theorem dL_law_447 : decode cL_law 447 = .ok (.iaload, 1) := by decide +kernel
theorem dL_law_448 : decode cL_law 448 = .ok (.aload_n 0, 1) := by decide +kernel
theorem dL_law_449 : decode cL_law 449 = .ok (.iload_n 3, 1) := by decide +kernel
theorem dL_law_450 : decode cL_law 450 = .ok (.iconst 3, 1) := by decide +kernel
theorem dL_law_451 : decode cL_law 451 = .ok (.iadd, 1) := by decide +kernel
theorem dL_law_452 : decode cL_law 452 = .ok (.iaload, 1) := by decide +kernel
theorem dL_law_453 : decode cL_law 453 = .ok (.aload_n 0, 1) := by decide +kernel
theorem dL_law_454 : decode cL_law 454 = .ok (.iload_n 3, 1) := by decide +kernel
theorem dL_law_455 : decode cL_law 455 = .ok (.iconst 4, 1) := by decide +kernel
theorem dL_law_456 : decode cL_law 456 = .ok (.iadd, 1) := by decide +kernel
theorem dL_law_457 : decode cL_law 457 = .ok (.iaload, 1) := by decide +kernel
theorem dL_law_458 : decode cL_law 458 = .ok (.invokevirtual 65, 3) := by decide +kernel
theorem dL_law_461 : decode cL_law 461 = .ok (.lcmp, 1) := by decide +kernel
theorem dL_law_462 : decode cL_law 462 = .ok (.ifCond .eq 341, 3) := by decide +kernel
theorem dL_law_465 : decode cL_law 465 = .ok (.iconst 0, 1) := by decide +kernel
theorem dL_law_466 : decode cL_law 466 = .ok (.ireturn, 1) := by decide +kernel
theorem dL_law_467 : decode cL_law 467 = .ok (.aload_n 1, 1) := by decide +kernel
theorem dL_law_468 : decode cL_law 468 = .ok (.aload_n 0, 1) := by decide +kernel
theorem dL_law_469 : decode cL_law 469 = .ok (.iload_n 3, 1) := by decide +kernel
theorem dL_law_470 : decode cL_law 470 = .ok (.iconst 1, 1) := by decide +kernel
theorem dL_law_471 : decode cL_law 471 = .ok (.iadd, 1) := by decide +kernel
theorem dL_law_472 : decode cL_law 472 = .ok (.iaload, 1) := by decide +kernel
theorem dL_law_473 : decode cL_law 473 = .ok (.aload_n 0, 1) := by decide +kernel
theorem dL_law_474 : decode cL_law 474 = .ok (.iload_n 3, 1) := by decide +kernel
theorem dL_law_475 : decode cL_law 475 = .ok (.iconst 2, 1) := by decide +kernel
theorem dL_law_476 : decode cL_law 476 = .ok (.iadd, 1) := by decide +kernel
theorem dL_law_477 : decode cL_law 477 = .ok (.iaload, 1) := by decide +kernel
theorem dL_law_478 : decode cL_law 478 = .ok (.invokevirtual 66, 3) := by decide +kernel
theorem dL_law_481 : decode cL_law 481 = .ok (.aload_n 2, 1) := by decide +kernel
theorem dL_law_482 : decode cL_law 482 = .ok (.aload_n 0, 1) := by decide +kernel
theorem dL_law_483 : decode cL_law 483 = .ok (.iload_n 3, 1) := by decide +kernel
theorem dL_law_484 : decode cL_law 484 = .ok (.iconst 1, 1) := by decide +kernel
theorem dL_law_485 : decode cL_law 485 = .ok (.iadd, 1) := by decide +kernel
theorem dL_law_486 : decode cL_law 486 = .ok (.iaload, 1) := by decide +kernel
theorem dL_law_487 : decode cL_law 487 = .ok (.aload_n 0, 1) := by decide +kernel
theorem dL_law_488 : decode cL_law 488 = .ok (.iload_n 3, 1) := by decide +kernel
theorem dL_law_489 : decode cL_law 489 = .ok (.iconst 2, 1) := by decide +kernel
theorem dL_law_490 : decode cL_law 490 = .ok (.iadd, 1) := by decide +kernel
theorem dL_law_491 : decode cL_law 491 = .ok (.iaload, 1) := by decide +kernel
theorem dL_law_492 : decode cL_law 492 = .ok (.invokevirtual 69, 3) := by decide +kernel
theorem dL_law_495 : decode cL_law 495 = .ok (.lcmp, 1) := by decide +kernel
theorem dL_law_496 : decode cL_law 496 = .ok (.ifCond .eq 307, 3) := by decide +kernel
theorem dL_law_499 : decode cL_law 499 = .ok (.iconst 0, 1) := by decide +kernel
theorem dL_law_500 : decode cL_law 500 = .ok (.ireturn, 1) := by decide +kernel
theorem dL_law_501 : decode cL_law 501 = .ok (.aload_n 1, 1) := by decide +kernel
theorem dL_law_502 : decode cL_law 502 = .ok (.aload_n 0, 1) := by decide +kernel
theorem dL_law_503 : decode cL_law 503 = .ok (.iload_n 3, 1) := by decide +kernel
theorem dL_law_504 : decode cL_law 504 = .ok (.iconst 1, 1) := by decide +kernel
theorem dL_law_505 : decode cL_law 505 = .ok (.iadd, 1) := by decide +kernel
theorem dL_law_506 : decode cL_law 506 = .ok (.iaload, 1) := by decide +kernel
theorem dL_law_507 : decode cL_law 507 = .ok (.aload_n 0, 1) := by decide +kernel
theorem dL_law_508 : decode cL_law 508 = .ok (.iload_n 3, 1) := by decide +kernel
theorem dL_law_509 : decode cL_law 509 = .ok (.iconst 2, 1) := by decide +kernel
theorem dL_law_510 : decode cL_law 510 = .ok (.iadd, 1) := by decide +kernel
theorem dL_law_511 : decode cL_law 511 = .ok (.iaload, 1) := by decide +kernel
theorem dL_law_512 : decode cL_law 512 = .ok (.aload_n 0, 1) := by decide +kernel
theorem dL_law_513 : decode cL_law 513 = .ok (.iload_n 3, 1) := by decide +kernel
theorem dL_law_514 : decode cL_law 514 = .ok (.iconst 3, 1) := by decide +kernel
theorem dL_law_515 : decode cL_law 515 = .ok (.iadd, 1) := by decide +kernel
theorem dL_law_516 : decode cL_law 516 = .ok (.iaload, 1) := by decide +kernel
theorem dL_law_517 : decode cL_law 517 = .ok (.aload_n 0, 1) := by decide +kernel
theorem dL_law_518 : decode cL_law 518 = .ok (.iload_n 3, 1) := by decide +kernel
theorem dL_law_519 : decode cL_law 519 = .ok (.iconst 4, 1) := by decide +kernel
theorem dL_law_520 : decode cL_law 520 = .ok (.iadd, 1) := by decide +kernel
theorem dL_law_521 : decode cL_law 521 = .ok (.iaload, 1) := by decide +kernel
theorem dL_law_522 : decode cL_law 522 = .ok (.invokevirtual 70, 3) := by decide +kernel
theorem dL_law_525 : decode cL_law 525 = .ok (.aload_n 2, 1) := by decide +kernel
theorem dL_law_526 : decode cL_law 526 = .ok (.aload_n 0, 1) := by decide +kernel
theorem dL_law_527 : decode cL_law 527 = .ok (.iload_n 3, 1) := by decide +kernel
theorem dL_law_528 : decode cL_law 528 = .ok (.iconst 1, 1) := by decide +kernel
theorem dL_law_529 : decode cL_law 529 = .ok (.iadd, 1) := by decide +kernel
theorem dL_law_530 : decode cL_law 530 = .ok (.iaload, 1) := by decide +kernel
theorem dL_law_531 : decode cL_law 531 = .ok (.aload_n 0, 1) := by decide +kernel
theorem dL_law_532 : decode cL_law 532 = .ok (.iload_n 3, 1) := by decide +kernel
theorem dL_law_533 : decode cL_law 533 = .ok (.iconst 2, 1) := by decide +kernel
theorem dL_law_534 : decode cL_law 534 = .ok (.iadd, 1) := by decide +kernel
theorem dL_law_535 : decode cL_law 535 = .ok (.iaload, 1) := by decide +kernel
theorem dL_law_536 : decode cL_law 536 = .ok (.aload_n 0, 1) := by decide +kernel
theorem dL_law_537 : decode cL_law 537 = .ok (.iload_n 3, 1) := by decide +kernel
theorem dL_law_538 : decode cL_law 538 = .ok (.iconst 3, 1) := by decide +kernel
theorem dL_law_539 : decode cL_law 539 = .ok (.iadd, 1) := by decide +kernel
theorem dL_law_540 : decode cL_law 540 = .ok (.iaload, 1) := by decide +kernel
theorem dL_law_541 : decode cL_law 541 = .ok (.aload_n 0, 1) := by decide +kernel
theorem dL_law_542 : decode cL_law 542 = .ok (.iload_n 3, 1) := by decide +kernel
theorem dL_law_543 : decode cL_law 543 = .ok (.iconst 4, 1) := by decide +kernel
theorem dL_law_544 : decode cL_law 544 = .ok (.iadd, 1) := by decide +kernel
theorem dL_law_545 : decode cL_law 545 = .ok (.iaload, 1) := by decide +kernel
theorem dL_law_546 : decode cL_law 546 = .ok (.invokevirtual 72, 3) := by decide +kernel
theorem dL_law_549 : decode cL_law 549 = .ok (.lcmp, 1) := by decide +kernel
theorem dL_law_550 : decode cL_law 550 = .ok (.ifCond .eq 253, 3) := by decide +kernel
theorem dL_law_553 : decode cL_law 553 = .ok (.iconst 0, 1) := by decide +kernel
theorem dL_law_554 : decode cL_law 554 = .ok (.ireturn, 1) := by decide +kernel
theorem dL_law_555 : decode cL_law 555 = .ok (.aload_n 1, 1) := by decide +kernel
theorem dL_law_556 : decode cL_law 556 = .ok (.aload_n 0, 1) := by decide +kernel
theorem dL_law_557 : decode cL_law 557 = .ok (.iload_n 3, 1) := by decide +kernel
theorem dL_law_558 : decode cL_law 558 = .ok (.iconst 1, 1) := by decide +kernel
theorem dL_law_559 : decode cL_law 559 = .ok (.iadd, 1) := by decide +kernel
theorem dL_law_560 : decode cL_law 560 = .ok (.iaload, 1) := by decide +kernel
theorem dL_law_561 : decode cL_law 561 = .ok (.aload_n 0, 1) := by decide +kernel
theorem dL_law_562 : decode cL_law 562 = .ok (.iload_n 3, 1) := by decide +kernel
theorem dL_law_563 : decode cL_law 563 = .ok (.iconst 2, 1) := by decide +kernel
theorem dL_law_564 : decode cL_law 564 = .ok (.iadd, 1) := by decide +kernel
theorem dL_law_565 : decode cL_law 565 = .ok (.iaload, 1) := by decide +kernel
theorem dL_law_566 : decode cL_law 566 = .ok (.aload_n 0, 1) := by decide +kernel
theorem dL_law_567 : decode cL_law 567 = .ok (.iload_n 3, 1) := by decide +kernel
theorem dL_law_568 : decode cL_law 568 = .ok (.iconst 3, 1) := by decide +kernel
theorem dL_law_569 : decode cL_law 569 = .ok (.iadd, 1) := by decide +kernel
theorem dL_law_570 : decode cL_law 570 = .ok (.iaload, 1) := by decide +kernel
theorem dL_law_571 : decode cL_law 571 = .ok (.aload_n 0, 1) := by decide +kernel
theorem dL_law_572 : decode cL_law 572 = .ok (.iload_n 3, 1) := by decide +kernel
theorem dL_law_573 : decode cL_law 573 = .ok (.iconst 4, 1) := by decide +kernel
theorem dL_law_574 : decode cL_law 574 = .ok (.iadd, 1) := by decide +kernel
theorem dL_law_575 : decode cL_law 575 = .ok (.iaload, 1) := by decide +kernel
theorem dL_law_576 : decode cL_law 576 = .ok (.invokevirtual 73, 3) := by decide +kernel
theorem dL_law_579 : decode cL_law 579 = .ok (.aload_n 2, 1) := by decide +kernel
theorem dL_law_580 : decode cL_law 580 = .ok (.aload_n 0, 1) := by decide +kernel
theorem dL_law_581 : decode cL_law 581 = .ok (.iload_n 3, 1) := by decide +kernel
theorem dL_law_582 : decode cL_law 582 = .ok (.iconst 1, 1) := by decide +kernel
theorem dL_law_583 : decode cL_law 583 = .ok (.iadd, 1) := by decide +kernel
theorem dL_law_584 : decode cL_law 584 = .ok (.iaload, 1) := by decide +kernel
theorem dL_law_585 : decode cL_law 585 = .ok (.aload_n 0, 1) := by decide +kernel
theorem dL_law_586 : decode cL_law 586 = .ok (.iload_n 3, 1) := by decide +kernel
theorem dL_law_587 : decode cL_law 587 = .ok (.iconst 2, 1) := by decide +kernel
theorem dL_law_588 : decode cL_law 588 = .ok (.iadd, 1) := by decide +kernel
theorem dL_law_589 : decode cL_law 589 = .ok (.iaload, 1) := by decide +kernel
theorem dL_law_590 : decode cL_law 590 = .ok (.aload_n 0, 1) := by decide +kernel
theorem dL_law_591 : decode cL_law 591 = .ok (.iload_n 3, 1) := by decide +kernel
theorem dL_law_592 : decode cL_law 592 = .ok (.iconst 3, 1) := by decide +kernel
theorem dL_law_593 : decode cL_law 593 = .ok (.iadd, 1) := by decide +kernel
theorem dL_law_594 : decode cL_law 594 = .ok (.iaload, 1) := by decide +kernel
theorem dL_law_595 : decode cL_law 595 = .ok (.aload_n 0, 1) := by decide +kernel
theorem dL_law_596 : decode cL_law 596 = .ok (.iload_n 3, 1) := by decide +kernel
theorem dL_law_597 : decode cL_law 597 = .ok (.iconst 4, 1) := by decide +kernel
theorem dL_law_598 : decode cL_law 598 = .ok (.iadd, 1) := by decide +kernel
theorem dL_law_599 : decode cL_law 599 = .ok (.iaload, 1) := by decide +kernel
theorem dL_law_600 : decode cL_law 600 = .ok (.invokevirtual 76, 3) := by decide +kernel
theorem dL_law_603 : decode cL_law 603 = .ok (.lcmp, 1) := by decide +kernel
theorem dL_law_604 : decode cL_law 604 = .ok (.ifCond .eq 199, 3) := by decide +kernel
theorem dL_law_607 : decode cL_law 607 = .ok (.iconst 0, 1) := by decide +kernel
theorem dL_law_608 : decode cL_law 608 = .ok (.ireturn, 1) := by decide +kernel
theorem dL_law_609 : decode cL_law 609 = .ok (.aload_n 1, 1) := by decide +kernel
theorem dL_law_610 : decode cL_law 610 = .ok (.aload_n 0, 1) := by decide +kernel
theorem dL_law_611 : decode cL_law 611 = .ok (.iload_n 3, 1) := by decide +kernel
theorem dL_law_612 : decode cL_law 612 = .ok (.iconst 1, 1) := by decide +kernel
theorem dL_law_613 : decode cL_law 613 = .ok (.iadd, 1) := by decide +kernel
theorem dL_law_614 : decode cL_law 614 = .ok (.iaload, 1) := by decide +kernel
theorem dL_law_615 : decode cL_law 615 = .ok (.aload_n 0, 1) := by decide +kernel
theorem dL_law_616 : decode cL_law 616 = .ok (.iload_n 3, 1) := by decide +kernel
theorem dL_law_617 : decode cL_law 617 = .ok (.iconst 2, 1) := by decide +kernel
theorem dL_law_618 : decode cL_law 618 = .ok (.iadd, 1) := by decide +kernel
theorem dL_law_619 : decode cL_law 619 = .ok (.iaload, 1) := by decide +kernel
theorem dL_law_620 : decode cL_law 620 = .ok (.invokevirtual 77, 3) := by decide +kernel
theorem dL_law_623 : decode cL_law 623 = .ok (.aload_n 2, 1) := by decide +kernel
theorem dL_law_624 : decode cL_law 624 = .ok (.aload_n 0, 1) := by decide +kernel
theorem dL_law_625 : decode cL_law 625 = .ok (.iload_n 3, 1) := by decide +kernel
theorem dL_law_626 : decode cL_law 626 = .ok (.iconst 1, 1) := by decide +kernel
theorem dL_law_627 : decode cL_law 627 = .ok (.iadd, 1) := by decide +kernel
theorem dL_law_628 : decode cL_law 628 = .ok (.iaload, 1) := by decide +kernel
theorem dL_law_629 : decode cL_law 629 = .ok (.aload_n 0, 1) := by decide +kernel
theorem dL_law_630 : decode cL_law 630 = .ok (.iload_n 3, 1) := by decide +kernel
theorem dL_law_631 : decode cL_law 631 = .ok (.iconst 2, 1) := by decide +kernel
theorem dL_law_632 : decode cL_law 632 = .ok (.iadd, 1) := by decide +kernel
theorem dL_law_633 : decode cL_law 633 = .ok (.iaload, 1) := by decide +kernel
theorem dL_law_634 : decode cL_law 634 = .ok (.invokevirtual 80, 3) := by decide +kernel
theorem dL_law_637 : decode cL_law 637 = .ok (.lcmp, 1) := by decide +kernel
theorem dL_law_638 : decode cL_law 638 = .ok (.ifCond .eq 165, 3) := by decide +kernel
theorem dL_law_641 : decode cL_law 641 = .ok (.iconst 0, 1) := by decide +kernel
theorem dL_law_642 : decode cL_law 642 = .ok (.ireturn, 1) := by decide +kernel
theorem dL_law_643 : decode cL_law 643 = .ok (.aload_n 1, 1) := by decide +kernel
theorem dL_law_644 : decode cL_law 644 = .ok (.aload_n 0, 1) := by decide +kernel
theorem dL_law_645 : decode cL_law 645 = .ok (.iload_n 3, 1) := by decide +kernel
theorem dL_law_646 : decode cL_law 646 = .ok (.iconst 1, 1) := by decide +kernel
theorem dL_law_647 : decode cL_law 647 = .ok (.iadd, 1) := by decide +kernel
theorem dL_law_648 : decode cL_law 648 = .ok (.iaload, 1) := by decide +kernel
theorem dL_law_649 : decode cL_law 649 = .ok (.aload_n 0, 1) := by decide +kernel
theorem dL_law_650 : decode cL_law 650 = .ok (.iload_n 3, 1) := by decide +kernel
theorem dL_law_651 : decode cL_law 651 = .ok (.iconst 2, 1) := by decide +kernel
theorem dL_law_652 : decode cL_law 652 = .ok (.iadd, 1) := by decide +kernel
theorem dL_law_653 : decode cL_law 653 = .ok (.iaload, 1) := by decide +kernel
theorem dL_law_654 : decode cL_law 654 = .ok (.aload_n 0, 1) := by decide +kernel
theorem dL_law_655 : decode cL_law 655 = .ok (.iload_n 3, 1) := by decide +kernel
theorem dL_law_656 : decode cL_law 656 = .ok (.iconst 3, 1) := by decide +kernel
theorem dL_law_657 : decode cL_law 657 = .ok (.iadd, 1) := by decide +kernel
theorem dL_law_658 : decode cL_law 658 = .ok (.iaload, 1) := by decide +kernel
theorem dL_law_659 : decode cL_law 659 = .ok (.aload_n 0, 1) := by decide +kernel
theorem dL_law_660 : decode cL_law 660 = .ok (.iload_n 3, 1) := by decide +kernel
theorem dL_law_661 : decode cL_law 661 = .ok (.iconst 4, 1) := by decide +kernel
theorem dL_law_662 : decode cL_law 662 = .ok (.iadd, 1) := by decide +kernel
theorem dL_law_663 : decode cL_law 663 = .ok (.iaload, 1) := by decide +kernel
theorem dL_law_664 : decode cL_law 664 = .ok (.ifCond .eq 7, 3) := by decide +kernel
theorem dL_law_667 : decode cL_law 667 = .ok (.iconst 1, 1) := by decide +kernel
theorem dL_law_668 : decode cL_law 668 = .ok (.goto 4, 3) := by decide +kernel
theorem dL_law_671 : decode cL_law 671 = .ok (.iconst 0, 1) := by decide +kernel
theorem dL_law_672 : decode cL_law 672 = .ok (.invokevirtual 81, 3) := by decide +kernel
theorem dL_law_675 : decode cL_law 675 = .ok (.aload_n 2, 1) := by decide +kernel
theorem dL_law_676 : decode cL_law 676 = .ok (.aload_n 0, 1) := by decide +kernel
theorem dL_law_677 : decode cL_law 677 = .ok (.iload_n 3, 1) := by decide +kernel
theorem dL_law_678 : decode cL_law 678 = .ok (.iconst 1, 1) := by decide +kernel
theorem dL_law_679 : decode cL_law 679 = .ok (.iadd, 1) := by decide +kernel
theorem dL_law_680 : decode cL_law 680 = .ok (.iaload, 1) := by decide +kernel
theorem dL_law_681 : decode cL_law 681 = .ok (.aload_n 0, 1) := by decide +kernel
theorem dL_law_682 : decode cL_law 682 = .ok (.iload_n 3, 1) := by decide +kernel
theorem dL_law_683 : decode cL_law 683 = .ok (.iconst 2, 1) := by decide +kernel
theorem dL_law_684 : decode cL_law 684 = .ok (.iadd, 1) := by decide +kernel
theorem dL_law_685 : decode cL_law 685 = .ok (.iaload, 1) := by decide +kernel
theorem dL_law_686 : decode cL_law 686 = .ok (.aload_n 0, 1) := by decide +kernel
theorem dL_law_687 : decode cL_law 687 = .ok (.iload_n 3, 1) := by decide +kernel
theorem dL_law_688 : decode cL_law 688 = .ok (.iconst 3, 1) := by decide +kernel
theorem dL_law_689 : decode cL_law 689 = .ok (.iadd, 1) := by decide +kernel
theorem dL_law_690 : decode cL_law 690 = .ok (.iaload, 1) := by decide +kernel
theorem dL_law_691 : decode cL_law 691 = .ok (.aload_n 0, 1) := by decide +kernel
theorem dL_law_692 : decode cL_law 692 = .ok (.iload_n 3, 1) := by decide +kernel
theorem dL_law_693 : decode cL_law 693 = .ok (.iconst 4, 1) := by decide +kernel
theorem dL_law_694 : decode cL_law 694 = .ok (.iadd, 1) := by decide +kernel
theorem dL_law_695 : decode cL_law 695 = .ok (.iaload, 1) := by decide +kernel
theorem dL_law_696 : decode cL_law 696 = .ok (.ifCond .eq 7, 3) := by decide +kernel
theorem dL_law_699 : decode cL_law 699 = .ok (.iconst 1, 1) := by decide +kernel
theorem dL_law_700 : decode cL_law 700 = .ok (.goto 4, 3) := by decide +kernel
theorem dL_law_703 : decode cL_law 703 = .ok (.iconst 0, 1) := by decide +kernel
theorem dL_law_704 : decode cL_law 704 = .ok (.invokevirtual 85, 3) := by decide +kernel
theorem dL_law_707 : decode cL_law 707 = .ok (.if_icmp .eq 96, 3) := by decide +kernel
theorem dL_law_710 : decode cL_law 710 = .ok (.iconst 0, 1) := by decide +kernel
theorem dL_law_711 : decode cL_law 711 = .ok (.ireturn, 1) := by decide +kernel
theorem dL_law_712 : decode cL_law 712 = .ok (.aload_n 1, 1) := by decide +kernel
theorem dL_law_713 : decode cL_law 713 = .ok (.aload_n 0, 1) := by decide +kernel
theorem dL_law_714 : decode cL_law 714 = .ok (.iload_n 3, 1) := by decide +kernel
theorem dL_law_715 : decode cL_law 715 = .ok (.iconst 1, 1) := by decide +kernel
theorem dL_law_716 : decode cL_law 716 = .ok (.iadd, 1) := by decide +kernel
theorem dL_law_717 : decode cL_law 717 = .ok (.iaload, 1) := by decide +kernel
theorem dL_law_718 : decode cL_law 718 = .ok (.aload_n 0, 1) := by decide +kernel
theorem dL_law_719 : decode cL_law 719 = .ok (.iload_n 3, 1) := by decide +kernel
theorem dL_law_720 : decode cL_law 720 = .ok (.iconst 2, 1) := by decide +kernel
theorem dL_law_721 : decode cL_law 721 = .ok (.iadd, 1) := by decide +kernel
theorem dL_law_722 : decode cL_law 722 = .ok (.iaload, 1) := by decide +kernel
theorem dL_law_723 : decode cL_law 723 = .ok (.invokevirtual 86, 3) := by decide +kernel
theorem dL_law_726 : decode cL_law 726 = .ok (.aload_n 2, 1) := by decide +kernel
theorem dL_law_727 : decode cL_law 727 = .ok (.aload_n 0, 1) := by decide +kernel
theorem dL_law_728 : decode cL_law 728 = .ok (.iload_n 3, 1) := by decide +kernel
theorem dL_law_729 : decode cL_law 729 = .ok (.iconst 1, 1) := by decide +kernel
theorem dL_law_730 : decode cL_law 730 = .ok (.iadd, 1) := by decide +kernel
theorem dL_law_731 : decode cL_law 731 = .ok (.iaload, 1) := by decide +kernel
theorem dL_law_732 : decode cL_law 732 = .ok (.aload_n 0, 1) := by decide +kernel
theorem dL_law_733 : decode cL_law 733 = .ok (.iload_n 3, 1) := by decide +kernel
theorem dL_law_734 : decode cL_law 734 = .ok (.iconst 2, 1) := by decide +kernel
theorem dL_law_735 : decode cL_law 735 = .ok (.iadd, 1) := by decide +kernel
theorem dL_law_736 : decode cL_law 736 = .ok (.iaload, 1) := by decide +kernel
theorem dL_law_737 : decode cL_law 737 = .ok (.invokevirtual 89, 3) := by decide +kernel
theorem dL_law_740 : decode cL_law 740 = .ok (.lcmp, 1) := by decide +kernel
theorem dL_law_741 : decode cL_law 741 = .ok (.ifCond .eq 62, 3) := by decide +kernel
theorem dL_law_744 : decode cL_law 744 = .ok (.iconst 0, 1) := by decide +kernel
theorem dL_law_745 : decode cL_law 745 = .ok (.ireturn, 1) := by decide +kernel
theorem dL_law_746 : decode cL_law 746 = .ok (.aload_n 1, 1) := by decide +kernel
theorem dL_law_747 : decode cL_law 747 = .ok (.aload_n 0, 1) := by decide +kernel
theorem dL_law_748 : decode cL_law 748 = .ok (.iload_n 3, 1) := by decide +kernel
theorem dL_law_749 : decode cL_law 749 = .ok (.iconst 1, 1) := by decide +kernel
theorem dL_law_750 : decode cL_law 750 = .ok (.iadd, 1) := by decide +kernel
theorem dL_law_751 : decode cL_law 751 = .ok (.iaload, 1) := by decide +kernel
theorem dL_law_752 : decode cL_law 752 = .ok (.aload_n 0, 1) := by decide +kernel
theorem dL_law_753 : decode cL_law 753 = .ok (.iload_n 3, 1) := by decide +kernel
theorem dL_law_754 : decode cL_law 754 = .ok (.iconst 2, 1) := by decide +kernel
theorem dL_law_755 : decode cL_law 755 = .ok (.iadd, 1) := by decide +kernel
theorem dL_law_756 : decode cL_law 756 = .ok (.iaload, 1) := by decide +kernel
theorem dL_law_757 : decode cL_law 757 = .ok (.invokevirtual 90, 3) := by decide +kernel
theorem dL_law_760 : decode cL_law 760 = .ok (.aload_n 2, 1) := by decide +kernel
theorem dL_law_761 : decode cL_law 761 = .ok (.aload_n 0, 1) := by decide +kernel
theorem dL_law_762 : decode cL_law 762 = .ok (.iload_n 3, 1) := by decide +kernel
theorem dL_law_763 : decode cL_law 763 = .ok (.iconst 1, 1) := by decide +kernel
theorem dL_law_764 : decode cL_law 764 = .ok (.iadd, 1) := by decide +kernel
theorem dL_law_765 : decode cL_law 765 = .ok (.iaload, 1) := by decide +kernel
theorem dL_law_766 : decode cL_law 766 = .ok (.aload_n 0, 1) := by decide +kernel
theorem dL_law_767 : decode cL_law 767 = .ok (.iload_n 3, 1) := by decide +kernel
theorem dL_law_768 : decode cL_law 768 = .ok (.iconst 2, 1) := by decide +kernel
theorem dL_law_769 : decode cL_law 769 = .ok (.iadd, 1) := by decide +kernel
theorem dL_law_770 : decode cL_law 770 = .ok (.iaload, 1) := by decide +kernel
theorem dL_law_771 : decode cL_law 771 = .ok (.invokevirtual 93, 3) := by decide +kernel
theorem dL_law_774 : decode cL_law 774 = .ok (.lcmp, 1) := by decide +kernel
theorem dL_law_775 : decode cL_law 775 = .ok (.ifCond .eq 28, 3) := by decide +kernel
theorem dL_law_778 : decode cL_law 778 = .ok (.iconst 0, 1) := by decide +kernel
theorem dL_law_779 : decode cL_law 779 = .ok (.ireturn, 1) := by decide +kernel
theorem dL_law_780 : decode cL_law 780 = .ok (.aload_n 1, 1) := by decide +kernel
theorem dL_law_781 : decode cL_law 781 = .ok (.aload_n 0, 1) := by decide +kernel
theorem dL_law_782 : decode cL_law 782 = .ok (.iload_n 3, 1) := by decide +kernel
theorem dL_law_783 : decode cL_law 783 = .ok (.iconst 1, 1) := by decide +kernel
theorem dL_law_784 : decode cL_law 784 = .ok (.iadd, 1) := by decide +kernel
theorem dL_law_785 : decode cL_law 785 = .ok (.iaload, 1) := by decide +kernel
theorem dL_law_786 : decode cL_law 786 = .ok (.invokevirtual 94, 3) := by decide +kernel
theorem dL_law_789 : decode cL_law 789 = .ok (.aload_n 2, 1) := by decide +kernel
theorem dL_law_790 : decode cL_law 790 = .ok (.aload_n 0, 1) := by decide +kernel
theorem dL_law_791 : decode cL_law 791 = .ok (.iload_n 3, 1) := by decide +kernel
theorem dL_law_792 : decode cL_law 792 = .ok (.iconst 1, 1) := by decide +kernel
theorem dL_law_793 : decode cL_law 793 = .ok (.iadd, 1) := by decide +kernel
theorem dL_law_794 : decode cL_law 794 = .ok (.iaload, 1) := by decide +kernel
theorem dL_law_795 : decode cL_law 795 = .ok (.invokevirtual 97, 3) := by decide +kernel
theorem dL_law_798 : decode cL_law 798 = .ok (.if_icmp .eq 5, 3) := by decide +kernel
theorem dL_law_801 : decode cL_law 801 = .ok (.iconst 0, 1) := by decide +kernel
theorem dL_law_802 : decode cL_law 802 = .ok (.ireturn, 1) := by decide +kernel
theorem dL_law_803 : decode cL_law 803 = .ok (.iinc 3 5, 3) := by decide +kernel
theorem dL_law_806 : decode cL_law 806 = .ok (.goto (-748), 3) := by decide +kernel
theorem dL_law_809 : decode cL_law 809 = .ok (.iconst 1, 1) := by decide +kernel
theorem dL_law_810 : decode cL_law 810 = .ok (.ireturn, 1) := by decide +kernel
end
