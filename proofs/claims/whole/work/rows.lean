section
-- ===== PART A: goes FIRST, ahead of the names: the tables' words, and 'selects' of the private methods out of them =====
/-- a private method of a class that the tables say can be made, by its rows of tables_1 -/
def lw_okq (q : MethodName × Nat) : Prop := (q.1.cls ≠ "java/lang/invoke/MethodHandle" ∧ q.1.cls ≠ "java/lang/invoke/VarHandle") ∧ Cond.instantiable q.1.cls q.2 ∈ tables_1 ∧ Cond.privateMethod q.1 ∈ tables_1 ∧ Cond.instanceMethod q.1 ∈ tables_1
theorem lw_p0 : lw_okq (⟨"UnitVectors", "countFixed", "()I"⟩, 10) := ⟨⟨by decide +kernel, by decide +kernel⟩, List.mem_of_getElem? (i := 12) (by decide +kernel), List.mem_of_getElem? (i := 203) (by decide +kernel), List.mem_of_getElem? (i := 204) (by decide +kernel)⟩
theorem lw_p1 : lw_okq (⟨"UnitVectors", "countSpare", "()I"⟩, 10) := ⟨⟨by decide +kernel, by decide +kernel⟩, List.mem_of_getElem? (i := 12) (by decide +kernel), List.mem_of_getElem? (i := 211) (by decide +kernel), List.mem_of_getElem? (i := 212) (by decide +kernel)⟩
theorem lw_p2 : lw_okq (⟨"UnitVectors", "isSpare", "(I)Z"⟩, 10) := ⟨⟨by decide +kernel, by decide +kernel⟩, List.mem_of_getElem? (i := 12) (by decide +kernel), List.mem_of_getElem? (i := 215) (by decide +kernel), List.mem_of_getElem? (i := 216) (by decide +kernel)⟩
theorem lw_p3 : lw_okq (⟨"UnitVectors$Solutions", "weigh", "([I)V"⟩, 7) := ⟨⟨by decide +kernel, by decide +kernel⟩, List.mem_of_getElem? (i := 115) (by decide +kernel), List.mem_of_getElem? (i := 224) (by decide +kernel), List.mem_of_getElem? (i := 225) (by decide +kernel)⟩
theorem lw_p4 : lw_okq (⟨"UnitVectors$Solutions", "divideToAndFro", "(I)V"⟩, 7) := ⟨⟨by decide +kernel, by decide +kernel⟩, List.mem_of_getElem? (i := 115) (by decide +kernel), List.mem_of_getElem? (i := 235) (by decide +kernel), List.mem_of_getElem? (i := 236) (by decide +kernel)⟩
theorem lw_p5 : lw_okq (⟨"UnitVectors$Solutions", "reduce", "([JII)V"⟩, 7) := ⟨⟨by decide +kernel, by decide +kernel⟩, List.mem_of_getElem? (i := 115) (by decide +kernel), List.mem_of_getElem? (i := 248) (by decide +kernel), List.mem_of_getElem? (i := 249) (by decide +kernel)⟩
theorem lw_p6 : lw_okq (⟨"UnitVectors$Solutions", "moveLowest", "(I)V"⟩, 7) := ⟨⟨by decide +kernel, by decide +kernel⟩, List.mem_of_getElem? (i := 115) (by decide +kernel), List.mem_of_getElem? (i := 258) (by decide +kernel), List.mem_of_getElem? (i := 259) (by decide +kernel)⟩
theorem lw_p7 : lw_okq (⟨"UnitVectors$Solutions", "leaveOut", "(I)V"⟩, 7) := ⟨⟨by decide +kernel, by decide +kernel⟩, List.mem_of_getElem? (i := 115) (by decide +kernel), List.mem_of_getElem? (i := 262) (by decide +kernel), List.mem_of_getElem? (i := 263) (by decide +kernel)⟩
theorem lw_p8 : lw_okq (⟨"UnitVectors$Solutions", "commonGain", "()J"⟩, 7) := ⟨⟨by decide +kernel, by decide +kernel⟩, List.mem_of_getElem? (i := 115) (by decide +kernel), List.mem_of_getElem? (i := 270) (by decide +kernel), List.mem_of_getElem? (i := 271) (by decide +kernel)⟩
theorem lw_p9 : lw_okq (⟨"UnitVectors$Solutions", "lacksAreTimes", "(J)Z"⟩, 7) := ⟨⟨by decide +kernel, by decide +kernel⟩, List.mem_of_getElem? (i := 115) (by decide +kernel), List.mem_of_getElem? (i := 280) (by decide +kernel), List.mem_of_getElem? (i := 281) (by decide +kernel)⟩
theorem lw_p10 : lw_okq (⟨"UnitVectors", "neededSet", "()I"⟩, 10) := ⟨⟨by decide +kernel, by decide +kernel⟩, List.mem_of_getElem? (i := 12) (by decide +kernel), List.mem_of_getElem? (i := 284) (by decide +kernel), List.mem_of_getElem? (i := 285) (by decide +kernel)⟩
theorem lw_p11 : lw_okq (⟨"UnitVectors", "readText", "(Z)I"⟩, 10) := ⟨⟨by decide +kernel, by decide +kernel⟩, List.mem_of_getElem? (i := 12) (by decide +kernel), List.mem_of_getElem? (i := 298) (by decide +kernel), List.mem_of_getElem? (i := 299) (by decide +kernel)⟩
theorem lw_p12 : lw_okq (⟨"UnitVectors$Reader", "start", "(Z)V"⟩, 9) := ⟨⟨by decide +kernel, by decide +kernel⟩, List.mem_of_getElem? (i := 20) (by decide +kernel), List.mem_of_getElem? (i := 306) (by decide +kernel), List.mem_of_getElem? (i := 307) (by decide +kernel)⟩
theorem lw_p13 : lw_okq (⟨"UnitVectors$Reader", "startTotal", "()V"⟩, 9) := ⟨⟨by decide +kernel, by decide +kernel⟩, List.mem_of_getElem? (i := 20) (by decide +kernel), List.mem_of_getElem? (i := 310) (by decide +kernel), List.mem_of_getElem? (i := 311) (by decide +kernel)⟩
theorem lw_p14 : lw_okq (⟨"UnitVectors$Reader", "take", "(I)I"⟩, 9) := ⟨⟨by decide +kernel, by decide +kernel⟩, List.mem_of_getElem? (i := 20) (by decide +kernel), List.mem_of_getElem? (i := 314) (by decide +kernel), List.mem_of_getElem? (i := 315) (by decide +kernel)⟩
theorem lw_p15 : lw_okq (⟨"UnitVectors$Reader", "takeAtom", "(I)I"⟩, 9) := ⟨⟨by decide +kernel, by decide +kernel⟩, List.mem_of_getElem? (i := 20) (by decide +kernel), List.mem_of_getElem? (i := 318) (by decide +kernel), List.mem_of_getElem? (i := 319) (by decide +kernel)⟩
def lw_privs_1 : List (MethodName × Nat) := [(⟨"UnitVectors", "countFixed", "()I"⟩, 10), (⟨"UnitVectors", "countSpare", "()I"⟩, 10), (⟨"UnitVectors", "isSpare", "(I)Z"⟩, 10), (⟨"UnitVectors$Solutions", "weigh", "([I)V"⟩, 7), (⟨"UnitVectors$Solutions", "divideToAndFro", "(I)V"⟩, 7), (⟨"UnitVectors$Solutions", "reduce", "([JII)V"⟩, 7), (⟨"UnitVectors$Solutions", "moveLowest", "(I)V"⟩, 7), (⟨"UnitVectors$Solutions", "leaveOut", "(I)V"⟩, 7), (⟨"UnitVectors$Solutions", "commonGain", "()J"⟩, 7), (⟨"UnitVectors$Solutions", "lacksAreTimes", "(J)Z"⟩, 7), (⟨"UnitVectors", "neededSet", "()I"⟩, 10), (⟨"UnitVectors", "readText", "(Z)I"⟩, 10), (⟨"UnitVectors$Reader", "start", "(Z)V"⟩, 9), (⟨"UnitVectors$Reader", "startTotal", "()V"⟩, 9), (⟨"UnitVectors$Reader", "take", "(I)I"⟩, 9), (⟨"UnitVectors$Reader", "takeAtom", "(I)I"⟩, 9)]
theorem lw_r1 : ∀ q ∈ lw_privs_1, lw_okq q := List.forall_mem_cons.mpr ⟨lw_p0, List.forall_mem_cons.mpr ⟨lw_p1, List.forall_mem_cons.mpr ⟨lw_p2, List.forall_mem_cons.mpr ⟨lw_p3, List.forall_mem_cons.mpr ⟨lw_p4, List.forall_mem_cons.mpr ⟨lw_p5, List.forall_mem_cons.mpr ⟨lw_p6, List.forall_mem_cons.mpr ⟨lw_p7, List.forall_mem_cons.mpr ⟨lw_p8, List.forall_mem_cons.mpr ⟨lw_p9, List.forall_mem_cons.mpr ⟨lw_p10, List.forall_mem_cons.mpr ⟨lw_p11, List.forall_mem_cons.mpr ⟨lw_p12, List.forall_mem_cons.mpr ⟨lw_p13, List.forall_mem_cons.mpr ⟨lw_p14, List.forall_mem_cons.mpr ⟨lw_p15, fun _ h => absurd h List.not_mem_nil⟩⟩⟩⟩⟩⟩⟩⟩⟩⟩⟩⟩⟩⟩⟩⟩
theorem lw_p16 : lw_okq (⟨"UnitVectors$Reader", "takeOpening", "()I"⟩, 9) := ⟨⟨by decide +kernel, by decide +kernel⟩, List.mem_of_getElem? (i := 20) (by decide +kernel), List.mem_of_getElem? (i := 322) (by decide +kernel), List.mem_of_getElem? (i := 323) (by decide +kernel)⟩
theorem lw_p17 : lw_okq (⟨"UnitVectors$Reader", "takeJoint", "(I)I"⟩, 9) := ⟨⟨by decide +kernel, by decide +kernel⟩, List.mem_of_getElem? (i := 20) (by decide +kernel), List.mem_of_getElem? (i := 327) (by decide +kernel), List.mem_of_getElem? (i := 328) (by decide +kernel)⟩
theorem lw_p18 : lw_okq (⟨"UnitVectors$Reader", "joinNext", "(I)V"⟩, 9) := ⟨⟨by decide +kernel, by decide +kernel⟩, List.mem_of_getElem? (i := 20) (by decide +kernel), List.mem_of_getElem? (i := 331) (by decide +kernel), List.mem_of_getElem? (i := 332) (by decide +kernel)⟩
theorem lw_p19 : lw_okq (⟨"UnitVectors$Reader", "putFactor", "()V"⟩, 9) := ⟨⟨by decide +kernel, by decide +kernel⟩, List.mem_of_getElem? (i := 20) (by decide +kernel), List.mem_of_getElem? (i := 335) (by decide +kernel), List.mem_of_getElem? (i := 336) (by decide +kernel)⟩
theorem lw_p20 : lw_okq (⟨"UnitVectors$Reader", "takeClosing", "()V"⟩, 9) := ⟨⟨by decide +kernel, by decide +kernel⟩, List.mem_of_getElem? (i := 20) (by decide +kernel), List.mem_of_getElem? (i := 339) (by decide +kernel), List.mem_of_getElem? (i := 340) (by decide +kernel)⟩
theorem lw_p21 : lw_okq (⟨"UnitVectors$Reader", "takeFigure", "(I)I"⟩, 9) := ⟨⟨by decide +kernel, by decide +kernel⟩, List.mem_of_getElem? (i := 20) (by decide +kernel), List.mem_of_getElem? (i := 344) (by decide +kernel), List.mem_of_getElem? (i := 345) (by decide +kernel)⟩
theorem lw_p22 : lw_okq (⟨"UnitVectors$Reader", "end", "()I"⟩, 9) := ⟨⟨by decide +kernel, by decide +kernel⟩, List.mem_of_getElem? (i := 20) (by decide +kernel), List.mem_of_getElem? (i := 348) (by decide +kernel), List.mem_of_getElem? (i := 349) (by decide +kernel)⟩
theorem lw_p23 : lw_okq (⟨"UnitVectors", "putSaying", "()V"⟩, 10) := ⟨⟨by decide +kernel, by decide +kernel⟩, List.mem_of_getElem? (i := 12) (by decide +kernel), List.mem_of_getElem? (i := 368) (by decide +kernel), List.mem_of_getElem? (i := 369) (by decide +kernel)⟩
theorem lw_p24 : lw_okq (⟨"UnitVectors", "solveAnew", "()V"⟩, 10) := ⟨⟨by decide +kernel, by decide +kernel⟩, List.mem_of_getElem? (i := 12) (by decide +kernel), List.mem_of_getElem? (i := 385) (by decide +kernel), List.mem_of_getElem? (i := 386) (by decide +kernel)⟩
theorem lw_p25 : lw_okq (⟨"UnitVectors", "driftOnce", "()V"⟩, 10) := ⟨⟨by decide +kernel, by decide +kernel⟩, List.mem_of_getElem? (i := 12) (by decide +kernel), List.mem_of_getElem? (i := 401) (by decide +kernel), List.mem_of_getElem? (i := 402) (by decide +kernel)⟩
theorem lw_p26 : lw_okq (⟨"UnitVectors", "canConvert", "()Z"⟩, 10) := ⟨⟨by decide +kernel, by decide +kernel⟩, List.mem_of_getElem? (i := 12) (by decide +kernel), List.mem_of_getElem? (i := 466) (by decide +kernel), List.mem_of_getElem? (i := 467) (by decide +kernel)⟩
theorem lw_p27 : lw_okq (⟨"UnitVectors", "scaleProduct", "(Z)J"⟩, 10) := ⟨⟨by decide +kernel, by decide +kernel⟩, List.mem_of_getElem? (i := 12) (by decide +kernel), List.mem_of_getElem? (i := 471) (by decide +kernel), List.mem_of_getElem? (i := 472) (by decide +kernel)⟩
theorem lw_p28 : lw_okq (⟨"UnitVectorsModel", "allOf", "()I"⟩, 21) := ⟨⟨by decide +kernel, by decide +kernel⟩, List.mem_of_getElem? (i := 499) (by decide +kernel), List.mem_of_getElem? (i := 591) (by decide +kernel), List.mem_of_getElem? (i := 592) (by decide +kernel)⟩
theorem lw_p29 : lw_okq (⟨"UnitVectorsModel", "solves", "(I)V"⟩, 21) := ⟨⟨by decide +kernel, by decide +kernel⟩, List.mem_of_getElem? (i := 499) (by decide +kernel), List.mem_of_getElem? (i := 595) (by decide +kernel), List.mem_of_getElem? (i := 596) (by decide +kernel)⟩
theorem lw_p30 : lw_okq (⟨"UnitVectorsModel", "startsFree", "()V"⟩, 21) := ⟨⟨by decide +kernel, by decide +kernel⟩, List.mem_of_getElem? (i := 499) (by decide +kernel), List.mem_of_getElem? (i := 599) (by decide +kernel), List.mem_of_getElem? (i := 600) (by decide +kernel)⟩
theorem lw_p31 : lw_okq (⟨"UnitVectorsModel", "adds", "([II)Z"⟩, 21) := ⟨⟨by decide +kernel, by decide +kernel⟩, List.mem_of_getElem? (i := 499) (by decide +kernel), List.mem_of_getElem? (i := 606) (by decide +kernel), List.mem_of_getElem? (i := 607) (by decide +kernel)⟩
def lw_privs_2 : List (MethodName × Nat) := [(⟨"UnitVectors$Reader", "takeOpening", "()I"⟩, 9), (⟨"UnitVectors$Reader", "takeJoint", "(I)I"⟩, 9), (⟨"UnitVectors$Reader", "joinNext", "(I)V"⟩, 9), (⟨"UnitVectors$Reader", "putFactor", "()V"⟩, 9), (⟨"UnitVectors$Reader", "takeClosing", "()V"⟩, 9), (⟨"UnitVectors$Reader", "takeFigure", "(I)I"⟩, 9), (⟨"UnitVectors$Reader", "end", "()I"⟩, 9), (⟨"UnitVectors", "putSaying", "()V"⟩, 10), (⟨"UnitVectors", "solveAnew", "()V"⟩, 10), (⟨"UnitVectors", "driftOnce", "()V"⟩, 10), (⟨"UnitVectors", "canConvert", "()Z"⟩, 10), (⟨"UnitVectors", "scaleProduct", "(Z)J"⟩, 10), (⟨"UnitVectorsModel", "allOf", "()I"⟩, 21), (⟨"UnitVectorsModel", "solves", "(I)V"⟩, 21), (⟨"UnitVectorsModel", "startsFree", "()V"⟩, 21), (⟨"UnitVectorsModel", "adds", "([II)Z"⟩, 21)]
theorem lw_r2 : ∀ q ∈ lw_privs_2, lw_okq q := List.forall_mem_cons.mpr ⟨lw_p16, List.forall_mem_cons.mpr ⟨lw_p17, List.forall_mem_cons.mpr ⟨lw_p18, List.forall_mem_cons.mpr ⟨lw_p19, List.forall_mem_cons.mpr ⟨lw_p20, List.forall_mem_cons.mpr ⟨lw_p21, List.forall_mem_cons.mpr ⟨lw_p22, List.forall_mem_cons.mpr ⟨lw_p23, List.forall_mem_cons.mpr ⟨lw_p24, List.forall_mem_cons.mpr ⟨lw_p25, List.forall_mem_cons.mpr ⟨lw_p26, List.forall_mem_cons.mpr ⟨lw_p27, List.forall_mem_cons.mpr ⟨lw_p28, List.forall_mem_cons.mpr ⟨lw_p29, List.forall_mem_cons.mpr ⟨lw_p30, List.forall_mem_cons.mpr ⟨lw_p31, fun _ h => absurd h List.not_mem_nil⟩⟩⟩⟩⟩⟩⟩⟩⟩⟩⟩⟩⟩⟩⟩⟩
theorem lw_p32 : lw_okq (⟨"UnitVectorsModel", "sumOf", "([III)J"⟩, 21) := ⟨⟨by decide +kernel, by decide +kernel⟩, List.mem_of_getElem? (i := 499) (by decide +kernel), List.mem_of_getElem? (i := 610) (by decide +kernel), List.mem_of_getElem? (i := 611) (by decide +kernel)⟩
theorem lw_p33 : lw_okq (⟨"UnitVectorsModel", "gathers", "(II)Z"⟩, 21) := ⟨⟨by decide +kernel, by decide +kernel⟩, List.mem_of_getElem? (i := 499) (by decide +kernel), List.mem_of_getElem? (i := 614) (by decide +kernel), List.mem_of_getElem? (i := 615) (by decide +kernel)⟩
theorem lw_p34 : lw_okq (⟨"UnitVectorsModel", "swaps", "(II)V"⟩, 21) := ⟨⟨by decide +kernel, by decide +kernel⟩, List.mem_of_getElem? (i := 499) (by decide +kernel), List.mem_of_getElem? (i := 621) (by decide +kernel), List.mem_of_getElem? (i := 622) (by decide +kernel)⟩
theorem lw_p35 : lw_okq (⟨"UnitVectorsModel", "takes", "(IIJ)V"⟩, 21) := ⟨⟨by decide +kernel, by decide +kernel⟩, List.mem_of_getElem? (i := 499) (by decide +kernel), List.mem_of_getElem? (i := 625) (by decide +kernel), List.mem_of_getElem? (i := 626) (by decide +kernel)⟩
theorem lw_p36 : lw_okq (⟨"UnitVectorsModel", "restOf", "([III)J"⟩, 21) := ⟨⟨by decide +kernel, by decide +kernel⟩, List.mem_of_getElem? (i := 499) (by decide +kernel), List.mem_of_getElem? (i := 629) (by decide +kernel), List.mem_of_getElem? (i := 630) (by decide +kernel)⟩
theorem lw_p37 : lw_okq (⟨"UnitVectorsModel", "orders", "()V"⟩, 21) := ⟨⟨by decide +kernel, by decide +kernel⟩, List.mem_of_getElem? (i := 499) (by decide +kernel), List.mem_of_getElem? (i := 633) (by decide +kernel), List.mem_of_getElem? (i := 634) (by decide +kernel)⟩
theorem lw_p38 : lw_okq (⟨"UnitVectorsModel", "headOf", "(I)I"⟩, 21) := ⟨⟨by decide +kernel, by decide +kernel⟩, List.mem_of_getElem? (i := 499) (by decide +kernel), List.mem_of_getElem? (i := 641) (by decide +kernel), List.mem_of_getElem? (i := 642) (by decide +kernel)⟩
theorem lw_p39 : lw_okq (⟨"UnitVectorsModel", "toldMany", "()I"⟩, 21) := ⟨⟨by decide +kernel, by decide +kernel⟩, List.mem_of_getElem? (i := 499) (by decide +kernel), List.mem_of_getElem? (i := 645) (by decide +kernel), List.mem_of_getElem? (i := 646) (by decide +kernel)⟩
theorem lw_p40 : lw_okq (⟨"UnitVectorsModel", "isSure", "(I)Z"⟩, 21) := ⟨⟨by decide +kernel, by decide +kernel⟩, List.mem_of_getElem? (i := 499) (by decide +kernel), List.mem_of_getElem? (i := 649) (by decide +kernel), List.mem_of_getElem? (i := 650) (by decide +kernel)⟩
theorem lw_p41 : lw_okq (⟨"UnitVectorsModel", "spareMany", "()I"⟩, 21) := ⟨⟨by decide +kernel, by decide +kernel⟩, List.mem_of_getElem? (i := 499) (by decide +kernel), List.mem_of_getElem? (i := 653) (by decide +kernel), List.mem_of_getElem? (i := 654) (by decide +kernel)⟩
theorem lw_p42 : lw_okq (⟨"UnitVectorsModel", "isSpare", "(I)Z"⟩, 21) := ⟨⟨by decide +kernel, by decide +kernel⟩, List.mem_of_getElem? (i := 499) (by decide +kernel), List.mem_of_getElem? (i := 657) (by decide +kernel), List.mem_of_getElem? (i := 658) (by decide +kernel)⟩
theorem lw_p43 : lw_okq (⟨"UnitVectorsModel", "isTrue", "([II)Z"⟩, 21) := ⟨⟨by decide +kernel, by decide +kernel⟩, List.mem_of_getElem? (i := 499) (by decide +kernel), List.mem_of_getElem? (i := 661) (by decide +kernel), List.mem_of_getElem? (i := 662) (by decide +kernel)⟩
theorem lw_p44 : lw_okq (⟨"UnitVectorsModel", "fewestOf", "()I"⟩, 21) := ⟨⟨by decide +kernel, by decide +kernel⟩, List.mem_of_getElem? (i := 499) (by decide +kernel), List.mem_of_getElem? (i := 665) (by decide +kernel), List.mem_of_getElem? (i := 666) (by decide +kernel)⟩
theorem lw_p45 : lw_okq (⟨"UnitVectorsModel", "reads", "(Z)I"⟩, 21) := ⟨⟨by decide +kernel, by decide +kernel⟩, List.mem_of_getElem? (i := 499) (by decide +kernel), List.mem_of_getElem? (i := 676) (by decide +kernel), List.mem_of_getElem? (i := 677) (by decide +kernel)⟩
theorem lw_p46 : lw_okq (⟨"UnitVectorsModel", "readsSide", "()I"⟩, 21) := ⟨⟨by decide +kernel, by decide +kernel⟩, List.mem_of_getElem? (i := 499) (by decide +kernel), List.mem_of_getElem? (i := 680) (by decide +kernel), List.mem_of_getElem? (i := 681) (by decide +kernel)⟩
theorem lw_p47 : lw_okq (⟨"UnitVectorsModel", "opens", "(I)V"⟩, 21) := ⟨⟨by decide +kernel, by decide +kernel⟩, List.mem_of_getElem? (i := 499) (by decide +kernel), List.mem_of_getElem? (i := 684) (by decide +kernel), List.mem_of_getElem? (i := 685) (by decide +kernel)⟩
def lw_privs_3 : List (MethodName × Nat) := [(⟨"UnitVectorsModel", "sumOf", "([III)J"⟩, 21), (⟨"UnitVectorsModel", "gathers", "(II)Z"⟩, 21), (⟨"UnitVectorsModel", "swaps", "(II)V"⟩, 21), (⟨"UnitVectorsModel", "takes", "(IIJ)V"⟩, 21), (⟨"UnitVectorsModel", "restOf", "([III)J"⟩, 21), (⟨"UnitVectorsModel", "orders", "()V"⟩, 21), (⟨"UnitVectorsModel", "headOf", "(I)I"⟩, 21), (⟨"UnitVectorsModel", "toldMany", "()I"⟩, 21), (⟨"UnitVectorsModel", "isSure", "(I)Z"⟩, 21), (⟨"UnitVectorsModel", "spareMany", "()I"⟩, 21), (⟨"UnitVectorsModel", "isSpare", "(I)Z"⟩, 21), (⟨"UnitVectorsModel", "isTrue", "([II)Z"⟩, 21), (⟨"UnitVectorsModel", "fewestOf", "()I"⟩, 21), (⟨"UnitVectorsModel", "reads", "(Z)I"⟩, 21), (⟨"UnitVectorsModel", "readsSide", "()I"⟩, 21), (⟨"UnitVectorsModel", "opens", "(I)V"⟩, 21)]
theorem lw_r3 : ∀ q ∈ lw_privs_3, lw_okq q := List.forall_mem_cons.mpr ⟨lw_p32, List.forall_mem_cons.mpr ⟨lw_p33, List.forall_mem_cons.mpr ⟨lw_p34, List.forall_mem_cons.mpr ⟨lw_p35, List.forall_mem_cons.mpr ⟨lw_p36, List.forall_mem_cons.mpr ⟨lw_p37, List.forall_mem_cons.mpr ⟨lw_p38, List.forall_mem_cons.mpr ⟨lw_p39, List.forall_mem_cons.mpr ⟨lw_p40, List.forall_mem_cons.mpr ⟨lw_p41, List.forall_mem_cons.mpr ⟨lw_p42, List.forall_mem_cons.mpr ⟨lw_p43, List.forall_mem_cons.mpr ⟨lw_p44, List.forall_mem_cons.mpr ⟨lw_p45, List.forall_mem_cons.mpr ⟨lw_p46, List.forall_mem_cons.mpr ⟨lw_p47, fun _ h => absurd h List.not_mem_nil⟩⟩⟩⟩⟩⟩⟩⟩⟩⟩⟩⟩⟩⟩⟩⟩
theorem lw_p48 : lw_okq (⟨"UnitVectorsModel", "readsLetter", "()Z"⟩, 21) := ⟨⟨by decide +kernel, by decide +kernel⟩, List.mem_of_getElem? (i := 499) (by decide +kernel), List.mem_of_getElem? (i := 688) (by decide +kernel), List.mem_of_getElem? (i := 689) (by decide +kernel)⟩
theorem lw_p49 : lw_okq (⟨"UnitVectorsModel", "here", "()I"⟩, 21) := ⟨⟨by decide +kernel, by decide +kernel⟩, List.mem_of_getElem? (i := 499) (by decide +kernel), List.mem_of_getElem? (i := 692) (by decide +kernel), List.mem_of_getElem? (i := 693) (by decide +kernel)⟩
theorem lw_p50 : lw_okq (⟨"UnitVectorsModel", "fails", "(I)V"⟩, 21) := ⟨⟨by decide +kernel, by decide +kernel⟩, List.mem_of_getElem? (i := 499) (by decide +kernel), List.mem_of_getElem? (i := 696) (by decide +kernel), List.mem_of_getElem? (i := 697) (by decide +kernel)⟩
theorem lw_p51 : lw_okq (⟨"UnitVectorsModel", "closes", "()V"⟩, 21) := ⟨⟨by decide +kernel, by decide +kernel⟩, List.mem_of_getElem? (i := 499) (by decide +kernel), List.mem_of_getElem? (i := 700) (by decide +kernel), List.mem_of_getElem? (i := 701) (by decide +kernel)⟩
theorem lw_p52 : lw_okq (⟨"UnitVectorsModel", "readsPower", "()V"⟩, 21) := ⟨⟨by decide +kernel, by decide +kernel⟩, List.mem_of_getElem? (i := 499) (by decide +kernel), List.mem_of_getElem? (i := 704) (by decide +kernel), List.mem_of_getElem? (i := 705) (by decide +kernel)⟩
theorem lw_p53 : lw_okq (⟨"UnitVectorsModel", "counts", "()V"⟩, 21) := ⟨⟨by decide +kernel, by decide +kernel⟩, List.mem_of_getElem? (i := 499) (by decide +kernel), List.mem_of_getElem? (i := 708) (by decide +kernel), List.mem_of_getElem? (i := 709) (by decide +kernel)⟩
theorem lw_p54 : lw_okq (⟨"UnitVectorsModel", "mayBe", "()Z"⟩, 21) := ⟨⟨by decide +kernel, by decide +kernel⟩, List.mem_of_getElem? (i := 499) (by decide +kernel), List.mem_of_getElem? (i := 715) (by decide +kernel), List.mem_of_getElem? (i := 716) (by decide +kernel)⟩
theorem lw_p55 : lw_okq (⟨"UnitVectorsModel", "notes", "()V"⟩, 21) := ⟨⟨by decide +kernel, by decide +kernel⟩, List.mem_of_getElem? (i := 499) (by decide +kernel), List.mem_of_getElem? (i := 720) (by decide +kernel), List.mem_of_getElem? (i := 721) (by decide +kernel)⟩
theorem lw_p56 : lw_okq (⟨"UnitVectorsModel", "says", "()V"⟩, 21) := ⟨⟨by decide +kernel, by decide +kernel⟩, List.mem_of_getElem? (i := 499) (by decide +kernel), List.mem_of_getElem? (i := 724) (by decide +kernel), List.mem_of_getElem? (i := 725) (by decide +kernel)⟩
theorem lw_p57 : lw_okq (⟨"UnitVectorsModel", "drawn", "()V"⟩, 21) := ⟨⟨by decide +kernel, by decide +kernel⟩, List.mem_of_getElem? (i := 499) (by decide +kernel), List.mem_of_getElem? (i := 744) (by decide +kernel), List.mem_of_getElem? (i := 745) (by decide +kernel)⟩
theorem lw_p58 : lw_okq (⟨"UnitVectorsModel", "draw", "(I)I"⟩, 21) := ⟨⟨by decide +kernel, by decide +kernel⟩, List.mem_of_getElem? (i := 499) (by decide +kernel), List.mem_of_getElem? (i := 748) (by decide +kernel), List.mem_of_getElem? (i := 749) (by decide +kernel)⟩
def lw_privs_4 : List (MethodName × Nat) := [(⟨"UnitVectorsModel", "readsLetter", "()Z"⟩, 21), (⟨"UnitVectorsModel", "here", "()I"⟩, 21), (⟨"UnitVectorsModel", "fails", "(I)V"⟩, 21), (⟨"UnitVectorsModel", "closes", "()V"⟩, 21), (⟨"UnitVectorsModel", "readsPower", "()V"⟩, 21), (⟨"UnitVectorsModel", "counts", "()V"⟩, 21), (⟨"UnitVectorsModel", "mayBe", "()Z"⟩, 21), (⟨"UnitVectorsModel", "notes", "()V"⟩, 21), (⟨"UnitVectorsModel", "says", "()V"⟩, 21), (⟨"UnitVectorsModel", "drawn", "()V"⟩, 21), (⟨"UnitVectorsModel", "draw", "(I)I"⟩, 21)]
theorem lw_r4 : ∀ q ∈ lw_privs_4, lw_okq q := List.forall_mem_cons.mpr ⟨lw_p48, List.forall_mem_cons.mpr ⟨lw_p49, List.forall_mem_cons.mpr ⟨lw_p50, List.forall_mem_cons.mpr ⟨lw_p51, List.forall_mem_cons.mpr ⟨lw_p52, List.forall_mem_cons.mpr ⟨lw_p53, List.forall_mem_cons.mpr ⟨lw_p54, List.forall_mem_cons.mpr ⟨lw_p55, List.forall_mem_cons.mpr ⟨lw_p56, List.forall_mem_cons.mpr ⟨lw_p57, List.forall_mem_cons.mpr ⟨lw_p58, fun _ h => absurd h List.not_mem_nil⟩⟩⟩⟩⟩⟩⟩⟩⟩⟩⟩
def lw_privs : List (MethodName × Nat) := lw_privs_1 ++ (lw_privs_2 ++ (lw_privs_3 ++ (lw_privs_4)))
def lw_tbl : List Cond := k2_sels lw_privs ++ tables_1
theorem lw_privs_ok : ∀ q ∈ lw_privs, lw_okq q := by
  show ∀ q ∈ lw_privs_1 ++ (lw_privs_2 ++ (lw_privs_3 ++ (lw_privs_4))), lw_okq q
  exact List.forall_mem_append.mpr ⟨lw_r1, List.forall_mem_append.mpr ⟨lw_r2, List.forall_mem_append.mpr ⟨lw_r3, lw_r4⟩⟩⟩
end
section
/-! ===== BEGIN words of one list among another's, by their places ===== -/
theorem goodIn_r {big : List Cond} (ws : List Cond) (ps : List Nat) (hp : ws = ps.filterMap (fun i => big[i]?)) (h : ws.all goodWord = true) : GoodIn big ws := by
  intro w hw
  have h1 := List.all_eq_true.mp h w hw
  rw [hp] at hw
  obtain ⟨i, -, hi⟩ := List.mem_filterMap.mp hw
  have hm : w ∈ big := by first | exact List.mem_of_getElem? hi | exact List.getElem?_mem hi
  exact ⟨hm, good_of_word h1⟩
theorem goodIn_app {big a b : List Cond} (ha : GoodIn big a) (hb : GoodIn big b) : GoodIn big (a ++ b) := fun w h => (List.mem_append.mp h).elim (ha w) (hb w)
theorem goodIn_ca {big a b : List Cond} {c : Cond} (ha : GoodIn big (c :: a)) (hb : GoodIn big b) : GoodIn big (c :: (a ++ b)) := fun w h => (List.mem_cons.mp h).elim (fun e => ha w (List.mem_cons.mpr (Or.inl e))) (fun h => (List.mem_append.mp h).elim (fun h => ha w (List.mem_cons.mpr (Or.inr h))) (hb w))
theorem goodIn_sub {big ws : List Cond} (hm : ∀ w ∈ ws, w ∈ big) (h : ws.all goodWord = true) : GoodIn big ws := fun w hw => ⟨hm w hw, good_of_word (List.all_eq_true.mp h w hw)⟩
/-! ===== END ===== -/

/-! ===== BEGIN new T[n][m]: the outer array a place, the inner ones among the pooled ===== -/
/-- f, but v at every address of l -/
def vr_up {α : Type} (f : Nat → α) (l : List Nat) (v : α) : Nat → α := fun a => if a ∈ l then v else f a
theorem vr_up_in {α : Type} {f : Nat → α} {l : List Nat} {v : α} {a : Nat} (h : a ∈ l) : vr_up f l v a = v := if_pos h
theorem vr_up_ne {α : Type} {f : Nat → α} {l : List Nat} {v : α} {a : Nat} (h : a ∉ l) : vr_up f l v a = f a := if_neg h
theorem vr_rows {L l : List Nat} {f : Nat → va_E} {e : va_E} (h : ∀ a, a ∈ l → a ∉ L) : va_pl L f ++ l.map (fun a => (a, e)) = va_pl (L ++ l) (vr_up f l e) := by
  unfold va_pl
  rw [List.map_append]
  congr 1
  · apply List.map_congr_left
    intro a ha
    rw [vr_up_ne (fun q => h a q ha)]
  · apply List.map_congr_left
    intro a ha
    rw [vr_up_in ha]
theorem vr_lay {X rows : va_W} {x : Nat × va_E} {pl : va_W} {D : va_G} {cl : List vw_C} {H : Heap} (hP : va_P D cl (((X ++ pl) ++ [x]) ++ rows) H) : va_P D cl ((X ++ [x]) ++ (pl ++ rows)) H := by
  rw [List.append_assoc (X ++ pl)] at hP
  have h := va_P.swap hP
  rw [← List.append_assoc X] at h
  have h2 := va_P.swap h
  rw [List.append_assoc (X ++ [x])] at h2
  exact h2
theorem vr_layD {X rows : va_W} {x : Nat × va_E} {pl : va_W} {A : Nat → Prop} (hD : va_D A (((X ++ pl) ++ [x]) ++ rows)) : va_D A ((X ++ [x]) ++ (pl ++ rows)) := by
  rw [List.append_assoc (X ++ pl)] at hD
  have h := va_D.swap hD
  rw [← List.append_assoc X] at h
  have h2 := va_D.swap h
  rw [List.append_assoc (X ++ [x])] at h2
  exact h2
theorem vr_outer (c : ClassId) (N h0 : Nat) : ∀ i : Nat, Jvm.Free.Multi.outerC c N h0 i = arrV c N (fun j => va_rf (if j < i then some (h0 + 1 + j) else none))
  | 0 => by
    show ({ cls := c, slots := Array.replicate N .null, vm := .none } : Cell) = _
    rw [arrV_new]
    refine congrArg (arrV c N) (funext fun j => ?_)
    simp [va_rf]
  | i + 1 => by
    show (Jvm.Free.Multi.outerC c N h0 i).setSlot i (.ref (h0 + 1 + i)) = _
    rw [vr_outer c N h0 i, arrV_store]
    refine congrArg (arrV c N) (funext fun j => ?_)
    by_cases e : j = i
    · subst e
      simp [updV, va_rf]
    · by_cases h : j < i
      · simp [updV, e, h, Nat.lt_succ_of_lt h]
      · simp [updV, e, h, show ¬ j < i + 1 by omega]
/-- the words on an array of arrays (not in the kit of this claim) -/
def va_AOA (ty : FieldType) (U : State) : Prop := (Cond.arrayOver (.array ty)).before #[] U = true
theorem va_AOA.use {ty : FieldType} {A : Array Value} {U : State} (h : va_AOA ty U) : (Cond.arrayOver (.array ty)).before A U = true := h
section VGM
variable {p : Program} {l : Launch} {e : Env} {R : Room} {s : State} {m : MethodId} {args : Array Value} {below : List Frame} {meth : Method} {c : Code} {H : Heap} {locs : List Loc} {cells slots : Nat} {Q : State → Prop}
variable {cc : ByteArray} {pc : Nat} {ls : Array Slot} {rest : List Value} {D : va_G} {cl : List vw_C} {A : Nat → Prop} {a : Nat} {tys : List (ClassId × FieldType)} {ws : va_W} {H0 : Heap}
theorem va_mna {X : va_W} {L : List Nat} {f : Nat → va_E} {cc : ByteArray} (hexec : p.tables.exec = Jvm.exec) (hb : c.code = cc) {own : String} {index : Nat} {ty : FieldType} {cy : ClassId} (hown : s.vm.findClass own = some m.cls) (hclink : (Cond.classLink own index ("[" ++ (FieldType.array ty).toString)).before args s = true) (hover : va_AOA ty s) (harr : (Cond.arrayClass ty).before args s = true) (hcy : s.vm.findClass (FieldType.array ty).toString = some cy)
    (hK : va_K D cl tys s) (hP : va_P D cl (X ++ va_pl L f) H) (hD : va_D A (X ++ va_pl L f)) (hS : va_S A H0 H locs) (hA : ∀ q, H0.size ≤ q → A q) {n k : Int32} {N' K' : Nat} {z : vp_A} (hn : ¬ n < 0) (hk : ¬ k < 0) (hN : n.toNatClampNeg = N') (hM : k.toNatClampNeg = K')
    (hb1 : N' * 4 ≤ 536870912) (hb2 : K' * componentBytes ty ≤ 536870912) (hb3 : K' ≤ 536870912) (hdf : fits ty (defaultValue ty) = true) (hdd : (defaultValue ty).isDefault = true) (hcells : cells + (1 + N') ≤ R.cells) (hslots : slots + (N' + N' * K') ≤ R.slots) (hz : ∀ c : ClassId, Jvm.Free.Multi.innerC c K' (defaultValue ty) = vp_cell c z) (hdg : decode cc pc = .ok (.multianewarray index 2, 4))
    (kk : ∀ (q : Nat) (r : Nat → Nat) (cA : ClassId) (H1 : Heap), (∀ i j : Nat, i < N' → j < N' → r i = r j → i = j) → (∀ i : Nat, i < N' → r i ∉ L) → va_K D cl (tys ++ [(cA, .array ty)]) s →
      va_P D cl ((X ++ [(q, .inl (cA, N', .inr (.inr (.inr (.inr (fun i => if i < N' then some (r i) else none))))))]) ++ va_pl (L ++ (List.range N').map r) (vr_up f ((List.range N').map r) (.inl (cy, z)))) H1 → va_D A ((X ++ [(q, .inl (cA, N', .inr (.inr (.inr (.inr (fun i => if i < N' then some (r i) else none))))))]) ++ va_pl (L ++ (List.range N').map r) (vr_up f ((List.range N').map r) (.inl (cy, z)))) → va_S A H0 H1 locs →
      W p l e R s m args below meth c H1 locs (cells + 1 + N') (slots + N' + N' * K') Q (F0 m (pc + 4) ls (.ref q :: rest))) : W p l e R s m args below meth c H locs cells slots Q (F0 m pc ls (.int k :: .int n :: rest)) := by
  subst hN
  subst hM
  intro T hT Xs
  obtain ⟨vm₁, cA, comp, -, fA, fC, hO, -, X', step⟩ := Xs.multianewarray2F hexec hown hclink (va_AOA.use hover) harr (g := F0 m pc ls (.int k :: .int n :: rest)) rfl (by rw [hb]; exact hdg) rfl hn hk hb1 hb2 hb3 hdf hdd hcells hslots
  have ec : some cy = some comp := hcy.symm.trans fC
  cases ec
  generalize hF : Jvm.Free.Multi.fill (T.setVm vm₁) cA cy n.toNatClampNeg k.toNatClampNeg (defaultValue ty) n.toNatClampNeg = F at X' step
  have hTh : (T.setVm vm₁).heap = H := hT
  obtain ⟨f1, f2, -, -⟩ := Jvm.Free.Multi.fill_facts (T.setVm vm₁) cA cy n.toNatClampNeg k.toNatClampNeg (defaultValue ty) n.toNatClampNeg
  rw [hF, hTh] at f1 f2
  have hold : ∀ x : Nat, x < H.size → F.heap[x]? = H[x]? := fun x hx => by
    have := Jvm.Free.Multi.fill_old (T.setVm vm₁) cA cy n.toNatClampNeg k.toNatClampNeg (defaultValue ty) (a := x) (by rw [hTh]; exact hx) n.toNatClampNeg
    rw [hF, hTh] at this
    exact this
  have hrow : ∀ j : Nat, j < n.toNatClampNeg → F.heap[H.size + 1 + j]? = some (vp_cell cy z) := fun j hj => by
    have := Jvm.Free.Multi.fill_inner (T.setVm vm₁) cA cy n.toNatClampNeg k.toNatClampNeg (defaultValue ty) n.toNatClampNeg j hj
    rw [hF, hTh, hz] at this
    exact this
  have hout : Jvm.Free.Multi.outerC cA n.toNatClampNeg H.size n.toNatClampNeg = vp_cell cA (n.toNatClampNeg, .inr (.inr (.inr (.inr (fun i => if i < n.toNatClampNeg then some (H.size + 1 + i) else none))))) := by
    rw [vp_cell_q]
    exact vr_outer cA n.toNatClampNeg H.size n.toNatClampNeg
  rw [hout] at f2
  have hlt : ∀ a, a ∈ L → a < H.size := fun a ha => by
    obtain ⟨k9, hk9⟩ := va_pl_get (X := X) (f := f) ha
    exact (hP k9 _ hk9).lt
  have hnl : ∀ i : Nat, i < n.toNatClampNeg → H.size + 1 + i ∉ L := fun i _ h => by
    have := hlt _ h
    omega
  have hnm : ∀ a, a ∈ (List.range n.toNatClampNeg).map (fun i => H.size + 1 + i) → a ∉ L := fun a ha h => by
    obtain ⟨i, -, rfl⟩ := List.mem_map.mp ha
    have := hlt _ h
    omega
  have hP0 : va_P D cl (X ++ va_pl L f) F.heap := hP.kept (fun k9 x hx => hold x.1 ((hP k9 x hx).lt))
  have hP1 : va_P D cl ((X ++ va_pl L f) ++ [(H.size, .inl (cA, n.toNatClampNeg, .inr (.inr (.inr (.inr (fun i => if i < n.toNatClampNeg then some (H.size + 1 + i) else none))))))]) F.heap := hP0.app (fun k9 x hx => by
    have h0 : k9 < 1 := (List.getElem?_eq_some_iff.mp hx).1
    rw [show k9 = 0 by omega] at hx
    cases hx
    exact f2)
  have hP2 : va_P D cl (((X ++ va_pl L f) ++ [(H.size, .inl (cA, n.toNatClampNeg, .inr (.inr (.inr (.inr (fun i => if i < n.toNatClampNeg then some (H.size + 1 + i) else none))))))]) ++ ((List.range n.toNatClampNeg).map (fun i => H.size + 1 + i)).map (fun a => (a, .inl (cy, z)))) F.heap := hP1.app (fun k9 x hx => by
    obtain ⟨a, ha, rfl⟩ := List.mem_map.mp (List.mem_of_getElem? hx)
    obtain ⟨i, hi, rfl⟩ := List.mem_map.mp ha
    exact hrow i (List.mem_range.mp hi))
  have hD2 : va_D A (((X ++ va_pl L f) ++ [(H.size, .inl (cA, n.toNatClampNeg, .inr (.inr (.inr (.inr (fun i => if i < n.toNatClampNeg then some (H.size + 1 + i) else none))))))]) ++ ((List.range n.toNatClampNeg).map (fun i => H.size + 1 + i)).map (fun a => (a, .inl (cy, z)))) := by
    have hD1 := hD.push (e := .inl (cA, n.toNatClampNeg, .inr (.inr (.inr (.inr (fun i => if i < n.toNatClampNeg then some (H.size + 1 + i) else none)))))) hP rfl (hA _ hS.1)
    generalize hW1 : (X ++ va_pl L f) ++ [(H.size, .inl (cA, n.toNatClampNeg, .inr (.inr (.inr (.inr (fun i => if i < n.toNatClampNeg then some (H.size + 1 + i) else none))))))] = W1 at hD1 hP1 ⊢
    have hle : ∀ (k9 : Nat) (x : Nat × va_E), W1[k9]? = some x → x.1 ≤ H.size := fun k9 x hx => by
      rw [← hW1] at hx
      by_cases hl : k9 < (X ++ va_pl L f).length
      · rw [List.getElem?_append_left hl] at hx
        exact Nat.le_of_lt ((hP k9 x hx).lt)
      · rw [List.getElem?_append_right (by omega)] at hx
        have h0 : k9 - (X ++ va_pl L f).length < 1 := (List.getElem?_eq_some_iff.mp hx).1
        rw [show k9 - (X ++ va_pl L f).length = 0 by omega] at hx
        cases hx
        exact Nat.le_refl _
    have hr : ∀ (k9 : Nat) (x : Nat × va_E), (((List.range n.toNatClampNeg).map (fun i => H.size + 1 + i)).map (fun a => ((a, .inl (cy, z)) : Nat × va_E)))[k9]? = some x → x.1 = H.size + 1 + k9 := fun k9 x hx => by
      rw [List.getElem?_map, List.getElem?_map] at hx
      by_cases h9 : k9 < n.toNatClampNeg
      · rw [List.getElem?_range h9] at hx
        cases hx
        rfl
      · have hn0 : (List.range n.toNatClampNeg)[k9]? = none := List.getElem?_eq_none (by rw [List.length_range]; omega)
        rw [hn0] at hx
        cases hx
    refine ⟨fun i j x y hi hj hxy => ?_, fun k9 x hx => ?_⟩
    · by_cases h1 : i < W1.length <;> by_cases h2 : j < W1.length
      · rw [List.getElem?_append_left h1] at hi
        rw [List.getElem?_append_left h2] at hj
        exact hD1.1 i j x y hi hj hxy
      · rw [List.getElem?_append_left h1] at hi
        rw [List.getElem?_append_right (by omega)] at hj
        have := hle _ _ hi
        have := hr _ _ hj
        omega
      · rw [List.getElem?_append_right (by omega)] at hi
        rw [List.getElem?_append_left h2] at hj
        have := hle _ _ hj
        have := hr _ _ hi
        omega
      · rw [List.getElem?_append_right (by omega)] at hi hj
        have := hr _ _ hi
        have := hr _ _ hj
        omega
    · by_cases h1 : k9 < W1.length
      · rw [List.getElem?_append_left h1] at hx
        exact hD1.2 k9 x hx
      · rw [List.getElem?_append_right (by omega)] at hx
        have := hr _ _ hx
        exact hA _ (by have := hS.1; omega)
  have hAr : ArrOfT s cA (.array ty) := fun N9 z9 => by
    obtain ⟨-, k9, hk9, cm9, hkk9⟩ := (hO 0 0 0).1
    exact ⟨(fun q hq => by cases hq), k9, hk9, cm9, hkk9⟩
  have hK2 : va_K D cl (tys ++ [(cA, .array ty)]) s := ⟨hK.1, fun k9 x hx => by
    by_cases hl : k9 < tys.length
    · rw [List.getElem?_append_left hl] at hx
      exact hK.2 k9 x hx
    · rw [List.getElem?_append_right (by omega)] at hx
      have h0 : k9 - tys.length < 1 := (List.getElem?_eq_some_iff.mp hx).1
      rw [show k9 - tys.length = 0 by omega] at hx
      cases hx
      exact ⟨hAr, fA⟩⟩
  obtain ⟨t, a1, b1⟩ := kk H.size (fun i => H.size + 1 + i) cA F.heap (fun i j _ _ h => by have h9 : H.size + 1 + i = H.size + 1 + j := h; omega) hnl hK2 (by rw [← vr_rows hnm]; exact vr_lay hP2) (by rw [← vr_rows hnm]; exact vr_layD hD2) ⟨by rw [f1]; have := hS.1; omega, fun x h1 h2 => (hold x (Nat.lt_of_lt_of_le h1 hS.1)).trans (hS.2.1 x h1 h2), hS.2.2⟩ F rfl X'
  refine ⟨t, step t ?_, b1⟩
  have e : T.heap.size = H.size := by rw [hT]
  rw [e]
  exact a1
end VGM
/-! ===== END ===== -/

/-! ===== BEGIN printed: names, fields, word lists, decode rows ===== -/
def RX0 : String := "UnitVectors$Past"
def TX0 : u_T := fun k => match k with
  | 0 => ("UnitVectors$Past", "ahead", "[LUnitVectors$State;", true)
  | 1 => ("UnitVectors$Past", "next", "I", false)
  | _ => ("UnitVectors$Past", "count", "I", false)
def tyX0 : Nat → FieldType := fun k => match k with
  | 0 => .array (.object "UnitVectors$State")
  | 1 => .int
  | _ => .int
abbrev wsX00 : List Cond := u_ws RX0 TX0 3
theorem nmX0 : ∀ a, a < 3 → ∀ b, b < 3 → a ≠ b → (TX0 a).2.1 ≠ (TX0 b).2.1 := by decide +kernel
theorem tyX0_ok : ∀ k, k < 3 → parseFieldDescriptor (TX0 k).2.2.1 = some (tyX0 k) := by decide +kernel
abbrev cX0_init : ByteArray := prog_2_method_1_code
def yX0_init : MethodName := ⟨RX0, "<init>", "()V"⟩
abbrev cX0_note : ByteArray := prog_2_method_2_code
def yX0_note : MethodName := ⟨RX0, "note", "(LUnitVectors$State;)V"⟩
abbrev cX0_restore : ByteArray := prog_2_method_3_code
def yX0_restore : MethodName := ⟨RX0, "restore", "(ILUnitVectors$State;)V"⟩
abbrev cX0_forget : ByteArray := prog_2_method_4_code
def yX0_forget : MethodName := ⟨RX0, "forget", "()V"⟩
def RX1 : String := "UnitVectors$Reader"
def TX1 : u_T := fun k => match k with
  | 0 => ("UnitVectors$Reader", "totals", "[[J", true)
  | 1 => ("UnitVectors$Reader", "signs", "[I", true)
  | 2 => ("UnitVectors$Reader", "factor", "[J", true)
  | 3 => ("UnitVectors$Reader", "open", "I", false)
  | 4 => ("UnitVectors$Reader", "expected", "I", false)
  | 5 => ("UnitVectors$Reader", "powerSign", "I", false)
  | 6 => ("UnitVectors$Reader", "side", "I", false)
  | 7 => ("UnitVectors$Reader", "lacksEqual", "Z", false)
  | _ => ("UnitVectors$Reader", "place", "I", false)
def tyX1 : Nat → FieldType := fun k => match k with
  | 0 => .array (.array .long)
  | 1 => .array .int
  | 2 => .array .long
  | 3 => .int
  | 4 => .int
  | 5 => .int
  | 6 => .int
  | 7 => .boolean
  | _ => .int
abbrev wsX10 : List Cond := u_ws RX1 TX1 9
theorem nmX1 : ∀ a, a < 9 → ∀ b, b < 9 → a ≠ b → (TX1 a).2.1 ≠ (TX1 b).2.1 := by decide +kernel
theorem tyX1_ok : ∀ k, k < 9 → parseFieldDescriptor (TX1 k).2.2.1 = some (tyX1 k) := by decide +kernel
abbrev cX1_init : ByteArray := prog_3_method_1_code
def yX1_init : MethodName := ⟨RX1, "<init>", "()V"⟩
abbrev cX1_readAll : ByteArray := prog_3_method_2_code
def yX1_readAll : MethodName := ⟨RX1, "readAll", "([IIZ)I"⟩
abbrev cX1_start : ByteArray := prog_3_method_3_code
def yX1_start : MethodName := ⟨RX1, "start", "(Z)V"⟩
abbrev cX1_startTotal : ByteArray := prog_3_method_4_code
def yX1_startTotal : MethodName := ⟨RX1, "startTotal", "()V"⟩
abbrev cX1_end : ByteArray := prog_3_method_5_code
def yX1_end : MethodName := ⟨RX1, "end", "()I"⟩
abbrev cX1_take : ByteArray := prog_3_method_6_code
def yX1_take : MethodName := ⟨RX1, "take", "(I)I"⟩
abbrev cX1_takeAtom : ByteArray := prog_3_method_7_code
def yX1_takeAtom : MethodName := ⟨RX1, "takeAtom", "(I)I"⟩
abbrev cX1_takeOpening : ByteArray := prog_3_method_8_code
def yX1_takeOpening : MethodName := ⟨RX1, "takeOpening", "()I"⟩
abbrev cX1_takeFigure : ByteArray := prog_3_method_9_code
def yX1_takeFigure : MethodName := ⟨RX1, "takeFigure", "(I)I"⟩
abbrev cX1_takeJoint : ByteArray := prog_3_method_10_code
def yX1_takeJoint : MethodName := ⟨RX1, "takeJoint", "(I)I"⟩
abbrev cX1_joinNext : ByteArray := prog_3_method_11_code
def yX1_joinNext : MethodName := ⟨RX1, "joinNext", "(I)V"⟩
abbrev cX1_takeClosing : ByteArray := prog_3_method_12_code
def yX1_takeClosing : MethodName := ⟨RX1, "takeClosing", "()V"⟩
abbrev cX1_putFactor : ByteArray := prog_3_method_13_code
def yX1_putFactor : MethodName := ⟨RX1, "putFactor", "()V"⟩
def RX2 : String := "UnitVectors$Solutions"
def TX2 : u_T := fun k => match k with
  | 0 => ("UnitVectors$Solutions", "rows", "[[J", true)
  | 1 => ("UnitVectors$Solutions", "lowest", "[[J", true)
  | 2 => ("UnitVectors$Solutions", "gains", "[J", true)
  | 3 => ("UnitVectors$Solutions", "lacks", "[J", true)
  | 4 => ("UnitVectors$Solutions", "step", "[J", false)
  | 5 => ("UnitVectors$Solutions", "stepGain", "J", false)
  | _ => ("UnitVectors$Solutions", "count", "I", false)
def tyX2 : Nat → FieldType := fun k => match k with
  | 0 => .array (.array .long)
  | 1 => .array (.array .long)
  | 2 => .array .long
  | 3 => .array .long
  | 4 => .array .long
  | 5 => .long
  | _ => .int
abbrev wsX20 : List Cond := u_ws RX2 TX2 7
theorem nmX2 : ∀ a, a < 7 → ∀ b, b < 7 → a ≠ b → (TX2 a).2.1 ≠ (TX2 b).2.1 := by decide +kernel
theorem tyX2_ok : ∀ k, k < 7 → parseFieldDescriptor (TX2 k).2.2.1 = some (tyX2 k) := by decide +kernel
abbrev cX2_init : ByteArray := prog_4_method_1_code
def yX2_init : MethodName := ⟨RX2, "<init>", "()V"⟩
abbrev cX2_clear : ByteArray := prog_4_method_2_code
def yX2_clear : MethodName := ⟨RX2, "clear", "()V"⟩
abbrev cX2_isFixed : ByteArray := prog_4_method_3_code
def yX2_isFixed : MethodName := ⟨RX2, "isFixed", "(I)Z"⟩
abbrev cX2_powerOf : ByteArray := prog_4_method_4_code
def yX2_powerOf : MethodName := ⟨RX2, "powerOf", "([II)J"⟩
abbrev cX2_rise : ByteArray := prog_4_method_5_code
def yX2_rise : MethodName := ⟨RX2, "rise", "([II)J"⟩
abbrev cX2_imply : ByteArray := prog_4_method_6_code
def yX2_imply : MethodName := ⟨RX2, "imply", "([I)Z"⟩
abbrev cX2_agrees : ByteArray := prog_4_method_7_code
def yX2_agrees : MethodName := ⟨RX2, "agrees", "([I)Z"⟩
abbrev cX2_put : ByteArray := prog_4_method_8_code
def yX2_put : MethodName := ⟨RX2, "put", "([I)V"⟩
abbrev cX2_weigh : ByteArray := prog_4_method_9_code
def yX2_weigh : MethodName := ⟨RX2, "weigh", "([I)V"⟩
abbrev cX2_commonGain : ByteArray := prog_4_method_10_code
def yX2_commonGain : MethodName := ⟨RX2, "commonGain", "()J"⟩
abbrev cX2_lacksAreTimes : ByteArray := prog_4_method_11_code
def yX2_lacksAreTimes : MethodName := ⟨RX2, "lacksAreTimes", "(J)Z"⟩
abbrev cX2_divideToAndFro : ByteArray := prog_4_method_12_code
def yX2_divideToAndFro : MethodName := ⟨RX2, "divideToAndFro", "(I)V"⟩
abbrev cX2_reduce : ByteArray := prog_4_method_13_code
def yX2_reduce : MethodName := ⟨RX2, "reduce", "([JII)V"⟩
abbrev cX2_moveLowest : ByteArray := prog_4_method_14_code
def yX2_moveLowest : MethodName := ⟨RX2, "moveLowest", "(I)V"⟩
abbrev cX2_leaveOut : ByteArray := prog_4_method_15_code
def yX2_leaveOut : MethodName := ⟨RX2, "leaveOut", "(I)V"⟩
abbrev cX2_makeHeadPositive : ByteArray := prog_4_method_16_code
def yX2_makeHeadPositive : MethodName := ⟨RX2, "makeHeadPositive", "([J)V"⟩
abbrev cX2_headOf : ByteArray := prog_4_method_17_code
def yX2_headOf : MethodName := ⟨RX2, "headOf", "([J)I"⟩
abbrev cX2_addTimes : ByteArray := prog_4_method_18_code
def yX2_addTimes : MethodName := ⟨RX2, "addTimes", "([J[JJ)V"⟩
abbrev cX2_product : ByteArray := prog_4_method_19_code
def yX2_product : MethodName := ⟨RX2, "product", "([I[J)J"⟩
abbrev cX2_commonDivisor : ByteArray := prog_4_method_20_code
def yX2_commonDivisor : MethodName := ⟨RX2, "commonDivisor", "(JJ)J"⟩
def RX3 : String := "UnitVectors$State"
def TX3 : u_T := fun k => match k with
  | 0 => ("UnitVectors$State", "sayings", "[[I", true)
  | 1 => ("UnitVectors$State", "above", "[I", true)
  | 2 => ("UnitVectors$State", "below", "[I", true)
  | 3 => ("UnitVectors$State", "count", "I", false)
  | 4 => ("UnitVectors$State", "drawSeed", "I", false)
  | _ => ("UnitVectors$State", "isKept", "Z", false)
def tyX3 : Nat → FieldType := fun k => match k with
  | 0 => .array (.array .int)
  | 1 => .array .int
  | 2 => .array .int
  | 3 => .int
  | 4 => .int
  | _ => .boolean
abbrev wsX30 : List Cond := u_ws RX3 TX3 6
theorem nmX3 : ∀ a, a < 6 → ∀ b, b < 6 → a ≠ b → (TX3 a).2.1 ≠ (TX3 b).2.1 := by decide +kernel
theorem tyX3_ok : ∀ k, k < 6 → parseFieldDescriptor (TX3 k).2.2.1 = some (tyX3 k) := by decide +kernel
abbrev cX3_init : ByteArray := prog_5_method_1_code
def yX3_init : MethodName := ⟨RX3, "<init>", "()V"⟩
abbrev cX3_copyDeeds : ByteArray := prog_5_method_2_code
def yX3_copyDeeds : MethodName := ⟨RX3, "copyDeeds", "(LUnitVectors$State;)V"⟩
abbrev cX3_put : ByteArray := prog_5_method_3_code
def yX3_put : MethodName := ⟨RX3, "put", "([I)V"⟩
abbrev cX3_remove : ByteArray := prog_5_method_4_code
def yX3_remove : MethodName := ⟨RX3, "remove", "(I)V"⟩
abbrev cX3_countScaled : ByteArray := prog_5_method_5_code
def yX3_countScaled : MethodName := ⟨RX3, "countScaled", "()I"⟩
abbrev cX3_draw : ByteArray := prog_5_method_6_code
def yX3_draw : MethodName := ⟨RX3, "draw", "(I)I"⟩
def RX4 : String := "UnitVectors"
def TX4 : u_T := fun k => match k with
  | 0 => ("UnitVectors", "text", "[I", true)
  | 1 => ("UnitVectors", "letters", "I", false)
  | 2 => ("UnitVectors", "faultPlace", "I", false)
  | 3 => ("UnitVectors", "reader", "LUnitVectors$Reader;", true)
  | 4 => ("UnitVectors", "read", "[I", true)
  | 5 => ("UnitVectors", "now", "LUnitVectors$State;", true)
  | 6 => ("UnitVectors", "images", "[LUnitVectors$State;", true)
  | 7 => ("UnitVectors", "past", "LUnitVectors$Past;", true)
  | 8 => ("UnitVectors", "solutions", "LUnitVectors$Solutions;", true)
  | _ => ("UnitVectors", "others", "LUnitVectors$Solutions;", true)
def tyX4 : Nat → FieldType := fun k => match k with
  | 0 => .array .int
  | 1 => .int
  | 2 => .int
  | 3 => .object "UnitVectors$Reader"
  | 4 => .array .int
  | 5 => .object "UnitVectors$State"
  | 6 => .array (.object "UnitVectors$State")
  | 7 => .object "UnitVectors$Past"
  | 8 => .object "UnitVectors$Solutions"
  | _ => .object "UnitVectors$Solutions"
abbrev wsX40 : List Cond := u_ws RX4 TX4 10
theorem nmX4 : ∀ a, a < 10 → ∀ b, b < 10 → a ≠ b → (TX4 a).2.1 ≠ (TX4 b).2.1 := by decide +kernel
theorem tyX4_ok : ∀ k, k < 10 → parseFieldDescriptor (TX4 k).2.2.1 = some (tyX4 k) := by decide +kernel
abbrev cX4_init : ByteArray := prog_1_method_1_code
def yX4_init : MethodName := ⟨RX4, "<init>", "()V"⟩
abbrev cX4_feed : ByteArray := prog_1_method_2_code
def yX4_feed : MethodName := ⟨RX4, "feed", "(I)I"⟩
abbrev cX4_wipe : ByteArray := prog_1_method_3_code
def yX4_wipe : MethodName := ⟨RX4, "wipe", "()I"⟩
abbrev cX4_fault : ByteArray := prog_1_method_4_code
def yX4_fault : MethodName := ⟨RX4, "fault", "()I"⟩
abbrev cX4_told : ByteArray := prog_1_method_5_code
def yX4_told : MethodName := ⟨RX4, "told", "(I)I"⟩
abbrev cX4_say : ByteArray := prog_1_method_6_code
def yX4_say : MethodName := ⟨RX4, "say", "()I"⟩
abbrev cX4_back : ByteArray := prog_1_method_7_code
def yX4_back : MethodName := ⟨RX4, "back", "(I)I"⟩
abbrev cX4_scale : ByteArray := prog_1_method_8_code
def yX4_scale : MethodName := ⟨RX4, "scale", "(III)I"⟩
abbrev cX4_drift : ByteArray := prog_1_method_9_code
def yX4_drift : MethodName := ⟨RX4, "drift", "(I)I"⟩
abbrev cX4_undo : ByteArray := prog_1_method_10_code
def yX4_undo : MethodName := ⟨RX4, "undo", "(I)I"⟩
abbrev cX4_saying : ByteArray := prog_1_method_11_code
def yX4_saying : MethodName := ⟨RX4, "saying", "(II)I"⟩
abbrev cX4_free : ByteArray := prog_1_method_12_code
def yX4_free : MethodName := ⟨RX4, "free", "(II)J"⟩
abbrev cX4_least : ByteArray := prog_1_method_13_code
def yX4_least : MethodName := ⟨RX4, "least", "(II)J"⟩
abbrev cX4_isTold : ByteArray := prog_1_method_14_code
def yX4_isTold : MethodName := ⟨RX4, "isTold", "(I)I"⟩
abbrev cX4_follows : ByteArray := prog_1_method_15_code
def yX4_follows : MethodName := ⟨RX4, "follows", "()I"⟩
abbrev cX4_couldBe : ByteArray := prog_1_method_16_code
def yX4_couldBe : MethodName := ⟨RX4, "couldBe", "()I"⟩
abbrev cX4_measured : ByteArray := prog_1_method_17_code
def yX4_measured : MethodName := ⟨RX4, "measured", "(I)J"⟩
abbrev cX4_converted : ByteArray := prog_1_method_18_code
def yX4_converted : MethodName := ⟨RX4, "converted", "(II)J"⟩
abbrev cX4_seed : ByteArray := prog_1_method_19_code
def yX4_seed : MethodName := ⟨RX4, "seed", "(I)I"⟩
abbrev cX4_keep : ByteArray := prog_1_method_20_code
def yX4_keep : MethodName := ⟨RX4, "keep", "(I)I"⟩
abbrev cX4_goBack : ByteArray := prog_1_method_21_code
def yX4_goBack : MethodName := ⟨RX4, "goBack", "(I)I"⟩
abbrev cX4_readText : ByteArray := prog_1_method_22_code
def yX4_readText : MethodName := ⟨RX4, "readText", "(Z)I"⟩
abbrev cX4_putSaying : ByteArray := prog_1_method_23_code
def yX4_putSaying : MethodName := ⟨RX4, "putSaying", "()V"⟩
abbrev cX4_solveAnew : ByteArray := prog_1_method_24_code
def yX4_solveAnew : MethodName := ⟨RX4, "solveAnew", "()V"⟩
abbrev cX4_driftOnce : ByteArray := prog_1_method_25_code
def yX4_driftOnce : MethodName := ⟨RX4, "driftOnce", "()V"⟩
abbrev cX4_countFixed : ByteArray := prog_1_method_26_code
def yX4_countFixed : MethodName := ⟨RX4, "countFixed", "()I"⟩
abbrev cX4_countSpare : ByteArray := prog_1_method_27_code
def yX4_countSpare : MethodName := ⟨RX4, "countSpare", "()I"⟩
abbrev cX4_isSpare : ByteArray := prog_1_method_28_code
def yX4_isSpare : MethodName := ⟨RX4, "isSpare", "(I)Z"⟩
abbrev cX4_neededSet : ByteArray := prog_1_method_29_code
def yX4_neededSet : MethodName := ⟨RX4, "neededSet", "()I"⟩
abbrev cX4_canConvert : ByteArray := prog_1_method_30_code
def yX4_canConvert : MethodName := ⟨RX4, "canConvert", "()Z"⟩
abbrev cX4_scaleProduct : ByteArray := prog_1_method_31_code
def yX4_scaleProduct : MethodName := ⟨RX4, "scaleProduct", "(Z)J"⟩
abbrev cX4_whole : ByteArray := prog_1_method_32_code
def yX4_whole : MethodName := ⟨RX4, "whole", "(JJI)J"⟩
def RX5 : String := "UnitVectorsModel"
def TX5 : u_T := fun k => match k with
  | 0 => ("UnitVectorsModel", "text", "[I", true)
  | 1 => ("UnitVectorsModel", "length", "I", false)
  | 2 => ("UnitVectorsModel", "faultAt", "I", false)
  | 3 => ("UnitVectorsModel", "st", "[I", true)
  | 4 => ("UnitVectorsModel", "deeds", "[I", true)
  | 5 => ("UnitVectorsModel", "deedsMany", "I", false)
  | 6 => ("UnitVectorsModel", "seed", "J", false)
  | 7 => ("UnitVectorsModel", "images", "[I", true)
  | 8 => ("UnitVectorsModel", "seeds", "[J", true)
  | 9 => ("UnitVectorsModel", "isKept", "[Z", true)
  | 10 => ("UnitVectorsModel", "place", "I", false)
  | 11 => ("UnitVectorsModel", "wrong", "I", false)
  | 12 => ("UnitVectorsModel", "depth", "I", false)
  | 13 => ("UnitVectorsModel", "sums", "[I", true)
  | 14 => ("UnitVectorsModel", "ways", "[I", true)
  | 15 => ("UnitVectorsModel", "factor", "[I", true)
  | 16 => ("UnitVectorsModel", "powers", "[I", true)
  | 17 => ("UnitVectorsModel", "rows", "[J", true)
  | 18 => ("UnitVectorsModel", "free", "I", false)
  | 19 => ("UnitVectorsModel", "choice", "[J", true)
  | _ => ("UnitVectorsModel", "over", "[J", true)
def tyX5 : Nat → FieldType := fun k => match k with
  | 0 => .array .int
  | 1 => .int
  | 2 => .int
  | 3 => .array .int
  | 4 => .array .int
  | 5 => .int
  | 6 => .long
  | 7 => .array .int
  | 8 => .array .long
  | 9 => .array .boolean
  | 10 => .int
  | 11 => .int
  | 12 => .int
  | 13 => .array .int
  | 14 => .array .int
  | 15 => .array .int
  | 16 => .array .int
  | 17 => .array .long
  | 18 => .int
  | 19 => .array .long
  | _ => .array .long
abbrev wsX50 : List Cond := u_ws RX5 TX5 21
theorem nmX5 : ∀ a, a < 21 → ∀ b, b < 21 → a ≠ b → (TX5 a).2.1 ≠ (TX5 b).2.1 := by decide +kernel
theorem tyX5_ok : ∀ k, k < 21 → parseFieldDescriptor (TX5 k).2.2.1 = some (tyX5 k) := by decide +kernel
abbrev cX5_init : ByteArray := prog_7_method_1_code
def yX5_init : MethodName := ⟨RX5, "<init>", "()V"⟩
abbrev cX5_in : ByteArray := prog_7_method_3_code
def yX5_in : MethodName := ⟨RX5, "in", "(III)Z"⟩
abbrev cX5_has : ByteArray := prog_7_method_4_code
def yX5_has : MethodName := ⟨RX5, "has", "(II)Z"⟩
abbrev cX5_bits : ByteArray := prog_7_method_5_code
def yX5_bits : MethodName := ⟨RX5, "bits", "(I)I"⟩
abbrev cX5_bring : ByteArray := prog_7_method_6_code
def yX5_bring : MethodName := ⟨RX5, "bring", "([II[III)V"⟩
abbrev cX5_feed : ByteArray := prog_7_method_7_code
def yX5_feed : MethodName := ⟨RX5, "feed", "(I)I"⟩
abbrev cX5_wipe : ByteArray := prog_7_method_8_code
def yX5_wipe : MethodName := ⟨RX5, "wipe", "()I"⟩
abbrev cX5_fault : ByteArray := prog_7_method_9_code
def yX5_fault : MethodName := ⟨RX5, "fault", "()I"⟩
abbrev cX5_here : ByteArray := prog_7_method_10_code
def yX5_here : MethodName := ⟨RX5, "here", "()I"⟩
abbrev cX5_fails : ByteArray := prog_7_method_11_code
def yX5_fails : MethodName := ⟨RX5, "fails", "(I)V"⟩
abbrev cX5_opens : ByteArray := prog_7_method_12_code
def yX5_opens : MethodName := ⟨RX5, "opens", "(I)V"⟩
abbrev cX5_readsLetter : ByteArray := prog_7_method_13_code
def yX5_readsLetter : MethodName := ⟨RX5, "readsLetter", "()Z"⟩
abbrev cX5_readsPower : ByteArray := prog_7_method_14_code
def yX5_readsPower : MethodName := ⟨RX5, "readsPower", "()V"⟩
abbrev cX5_counts : ByteArray := prog_7_method_15_code
def yX5_counts : MethodName := ⟨RX5, "counts", "()V"⟩
abbrev cX5_closes : ByteArray := prog_7_method_16_code
def yX5_closes : MethodName := ⟨RX5, "closes", "()V"⟩
abbrev cX5_readsSide : ByteArray := prog_7_method_17_code
def yX5_readsSide : MethodName := ⟨RX5, "readsSide", "()I"⟩
abbrev cX5_reads : ByteArray := prog_7_method_18_code
def yX5_reads : MethodName := ⟨RX5, "reads", "(Z)I"⟩
abbrev cX5_startsFree : ByteArray := prog_7_method_19_code
def yX5_startsFree : MethodName := ⟨RX5, "startsFree", "()V"⟩
abbrev cX5_takes : ByteArray := prog_7_method_20_code
def yX5_takes : MethodName := ⟨RX5, "takes", "(IIJ)V"⟩
abbrev cX5_swaps : ByteArray := prog_7_method_21_code
def yX5_swaps : MethodName := ⟨RX5, "swaps", "(II)V"⟩
abbrev cX5_floor : ByteArray := prog_7_method_22_code
def yX5_floor : MethodName := ⟨RX5, "floor", "(JJ)J"⟩
abbrev cX5_gathers : ByteArray := prog_7_method_23_code
def yX5_gathers : MethodName := ⟨RX5, "gathers", "(II)Z"⟩
abbrev cX5_sizeOf : ByteArray := prog_7_method_24_code
def yX5_sizeOf : MethodName := ⟨RX5, "sizeOf", "(J)J"⟩
abbrev cX5_sumOf : ByteArray := prog_7_method_25_code
def yX5_sumOf : MethodName := ⟨RX5, "sumOf", "([III)J"⟩
abbrev cX5_restOf : ByteArray := prog_7_method_26_code
def yX5_restOf : MethodName := ⟨RX5, "restOf", "([III)J"⟩
abbrev cX5_adds : ByteArray := prog_7_method_27_code
def yX5_adds : MethodName := ⟨RX5, "adds", "([II)Z"⟩
abbrev cX5_headOf : ByteArray := prog_7_method_28_code
def yX5_headOf : MethodName := ⟨RX5, "headOf", "(I)I"⟩
abbrev cX5_orders : ByteArray := prog_7_method_29_code
def yX5_orders : MethodName := ⟨RX5, "orders", "()V"⟩
abbrev cX5_solves : ByteArray := prog_7_method_30_code
def yX5_solves : MethodName := ⟨RX5, "solves", "(I)V"⟩
abbrev cX5_allOf : ByteArray := prog_7_method_31_code
def yX5_allOf : MethodName := ⟨RX5, "allOf", "()I"⟩
abbrev cX5_isTrue : ByteArray := prog_7_method_32_code
def yX5_isTrue : MethodName := ⟨RX5, "isTrue", "([II)Z"⟩
abbrev cX5_isSpare : ByteArray := prog_7_method_33_code
def yX5_isSpare : MethodName := ⟨RX5, "isSpare", "(I)Z"⟩
abbrev cX5_spareMany : ByteArray := prog_7_method_34_code
def yX5_spareMany : MethodName := ⟨RX5, "spareMany", "()I"⟩
abbrev cX5_fewestOf : ByteArray := prog_7_method_35_code
def yX5_fewestOf : MethodName := ⟨RX5, "fewestOf", "()I"⟩
abbrev cX5_isSure : ByteArray := prog_7_method_36_code
def yX5_isSure : MethodName := ⟨RX5, "isSure", "(I)Z"⟩
abbrev cX5_toldMany : ByteArray := prog_7_method_37_code
def yX5_toldMany : MethodName := ⟨RX5, "toldMany", "()I"⟩
abbrev cX5_told : ByteArray := prog_7_method_38_code
def yX5_told : MethodName := ⟨RX5, "told", "(I)I"⟩
abbrev cX5_notes : ByteArray := prog_7_method_39_code
def yX5_notes : MethodName := ⟨RX5, "notes", "()V"⟩
abbrev cX5_mayBe : ByteArray := prog_7_method_40_code
def yX5_mayBe : MethodName := ⟨RX5, "mayBe", "()Z"⟩
abbrev cX5_says : ByteArray := prog_7_method_41_code
def yX5_says : MethodName := ⟨RX5, "says", "()V"⟩
abbrev cX5_say : ByteArray := prog_7_method_42_code
def yX5_say : MethodName := ⟨RX5, "say", "()I"⟩
abbrev cX5_back : ByteArray := prog_7_method_43_code
def yX5_back : MethodName := ⟨RX5, "back", "(I)I"⟩
abbrev cX5_isBase : ByteArray := prog_7_method_44_code
def yX5_isBase : MethodName := ⟨RX5, "isBase", "(I)Z"⟩
abbrev cX5_scale : ByteArray := prog_7_method_45_code
def yX5_scale : MethodName := ⟨RX5, "scale", "(III)I"⟩
abbrev cX5_draw : ByteArray := prog_7_method_46_code
def yX5_draw : MethodName := ⟨RX5, "draw", "(I)I"⟩
abbrev cX5_drawn : ByteArray := prog_7_method_47_code
def yX5_drawn : MethodName := ⟨RX5, "drawn", "()V"⟩
abbrev cX5_drift : ByteArray := prog_7_method_48_code
def yX5_drift : MethodName := ⟨RX5, "drift", "(I)I"⟩
abbrev cX5_undo : ByteArray := prog_7_method_49_code
def yX5_undo : MethodName := ⟨RX5, "undo", "(I)I"⟩
abbrev cX5_saying : ByteArray := prog_7_method_50_code
def yX5_saying : MethodName := ⟨RX5, "saying", "(II)I"⟩
abbrev cX5_free : ByteArray := prog_7_method_51_code
def yX5_free : MethodName := ⟨RX5, "free", "(II)J"⟩
abbrev cX5_isUnknown : ByteArray := prog_7_method_52_code
def yX5_isUnknown : MethodName := ⟨RX5, "isUnknown", "(I)Z"⟩
abbrev cX5_least : ByteArray := prog_7_method_53_code
def yX5_least : MethodName := ⟨RX5, "least", "(II)J"⟩
abbrev cX5_isTold : ByteArray := prog_7_method_54_code
def yX5_isTold : MethodName := ⟨RX5, "isTold", "(I)I"⟩
abbrev cX5_follows : ByteArray := prog_7_method_55_code
def yX5_follows : MethodName := ⟨RX5, "follows", "()I"⟩
abbrev cX5_couldBe : ByteArray := prog_7_method_56_code
def yX5_couldBe : MethodName := ⟨RX5, "couldBe", "()I"⟩
abbrev cX5_measured : ByteArray := prog_7_method_57_code
def yX5_measured : MethodName := ⟨RX5, "measured", "(I)J"⟩
abbrev cX5_madeWhole : ByteArray := prog_7_method_58_code
def yX5_madeWhole : MethodName := ⟨RX5, "madeWhole", "(JJI)J"⟩
abbrev cX5_converted : ByteArray := prog_7_method_59_code
def yX5_converted : MethodName := ⟨RX5, "converted", "(II)J"⟩
abbrev cX5_seed : ByteArray := prog_7_method_60_code
def yX5_seed : MethodName := ⟨RX5, "seed", "(I)I"⟩
abbrev cX5_keep : ByteArray := prog_7_method_61_code
def yX5_keep : MethodName := ⟨RX5, "keep", "(I)I"⟩
abbrev cX5_goBack : ByteArray := prog_7_method_62_code
def yX5_goBack : MethodName := ⟨RX5, "goBack", "(I)I"⟩
def RJ6 : String := "java/lang/Integer"
def TJ6 : u_T := fun k => match k with
  | _ => ("", "", "", false)
def tyJ6 : Nat → FieldType := fun k => match k with
  | _ => .int
abbrev wsJ60 : List Cond := u_ws RJ6 TJ6 0
theorem nmJ6 : ∀ a, a < 0 → ∀ b, b < 0 → a ≠ b → (TJ6 a).2.1 ≠ (TJ6 b).2.1 := by decide +kernel
theorem tyJ6_ok : ∀ k, k < 0 → parseFieldDescriptor (TJ6 k).2.2.1 = some (tyJ6 k) := by decide +kernel
abbrev cJ6_bitCount_0f7a4 : ByteArray := prog_8_method_49_code
def yJ6_bitCount_0f7a4 : MethodName := ⟨RJ6, "bitCount", "(I)I"⟩
def RJ9 : String := "java/lang/Math"
def TJ9 : u_T := fun k => match k with
  | _ => ("", "", "", false)
def tyJ9 : Nat → FieldType := fun k => match k with
  | _ => .int
abbrev wsJ90 : List Cond := u_ws RJ9 TJ9 0
theorem nmJ9 : ∀ a, a < 0 → ∀ b, b < 0 → a ≠ b → (TJ9 a).2.1 ≠ (TJ9 b).2.1 := by decide +kernel
theorem tyJ9_ok : ∀ k, k < 0 → parseFieldDescriptor (TJ9 k).2.2.1 = some (tyJ9 k) := by decide +kernel
abbrev cJ9_floorDiv_f86c9 : ByteArray := prog_9_method_49_code
def yJ9_floorDiv_f86c9 : MethodName := ⟨RJ9, "floorDiv", "(JJ)J"⟩
abbrev cJ9_floorMod_7cf53 : ByteArray := prog_9_method_50_code
def yJ9_floorMod_7cf53 : MethodName := ⟨RJ9, "floorMod", "(II)I"⟩
abbrev cJ9_abs_0f7a4 : ByteArray := prog_9_method_59_code
def yJ9_abs_0f7a4 : MethodName := ⟨RJ9, "abs", "(I)I"⟩
abbrev cJ9_abs_067f4 : ByteArray := prog_9_method_61_code
def yJ9_abs_067f4 : MethodName := ⟨RJ9, "abs", "(J)J"⟩
def RJ10 : String := "java/lang/System"
def TJ10 : u_T := fun k => match k with
  | _ => ("", "", "", false)
def tyJ10 : Nat → FieldType := fun k => match k with
  | _ => .int
abbrev wsJ100 : List Cond := u_ws RJ10 TJ10 0
theorem nmJ10 : ∀ a, a < 0 → ∀ b, b < 0 → a ≠ b → (TJ10 a).2.1 ≠ (TJ10 b).2.1 := by decide +kernel
theorem tyJ10_ok : ∀ k, k < 0 → parseFieldDescriptor (TJ10 k).2.2.1 = some (tyJ10 k) := by decide +kernel
def RJ7 : String := "java/util/Arrays"
def TJ7 : u_T := fun k => match k with
  | _ => ("", "", "", false)
def tyJ7 : Nat → FieldType := fun k => match k with
  | _ => .int
abbrev wsJ70 : List Cond := u_ws RJ7 TJ7 0
theorem nmJ7 : ∀ a, a < 0 → ∀ b, b < 0 → a ≠ b → (TJ7 a).2.1 ≠ (TJ7 b).2.1 := by decide +kernel
theorem tyJ7_ok : ∀ k, k < 0 → parseFieldDescriptor (TJ7 k).2.2.1 = some (tyJ7 k) := by decide +kernel
abbrev cJ7_fill_d0a16 : ByteArray := prog_11_method_101_code
def yJ7_fill_d0a16 : MethodName := ⟨RJ7, "fill", "([JJ)V"⟩
abbrev cJ7_fill_53178 : ByteArray := prog_11_method_103_code
def yJ7_fill_53178 : MethodName := ⟨RJ7, "fill", "([II)V"⟩
def RL : String := "UnitVectorsLaw"
abbrev cL_law : ByteArray := code
def yL_law : MethodName := ⟨RL, "law", "([I)Z"⟩
def wsJ7_fill_53178 : List Cond := .code yJ7_fill_53178 cJ7_fill_53178 4 none :: ([])
def wsX3_init : List Cond := .code yX3_init cX3_init 1 none :: ([.methodLink RX3 3 objectInit, .instanceMethod objectInit, .code objectInit ⟨#[0xb1]⟩ 1 none, .classLink RX3 9 "[[I", .arrayClass .int, .fieldLink RX3 11 "UnitVectors$State" "sayings" "[[I", .fieldLink RX3 16 "UnitVectors$State" "above" "[I", .fieldLink RX3 20 "UnitVectors$State" "below" "[I", .methodLink RX3 23 yJ7_fill_53178, .static yJ7_fill_53178, .initialized RJ7, .code yJ7_fill_53178 cJ7_fill_53178 4 none] ++ wsX30)
def wsX0_init : List Cond := .code yX0_init cX0_init 2 none :: ([.methodLink RX0 3 objectInit, .instanceMethod objectInit, .code objectInit ⟨#[0xb1]⟩ 1 none, .classLink RX0 9 RX3, .fieldLink RX0 11 "UnitVectors$Past" "ahead" "[LUnitVectors$State;", .instantiable RX3 6, .initialized RX3, .methodLink RX0 17 yX3_init, .instanceMethod yX3_init, .code yX3_init cX3_init 1 none, .methodLink RX3 3 objectInit, .classLink RX3 9 "[[I", .arrayClass .int, .fieldLink RX3 11 "UnitVectors$State" "sayings" "[[I", .fieldLink RX3 16 "UnitVectors$State" "above" "[I", .fieldLink RX3 20 "UnitVectors$State" "below" "[I", .methodLink RX3 23 yJ7_fill_53178, .static yJ7_fill_53178, .initialized RJ7, .code yJ7_fill_53178 cJ7_fill_53178 4 none] ++ wsX00 ++ wsX30)
def wsX3_copyDeeds : List Cond := .code yX3_copyDeeds cX3_copyDeeds 3 none :: ([.fieldLink RX3 29 "UnitVectors$State" "count" "I", .fieldLink RX3 11 "UnitVectors$State" "sayings" "[[I", .methodLink RX3 33 arraycopyName, .native arraycopyName, .static arraycopyName, .initialized "java/lang/System", .fieldLink RX3 16 "UnitVectors$State" "above" "[I", .fieldLink RX3 20 "UnitVectors$State" "below" "[I"] ++ wsX30)
def wsX0_note : List Cond := .code yX0_note cX0_note 2 none :: ([.fieldLink RX0 11 "UnitVectors$Past" "ahead" "[LUnitVectors$State;", .fieldLink RX0 18 "UnitVectors$Past" "next" "I", .fieldLink RX0 26 "UnitVectors$Past" "count" "I", .methodLink RX0 22 yX3_copyDeeds, .instanceMethod yX3_copyDeeds, .selects RX3 yX3_copyDeeds yX3_copyDeeds, .initialized RX3, .code yX3_copyDeeds cX3_copyDeeds 3 none, .fieldLink RX3 29 "UnitVectors$State" "count" "I", .fieldLink RX3 11 "UnitVectors$State" "sayings" "[[I", .methodLink RX3 33 arraycopyName, .native arraycopyName, .static arraycopyName, .initialized "java/lang/System", .fieldLink RX3 16 "UnitVectors$State" "above" "[I", .fieldLink RX3 20 "UnitVectors$State" "below" "[I"] ++ wsX00 ++ wsX30)
def wsJ9_floorMod_7cf53 : List Cond := .code yJ9_floorMod_7cf53 cJ9_floorMod_7cf53 3 (some .int) :: ([])
def wsX0_restore : List Cond := .code yX0_restore cX0_restore 3 none :: ([.fieldLink RX0 18 "UnitVectors$Past" "next" "I", .fieldLink RX0 26 "UnitVectors$Past" "count" "I", .fieldLink RX0 11 "UnitVectors$Past" "ahead" "[LUnitVectors$State;", .methodLink RX0 29 yJ9_floorMod_7cf53, .static yJ9_floorMod_7cf53, .initialized RJ9, .code yJ9_floorMod_7cf53 cJ9_floorMod_7cf53 3 (some .int), .methodLink RX0 22 yX3_copyDeeds, .instanceMethod yX3_copyDeeds, .selects RX3 yX3_copyDeeds yX3_copyDeeds, .initialized RX3, .code yX3_copyDeeds cX3_copyDeeds 3 none, .fieldLink RX3 29 "UnitVectors$State" "count" "I", .fieldLink RX3 11 "UnitVectors$State" "sayings" "[[I", .methodLink RX3 33 arraycopyName, .native arraycopyName, .static arraycopyName, .initialized "java/lang/System", .fieldLink RX3 16 "UnitVectors$State" "above" "[I", .fieldLink RX3 20 "UnitVectors$State" "below" "[I"] ++ wsX00 ++ wsX30)
def wsX0_forget : List Cond := .code yX0_forget cX0_forget 1 none :: ([.fieldLink RX0 26 "UnitVectors$Past" "count" "I"] ++ wsX00)
def wsX1_init : List Cond := .code yX1_init cX1_init 1 none :: ([.methodLink RX1 3 objectInit, .instanceMethod objectInit, .code objectInit ⟨#[0xb1]⟩ 1 none, .classLink RX1 11 "[[J", .arrayClass .long, .fieldLink RX1 13 "UnitVectors$Reader" "totals" "[[J", .arrayClass .int, .fieldLink RX1 16 "UnitVectors$Reader" "signs" "[I", .fieldLink RX1 20 "UnitVectors$Reader" "factor" "[J", .fieldLink RX1 24 "UnitVectors$Reader" "place" "I"] ++ wsX10)
def wsX1_startTotal : List Cond := .code yX1_startTotal cX1_startTotal 2 none :: ([.fieldLink RX1 13 "UnitVectors$Reader" "totals" "[[J", .fieldLink RX1 40 "UnitVectors$Reader" "open" "I", .fieldLink RX1 16 "UnitVectors$Reader" "signs" "[I", .fieldLink RX1 53 "UnitVectors$Reader" "expected" "I"] ++ wsX10)
def wsX1_start : List Cond := .code yX1_start cX1_start 2 none :: ([.fieldLink RX1 40 "UnitVectors$Reader" "open" "I", .fieldLink RX1 43 "UnitVectors$Reader" "side" "I", .fieldLink RX1 46 "UnitVectors$Reader" "lacksEqual" "Z", .methodLink RX1 50 yX1_startTotal, .instanceMethod yX1_startTotal, .selects RX1 yX1_startTotal yX1_startTotal, .initialized RX1, .code yX1_startTotal cX1_startTotal 2 none, .fieldLink RX1 13 "UnitVectors$Reader" "totals" "[[J", .fieldLink RX1 16 "UnitVectors$Reader" "signs" "[I", .fieldLink RX1 53 "UnitVectors$Reader" "expected" "I"] ++ wsX10)
def wsX1_takeOpening : List Cond := .code yX1_takeOpening cX1_takeOpening 1 (some .int) :: ([.fieldLink RX1 40 "UnitVectors$Reader" "open" "I", .methodLink RX1 50 yX1_startTotal, .instanceMethod yX1_startTotal, .selects RX1 yX1_startTotal yX1_startTotal, .initialized RX1, .code yX1_startTotal cX1_startTotal 2 none, .fieldLink RX1 13 "UnitVectors$Reader" "totals" "[[J", .fieldLink RX1 16 "UnitVectors$Reader" "signs" "[I", .fieldLink RX1 53 "UnitVectors$Reader" "expected" "I"] ++ wsX10)
def wsJ7_fill_d0a16 : List Cond := .code yJ7_fill_d0a16 cJ7_fill_d0a16 5 none :: ([])
def wsX1_takeAtom : List Cond := .code yX1_takeAtom cX1_takeAtom 2 (some .int) :: ([.fieldLink RX1 20 "UnitVectors$Reader" "factor" "[J", .fieldLink RX1 53 "UnitVectors$Reader" "expected" "I", .methodLink RX1 79 yX1_takeOpening, .instanceMethod yX1_takeOpening, .selects RX1 yX1_takeOpening yX1_takeOpening, .initialized RX1, .code yX1_takeOpening cX1_takeOpening 1 (some .int), .fieldLink RX1 40 "UnitVectors$Reader" "open" "I", .methodLink RX1 50 yX1_startTotal, .instanceMethod yX1_startTotal, .selects RX1 yX1_startTotal yX1_startTotal, .code yX1_startTotal cX1_startTotal 2 none, .fieldLink RX1 13 "UnitVectors$Reader" "totals" "[[J", .fieldLink RX1 16 "UnitVectors$Reader" "signs" "[I", .methodLink RX1 82 yJ7_fill_d0a16, .static yJ7_fill_d0a16, .initialized RJ7, .code yJ7_fill_d0a16 cJ7_fill_d0a16 5 none] ++ wsX10)
def wsX1_putFactor : List Cond := .code yX1_putFactor cX1_putFactor 2 none :: ([.fieldLink RX1 13 "UnitVectors$Reader" "totals" "[[J", .fieldLink RX1 40 "UnitVectors$Reader" "open" "I", .fieldLink RX1 16 "UnitVectors$Reader" "signs" "[I", .fieldLink RX1 20 "UnitVectors$Reader" "factor" "[J"] ++ wsX10)
def wsX1_joinNext : List Cond := .code yX1_joinNext cX1_joinNext 2 none :: ([.fieldLink RX1 16 "UnitVectors$Reader" "signs" "[I", .fieldLink RX1 40 "UnitVectors$Reader" "open" "I", .fieldLink RX1 53 "UnitVectors$Reader" "expected" "I", .methodLink RX1 56 yX1_putFactor, .instanceMethod yX1_putFactor, .selects RX1 yX1_putFactor yX1_putFactor, .initialized RX1, .code yX1_putFactor cX1_putFactor 2 none, .fieldLink RX1 13 "UnitVectors$Reader" "totals" "[[J", .fieldLink RX1 20 "UnitVectors$Reader" "factor" "[J"] ++ wsX10)
def wsX1_takeClosing : List Cond := .code yX1_takeClosing cX1_takeClosing 1 none :: ([.fieldLink RX1 13 "UnitVectors$Reader" "totals" "[[J", .fieldLink RX1 40 "UnitVectors$Reader" "open" "I", .fieldLink RX1 20 "UnitVectors$Reader" "factor" "[J", .methodLink RX1 95 arraycopyName, .native arraycopyName, .static arraycopyName, .initialized "java/lang/System", .fieldLink RX1 53 "UnitVectors$Reader" "expected" "I", .methodLink RX1 56 yX1_putFactor, .instanceMethod yX1_putFactor, .selects RX1 yX1_putFactor yX1_putFactor, .initialized RX1, .code yX1_putFactor cX1_putFactor 2 none, .fieldLink RX1 16 "UnitVectors$Reader" "signs" "[I"] ++ wsX10)
def wsX1_takeJoint : List Cond := .code yX1_takeJoint cX1_takeJoint 3 (some .int) :: ([.fieldLink RX1 40 "UnitVectors$Reader" "open" "I", .fieldLink RX1 43 "UnitVectors$Reader" "side" "I", .fieldLink RX1 46 "UnitVectors$Reader" "lacksEqual" "Z", .methodLink RX1 88 yX1_joinNext, .instanceMethod yX1_joinNext, .selects RX1 yX1_joinNext yX1_joinNext, .initialized RX1, .code yX1_joinNext cX1_joinNext 2 none, .fieldLink RX1 16 "UnitVectors$Reader" "signs" "[I", .fieldLink RX1 53 "UnitVectors$Reader" "expected" "I", .methodLink RX1 56 yX1_putFactor, .instanceMethod yX1_putFactor, .selects RX1 yX1_putFactor yX1_putFactor, .code yX1_putFactor cX1_putFactor 2 none, .fieldLink RX1 13 "UnitVectors$Reader" "totals" "[[J", .fieldLink RX1 20 "UnitVectors$Reader" "factor" "[J", .methodLink RX1 92 yX1_takeClosing, .instanceMethod yX1_takeClosing, .selects RX1 yX1_takeClosing yX1_takeClosing, .code yX1_takeClosing cX1_takeClosing 1 none, .methodLink RX1 95 arraycopyName, .native arraycopyName, .static arraycopyName, .initialized "java/lang/System"] ++ wsX10)
def wsX1_takeFigure : List Cond := .code yX1_takeFigure cX1_takeFigure 3 (some .int) :: ([.fieldLink RX1 20 "UnitVectors$Reader" "factor" "[J", .fieldLink RX1 70 "UnitVectors$Reader" "powerSign" "I", .fieldLink RX1 53 "UnitVectors$Reader" "expected" "I"] ++ wsX10)
def wsX1_take_r1 : List Cond := [Cond.fieldLink RX1 53 "UnitVectors$Reader" "expected" "I", Cond.fieldLink RX1 70 "UnitVectors$Reader" "powerSign" "I", Cond.methodLink RX1 67 yX1_takeAtom, Cond.instanceMethod yX1_takeAtom, Cond.selects RX1 yX1_takeAtom yX1_takeAtom, Cond.initialized RX1, Cond.code yX1_takeAtom cX1_takeAtom 2 (some .int), Cond.fieldLink RX1 20 "UnitVectors$Reader" "factor" "[J", Cond.methodLink RX1 79 yX1_takeOpening, Cond.instanceMethod yX1_takeOpening, Cond.selects RX1 yX1_takeOpening yX1_takeOpening, Cond.code yX1_takeOpening cX1_takeOpening 1 (some .int), Cond.fieldLink RX1 40 "UnitVectors$Reader" "open" "I", Cond.methodLink RX1 50 yX1_startTotal, Cond.instanceMethod yX1_startTotal, Cond.selects RX1 yX1_startTotal yX1_startTotal, Cond.code yX1_startTotal cX1_startTotal 2 none, Cond.fieldLink RX1 13 "UnitVectors$Reader" "totals" "[[J", Cond.fieldLink RX1 16 "UnitVectors$Reader" "signs" "[I", Cond.methodLink RX1 82 yJ7_fill_d0a16, Cond.static yJ7_fill_d0a16, Cond.initialized RJ7, Cond.code yJ7_fill_d0a16 cJ7_fill_d0a16 5 none, Cond.methodLink RX1 73 yX1_takeJoint]
def wsX1_take_r2 : List Cond := [Cond.instanceMethod yX1_takeJoint, Cond.selects RX1 yX1_takeJoint yX1_takeJoint, Cond.code yX1_takeJoint cX1_takeJoint 3 (some .int), Cond.fieldLink RX1 43 "UnitVectors$Reader" "side" "I", Cond.fieldLink RX1 46 "UnitVectors$Reader" "lacksEqual" "Z", Cond.methodLink RX1 88 yX1_joinNext, Cond.instanceMethod yX1_joinNext, Cond.selects RX1 yX1_joinNext yX1_joinNext, Cond.code yX1_joinNext cX1_joinNext 2 none, Cond.methodLink RX1 56 yX1_putFactor, Cond.instanceMethod yX1_putFactor, Cond.selects RX1 yX1_putFactor yX1_putFactor, Cond.code yX1_putFactor cX1_putFactor 2 none, Cond.methodLink RX1 92 yX1_takeClosing, Cond.instanceMethod yX1_takeClosing, Cond.selects RX1 yX1_takeClosing yX1_takeClosing, Cond.code yX1_takeClosing cX1_takeClosing 1 none, Cond.methodLink RX1 95 arraycopyName, Cond.native arraycopyName, Cond.static arraycopyName, Cond.initialized "java/lang/System", Cond.methodLink RX1 76 yX1_takeFigure, Cond.instanceMethod yX1_takeFigure, Cond.selects RX1 yX1_takeFigure yX1_takeFigure]
def wsX1_take_r3 : List Cond := [Cond.code yX1_takeFigure cX1_takeFigure 3 (some .int)]
def wsX1_take : List Cond := .code yX1_take cX1_take 2 (some .int) :: ((wsX1_take_r1 ++ (wsX1_take_r2 ++ wsX1_take_r3)) ++ wsX10)
def wsX1_end : List Cond := .code yX1_end cX1_end 3 (some .int) :: ([.fieldLink RX1 53 "UnitVectors$Reader" "expected" "I", .fieldLink RX1 40 "UnitVectors$Reader" "open" "I", .fieldLink RX1 46 "UnitVectors$Reader" "lacksEqual" "Z", .fieldLink RX1 13 "UnitVectors$Reader" "totals" "[[J", .methodLink RX1 59 Lib.MathLoose.abs_long.x, .static Lib.MathLoose.abs_long.x, .initialized "java/lang/Math", .code Lib.MathLoose.abs_long.x Lib.MathLoose.abs_long.code 2 (some .long), .constantLong RX1 65 (9), .methodLink RX1 56 yX1_putFactor, .instanceMethod yX1_putFactor, .selects RX1 yX1_putFactor yX1_putFactor, .initialized RX1, .code yX1_putFactor cX1_putFactor 2 none, .fieldLink RX1 16 "UnitVectors$Reader" "signs" "[I", .fieldLink RX1 20 "UnitVectors$Reader" "factor" "[J"] ++ wsX10)
def wsX1_readAll_r1 : List Cond := [Cond.fieldLink RX1 24 "UnitVectors$Reader" "place" "I", Cond.methodLink RX1 28 yX1_start, Cond.instanceMethod yX1_start, Cond.selects RX1 yX1_start yX1_start, Cond.initialized RX1, Cond.code yX1_start cX1_start 2 none, Cond.fieldLink RX1 40 "UnitVectors$Reader" "open" "I", Cond.fieldLink RX1 43 "UnitVectors$Reader" "side" "I", Cond.fieldLink RX1 46 "UnitVectors$Reader" "lacksEqual" "Z", Cond.methodLink RX1 50 yX1_startTotal, Cond.instanceMethod yX1_startTotal, Cond.selects RX1 yX1_startTotal yX1_startTotal, Cond.code yX1_startTotal cX1_startTotal 2 none, Cond.fieldLink RX1 13 "UnitVectors$Reader" "totals" "[[J", Cond.fieldLink RX1 16 "UnitVectors$Reader" "signs" "[I", Cond.fieldLink RX1 53 "UnitVectors$Reader" "expected" "I", Cond.methodLink RX1 32 yX1_take, Cond.instanceMethod yX1_take, Cond.selects RX1 yX1_take yX1_take, Cond.code yX1_take cX1_take 2 (some .int), Cond.fieldLink RX1 70 "UnitVectors$Reader" "powerSign" "I", Cond.methodLink RX1 67 yX1_takeAtom, Cond.instanceMethod yX1_takeAtom, Cond.selects RX1 yX1_takeAtom yX1_takeAtom]
def wsX1_readAll_r2 : List Cond := [Cond.code yX1_takeAtom cX1_takeAtom 2 (some .int), Cond.fieldLink RX1 20 "UnitVectors$Reader" "factor" "[J", Cond.methodLink RX1 79 yX1_takeOpening, Cond.instanceMethod yX1_takeOpening, Cond.selects RX1 yX1_takeOpening yX1_takeOpening, Cond.code yX1_takeOpening cX1_takeOpening 1 (some .int), Cond.methodLink RX1 82 yJ7_fill_d0a16, Cond.static yJ7_fill_d0a16, Cond.initialized RJ7, Cond.code yJ7_fill_d0a16 cJ7_fill_d0a16 5 none, Cond.methodLink RX1 73 yX1_takeJoint, Cond.instanceMethod yX1_takeJoint, Cond.selects RX1 yX1_takeJoint yX1_takeJoint, Cond.code yX1_takeJoint cX1_takeJoint 3 (some .int), Cond.methodLink RX1 88 yX1_joinNext, Cond.instanceMethod yX1_joinNext, Cond.selects RX1 yX1_joinNext yX1_joinNext, Cond.code yX1_joinNext cX1_joinNext 2 none, Cond.methodLink RX1 56 yX1_putFactor, Cond.instanceMethod yX1_putFactor, Cond.selects RX1 yX1_putFactor yX1_putFactor, Cond.code yX1_putFactor cX1_putFactor 2 none, Cond.methodLink RX1 92 yX1_takeClosing, Cond.instanceMethod yX1_takeClosing]
def wsX1_readAll_r3 : List Cond := [Cond.selects RX1 yX1_takeClosing yX1_takeClosing, Cond.code yX1_takeClosing cX1_takeClosing 1 none, Cond.methodLink RX1 95 arraycopyName, Cond.native arraycopyName, Cond.static arraycopyName, Cond.initialized "java/lang/System", Cond.methodLink RX1 76 yX1_takeFigure, Cond.instanceMethod yX1_takeFigure, Cond.selects RX1 yX1_takeFigure yX1_takeFigure, Cond.code yX1_takeFigure cX1_takeFigure 3 (some .int), Cond.methodLink RX1 36 yX1_end, Cond.instanceMethod yX1_end, Cond.selects RX1 yX1_end yX1_end, Cond.code yX1_end cX1_end 3 (some .int), Cond.methodLink RX1 59 Lib.MathLoose.abs_long.x, Cond.static Lib.MathLoose.abs_long.x, Cond.initialized "java/lang/Math", Cond.code Lib.MathLoose.abs_long.x Lib.MathLoose.abs_long.code 2 (some .long), Cond.constantLong RX1 65 (9)]
def wsX1_readAll : List Cond := .code yX1_readAll cX1_readAll 6 (some .int) :: ((wsX1_readAll_r1 ++ (wsX1_readAll_r2 ++ wsX1_readAll_r3)) ++ wsX10)
def wsX2_clear : List Cond := .code yX2_clear cX2_clear 2 none :: ([.fieldLink RX2 32 "UnitVectors$Solutions" "count" "I", .fieldLink RX2 11 "UnitVectors$Solutions" "rows" "[[J", .fieldLink RX2 16 "UnitVectors$Solutions" "lowest" "[[J", .methodLink RX2 36 yJ7_fill_d0a16, .static yJ7_fill_d0a16, .initialized RJ7, .code yJ7_fill_d0a16 cJ7_fill_d0a16 5 none] ++ wsX20)
def wsX2_init : List Cond := .code yX2_init cX2_init 1 none :: ([.methodLink RX2 3 objectInit, .instanceMethod objectInit, .code objectInit ⟨#[0xb1]⟩ 1 none, .classLink RX2 9 "[[J", .arrayClass .long, .fieldLink RX2 11 "UnitVectors$Solutions" "rows" "[[J", .fieldLink RX2 16 "UnitVectors$Solutions" "lowest" "[[J", .fieldLink RX2 19 "UnitVectors$Solutions" "gains" "[J", .fieldLink RX2 23 "UnitVectors$Solutions" "lacks" "[J", .fieldLink RX2 26 "UnitVectors$Solutions" "step" "[J", .methodLink RX2 29 yX2_clear, .instanceMethod yX2_clear, .selects RX2 yX2_clear yX2_clear, .initialized RX2, .code yX2_clear cX2_clear 2 none, .fieldLink RX2 32 "UnitVectors$Solutions" "count" "I", .methodLink RX2 36 yJ7_fill_d0a16, .static yJ7_fill_d0a16, .initialized RJ7, .code yJ7_fill_d0a16 cJ7_fill_d0a16 5 none] ++ wsX20)
def wsX2_isFixed : List Cond := .code yX2_isFixed cX2_isFixed 3 (some .boolean) :: ([.fieldLink RX2 32 "UnitVectors$Solutions" "count" "I", .fieldLink RX2 11 "UnitVectors$Solutions" "rows" "[[J"] ++ wsX20)
def wsX2_product : List Cond := .code yX2_product cX2_product 5 (some .long) :: ([])
def wsX2_powerOf : List Cond := .code yX2_powerOf cX2_powerOf 3 (some .long) :: ([.fieldLink RX2 16 "UnitVectors$Solutions" "lowest" "[[J", .methodLink RX2 42 yX2_product, .static yX2_product, .initialized RX2, .code yX2_product cX2_product 5 (some .long)] ++ wsX20)
def wsX2_rise : List Cond := .code yX2_rise cX2_rise 3 (some .long) :: ([.fieldLink RX2 32 "UnitVectors$Solutions" "count" "I", .fieldLink RX2 11 "UnitVectors$Solutions" "rows" "[[J", .methodLink RX2 42 yX2_product, .static yX2_product, .initialized RX2, .code yX2_product cX2_product 5 (some .long)] ++ wsX20)
def wsX2_weigh : List Cond := .code yX2_weigh cX2_weigh 3 none :: ([.fieldLink RX2 32 "UnitVectors$Solutions" "count" "I", .fieldLink RX2 19 "UnitVectors$Solutions" "gains" "[J", .fieldLink RX2 11 "UnitVectors$Solutions" "rows" "[[J", .fieldLink RX2 23 "UnitVectors$Solutions" "lacks" "[J", .methodLink RX2 42 yX2_product, .static yX2_product, .initialized RX2, .code yX2_product cX2_product 5 (some .long), .methodLink RX2 86 yX2_powerOf, .instanceMethod yX2_powerOf, .selects RX2 yX2_powerOf yX2_powerOf, .code yX2_powerOf cX2_powerOf 3 (some .long), .fieldLink RX2 16 "UnitVectors$Solutions" "lowest" "[[J"] ++ wsX20)
def wsX2_commonDivisor : List Cond := .code yX2_commonDivisor cX2_commonDivisor 11 (some .long) :: ([.methodLink RX2 107 Lib.MathLoose.abs_long.x, .static Lib.MathLoose.abs_long.x, .initialized "java/lang/Math", .code Lib.MathLoose.abs_long.x Lib.MathLoose.abs_long.code 2 (some .long)])
def wsX2_commonGain : List Cond := .code yX2_commonGain cX2_commonGain 4 (some .long) :: ([.fieldLink RX2 32 "UnitVectors$Solutions" "count" "I", .fieldLink RX2 19 "UnitVectors$Solutions" "gains" "[J", .methodLink RX2 90 yX2_commonDivisor, .static yX2_commonDivisor, .initialized RX2, .code yX2_commonDivisor cX2_commonDivisor 11 (some .long), .methodLink RX2 107 Lib.MathLoose.abs_long.x, .static Lib.MathLoose.abs_long.x, .initialized "java/lang/Math", .code Lib.MathLoose.abs_long.x Lib.MathLoose.abs_long.code 2 (some .long)] ++ wsX20)
def wsX2_lacksAreTimes : List Cond := .code yX2_lacksAreTimes cX2_lacksAreTimes 6 (some .boolean) :: ([.fieldLink RX2 23 "UnitVectors$Solutions" "lacks" "[J"] ++ wsX20)
def wsX2_imply_r1 : List Cond := [Cond.methodLink RX2 46 yX2_weigh, Cond.instanceMethod yX2_weigh, Cond.selects RX2 yX2_weigh yX2_weigh, Cond.initialized RX2, Cond.code yX2_weigh cX2_weigh 3 none, Cond.fieldLink RX2 32 "UnitVectors$Solutions" "count" "I", Cond.fieldLink RX2 19 "UnitVectors$Solutions" "gains" "[J", Cond.fieldLink RX2 11 "UnitVectors$Solutions" "rows" "[[J", Cond.fieldLink RX2 23 "UnitVectors$Solutions" "lacks" "[J", Cond.methodLink RX2 42 yX2_product, Cond.static yX2_product, Cond.code yX2_product cX2_product 5 (some .long), Cond.methodLink RX2 86 yX2_powerOf, Cond.instanceMethod yX2_powerOf, Cond.selects RX2 yX2_powerOf yX2_powerOf, Cond.code yX2_powerOf cX2_powerOf 3 (some .long), Cond.fieldLink RX2 16 "UnitVectors$Solutions" "lowest" "[[J", Cond.methodLink RX2 50 yX2_commonGain, Cond.instanceMethod yX2_commonGain, Cond.selects RX2 yX2_commonGain yX2_commonGain, Cond.code yX2_commonGain cX2_commonGain 4 (some .long), Cond.methodLink RX2 90 yX2_commonDivisor, Cond.static yX2_commonDivisor, Cond.code yX2_commonDivisor cX2_commonDivisor 11 (some .long)]
def wsX2_imply_r2 : List Cond := [Cond.methodLink RX2 107 Lib.MathLoose.abs_long.x, Cond.static Lib.MathLoose.abs_long.x, Cond.initialized "java/lang/Math", Cond.code Lib.MathLoose.abs_long.x Lib.MathLoose.abs_long.code 2 (some .long), Cond.methodLink RX2 54 yX2_lacksAreTimes, Cond.instanceMethod yX2_lacksAreTimes, Cond.selects RX2 yX2_lacksAreTimes yX2_lacksAreTimes, Cond.code yX2_lacksAreTimes cX2_lacksAreTimes 6 (some .boolean)]
def wsX2_imply : List Cond := .code yX2_imply cX2_imply 2 (some .boolean) :: ((wsX2_imply_r1 ++ wsX2_imply_r2) ++ wsX20)
def wsX2_agrees_r1 : List Cond := [Cond.methodLink RX2 46 yX2_weigh, Cond.instanceMethod yX2_weigh, Cond.selects RX2 yX2_weigh yX2_weigh, Cond.initialized RX2, Cond.code yX2_weigh cX2_weigh 3 none, Cond.fieldLink RX2 32 "UnitVectors$Solutions" "count" "I", Cond.fieldLink RX2 19 "UnitVectors$Solutions" "gains" "[J", Cond.fieldLink RX2 11 "UnitVectors$Solutions" "rows" "[[J", Cond.fieldLink RX2 23 "UnitVectors$Solutions" "lacks" "[J", Cond.methodLink RX2 42 yX2_product, Cond.static yX2_product, Cond.code yX2_product cX2_product 5 (some .long), Cond.methodLink RX2 86 yX2_powerOf, Cond.instanceMethod yX2_powerOf, Cond.selects RX2 yX2_powerOf yX2_powerOf, Cond.code yX2_powerOf cX2_powerOf 3 (some .long), Cond.fieldLink RX2 16 "UnitVectors$Solutions" "lowest" "[[J", Cond.methodLink RX2 50 yX2_commonGain, Cond.instanceMethod yX2_commonGain, Cond.selects RX2 yX2_commonGain yX2_commonGain, Cond.code yX2_commonGain cX2_commonGain 4 (some .long), Cond.methodLink RX2 90 yX2_commonDivisor, Cond.static yX2_commonDivisor, Cond.code yX2_commonDivisor cX2_commonDivisor 11 (some .long)]
def wsX2_agrees_r2 : List Cond := [Cond.methodLink RX2 107 Lib.MathLoose.abs_long.x, Cond.static Lib.MathLoose.abs_long.x, Cond.initialized "java/lang/Math", Cond.code Lib.MathLoose.abs_long.x Lib.MathLoose.abs_long.code 2 (some .long), Cond.methodLink RX2 54 yX2_lacksAreTimes, Cond.instanceMethod yX2_lacksAreTimes, Cond.selects RX2 yX2_lacksAreTimes yX2_lacksAreTimes, Cond.code yX2_lacksAreTimes cX2_lacksAreTimes 6 (some .boolean)]
def wsX2_agrees : List Cond := .code yX2_agrees cX2_agrees 2 (some .boolean) :: ((wsX2_agrees_r1 ++ wsX2_agrees_r2) ++ wsX20)
def wsX2_addTimes : List Cond := .code yX2_addTimes cX2_addTimes 5 none :: ([])
def wsX2_divideToAndFro : List Cond := .code yX2_divideToAndFro cX2_divideToAndFro 10 none :: ([.fieldLink RX2 19 "UnitVectors$Solutions" "gains" "[J", .fieldLink RX2 76 "UnitVectors$Solutions" "stepGain" "J", .fieldLink RX2 26 "UnitVectors$Solutions" "step" "[J", .fieldLink RX2 11 "UnitVectors$Solutions" "rows" "[[J", .methodLink RX2 94 yX2_addTimes, .static yX2_addTimes, .initialized RX2, .code yX2_addTimes cX2_addTimes 5 none] ++ wsX20)
def wsX2_headOf : List Cond := .code yX2_headOf cX2_headOf 2 (some .int) :: ([])
def wsX2_makeHeadPositive : List Cond := .code yX2_makeHeadPositive cX2_makeHeadPositive 3 none :: ([.methodLink RX2 98 yX2_headOf, .static yX2_headOf, .initialized RX2, .code yX2_headOf cX2_headOf 2 (some .int)])
def wsJ9_floorDiv_f86c9 : List Cond := .code yJ9_floorDiv_f86c9 cJ9_floorDiv_f86c9 6 (some .long) :: ([])
def wsX2_reduce : List Cond := .code yX2_reduce cX2_reduce 6 none :: ([.fieldLink RX2 32 "UnitVectors$Solutions" "count" "I", .fieldLink RX2 11 "UnitVectors$Solutions" "rows" "[[J", .methodLink RX2 98 yX2_headOf, .static yX2_headOf, .initialized RX2, .code yX2_headOf cX2_headOf 2 (some .int), .methodLink RX2 102 yJ9_floorDiv_f86c9, .static yJ9_floorDiv_f86c9, .initialized RJ9, .code yJ9_floorDiv_f86c9 cJ9_floorDiv_f86c9 6 (some .long), .methodLink RX2 94 yX2_addTimes, .static yX2_addTimes, .code yX2_addTimes cX2_addTimes 5 none] ++ wsX20)
def wsX2_moveLowest : List Cond := .code yX2_moveLowest cX2_moveLowest 3 none :: ([.fieldLink RX2 76 "UnitVectors$Solutions" "stepGain" "J", .fieldLink RX2 16 "UnitVectors$Solutions" "lowest" "[[J", .fieldLink RX2 26 "UnitVectors$Solutions" "step" "[J", .fieldLink RX2 23 "UnitVectors$Solutions" "lacks" "[J", .methodLink RX2 94 yX2_addTimes, .static yX2_addTimes, .initialized RX2, .code yX2_addTimes cX2_addTimes 5 none, .methodLink RX2 66 yX2_reduce, .instanceMethod yX2_reduce, .selects RX2 yX2_reduce yX2_reduce, .code yX2_reduce cX2_reduce 6 none, .fieldLink RX2 32 "UnitVectors$Solutions" "count" "I", .fieldLink RX2 11 "UnitVectors$Solutions" "rows" "[[J", .methodLink RX2 98 yX2_headOf, .static yX2_headOf, .code yX2_headOf cX2_headOf 2 (some .int), .methodLink RX2 102 yJ9_floorDiv_f86c9, .static yJ9_floorDiv_f86c9, .initialized RJ9, .code yJ9_floorDiv_f86c9 cJ9_floorDiv_f86c9 6 (some .long)] ++ wsX20)
def wsX2_leaveOut : List Cond := .code yX2_leaveOut cX2_leaveOut 4 none :: ([.fieldLink RX2 11 "UnitVectors$Solutions" "rows" "[[J", .fieldLink RX2 32 "UnitVectors$Solutions" "count" "I"] ++ wsX20)
def wsX2_put_r1 : List Cond := [Cond.fieldLink RX2 32 "UnitVectors$Solutions" "count" "I", Cond.fieldLink RX2 11 "UnitVectors$Solutions" "rows" "[[J", Cond.fieldLink RX2 26 "UnitVectors$Solutions" "step" "[J", Cond.fieldLink RX2 19 "UnitVectors$Solutions" "gains" "[J", Cond.methodLink RX2 70 arraycopyName, Cond.native arraycopyName, Cond.static arraycopyName, Cond.initialized "java/lang/System", Cond.fieldLink RX2 76 "UnitVectors$Solutions" "stepGain" "J", Cond.methodLink RX2 46 yX2_weigh, Cond.instanceMethod yX2_weigh, Cond.selects RX2 yX2_weigh yX2_weigh, Cond.initialized RX2, Cond.code yX2_weigh cX2_weigh 3 none, Cond.fieldLink RX2 23 "UnitVectors$Solutions" "lacks" "[J", Cond.methodLink RX2 42 yX2_product, Cond.static yX2_product, Cond.code yX2_product cX2_product 5 (some .long), Cond.methodLink RX2 86 yX2_powerOf, Cond.instanceMethod yX2_powerOf, Cond.selects RX2 yX2_powerOf yX2_powerOf, Cond.code yX2_powerOf cX2_powerOf 3 (some .long), Cond.fieldLink RX2 16 "UnitVectors$Solutions" "lowest" "[[J", Cond.methodLink RX2 58 yX2_divideToAndFro]
def wsX2_put_r2 : List Cond := [Cond.instanceMethod yX2_divideToAndFro, Cond.selects RX2 yX2_divideToAndFro yX2_divideToAndFro, Cond.code yX2_divideToAndFro cX2_divideToAndFro 10 none, Cond.methodLink RX2 94 yX2_addTimes, Cond.static yX2_addTimes, Cond.code yX2_addTimes cX2_addTimes 5 none, Cond.methodLink RX2 62 yX2_makeHeadPositive, Cond.static yX2_makeHeadPositive, Cond.code yX2_makeHeadPositive cX2_makeHeadPositive 3 none, Cond.methodLink RX2 98 yX2_headOf, Cond.static yX2_headOf, Cond.code yX2_headOf cX2_headOf 2 (some .int), Cond.methodLink RX2 66 yX2_reduce, Cond.instanceMethod yX2_reduce, Cond.selects RX2 yX2_reduce yX2_reduce, Cond.code yX2_reduce cX2_reduce 6 none, Cond.methodLink RX2 102 yJ9_floorDiv_f86c9, Cond.static yJ9_floorDiv_f86c9, Cond.initialized RJ9, Cond.code yJ9_floorDiv_f86c9 cJ9_floorDiv_f86c9 6 (some .long), Cond.methodLink RX2 80 yX2_moveLowest, Cond.instanceMethod yX2_moveLowest, Cond.selects RX2 yX2_moveLowest yX2_moveLowest, Cond.code yX2_moveLowest cX2_moveLowest 3 none]
def wsX2_put_r3 : List Cond := [Cond.methodLink RX2 83 yX2_leaveOut, Cond.instanceMethod yX2_leaveOut, Cond.selects RX2 yX2_leaveOut yX2_leaveOut, Cond.code yX2_leaveOut cX2_leaveOut 4 none]
def wsX2_put : List Cond := .code yX2_put cX2_put 4 none :: ((wsX2_put_r1 ++ (wsX2_put_r2 ++ wsX2_put_r3)) ++ wsX20)
def wsX3_put : List Cond := .code yX3_put cX3_put 2 none :: ([.fieldLink RX3 29 "UnitVectors$State" "count" "I", .fieldLink RX3 11 "UnitVectors$State" "sayings" "[[I", .methodLink RX3 33 arraycopyName, .native arraycopyName, .static arraycopyName, .initialized "java/lang/System"] ++ wsX30)
def wsX3_remove : List Cond := .code yX3_remove cX3_remove 3 none :: ([.fieldLink RX3 29 "UnitVectors$State" "count" "I", .fieldLink RX3 11 "UnitVectors$State" "sayings" "[[I", .methodLink RX3 33 arraycopyName, .native arraycopyName, .static arraycopyName, .initialized "java/lang/System"] ++ wsX30)
def wsX3_countScaled : List Cond := .code yX3_countScaled cX3_countScaled 3 (some .int) :: ([.fieldLink RX3 16 "UnitVectors$State" "above" "[I", .fieldLink RX3 20 "UnitVectors$State" "below" "[I"] ++ wsX30)
def wsX3_draw : List Cond := .code yX3_draw cX3_draw 2 (some .int) :: ([.fieldLink RX3 39 "UnitVectors$State" "drawSeed" "I", .constantLong RX3 42 (1103515245), .constantLong RX3 44 (12345), .constantLong RX3 46 (2147483647), .constant RX3 48 (65536)] ++ wsX30)
def wsX4_init_r1 : List Cond := [Cond.methodLink RX4 3 objectInit, Cond.instanceMethod objectInit, Cond.code objectInit ⟨#[0xb1]⟩ 1 none, Cond.arrayClass .int, Cond.fieldLink RX4 9 "UnitVectors" "text" "[I", Cond.fieldLink RX4 13 "UnitVectors" "faultPlace" "I", Cond.classLink RX4 17 RX1, Cond.instantiable RX1 9, Cond.initialized RX1, Cond.fieldLink RX4 20 "UnitVectors" "reader" "LUnitVectors$Reader;", Cond.fieldLink RX4 24 "UnitVectors" "read" "[I", Cond.classLink RX4 27 RX3, Cond.instantiable RX3 6, Cond.initialized RX3, Cond.fieldLink RX4 30 "UnitVectors" "now" "LUnitVectors$State;", Cond.fieldLink RX4 34 "UnitVectors" "images" "[LUnitVectors$State;", Cond.classLink RX4 38 RX0, Cond.instantiable RX0 3, Cond.initialized RX0, Cond.fieldLink RX4 41 "UnitVectors" "past" "LUnitVectors$Past;", Cond.classLink RX4 45 RX2, Cond.instantiable RX2 7, Cond.initialized RX2, Cond.fieldLink RX4 48 "UnitVectors" "solutions" "LUnitVectors$Solutions;"]
def wsX4_init_r2 : List Cond := [Cond.fieldLink RX4 52 "UnitVectors" "others" "LUnitVectors$Solutions;", Cond.instanceMethod yX1_init, Cond.code yX1_init cX1_init 1 none, Cond.methodLink RX1 3 objectInit, Cond.classLink RX1 11 "[[J", Cond.arrayClass .long, Cond.fieldLink RX1 13 "UnitVectors$Reader" "totals" "[[J", Cond.fieldLink RX1 16 "UnitVectors$Reader" "signs" "[I", Cond.fieldLink RX1 20 "UnitVectors$Reader" "factor" "[J", Cond.fieldLink RX1 24 "UnitVectors$Reader" "place" "I", Cond.methodLink RX4 29 yX3_init, Cond.instanceMethod yX3_init, Cond.code yX3_init cX3_init 1 none, Cond.methodLink RX3 3 objectInit, Cond.classLink RX3 9 "[[I", Cond.fieldLink RX3 11 "UnitVectors$State" "sayings" "[[I", Cond.fieldLink RX3 16 "UnitVectors$State" "above" "[I", Cond.fieldLink RX3 20 "UnitVectors$State" "below" "[I", Cond.methodLink RX3 23 yJ7_fill_53178, Cond.static yJ7_fill_53178, Cond.initialized RJ7, Cond.code yJ7_fill_53178 cJ7_fill_53178 4 none, Cond.methodLink RX4 40 yX0_init, Cond.instanceMethod yX0_init]
def wsX4_init_r3 : List Cond := [Cond.code yX0_init cX0_init 2 none, Cond.methodLink RX0 3 objectInit, Cond.classLink RX0 9 RX3, Cond.fieldLink RX0 11 "UnitVectors$Past" "ahead" "[LUnitVectors$State;", Cond.methodLink RX0 17 yX3_init, Cond.methodLink RX4 47 yX2_init, Cond.instanceMethod yX2_init, Cond.code yX2_init cX2_init 1 none, Cond.methodLink RX2 3 objectInit, Cond.classLink RX2 9 "[[J", Cond.fieldLink RX2 11 "UnitVectors$Solutions" "rows" "[[J", Cond.fieldLink RX2 16 "UnitVectors$Solutions" "lowest" "[[J", Cond.fieldLink RX2 19 "UnitVectors$Solutions" "gains" "[J", Cond.fieldLink RX2 23 "UnitVectors$Solutions" "lacks" "[J", Cond.fieldLink RX2 26 "UnitVectors$Solutions" "step" "[J", Cond.methodLink RX2 29 yX2_clear, Cond.instanceMethod yX2_clear, Cond.selects RX2 yX2_clear yX2_clear, Cond.code yX2_clear cX2_clear 2 none, Cond.fieldLink RX2 32 "UnitVectors$Solutions" "count" "I", Cond.methodLink RX2 36 yJ7_fill_d0a16, Cond.static yJ7_fill_d0a16, Cond.code yJ7_fill_d0a16 cJ7_fill_d0a16 5 none]
def wsX4_init : List Cond := .code yX4_init cX4_init 2 none :: ((wsX4_init_r1 ++ (wsX4_init_r2 ++ wsX4_init_r3)) ++ wsX40 ++ wsX10 ++ wsX30 ++ wsX00 ++ wsX20)
def wsX4_feed : List Cond := .code yX4_feed cX4_feed 2 (some .int) :: ([.constant RX4 55 (-1000000002), .fieldLink RX4 56 "UnitVectors" "letters" "I", .constant RX4 59 (-1000000004), .fieldLink RX4 9 "UnitVectors" "text" "[I"] ++ wsX40)
def wsX4_wipe : List Cond := .code yX4_wipe cX4_wipe 2 (some .int) :: ([.fieldLink RX4 56 "UnitVectors" "letters" "I"] ++ wsX40)
def wsX4_fault : List Cond := .code yX4_fault cX4_fault 1 (some .int) :: ([.fieldLink RX4 13 "UnitVectors" "faultPlace" "I"] ++ wsX40)
def wsX4_countFixed : List Cond := .code yX4_countFixed cX4_countFixed 3 (some .int) :: ([.fieldLink RX4 48 "UnitVectors" "solutions" "LUnitVectors$Solutions;", .methodLink RX4 142 yX2_isFixed, .instanceMethod yX2_isFixed, .selects RX2 yX2_isFixed yX2_isFixed, .initialized RX2, .code yX2_isFixed cX2_isFixed 3 (some .boolean), .fieldLink RX2 32 "UnitVectors$Solutions" "count" "I", .fieldLink RX2 11 "UnitVectors$Solutions" "rows" "[[J"] ++ wsX40 ++ wsX20)
def wsX4_isSpare_r1 : List Cond := [Cond.fieldLink RX4 52 "UnitVectors" "others" "LUnitVectors$Solutions;", Cond.fieldLink RX4 30 "UnitVectors" "now" "LUnitVectors$State;", Cond.methodLink RX4 198 yX2_clear, Cond.instanceMethod yX2_clear, Cond.selects RX2 yX2_clear yX2_clear, Cond.initialized RX2, Cond.code yX2_clear cX2_clear 2 none, Cond.fieldLink RX2 32 "UnitVectors$Solutions" "count" "I", Cond.fieldLink RX2 11 "UnitVectors$Solutions" "rows" "[[J", Cond.fieldLink RX2 16 "UnitVectors$Solutions" "lowest" "[[J", Cond.methodLink RX2 36 yJ7_fill_d0a16, Cond.static yJ7_fill_d0a16, Cond.initialized RJ7, Cond.code yJ7_fill_d0a16 cJ7_fill_d0a16 5 none, Cond.methodLink RX4 197 yX2_put, Cond.instanceMethod yX2_put, Cond.selects RX2 yX2_put yX2_put, Cond.code yX2_put cX2_put 4 none, Cond.fieldLink RX2 26 "UnitVectors$Solutions" "step" "[J", Cond.fieldLink RX2 19 "UnitVectors$Solutions" "gains" "[J", Cond.methodLink RX2 70 arraycopyName, Cond.native arraycopyName, Cond.static arraycopyName, Cond.initialized "java/lang/System"]
def wsX4_isSpare_r2 : List Cond := [Cond.fieldLink RX2 76 "UnitVectors$Solutions" "stepGain" "J", Cond.methodLink RX2 46 yX2_weigh, Cond.instanceMethod yX2_weigh, Cond.selects RX2 yX2_weigh yX2_weigh, Cond.code yX2_weigh cX2_weigh 3 none, Cond.fieldLink RX2 23 "UnitVectors$Solutions" "lacks" "[J", Cond.methodLink RX2 42 yX2_product, Cond.static yX2_product, Cond.code yX2_product cX2_product 5 (some .long), Cond.methodLink RX2 86 yX2_powerOf, Cond.instanceMethod yX2_powerOf, Cond.selects RX2 yX2_powerOf yX2_powerOf, Cond.code yX2_powerOf cX2_powerOf 3 (some .long), Cond.methodLink RX2 58 yX2_divideToAndFro, Cond.instanceMethod yX2_divideToAndFro, Cond.selects RX2 yX2_divideToAndFro yX2_divideToAndFro, Cond.code yX2_divideToAndFro cX2_divideToAndFro 10 none, Cond.methodLink RX2 94 yX2_addTimes, Cond.static yX2_addTimes, Cond.code yX2_addTimes cX2_addTimes 5 none, Cond.methodLink RX2 62 yX2_makeHeadPositive, Cond.static yX2_makeHeadPositive, Cond.code yX2_makeHeadPositive cX2_makeHeadPositive 3 none, Cond.methodLink RX2 98 yX2_headOf]
def wsX4_isSpare_r3 : List Cond := [Cond.static yX2_headOf, Cond.code yX2_headOf cX2_headOf 2 (some .int), Cond.methodLink RX2 66 yX2_reduce, Cond.instanceMethod yX2_reduce, Cond.selects RX2 yX2_reduce yX2_reduce, Cond.code yX2_reduce cX2_reduce 6 none, Cond.methodLink RX2 102 yJ9_floorDiv_f86c9, Cond.static yJ9_floorDiv_f86c9, Cond.initialized RJ9, Cond.code yJ9_floorDiv_f86c9 cJ9_floorDiv_f86c9 6 (some .long), Cond.methodLink RX2 80 yX2_moveLowest, Cond.instanceMethod yX2_moveLowest, Cond.selects RX2 yX2_moveLowest yX2_moveLowest, Cond.code yX2_moveLowest cX2_moveLowest 3 none, Cond.methodLink RX2 83 yX2_leaveOut, Cond.instanceMethod yX2_leaveOut, Cond.selects RX2 yX2_leaveOut yX2_leaveOut, Cond.code yX2_leaveOut cX2_leaveOut 4 none, Cond.methodLink RX4 145 yX2_imply, Cond.instanceMethod yX2_imply, Cond.selects RX2 yX2_imply yX2_imply, Cond.code yX2_imply cX2_imply 2 (some .boolean), Cond.methodLink RX2 50 yX2_commonGain, Cond.instanceMethod yX2_commonGain]
def wsX4_isSpare_r4 : List Cond := [Cond.selects RX2 yX2_commonGain yX2_commonGain, Cond.code yX2_commonGain cX2_commonGain 4 (some .long), Cond.methodLink RX2 90 yX2_commonDivisor, Cond.static yX2_commonDivisor, Cond.code yX2_commonDivisor cX2_commonDivisor 11 (some .long), Cond.methodLink RX2 107 Lib.MathLoose.abs_long.x, Cond.static Lib.MathLoose.abs_long.x, Cond.initialized "java/lang/Math", Cond.code Lib.MathLoose.abs_long.x Lib.MathLoose.abs_long.code 2 (some .long), Cond.methodLink RX2 54 yX2_lacksAreTimes, Cond.instanceMethod yX2_lacksAreTimes, Cond.selects RX2 yX2_lacksAreTimes yX2_lacksAreTimes, Cond.code yX2_lacksAreTimes cX2_lacksAreTimes 6 (some .boolean)]
def wsX4_isSpare : List Cond := .code yX4_isSpare cX4_isSpare 3 (some .boolean) :: ((wsX4_isSpare_r1 ++ (wsX4_isSpare_r2 ++ (wsX4_isSpare_r3 ++ wsX4_isSpare_r4))) ++ wsX40 ++ wsX30 ++ wsX20)
def wsX4_countSpare_r1 : List Cond := [Cond.fieldLink RX4 30 "UnitVectors" "now" "LUnitVectors$State;", Cond.methodLink RX4 121 yX4_isSpare, Cond.instanceMethod yX4_isSpare, Cond.selects RX4 yX4_isSpare yX4_isSpare, Cond.initialized RX4, Cond.code yX4_isSpare cX4_isSpare 3 (some .boolean), Cond.fieldLink RX4 52 "UnitVectors" "others" "LUnitVectors$Solutions;", Cond.methodLink RX4 198 yX2_clear, Cond.instanceMethod yX2_clear, Cond.selects RX2 yX2_clear yX2_clear, Cond.initialized RX2, Cond.code yX2_clear cX2_clear 2 none, Cond.fieldLink RX2 32 "UnitVectors$Solutions" "count" "I", Cond.fieldLink RX2 11 "UnitVectors$Solutions" "rows" "[[J", Cond.fieldLink RX2 16 "UnitVectors$Solutions" "lowest" "[[J", Cond.methodLink RX2 36 yJ7_fill_d0a16, Cond.static yJ7_fill_d0a16, Cond.initialized RJ7, Cond.code yJ7_fill_d0a16 cJ7_fill_d0a16 5 none, Cond.methodLink RX4 197 yX2_put, Cond.instanceMethod yX2_put, Cond.selects RX2 yX2_put yX2_put, Cond.code yX2_put cX2_put 4 none, Cond.fieldLink RX2 26 "UnitVectors$Solutions" "step" "[J"]
def wsX4_countSpare_r2 : List Cond := [Cond.fieldLink RX2 19 "UnitVectors$Solutions" "gains" "[J", Cond.methodLink RX2 70 arraycopyName, Cond.native arraycopyName, Cond.static arraycopyName, Cond.initialized "java/lang/System", Cond.fieldLink RX2 76 "UnitVectors$Solutions" "stepGain" "J", Cond.methodLink RX2 46 yX2_weigh, Cond.instanceMethod yX2_weigh, Cond.selects RX2 yX2_weigh yX2_weigh, Cond.code yX2_weigh cX2_weigh 3 none, Cond.fieldLink RX2 23 "UnitVectors$Solutions" "lacks" "[J", Cond.methodLink RX2 42 yX2_product, Cond.static yX2_product, Cond.code yX2_product cX2_product 5 (some .long), Cond.methodLink RX2 86 yX2_powerOf, Cond.instanceMethod yX2_powerOf, Cond.selects RX2 yX2_powerOf yX2_powerOf, Cond.code yX2_powerOf cX2_powerOf 3 (some .long), Cond.methodLink RX2 58 yX2_divideToAndFro, Cond.instanceMethod yX2_divideToAndFro, Cond.selects RX2 yX2_divideToAndFro yX2_divideToAndFro, Cond.code yX2_divideToAndFro cX2_divideToAndFro 10 none, Cond.methodLink RX2 94 yX2_addTimes, Cond.static yX2_addTimes]
def wsX4_countSpare_r3 : List Cond := [Cond.code yX2_addTimes cX2_addTimes 5 none, Cond.methodLink RX2 62 yX2_makeHeadPositive, Cond.static yX2_makeHeadPositive, Cond.code yX2_makeHeadPositive cX2_makeHeadPositive 3 none, Cond.methodLink RX2 98 yX2_headOf, Cond.static yX2_headOf, Cond.code yX2_headOf cX2_headOf 2 (some .int), Cond.methodLink RX2 66 yX2_reduce, Cond.instanceMethod yX2_reduce, Cond.selects RX2 yX2_reduce yX2_reduce, Cond.code yX2_reduce cX2_reduce 6 none, Cond.methodLink RX2 102 yJ9_floorDiv_f86c9, Cond.static yJ9_floorDiv_f86c9, Cond.initialized RJ9, Cond.code yJ9_floorDiv_f86c9 cJ9_floorDiv_f86c9 6 (some .long), Cond.methodLink RX2 80 yX2_moveLowest, Cond.instanceMethod yX2_moveLowest, Cond.selects RX2 yX2_moveLowest yX2_moveLowest, Cond.code yX2_moveLowest cX2_moveLowest 3 none, Cond.methodLink RX2 83 yX2_leaveOut, Cond.instanceMethod yX2_leaveOut, Cond.selects RX2 yX2_leaveOut yX2_leaveOut, Cond.code yX2_leaveOut cX2_leaveOut 4 none, Cond.methodLink RX4 145 yX2_imply]
def wsX4_countSpare_r4 : List Cond := [Cond.instanceMethod yX2_imply, Cond.selects RX2 yX2_imply yX2_imply, Cond.code yX2_imply cX2_imply 2 (some .boolean), Cond.methodLink RX2 50 yX2_commonGain, Cond.instanceMethod yX2_commonGain, Cond.selects RX2 yX2_commonGain yX2_commonGain, Cond.code yX2_commonGain cX2_commonGain 4 (some .long), Cond.methodLink RX2 90 yX2_commonDivisor, Cond.static yX2_commonDivisor, Cond.code yX2_commonDivisor cX2_commonDivisor 11 (some .long), Cond.methodLink RX2 107 Lib.MathLoose.abs_long.x, Cond.static Lib.MathLoose.abs_long.x, Cond.initialized "java/lang/Math", Cond.code Lib.MathLoose.abs_long.x Lib.MathLoose.abs_long.code 2 (some .long), Cond.methodLink RX2 54 yX2_lacksAreTimes, Cond.instanceMethod yX2_lacksAreTimes, Cond.selects RX2 yX2_lacksAreTimes yX2_lacksAreTimes, Cond.code yX2_lacksAreTimes cX2_lacksAreTimes 6 (some .boolean)]
def wsX4_countSpare : List Cond := .code yX4_countSpare cX4_countSpare 3 (some .int) :: ((wsX4_countSpare_r1 ++ (wsX4_countSpare_r2 ++ (wsX4_countSpare_r3 ++ wsX4_countSpare_r4))) ++ wsX40 ++ wsX30 ++ wsX20)
def wsX4_neededSet_r1 : List Cond := [Cond.fieldLink RX4 52 "UnitVectors" "others" "LUnitVectors$Solutions;", Cond.fieldLink RX4 30 "UnitVectors" "now" "LUnitVectors$State;", Cond.methodLink RX4 198 yX2_clear, Cond.instanceMethod yX2_clear, Cond.selects RX2 yX2_clear yX2_clear, Cond.initialized RX2, Cond.code yX2_clear cX2_clear 2 none, Cond.fieldLink RX2 32 "UnitVectors$Solutions" "count" "I", Cond.fieldLink RX2 11 "UnitVectors$Solutions" "rows" "[[J", Cond.fieldLink RX2 16 "UnitVectors$Solutions" "lowest" "[[J", Cond.methodLink RX2 36 yJ7_fill_d0a16, Cond.static yJ7_fill_d0a16, Cond.initialized RJ7, Cond.code yJ7_fill_d0a16 cJ7_fill_d0a16 5 none, Cond.methodLink RX4 145 yX2_imply, Cond.instanceMethod yX2_imply, Cond.selects RX2 yX2_imply yX2_imply, Cond.code yX2_imply cX2_imply 2 (some .boolean), Cond.methodLink RX2 46 yX2_weigh, Cond.instanceMethod yX2_weigh, Cond.selects RX2 yX2_weigh yX2_weigh, Cond.code yX2_weigh cX2_weigh 3 none, Cond.fieldLink RX2 19 "UnitVectors$Solutions" "gains" "[J", Cond.fieldLink RX2 23 "UnitVectors$Solutions" "lacks" "[J"]
def wsX4_neededSet_r2 : List Cond := [Cond.methodLink RX2 42 yX2_product, Cond.static yX2_product, Cond.code yX2_product cX2_product 5 (some .long), Cond.methodLink RX2 86 yX2_powerOf, Cond.instanceMethod yX2_powerOf, Cond.selects RX2 yX2_powerOf yX2_powerOf, Cond.code yX2_powerOf cX2_powerOf 3 (some .long), Cond.methodLink RX2 50 yX2_commonGain, Cond.instanceMethod yX2_commonGain, Cond.selects RX2 yX2_commonGain yX2_commonGain, Cond.code yX2_commonGain cX2_commonGain 4 (some .long), Cond.methodLink RX2 90 yX2_commonDivisor, Cond.static yX2_commonDivisor, Cond.code yX2_commonDivisor cX2_commonDivisor 11 (some .long), Cond.methodLink RX2 107 Lib.MathLoose.abs_long.x, Cond.static Lib.MathLoose.abs_long.x, Cond.initialized "java/lang/Math", Cond.code Lib.MathLoose.abs_long.x Lib.MathLoose.abs_long.code 2 (some .long), Cond.methodLink RX2 54 yX2_lacksAreTimes, Cond.instanceMethod yX2_lacksAreTimes, Cond.selects RX2 yX2_lacksAreTimes yX2_lacksAreTimes, Cond.code yX2_lacksAreTimes cX2_lacksAreTimes 6 (some .boolean), Cond.methodLink RX4 197 yX2_put, Cond.instanceMethod yX2_put]
def wsX4_neededSet_r3 : List Cond := [Cond.selects RX2 yX2_put yX2_put, Cond.code yX2_put cX2_put 4 none, Cond.fieldLink RX2 26 "UnitVectors$Solutions" "step" "[J", Cond.methodLink RX2 70 arraycopyName, Cond.native arraycopyName, Cond.static arraycopyName, Cond.initialized "java/lang/System", Cond.fieldLink RX2 76 "UnitVectors$Solutions" "stepGain" "J", Cond.methodLink RX2 58 yX2_divideToAndFro, Cond.instanceMethod yX2_divideToAndFro, Cond.selects RX2 yX2_divideToAndFro yX2_divideToAndFro, Cond.code yX2_divideToAndFro cX2_divideToAndFro 10 none, Cond.methodLink RX2 94 yX2_addTimes, Cond.static yX2_addTimes, Cond.code yX2_addTimes cX2_addTimes 5 none, Cond.methodLink RX2 62 yX2_makeHeadPositive, Cond.static yX2_makeHeadPositive, Cond.code yX2_makeHeadPositive cX2_makeHeadPositive 3 none, Cond.methodLink RX2 98 yX2_headOf, Cond.static yX2_headOf, Cond.code yX2_headOf cX2_headOf 2 (some .int), Cond.methodLink RX2 66 yX2_reduce, Cond.instanceMethod yX2_reduce, Cond.selects RX2 yX2_reduce yX2_reduce]
def wsX4_neededSet_r4 : List Cond := [Cond.code yX2_reduce cX2_reduce 6 none, Cond.methodLink RX2 102 yJ9_floorDiv_f86c9, Cond.static yJ9_floorDiv_f86c9, Cond.initialized RJ9, Cond.code yJ9_floorDiv_f86c9 cJ9_floorDiv_f86c9 6 (some .long), Cond.methodLink RX2 80 yX2_moveLowest, Cond.instanceMethod yX2_moveLowest, Cond.selects RX2 yX2_moveLowest yX2_moveLowest, Cond.code yX2_moveLowest cX2_moveLowest 3 none, Cond.methodLink RX2 83 yX2_leaveOut, Cond.instanceMethod yX2_leaveOut, Cond.selects RX2 yX2_leaveOut yX2_leaveOut, Cond.code yX2_leaveOut cX2_leaveOut 4 none]
def wsX4_neededSet : List Cond := .code yX4_neededSet cX4_neededSet 3 (some .int) :: ((wsX4_neededSet_r1 ++ (wsX4_neededSet_r2 ++ (wsX4_neededSet_r3 ++ wsX4_neededSet_r4))) ++ wsX40 ++ wsX30 ++ wsX20)
def wsJ6_bitCount_0f7a4 : List Cond := .code yJ6_bitCount_0f7a4 cJ6_bitCount_0f7a4 1 (some .int) :: ([.constant RJ6 265 (1431655765), .constant RJ6 266 (858993459), .constant RJ6 267 (252645135)])
def wsX4_told_r1 : List Cond := [Cond.constant RX4 55 (-1000000002), Cond.fieldLink RX4 30 "UnitVectors" "now" "LUnitVectors$State;", Cond.fieldLink RX4 48 "UnitVectors" "solutions" "LUnitVectors$Solutions;", Cond.fieldLink RX4 56 "UnitVectors" "letters" "I", Cond.fieldLink RX4 41 "UnitVectors" "past" "LUnitVectors$Past;", Cond.methodLink RX4 64 yX4_countFixed, Cond.instanceMethod yX4_countFixed, Cond.selects RX4 yX4_countFixed yX4_countFixed, Cond.initialized RX4, Cond.code yX4_countFixed cX4_countFixed 3 (some .int), Cond.methodLink RX4 142 yX2_isFixed, Cond.instanceMethod yX2_isFixed, Cond.selects RX2 yX2_isFixed yX2_isFixed, Cond.initialized RX2, Cond.code yX2_isFixed cX2_isFixed 3 (some .boolean), Cond.fieldLink RX2 32 "UnitVectors$Solutions" "count" "I", Cond.fieldLink RX2 11 "UnitVectors$Solutions" "rows" "[[J", Cond.methodLink RX4 68 yX4_countSpare, Cond.instanceMethod yX4_countSpare, Cond.selects RX4 yX4_countSpare yX4_countSpare, Cond.code yX4_countSpare cX4_countSpare 3 (some .int), Cond.methodLink RX4 121 yX4_isSpare, Cond.instanceMethod yX4_isSpare, Cond.selects RX4 yX4_isSpare yX4_isSpare]
def wsX4_told_r2 : List Cond := [Cond.code yX4_isSpare cX4_isSpare 3 (some .boolean), Cond.fieldLink RX4 52 "UnitVectors" "others" "LUnitVectors$Solutions;", Cond.methodLink RX4 198 yX2_clear, Cond.instanceMethod yX2_clear, Cond.selects RX2 yX2_clear yX2_clear, Cond.code yX2_clear cX2_clear 2 none, Cond.fieldLink RX2 16 "UnitVectors$Solutions" "lowest" "[[J", Cond.methodLink RX2 36 yJ7_fill_d0a16, Cond.static yJ7_fill_d0a16, Cond.initialized RJ7, Cond.code yJ7_fill_d0a16 cJ7_fill_d0a16 5 none, Cond.methodLink RX4 197 yX2_put, Cond.instanceMethod yX2_put, Cond.selects RX2 yX2_put yX2_put, Cond.code yX2_put cX2_put 4 none, Cond.fieldLink RX2 26 "UnitVectors$Solutions" "step" "[J", Cond.fieldLink RX2 19 "UnitVectors$Solutions" "gains" "[J", Cond.methodLink RX2 70 arraycopyName, Cond.native arraycopyName, Cond.static arraycopyName, Cond.initialized "java/lang/System", Cond.fieldLink RX2 76 "UnitVectors$Solutions" "stepGain" "J", Cond.methodLink RX2 46 yX2_weigh, Cond.instanceMethod yX2_weigh]
def wsX4_told_r3 : List Cond := [Cond.selects RX2 yX2_weigh yX2_weigh, Cond.code yX2_weigh cX2_weigh 3 none, Cond.fieldLink RX2 23 "UnitVectors$Solutions" "lacks" "[J", Cond.methodLink RX2 42 yX2_product, Cond.static yX2_product, Cond.code yX2_product cX2_product 5 (some .long), Cond.methodLink RX2 86 yX2_powerOf, Cond.instanceMethod yX2_powerOf, Cond.selects RX2 yX2_powerOf yX2_powerOf, Cond.code yX2_powerOf cX2_powerOf 3 (some .long), Cond.methodLink RX2 58 yX2_divideToAndFro, Cond.instanceMethod yX2_divideToAndFro, Cond.selects RX2 yX2_divideToAndFro yX2_divideToAndFro, Cond.code yX2_divideToAndFro cX2_divideToAndFro 10 none, Cond.methodLink RX2 94 yX2_addTimes, Cond.static yX2_addTimes, Cond.code yX2_addTimes cX2_addTimes 5 none, Cond.methodLink RX2 62 yX2_makeHeadPositive, Cond.static yX2_makeHeadPositive, Cond.code yX2_makeHeadPositive cX2_makeHeadPositive 3 none, Cond.methodLink RX2 98 yX2_headOf, Cond.static yX2_headOf, Cond.code yX2_headOf cX2_headOf 2 (some .int), Cond.methodLink RX2 66 yX2_reduce]
def wsX4_told_r4 : List Cond := [Cond.instanceMethod yX2_reduce, Cond.selects RX2 yX2_reduce yX2_reduce, Cond.code yX2_reduce cX2_reduce 6 none, Cond.methodLink RX2 102 yJ9_floorDiv_f86c9, Cond.static yJ9_floorDiv_f86c9, Cond.initialized RJ9, Cond.code yJ9_floorDiv_f86c9 cJ9_floorDiv_f86c9 6 (some .long), Cond.methodLink RX2 80 yX2_moveLowest, Cond.instanceMethod yX2_moveLowest, Cond.selects RX2 yX2_moveLowest yX2_moveLowest, Cond.code yX2_moveLowest cX2_moveLowest 3 none, Cond.methodLink RX2 83 yX2_leaveOut, Cond.instanceMethod yX2_leaveOut, Cond.selects RX2 yX2_leaveOut yX2_leaveOut, Cond.code yX2_leaveOut cX2_leaveOut 4 none, Cond.methodLink RX4 145 yX2_imply, Cond.instanceMethod yX2_imply, Cond.selects RX2 yX2_imply yX2_imply, Cond.code yX2_imply cX2_imply 2 (some .boolean), Cond.methodLink RX2 50 yX2_commonGain, Cond.instanceMethod yX2_commonGain, Cond.selects RX2 yX2_commonGain yX2_commonGain, Cond.code yX2_commonGain cX2_commonGain 4 (some .long), Cond.methodLink RX2 90 yX2_commonDivisor]
def wsX4_told_r5 : List Cond := [Cond.static yX2_commonDivisor, Cond.code yX2_commonDivisor cX2_commonDivisor 11 (some .long), Cond.methodLink RX2 107 Lib.MathLoose.abs_long.x, Cond.static Lib.MathLoose.abs_long.x, Cond.initialized "java/lang/Math", Cond.code Lib.MathLoose.abs_long.x Lib.MathLoose.abs_long.code 2 (some .long), Cond.methodLink RX2 54 yX2_lacksAreTimes, Cond.instanceMethod yX2_lacksAreTimes, Cond.selects RX2 yX2_lacksAreTimes yX2_lacksAreTimes, Cond.code yX2_lacksAreTimes cX2_lacksAreTimes 6 (some .boolean), Cond.methodLink RX4 71 yX4_neededSet, Cond.instanceMethod yX4_neededSet, Cond.selects RX4 yX4_neededSet yX4_neededSet, Cond.code yX4_neededSet cX4_neededSet 3 (some .int), Cond.methodLink RX4 74 yJ6_bitCount_0f7a4, Cond.static yJ6_bitCount_0f7a4, Cond.initialized RJ6, Cond.code yJ6_bitCount_0f7a4 cJ6_bitCount_0f7a4 1 (some .int), Cond.constant RJ6 265 (1431655765), Cond.constant RJ6 266 (858993459), Cond.constant RJ6 267 (252645135)]
def wsX4_told : List Cond := .code yX4_told cX4_told 2 (some .int) :: ((wsX4_told_r1 ++ (wsX4_told_r2 ++ (wsX4_told_r3 ++ (wsX4_told_r4 ++ wsX4_told_r5)))) ++ wsX40 ++ wsX30 ++ wsX20 ++ wsX00)
def wsX4_readText_r1 : List Cond := [Cond.fieldLink RX4 20 "UnitVectors" "reader" "LUnitVectors$Reader;", Cond.fieldLink RX4 9 "UnitVectors" "text" "[I", Cond.fieldLink RX4 56 "UnitVectors" "letters" "I", Cond.fieldLink RX4 13 "UnitVectors" "faultPlace" "I", Cond.fieldLink RX4 24 "UnitVectors" "read" "[I", Cond.methodLink RX4 183 yX1_readAll, Cond.instanceMethod yX1_readAll, Cond.selects RX1 yX1_readAll yX1_readAll, Cond.initialized RX1, Cond.code yX1_readAll cX1_readAll 6 (some .int), Cond.fieldLink RX1 24 "UnitVectors$Reader" "place" "I", Cond.methodLink RX1 28 yX1_start, Cond.instanceMethod yX1_start, Cond.selects RX1 yX1_start yX1_start, Cond.code yX1_start cX1_start 2 none, Cond.fieldLink RX1 40 "UnitVectors$Reader" "open" "I", Cond.fieldLink RX1 43 "UnitVectors$Reader" "side" "I", Cond.fieldLink RX1 46 "UnitVectors$Reader" "lacksEqual" "Z", Cond.methodLink RX1 50 yX1_startTotal, Cond.instanceMethod yX1_startTotal, Cond.selects RX1 yX1_startTotal yX1_startTotal, Cond.code yX1_startTotal cX1_startTotal 2 none, Cond.fieldLink RX1 13 "UnitVectors$Reader" "totals" "[[J", Cond.fieldLink RX1 16 "UnitVectors$Reader" "signs" "[I"]
def wsX4_readText_r2 : List Cond := [Cond.fieldLink RX1 53 "UnitVectors$Reader" "expected" "I", Cond.methodLink RX1 32 yX1_take, Cond.instanceMethod yX1_take, Cond.selects RX1 yX1_take yX1_take, Cond.code yX1_take cX1_take 2 (some .int), Cond.fieldLink RX1 70 "UnitVectors$Reader" "powerSign" "I", Cond.methodLink RX1 67 yX1_takeAtom, Cond.instanceMethod yX1_takeAtom, Cond.selects RX1 yX1_takeAtom yX1_takeAtom, Cond.code yX1_takeAtom cX1_takeAtom 2 (some .int), Cond.fieldLink RX1 20 "UnitVectors$Reader" "factor" "[J", Cond.methodLink RX1 79 yX1_takeOpening, Cond.instanceMethod yX1_takeOpening, Cond.selects RX1 yX1_takeOpening yX1_takeOpening, Cond.code yX1_takeOpening cX1_takeOpening 1 (some .int), Cond.methodLink RX1 82 yJ7_fill_d0a16, Cond.static yJ7_fill_d0a16, Cond.initialized RJ7, Cond.code yJ7_fill_d0a16 cJ7_fill_d0a16 5 none, Cond.methodLink RX1 73 yX1_takeJoint, Cond.instanceMethod yX1_takeJoint, Cond.selects RX1 yX1_takeJoint yX1_takeJoint, Cond.code yX1_takeJoint cX1_takeJoint 3 (some .int), Cond.methodLink RX1 88 yX1_joinNext]
def wsX4_readText_r3 : List Cond := [Cond.instanceMethod yX1_joinNext, Cond.selects RX1 yX1_joinNext yX1_joinNext, Cond.code yX1_joinNext cX1_joinNext 2 none, Cond.methodLink RX1 56 yX1_putFactor, Cond.instanceMethod yX1_putFactor, Cond.selects RX1 yX1_putFactor yX1_putFactor, Cond.code yX1_putFactor cX1_putFactor 2 none, Cond.methodLink RX1 92 yX1_takeClosing, Cond.instanceMethod yX1_takeClosing, Cond.selects RX1 yX1_takeClosing yX1_takeClosing, Cond.code yX1_takeClosing cX1_takeClosing 1 none, Cond.methodLink RX1 95 arraycopyName, Cond.native arraycopyName, Cond.static arraycopyName, Cond.initialized "java/lang/System", Cond.methodLink RX1 76 yX1_takeFigure, Cond.instanceMethod yX1_takeFigure, Cond.selects RX1 yX1_takeFigure yX1_takeFigure, Cond.code yX1_takeFigure cX1_takeFigure 3 (some .int), Cond.methodLink RX1 36 yX1_end, Cond.instanceMethod yX1_end, Cond.selects RX1 yX1_end yX1_end, Cond.code yX1_end cX1_end 3 (some .int), Cond.methodLink RX1 59 Lib.MathLoose.abs_long.x]
def wsX4_readText_r4 : List Cond := [Cond.static Lib.MathLoose.abs_long.x, Cond.initialized "java/lang/Math", Cond.code Lib.MathLoose.abs_long.x Lib.MathLoose.abs_long.code 2 (some .long), Cond.constantLong RX1 65 (9)]
def wsX4_readText : List Cond := .code yX4_readText cX4_readText 4 (some .int) :: ((wsX4_readText_r1 ++ (wsX4_readText_r2 ++ (wsX4_readText_r3 ++ wsX4_readText_r4))) ++ wsX40 ++ wsX10)
def wsX4_putSaying_r1 : List Cond := [Cond.fieldLink RX4 30 "UnitVectors" "now" "LUnitVectors$State;", Cond.fieldLink RX4 24 "UnitVectors" "read" "[I", Cond.fieldLink RX4 48 "UnitVectors" "solutions" "LUnitVectors$Solutions;", Cond.methodLink RX4 193 yX3_put, Cond.instanceMethod yX3_put, Cond.selects RX3 yX3_put yX3_put, Cond.initialized RX3, Cond.code yX3_put cX3_put 2 none, Cond.fieldLink RX3 29 "UnitVectors$State" "count" "I", Cond.fieldLink RX3 11 "UnitVectors$State" "sayings" "[[I", Cond.methodLink RX3 33 arraycopyName, Cond.native arraycopyName, Cond.static arraycopyName, Cond.initialized "java/lang/System", Cond.methodLink RX4 197 yX2_put, Cond.instanceMethod yX2_put, Cond.selects RX2 yX2_put yX2_put, Cond.initialized RX2, Cond.code yX2_put cX2_put 4 none, Cond.fieldLink RX2 32 "UnitVectors$Solutions" "count" "I", Cond.fieldLink RX2 11 "UnitVectors$Solutions" "rows" "[[J", Cond.fieldLink RX2 26 "UnitVectors$Solutions" "step" "[J", Cond.fieldLink RX2 19 "UnitVectors$Solutions" "gains" "[J", Cond.methodLink RX2 70 arraycopyName]
def wsX4_putSaying_r2 : List Cond := [Cond.fieldLink RX2 76 "UnitVectors$Solutions" "stepGain" "J", Cond.methodLink RX2 46 yX2_weigh, Cond.instanceMethod yX2_weigh, Cond.selects RX2 yX2_weigh yX2_weigh, Cond.code yX2_weigh cX2_weigh 3 none, Cond.fieldLink RX2 23 "UnitVectors$Solutions" "lacks" "[J", Cond.methodLink RX2 42 yX2_product, Cond.static yX2_product, Cond.code yX2_product cX2_product 5 (some .long), Cond.methodLink RX2 86 yX2_powerOf, Cond.instanceMethod yX2_powerOf, Cond.selects RX2 yX2_powerOf yX2_powerOf, Cond.code yX2_powerOf cX2_powerOf 3 (some .long), Cond.fieldLink RX2 16 "UnitVectors$Solutions" "lowest" "[[J", Cond.methodLink RX2 58 yX2_divideToAndFro, Cond.instanceMethod yX2_divideToAndFro, Cond.selects RX2 yX2_divideToAndFro yX2_divideToAndFro, Cond.code yX2_divideToAndFro cX2_divideToAndFro 10 none, Cond.methodLink RX2 94 yX2_addTimes, Cond.static yX2_addTimes, Cond.code yX2_addTimes cX2_addTimes 5 none, Cond.methodLink RX2 62 yX2_makeHeadPositive, Cond.static yX2_makeHeadPositive, Cond.code yX2_makeHeadPositive cX2_makeHeadPositive 3 none]
def wsX4_putSaying_r3 : List Cond := [Cond.methodLink RX2 98 yX2_headOf, Cond.static yX2_headOf, Cond.code yX2_headOf cX2_headOf 2 (some .int), Cond.methodLink RX2 66 yX2_reduce, Cond.instanceMethod yX2_reduce, Cond.selects RX2 yX2_reduce yX2_reduce, Cond.code yX2_reduce cX2_reduce 6 none, Cond.methodLink RX2 102 yJ9_floorDiv_f86c9, Cond.static yJ9_floorDiv_f86c9, Cond.initialized RJ9, Cond.code yJ9_floorDiv_f86c9 cJ9_floorDiv_f86c9 6 (some .long), Cond.methodLink RX2 80 yX2_moveLowest, Cond.instanceMethod yX2_moveLowest, Cond.selects RX2 yX2_moveLowest yX2_moveLowest, Cond.code yX2_moveLowest cX2_moveLowest 3 none, Cond.methodLink RX2 83 yX2_leaveOut, Cond.instanceMethod yX2_leaveOut, Cond.selects RX2 yX2_leaveOut yX2_leaveOut, Cond.code yX2_leaveOut cX2_leaveOut 4 none]
def wsX4_putSaying : List Cond := .code yX4_putSaying cX4_putSaying 1 none :: ((wsX4_putSaying_r1 ++ (wsX4_putSaying_r2 ++ wsX4_putSaying_r3)) ++ wsX40 ++ wsX30 ++ wsX20)
def wsX4_say_r1 : List Cond := [Cond.fieldLink RX4 30 "UnitVectors" "now" "LUnitVectors$State;", Cond.constant RX4 59 (-1000000004), Cond.fieldLink RX4 48 "UnitVectors" "solutions" "LUnitVectors$Solutions;", Cond.fieldLink RX4 24 "UnitVectors" "read" "[I", Cond.constant RX4 89 (-1000000003), Cond.fieldLink RX4 41 "UnitVectors" "past" "LUnitVectors$Past;", Cond.methodLink RX4 81 yX4_readText, Cond.instanceMethod yX4_readText, Cond.selects RX4 yX4_readText yX4_readText, Cond.initialized RX4, Cond.code yX4_readText cX4_readText 4 (some .int), Cond.fieldLink RX4 20 "UnitVectors" "reader" "LUnitVectors$Reader;", Cond.fieldLink RX4 9 "UnitVectors" "text" "[I", Cond.fieldLink RX4 56 "UnitVectors" "letters" "I", Cond.fieldLink RX4 13 "UnitVectors" "faultPlace" "I", Cond.methodLink RX4 183 yX1_readAll, Cond.instanceMethod yX1_readAll, Cond.selects RX1 yX1_readAll yX1_readAll, Cond.initialized RX1, Cond.code yX1_readAll cX1_readAll 6 (some .int), Cond.fieldLink RX1 24 "UnitVectors$Reader" "place" "I", Cond.methodLink RX1 28 yX1_start, Cond.instanceMethod yX1_start, Cond.selects RX1 yX1_start yX1_start]
def wsX4_say_r2 : List Cond := [Cond.code yX1_start cX1_start 2 none, Cond.fieldLink RX1 40 "UnitVectors$Reader" "open" "I", Cond.fieldLink RX1 43 "UnitVectors$Reader" "side" "I", Cond.fieldLink RX1 46 "UnitVectors$Reader" "lacksEqual" "Z", Cond.methodLink RX1 50 yX1_startTotal, Cond.instanceMethod yX1_startTotal, Cond.selects RX1 yX1_startTotal yX1_startTotal, Cond.code yX1_startTotal cX1_startTotal 2 none, Cond.fieldLink RX1 13 "UnitVectors$Reader" "totals" "[[J", Cond.fieldLink RX1 16 "UnitVectors$Reader" "signs" "[I", Cond.fieldLink RX1 53 "UnitVectors$Reader" "expected" "I", Cond.methodLink RX1 32 yX1_take, Cond.instanceMethod yX1_take, Cond.selects RX1 yX1_take yX1_take, Cond.code yX1_take cX1_take 2 (some .int), Cond.fieldLink RX1 70 "UnitVectors$Reader" "powerSign" "I", Cond.methodLink RX1 67 yX1_takeAtom, Cond.instanceMethod yX1_takeAtom, Cond.selects RX1 yX1_takeAtom yX1_takeAtom, Cond.code yX1_takeAtom cX1_takeAtom 2 (some .int), Cond.fieldLink RX1 20 "UnitVectors$Reader" "factor" "[J", Cond.methodLink RX1 79 yX1_takeOpening, Cond.instanceMethod yX1_takeOpening, Cond.selects RX1 yX1_takeOpening yX1_takeOpening]
def wsX4_say_r3 : List Cond := [Cond.code yX1_takeOpening cX1_takeOpening 1 (some .int), Cond.methodLink RX1 82 yJ7_fill_d0a16, Cond.static yJ7_fill_d0a16, Cond.initialized RJ7, Cond.code yJ7_fill_d0a16 cJ7_fill_d0a16 5 none, Cond.methodLink RX1 73 yX1_takeJoint, Cond.instanceMethod yX1_takeJoint, Cond.selects RX1 yX1_takeJoint yX1_takeJoint, Cond.code yX1_takeJoint cX1_takeJoint 3 (some .int), Cond.methodLink RX1 88 yX1_joinNext, Cond.instanceMethod yX1_joinNext, Cond.selects RX1 yX1_joinNext yX1_joinNext, Cond.code yX1_joinNext cX1_joinNext 2 none, Cond.methodLink RX1 56 yX1_putFactor, Cond.instanceMethod yX1_putFactor, Cond.selects RX1 yX1_putFactor yX1_putFactor, Cond.code yX1_putFactor cX1_putFactor 2 none, Cond.methodLink RX1 92 yX1_takeClosing, Cond.instanceMethod yX1_takeClosing, Cond.selects RX1 yX1_takeClosing yX1_takeClosing, Cond.code yX1_takeClosing cX1_takeClosing 1 none, Cond.methodLink RX1 95 arraycopyName, Cond.native arraycopyName, Cond.static arraycopyName]
def wsX4_say_r4 : List Cond := [Cond.initialized "java/lang/System", Cond.methodLink RX1 76 yX1_takeFigure, Cond.instanceMethod yX1_takeFigure, Cond.selects RX1 yX1_takeFigure yX1_takeFigure, Cond.code yX1_takeFigure cX1_takeFigure 3 (some .int), Cond.methodLink RX1 36 yX1_end, Cond.instanceMethod yX1_end, Cond.selects RX1 yX1_end yX1_end, Cond.code yX1_end cX1_end 3 (some .int), Cond.methodLink RX1 59 Lib.MathLoose.abs_long.x, Cond.static Lib.MathLoose.abs_long.x, Cond.initialized "java/lang/Math", Cond.code Lib.MathLoose.abs_long.x Lib.MathLoose.abs_long.code 2 (some .long), Cond.constantLong RX1 65 (9), Cond.methodLink RX4 85 yX2_agrees, Cond.instanceMethod yX2_agrees, Cond.selects RX2 yX2_agrees yX2_agrees, Cond.initialized RX2, Cond.code yX2_agrees cX2_agrees 2 (some .boolean), Cond.methodLink RX2 46 yX2_weigh, Cond.instanceMethod yX2_weigh, Cond.selects RX2 yX2_weigh yX2_weigh, Cond.code yX2_weigh cX2_weigh 3 none, Cond.fieldLink RX2 32 "UnitVectors$Solutions" "count" "I"]
def wsX4_say_r5 : List Cond := [Cond.fieldLink RX2 19 "UnitVectors$Solutions" "gains" "[J", Cond.fieldLink RX2 11 "UnitVectors$Solutions" "rows" "[[J", Cond.fieldLink RX2 23 "UnitVectors$Solutions" "lacks" "[J", Cond.methodLink RX2 42 yX2_product, Cond.static yX2_product, Cond.code yX2_product cX2_product 5 (some .long), Cond.methodLink RX2 86 yX2_powerOf, Cond.instanceMethod yX2_powerOf, Cond.selects RX2 yX2_powerOf yX2_powerOf, Cond.code yX2_powerOf cX2_powerOf 3 (some .long), Cond.fieldLink RX2 16 "UnitVectors$Solutions" "lowest" "[[J", Cond.methodLink RX2 50 yX2_commonGain, Cond.instanceMethod yX2_commonGain, Cond.selects RX2 yX2_commonGain yX2_commonGain, Cond.code yX2_commonGain cX2_commonGain 4 (some .long), Cond.methodLink RX2 90 yX2_commonDivisor, Cond.static yX2_commonDivisor, Cond.code yX2_commonDivisor cX2_commonDivisor 11 (some .long), Cond.methodLink RX2 107 Lib.MathLoose.abs_long.x, Cond.methodLink RX2 54 yX2_lacksAreTimes, Cond.instanceMethod yX2_lacksAreTimes, Cond.selects RX2 yX2_lacksAreTimes yX2_lacksAreTimes, Cond.code yX2_lacksAreTimes cX2_lacksAreTimes 6 (some .boolean), Cond.methodLink RX4 90 yX0_note]
def wsX4_say_r6 : List Cond := [Cond.instanceMethod yX0_note, Cond.selects RX0 yX0_note yX0_note, Cond.initialized RX0, Cond.code yX0_note cX0_note 2 none, Cond.fieldLink RX0 11 "UnitVectors$Past" "ahead" "[LUnitVectors$State;", Cond.fieldLink RX0 18 "UnitVectors$Past" "next" "I", Cond.fieldLink RX0 26 "UnitVectors$Past" "count" "I", Cond.methodLink RX0 22 yX3_copyDeeds, Cond.instanceMethod yX3_copyDeeds, Cond.selects RX3 yX3_copyDeeds yX3_copyDeeds, Cond.initialized RX3, Cond.code yX3_copyDeeds cX3_copyDeeds 3 none, Cond.fieldLink RX3 29 "UnitVectors$State" "count" "I", Cond.fieldLink RX3 11 "UnitVectors$State" "sayings" "[[I", Cond.methodLink RX3 33 arraycopyName, Cond.fieldLink RX3 16 "UnitVectors$State" "above" "[I", Cond.fieldLink RX3 20 "UnitVectors$State" "below" "[I", Cond.methodLink RX4 94 yX4_putSaying, Cond.instanceMethod yX4_putSaying, Cond.selects RX4 yX4_putSaying yX4_putSaying, Cond.code yX4_putSaying cX4_putSaying 1 none, Cond.methodLink RX4 193 yX3_put, Cond.instanceMethod yX3_put, Cond.selects RX3 yX3_put yX3_put]
def wsX4_say_r7 : List Cond := [Cond.code yX3_put cX3_put 2 none, Cond.methodLink RX4 197 yX2_put, Cond.instanceMethod yX2_put, Cond.selects RX2 yX2_put yX2_put, Cond.code yX2_put cX2_put 4 none, Cond.fieldLink RX2 26 "UnitVectors$Solutions" "step" "[J", Cond.methodLink RX2 70 arraycopyName, Cond.fieldLink RX2 76 "UnitVectors$Solutions" "stepGain" "J", Cond.methodLink RX2 58 yX2_divideToAndFro, Cond.instanceMethod yX2_divideToAndFro, Cond.selects RX2 yX2_divideToAndFro yX2_divideToAndFro, Cond.code yX2_divideToAndFro cX2_divideToAndFro 10 none, Cond.methodLink RX2 94 yX2_addTimes, Cond.static yX2_addTimes, Cond.code yX2_addTimes cX2_addTimes 5 none, Cond.methodLink RX2 62 yX2_makeHeadPositive, Cond.static yX2_makeHeadPositive, Cond.code yX2_makeHeadPositive cX2_makeHeadPositive 3 none, Cond.methodLink RX2 98 yX2_headOf, Cond.static yX2_headOf, Cond.code yX2_headOf cX2_headOf 2 (some .int), Cond.methodLink RX2 66 yX2_reduce, Cond.instanceMethod yX2_reduce, Cond.selects RX2 yX2_reduce yX2_reduce]
def wsX4_say_r8 : List Cond := [Cond.code yX2_reduce cX2_reduce 6 none, Cond.methodLink RX2 102 yJ9_floorDiv_f86c9, Cond.static yJ9_floorDiv_f86c9, Cond.initialized RJ9, Cond.code yJ9_floorDiv_f86c9 cJ9_floorDiv_f86c9 6 (some .long), Cond.methodLink RX2 80 yX2_moveLowest, Cond.instanceMethod yX2_moveLowest, Cond.selects RX2 yX2_moveLowest yX2_moveLowest, Cond.code yX2_moveLowest cX2_moveLowest 3 none, Cond.methodLink RX2 83 yX2_leaveOut, Cond.instanceMethod yX2_leaveOut, Cond.selects RX2 yX2_leaveOut yX2_leaveOut, Cond.code yX2_leaveOut cX2_leaveOut 4 none]
def wsX4_say : List Cond := .code yX4_say cX4_say 2 (some .int) :: ((wsX4_say_r1 ++ (wsX4_say_r2 ++ (wsX4_say_r3 ++ (wsX4_say_r4 ++ (wsX4_say_r5 ++ (wsX4_say_r6 ++ (wsX4_say_r7 ++ wsX4_say_r8))))))) ++ wsX40 ++ wsX30 ++ wsX10 ++ wsX20 ++ wsX00)
def wsX4_solveAnew_r1 : List Cond := [Cond.fieldLink RX4 48 "UnitVectors" "solutions" "LUnitVectors$Solutions;", Cond.fieldLink RX4 30 "UnitVectors" "now" "LUnitVectors$State;", Cond.methodLink RX4 198 yX2_clear, Cond.instanceMethod yX2_clear, Cond.selects RX2 yX2_clear yX2_clear, Cond.initialized RX2, Cond.code yX2_clear cX2_clear 2 none, Cond.fieldLink RX2 32 "UnitVectors$Solutions" "count" "I", Cond.fieldLink RX2 11 "UnitVectors$Solutions" "rows" "[[J", Cond.fieldLink RX2 16 "UnitVectors$Solutions" "lowest" "[[J", Cond.methodLink RX2 36 yJ7_fill_d0a16, Cond.static yJ7_fill_d0a16, Cond.initialized RJ7, Cond.code yJ7_fill_d0a16 cJ7_fill_d0a16 5 none, Cond.methodLink RX4 197 yX2_put, Cond.instanceMethod yX2_put, Cond.selects RX2 yX2_put yX2_put, Cond.code yX2_put cX2_put 4 none, Cond.fieldLink RX2 26 "UnitVectors$Solutions" "step" "[J", Cond.fieldLink RX2 19 "UnitVectors$Solutions" "gains" "[J", Cond.methodLink RX2 70 arraycopyName, Cond.native arraycopyName, Cond.static arraycopyName, Cond.initialized "java/lang/System"]
def wsX4_solveAnew_r2 : List Cond := [Cond.fieldLink RX2 76 "UnitVectors$Solutions" "stepGain" "J", Cond.methodLink RX2 46 yX2_weigh, Cond.instanceMethod yX2_weigh, Cond.selects RX2 yX2_weigh yX2_weigh, Cond.code yX2_weigh cX2_weigh 3 none, Cond.fieldLink RX2 23 "UnitVectors$Solutions" "lacks" "[J", Cond.methodLink RX2 42 yX2_product, Cond.static yX2_product, Cond.code yX2_product cX2_product 5 (some .long), Cond.methodLink RX2 86 yX2_powerOf, Cond.instanceMethod yX2_powerOf, Cond.selects RX2 yX2_powerOf yX2_powerOf, Cond.code yX2_powerOf cX2_powerOf 3 (some .long), Cond.methodLink RX2 58 yX2_divideToAndFro, Cond.instanceMethod yX2_divideToAndFro, Cond.selects RX2 yX2_divideToAndFro yX2_divideToAndFro, Cond.code yX2_divideToAndFro cX2_divideToAndFro 10 none, Cond.methodLink RX2 94 yX2_addTimes, Cond.static yX2_addTimes, Cond.code yX2_addTimes cX2_addTimes 5 none, Cond.methodLink RX2 62 yX2_makeHeadPositive, Cond.static yX2_makeHeadPositive, Cond.code yX2_makeHeadPositive cX2_makeHeadPositive 3 none, Cond.methodLink RX2 98 yX2_headOf]
def wsX4_solveAnew_r3 : List Cond := [Cond.static yX2_headOf, Cond.code yX2_headOf cX2_headOf 2 (some .int), Cond.methodLink RX2 66 yX2_reduce, Cond.instanceMethod yX2_reduce, Cond.selects RX2 yX2_reduce yX2_reduce, Cond.code yX2_reduce cX2_reduce 6 none, Cond.methodLink RX2 102 yJ9_floorDiv_f86c9, Cond.static yJ9_floorDiv_f86c9, Cond.initialized RJ9, Cond.code yJ9_floorDiv_f86c9 cJ9_floorDiv_f86c9 6 (some .long), Cond.methodLink RX2 80 yX2_moveLowest, Cond.instanceMethod yX2_moveLowest, Cond.selects RX2 yX2_moveLowest yX2_moveLowest, Cond.code yX2_moveLowest cX2_moveLowest 3 none, Cond.methodLink RX2 83 yX2_leaveOut, Cond.instanceMethod yX2_leaveOut, Cond.selects RX2 yX2_leaveOut yX2_leaveOut, Cond.code yX2_leaveOut cX2_leaveOut 4 none]
def wsX4_solveAnew : List Cond := .code yX4_solveAnew cX4_solveAnew 2 none :: ((wsX4_solveAnew_r1 ++ (wsX4_solveAnew_r2 ++ wsX4_solveAnew_r3)) ++ wsX40 ++ wsX30 ++ wsX20)
def wsX4_back_r1 : List Cond := [Cond.fieldLink RX4 30 "UnitVectors" "now" "LUnitVectors$State;", Cond.constant RX4 97 (-1000000001), Cond.fieldLink RX4 41 "UnitVectors" "past" "LUnitVectors$Past;", Cond.methodLink RX4 90 yX0_note, Cond.instanceMethod yX0_note, Cond.selects RX0 yX0_note yX0_note, Cond.initialized RX0, Cond.code yX0_note cX0_note 2 none, Cond.fieldLink RX0 11 "UnitVectors$Past" "ahead" "[LUnitVectors$State;", Cond.fieldLink RX0 18 "UnitVectors$Past" "next" "I", Cond.fieldLink RX0 26 "UnitVectors$Past" "count" "I", Cond.methodLink RX0 22 yX3_copyDeeds, Cond.instanceMethod yX3_copyDeeds, Cond.selects RX3 yX3_copyDeeds yX3_copyDeeds, Cond.initialized RX3, Cond.code yX3_copyDeeds cX3_copyDeeds 3 none, Cond.fieldLink RX3 29 "UnitVectors$State" "count" "I", Cond.fieldLink RX3 11 "UnitVectors$State" "sayings" "[[I", Cond.methodLink RX3 33 arraycopyName, Cond.native arraycopyName, Cond.static arraycopyName, Cond.initialized "java/lang/System", Cond.fieldLink RX3 16 "UnitVectors$State" "above" "[I", Cond.fieldLink RX3 20 "UnitVectors$State" "below" "[I"]
def wsX4_back_r2 : List Cond := [Cond.methodLink RX4 98 yX3_remove, Cond.instanceMethod yX3_remove, Cond.selects RX3 yX3_remove yX3_remove, Cond.code yX3_remove cX3_remove 3 none, Cond.methodLink RX4 102 yX4_solveAnew, Cond.instanceMethod yX4_solveAnew, Cond.selects RX4 yX4_solveAnew yX4_solveAnew, Cond.initialized RX4, Cond.code yX4_solveAnew cX4_solveAnew 2 none, Cond.fieldLink RX4 48 "UnitVectors" "solutions" "LUnitVectors$Solutions;", Cond.methodLink RX4 198 yX2_clear, Cond.instanceMethod yX2_clear, Cond.selects RX2 yX2_clear yX2_clear, Cond.initialized RX2, Cond.code yX2_clear cX2_clear 2 none, Cond.fieldLink RX2 32 "UnitVectors$Solutions" "count" "I", Cond.fieldLink RX2 11 "UnitVectors$Solutions" "rows" "[[J", Cond.fieldLink RX2 16 "UnitVectors$Solutions" "lowest" "[[J", Cond.methodLink RX2 36 yJ7_fill_d0a16, Cond.static yJ7_fill_d0a16, Cond.initialized RJ7, Cond.code yJ7_fill_d0a16 cJ7_fill_d0a16 5 none, Cond.methodLink RX4 197 yX2_put, Cond.instanceMethod yX2_put]
def wsX4_back_r3 : List Cond := [Cond.selects RX2 yX2_put yX2_put, Cond.code yX2_put cX2_put 4 none, Cond.fieldLink RX2 26 "UnitVectors$Solutions" "step" "[J", Cond.fieldLink RX2 19 "UnitVectors$Solutions" "gains" "[J", Cond.methodLink RX2 70 arraycopyName, Cond.fieldLink RX2 76 "UnitVectors$Solutions" "stepGain" "J", Cond.methodLink RX2 46 yX2_weigh, Cond.instanceMethod yX2_weigh, Cond.selects RX2 yX2_weigh yX2_weigh, Cond.code yX2_weigh cX2_weigh 3 none, Cond.fieldLink RX2 23 "UnitVectors$Solutions" "lacks" "[J", Cond.methodLink RX2 42 yX2_product, Cond.static yX2_product, Cond.code yX2_product cX2_product 5 (some .long), Cond.methodLink RX2 86 yX2_powerOf, Cond.instanceMethod yX2_powerOf, Cond.selects RX2 yX2_powerOf yX2_powerOf, Cond.code yX2_powerOf cX2_powerOf 3 (some .long), Cond.methodLink RX2 58 yX2_divideToAndFro, Cond.instanceMethod yX2_divideToAndFro, Cond.selects RX2 yX2_divideToAndFro yX2_divideToAndFro, Cond.code yX2_divideToAndFro cX2_divideToAndFro 10 none, Cond.methodLink RX2 94 yX2_addTimes, Cond.static yX2_addTimes]
def wsX4_back_r4 : List Cond := [Cond.code yX2_addTimes cX2_addTimes 5 none, Cond.methodLink RX2 62 yX2_makeHeadPositive, Cond.static yX2_makeHeadPositive, Cond.code yX2_makeHeadPositive cX2_makeHeadPositive 3 none, Cond.methodLink RX2 98 yX2_headOf, Cond.static yX2_headOf, Cond.code yX2_headOf cX2_headOf 2 (some .int), Cond.methodLink RX2 66 yX2_reduce, Cond.instanceMethod yX2_reduce, Cond.selects RX2 yX2_reduce yX2_reduce, Cond.code yX2_reduce cX2_reduce 6 none, Cond.methodLink RX2 102 yJ9_floorDiv_f86c9, Cond.static yJ9_floorDiv_f86c9, Cond.initialized RJ9, Cond.code yJ9_floorDiv_f86c9 cJ9_floorDiv_f86c9 6 (some .long), Cond.methodLink RX2 80 yX2_moveLowest, Cond.instanceMethod yX2_moveLowest, Cond.selects RX2 yX2_moveLowest yX2_moveLowest, Cond.code yX2_moveLowest cX2_moveLowest 3 none, Cond.methodLink RX2 83 yX2_leaveOut, Cond.instanceMethod yX2_leaveOut, Cond.selects RX2 yX2_leaveOut yX2_leaveOut, Cond.code yX2_leaveOut cX2_leaveOut 4 none]
def wsX4_back : List Cond := .code yX4_back cX4_back 2 (some .int) :: ((wsX4_back_r1 ++ (wsX4_back_r2 ++ (wsX4_back_r3 ++ wsX4_back_r4))) ++ wsX40 ++ wsX30 ++ wsX00 ++ wsX20)
def wsX4_scale_r1 : List Cond := [Cond.constant RX4 97 (-1000000001), Cond.constant RX4 55 (-1000000002), Cond.fieldLink RX4 41 "UnitVectors" "past" "LUnitVectors$Past;", Cond.fieldLink RX4 30 "UnitVectors" "now" "LUnitVectors$State;", Cond.methodLink RX4 90 yX0_note, Cond.instanceMethod yX0_note, Cond.selects RX0 yX0_note yX0_note, Cond.initialized RX0, Cond.code yX0_note cX0_note 2 none, Cond.fieldLink RX0 11 "UnitVectors$Past" "ahead" "[LUnitVectors$State;", Cond.fieldLink RX0 18 "UnitVectors$Past" "next" "I", Cond.fieldLink RX0 26 "UnitVectors$Past" "count" "I", Cond.methodLink RX0 22 yX3_copyDeeds, Cond.instanceMethod yX3_copyDeeds, Cond.selects RX3 yX3_copyDeeds yX3_copyDeeds, Cond.initialized RX3, Cond.code yX3_copyDeeds cX3_copyDeeds 3 none, Cond.fieldLink RX3 29 "UnitVectors$State" "count" "I", Cond.fieldLink RX3 11 "UnitVectors$State" "sayings" "[[I", Cond.methodLink RX3 33 arraycopyName, Cond.native arraycopyName, Cond.static arraycopyName, Cond.initialized "java/lang/System", Cond.fieldLink RX3 16 "UnitVectors$State" "above" "[I"]
def wsX4_scale_r2 : List Cond := [Cond.fieldLink RX3 20 "UnitVectors$State" "below" "[I", Cond.methodLink RX4 111 yX3_countScaled, Cond.instanceMethod yX3_countScaled, Cond.selects RX3 yX3_countScaled yX3_countScaled, Cond.code yX3_countScaled cX3_countScaled 3 (some .int)]
def wsX4_scale : List Cond := .code yX4_scale cX4_scale 4 (some .int) :: ((wsX4_scale_r1 ++ wsX4_scale_r2) ++ wsX40 ++ wsX30 ++ wsX00)
def wsX4_driftOnce_r1 : List Cond := [Cond.fieldLink RX4 41 "UnitVectors" "past" "LUnitVectors$Past;", Cond.fieldLink RX4 30 "UnitVectors" "now" "LUnitVectors$State;", Cond.fieldLink RX4 24 "UnitVectors" "read" "[I", Cond.fieldLink RX4 48 "UnitVectors" "solutions" "LUnitVectors$Solutions;", Cond.methodLink RX4 90 yX0_note, Cond.instanceMethod yX0_note, Cond.selects RX0 yX0_note yX0_note, Cond.initialized RX0, Cond.code yX0_note cX0_note 2 none, Cond.fieldLink RX0 11 "UnitVectors$Past" "ahead" "[LUnitVectors$State;", Cond.fieldLink RX0 18 "UnitVectors$Past" "next" "I", Cond.fieldLink RX0 26 "UnitVectors$Past" "count" "I", Cond.methodLink RX0 22 yX3_copyDeeds, Cond.instanceMethod yX3_copyDeeds, Cond.selects RX3 yX3_copyDeeds yX3_copyDeeds, Cond.initialized RX3, Cond.code yX3_copyDeeds cX3_copyDeeds 3 none, Cond.fieldLink RX3 29 "UnitVectors$State" "count" "I", Cond.fieldLink RX3 11 "UnitVectors$State" "sayings" "[[I", Cond.methodLink RX3 33 arraycopyName, Cond.native arraycopyName, Cond.static arraycopyName, Cond.initialized "java/lang/System", Cond.fieldLink RX3 16 "UnitVectors$State" "above" "[I"]
def wsX4_driftOnce_r2 : List Cond := [Cond.fieldLink RX3 20 "UnitVectors$State" "below" "[I", Cond.methodLink RX4 201 yX3_draw, Cond.instanceMethod yX3_draw, Cond.selects RX3 yX3_draw yX3_draw, Cond.code yX3_draw cX3_draw 2 (some .int), Cond.fieldLink RX3 39 "UnitVectors$State" "drawSeed" "I", Cond.constantLong RX3 42 (1103515245), Cond.constantLong RX3 44 (12345), Cond.constantLong RX3 46 (2147483647), Cond.constant RX3 48 (65536), Cond.methodLink RX4 204 yJ7_fill_53178, Cond.static yJ7_fill_53178, Cond.initialized RJ7, Cond.code yJ7_fill_53178 cJ7_fill_53178 4 none, Cond.methodLink RX4 85 yX2_agrees, Cond.instanceMethod yX2_agrees, Cond.selects RX2 yX2_agrees yX2_agrees, Cond.initialized RX2, Cond.code yX2_agrees cX2_agrees 2 (some .boolean), Cond.methodLink RX2 46 yX2_weigh, Cond.instanceMethod yX2_weigh, Cond.selects RX2 yX2_weigh yX2_weigh, Cond.code yX2_weigh cX2_weigh 3 none, Cond.fieldLink RX2 32 "UnitVectors$Solutions" "count" "I"]
def wsX4_driftOnce_r3 : List Cond := [Cond.fieldLink RX2 19 "UnitVectors$Solutions" "gains" "[J", Cond.fieldLink RX2 11 "UnitVectors$Solutions" "rows" "[[J", Cond.fieldLink RX2 23 "UnitVectors$Solutions" "lacks" "[J", Cond.methodLink RX2 42 yX2_product, Cond.static yX2_product, Cond.code yX2_product cX2_product 5 (some .long), Cond.methodLink RX2 86 yX2_powerOf, Cond.instanceMethod yX2_powerOf, Cond.selects RX2 yX2_powerOf yX2_powerOf, Cond.code yX2_powerOf cX2_powerOf 3 (some .long), Cond.fieldLink RX2 16 "UnitVectors$Solutions" "lowest" "[[J", Cond.methodLink RX2 50 yX2_commonGain, Cond.instanceMethod yX2_commonGain, Cond.selects RX2 yX2_commonGain yX2_commonGain, Cond.code yX2_commonGain cX2_commonGain 4 (some .long), Cond.methodLink RX2 90 yX2_commonDivisor, Cond.static yX2_commonDivisor, Cond.code yX2_commonDivisor cX2_commonDivisor 11 (some .long), Cond.methodLink RX2 107 Lib.MathLoose.abs_long.x, Cond.static Lib.MathLoose.abs_long.x, Cond.initialized "java/lang/Math", Cond.code Lib.MathLoose.abs_long.x Lib.MathLoose.abs_long.code 2 (some .long), Cond.methodLink RX2 54 yX2_lacksAreTimes, Cond.instanceMethod yX2_lacksAreTimes]
def wsX4_driftOnce_r4 : List Cond := [Cond.selects RX2 yX2_lacksAreTimes yX2_lacksAreTimes, Cond.code yX2_lacksAreTimes cX2_lacksAreTimes 6 (some .boolean), Cond.methodLink RX4 94 yX4_putSaying, Cond.instanceMethod yX4_putSaying, Cond.selects RX4 yX4_putSaying yX4_putSaying, Cond.initialized RX4, Cond.code yX4_putSaying cX4_putSaying 1 none, Cond.methodLink RX4 193 yX3_put, Cond.instanceMethod yX3_put, Cond.selects RX3 yX3_put yX3_put, Cond.code yX3_put cX3_put 2 none, Cond.methodLink RX4 197 yX2_put, Cond.instanceMethod yX2_put, Cond.selects RX2 yX2_put yX2_put, Cond.code yX2_put cX2_put 4 none, Cond.fieldLink RX2 26 "UnitVectors$Solutions" "step" "[J", Cond.methodLink RX2 70 arraycopyName, Cond.fieldLink RX2 76 "UnitVectors$Solutions" "stepGain" "J", Cond.methodLink RX2 58 yX2_divideToAndFro, Cond.instanceMethod yX2_divideToAndFro, Cond.selects RX2 yX2_divideToAndFro yX2_divideToAndFro, Cond.code yX2_divideToAndFro cX2_divideToAndFro 10 none, Cond.methodLink RX2 94 yX2_addTimes, Cond.static yX2_addTimes]
def wsX4_driftOnce_r5 : List Cond := [Cond.code yX2_addTimes cX2_addTimes 5 none, Cond.methodLink RX2 62 yX2_makeHeadPositive, Cond.static yX2_makeHeadPositive, Cond.code yX2_makeHeadPositive cX2_makeHeadPositive 3 none, Cond.methodLink RX2 98 yX2_headOf, Cond.static yX2_headOf, Cond.code yX2_headOf cX2_headOf 2 (some .int), Cond.methodLink RX2 66 yX2_reduce, Cond.instanceMethod yX2_reduce, Cond.selects RX2 yX2_reduce yX2_reduce, Cond.code yX2_reduce cX2_reduce 6 none, Cond.methodLink RX2 102 yJ9_floorDiv_f86c9, Cond.static yJ9_floorDiv_f86c9, Cond.initialized RJ9, Cond.code yJ9_floorDiv_f86c9 cJ9_floorDiv_f86c9 6 (some .long), Cond.methodLink RX2 80 yX2_moveLowest, Cond.instanceMethod yX2_moveLowest, Cond.selects RX2 yX2_moveLowest yX2_moveLowest, Cond.code yX2_moveLowest cX2_moveLowest 3 none, Cond.methodLink RX2 83 yX2_leaveOut, Cond.instanceMethod yX2_leaveOut, Cond.selects RX2 yX2_leaveOut yX2_leaveOut, Cond.code yX2_leaveOut cX2_leaveOut 4 none]
def wsX4_driftOnce : List Cond := .code yX4_driftOnce cX4_driftOnce 6 none :: ((wsX4_driftOnce_r1 ++ (wsX4_driftOnce_r2 ++ (wsX4_driftOnce_r3 ++ (wsX4_driftOnce_r4 ++ wsX4_driftOnce_r5)))) ++ wsX40 ++ wsX30 ++ wsX00 ++ wsX20)
def wsX4_drift_r1 : List Cond := [Cond.constant RX4 55 (-1000000002), Cond.fieldLink RX4 30 "UnitVectors" "now" "LUnitVectors$State;", Cond.methodLink RX4 114 yX4_driftOnce, Cond.instanceMethod yX4_driftOnce, Cond.selects RX4 yX4_driftOnce yX4_driftOnce, Cond.initialized RX4, Cond.code yX4_driftOnce cX4_driftOnce 6 none, Cond.fieldLink RX4 41 "UnitVectors" "past" "LUnitVectors$Past;", Cond.fieldLink RX4 24 "UnitVectors" "read" "[I", Cond.fieldLink RX4 48 "UnitVectors" "solutions" "LUnitVectors$Solutions;", Cond.methodLink RX4 90 yX0_note, Cond.instanceMethod yX0_note, Cond.selects RX0 yX0_note yX0_note, Cond.initialized RX0, Cond.code yX0_note cX0_note 2 none, Cond.fieldLink RX0 11 "UnitVectors$Past" "ahead" "[LUnitVectors$State;", Cond.fieldLink RX0 18 "UnitVectors$Past" "next" "I", Cond.fieldLink RX0 26 "UnitVectors$Past" "count" "I", Cond.methodLink RX0 22 yX3_copyDeeds, Cond.instanceMethod yX3_copyDeeds, Cond.selects RX3 yX3_copyDeeds yX3_copyDeeds, Cond.initialized RX3, Cond.code yX3_copyDeeds cX3_copyDeeds 3 none, Cond.fieldLink RX3 29 "UnitVectors$State" "count" "I"]
def wsX4_drift_r2 : List Cond := [Cond.fieldLink RX3 11 "UnitVectors$State" "sayings" "[[I", Cond.methodLink RX3 33 arraycopyName, Cond.native arraycopyName, Cond.static arraycopyName, Cond.initialized "java/lang/System", Cond.fieldLink RX3 16 "UnitVectors$State" "above" "[I", Cond.fieldLink RX3 20 "UnitVectors$State" "below" "[I", Cond.methodLink RX4 201 yX3_draw, Cond.instanceMethod yX3_draw, Cond.selects RX3 yX3_draw yX3_draw, Cond.code yX3_draw cX3_draw 2 (some .int), Cond.fieldLink RX3 39 "UnitVectors$State" "drawSeed" "I", Cond.constantLong RX3 42 (1103515245), Cond.constantLong RX3 44 (12345), Cond.constantLong RX3 46 (2147483647), Cond.constant RX3 48 (65536), Cond.methodLink RX4 204 yJ7_fill_53178, Cond.static yJ7_fill_53178, Cond.initialized RJ7, Cond.code yJ7_fill_53178 cJ7_fill_53178 4 none, Cond.methodLink RX4 85 yX2_agrees, Cond.instanceMethod yX2_agrees, Cond.selects RX2 yX2_agrees yX2_agrees, Cond.initialized RX2]
def wsX4_drift_r3 : List Cond := [Cond.code yX2_agrees cX2_agrees 2 (some .boolean), Cond.methodLink RX2 46 yX2_weigh, Cond.instanceMethod yX2_weigh, Cond.selects RX2 yX2_weigh yX2_weigh, Cond.code yX2_weigh cX2_weigh 3 none, Cond.fieldLink RX2 32 "UnitVectors$Solutions" "count" "I", Cond.fieldLink RX2 19 "UnitVectors$Solutions" "gains" "[J", Cond.fieldLink RX2 11 "UnitVectors$Solutions" "rows" "[[J", Cond.fieldLink RX2 23 "UnitVectors$Solutions" "lacks" "[J", Cond.methodLink RX2 42 yX2_product, Cond.static yX2_product, Cond.code yX2_product cX2_product 5 (some .long), Cond.methodLink RX2 86 yX2_powerOf, Cond.instanceMethod yX2_powerOf, Cond.selects RX2 yX2_powerOf yX2_powerOf, Cond.code yX2_powerOf cX2_powerOf 3 (some .long), Cond.fieldLink RX2 16 "UnitVectors$Solutions" "lowest" "[[J", Cond.methodLink RX2 50 yX2_commonGain, Cond.instanceMethod yX2_commonGain, Cond.selects RX2 yX2_commonGain yX2_commonGain, Cond.code yX2_commonGain cX2_commonGain 4 (some .long), Cond.methodLink RX2 90 yX2_commonDivisor, Cond.static yX2_commonDivisor, Cond.code yX2_commonDivisor cX2_commonDivisor 11 (some .long)]
def wsX4_drift_r4 : List Cond := [Cond.methodLink RX2 107 Lib.MathLoose.abs_long.x, Cond.static Lib.MathLoose.abs_long.x, Cond.initialized "java/lang/Math", Cond.code Lib.MathLoose.abs_long.x Lib.MathLoose.abs_long.code 2 (some .long), Cond.methodLink RX2 54 yX2_lacksAreTimes, Cond.instanceMethod yX2_lacksAreTimes, Cond.selects RX2 yX2_lacksAreTimes yX2_lacksAreTimes, Cond.code yX2_lacksAreTimes cX2_lacksAreTimes 6 (some .boolean), Cond.methodLink RX4 94 yX4_putSaying, Cond.instanceMethod yX4_putSaying, Cond.selects RX4 yX4_putSaying yX4_putSaying, Cond.code yX4_putSaying cX4_putSaying 1 none, Cond.methodLink RX4 193 yX3_put, Cond.instanceMethod yX3_put, Cond.selects RX3 yX3_put yX3_put, Cond.code yX3_put cX3_put 2 none, Cond.methodLink RX4 197 yX2_put, Cond.instanceMethod yX2_put, Cond.selects RX2 yX2_put yX2_put, Cond.code yX2_put cX2_put 4 none, Cond.fieldLink RX2 26 "UnitVectors$Solutions" "step" "[J", Cond.methodLink RX2 70 arraycopyName, Cond.fieldLink RX2 76 "UnitVectors$Solutions" "stepGain" "J", Cond.methodLink RX2 58 yX2_divideToAndFro]
def wsX4_drift_r5 : List Cond := [Cond.instanceMethod yX2_divideToAndFro, Cond.selects RX2 yX2_divideToAndFro yX2_divideToAndFro, Cond.code yX2_divideToAndFro cX2_divideToAndFro 10 none, Cond.methodLink RX2 94 yX2_addTimes, Cond.static yX2_addTimes, Cond.code yX2_addTimes cX2_addTimes 5 none, Cond.methodLink RX2 62 yX2_makeHeadPositive, Cond.static yX2_makeHeadPositive, Cond.code yX2_makeHeadPositive cX2_makeHeadPositive 3 none, Cond.methodLink RX2 98 yX2_headOf, Cond.static yX2_headOf, Cond.code yX2_headOf cX2_headOf 2 (some .int), Cond.methodLink RX2 66 yX2_reduce, Cond.instanceMethod yX2_reduce, Cond.selects RX2 yX2_reduce yX2_reduce, Cond.code yX2_reduce cX2_reduce 6 none, Cond.methodLink RX2 102 yJ9_floorDiv_f86c9, Cond.static yJ9_floorDiv_f86c9, Cond.initialized RJ9, Cond.code yJ9_floorDiv_f86c9 cJ9_floorDiv_f86c9 6 (some .long), Cond.methodLink RX2 80 yX2_moveLowest, Cond.instanceMethod yX2_moveLowest, Cond.selects RX2 yX2_moveLowest yX2_moveLowest, Cond.code yX2_moveLowest cX2_moveLowest 3 none]
def wsX4_drift_r6 : List Cond := [Cond.methodLink RX2 83 yX2_leaveOut, Cond.instanceMethod yX2_leaveOut, Cond.selects RX2 yX2_leaveOut yX2_leaveOut, Cond.code yX2_leaveOut cX2_leaveOut 4 none]
def wsX4_drift : List Cond := .code yX4_drift cX4_drift 3 (some .int) :: ((wsX4_drift_r1 ++ (wsX4_drift_r2 ++ (wsX4_drift_r3 ++ (wsX4_drift_r4 ++ (wsX4_drift_r5 ++ wsX4_drift_r6))))) ++ wsX40 ++ wsX30 ++ wsX00 ++ wsX20)
def wsX4_undo_r1 : List Cond := [Cond.constant RX4 55 (-1000000002), Cond.fieldLink RX4 41 "UnitVectors" "past" "LUnitVectors$Past;", Cond.constant RX4 89 (-1000000003), Cond.fieldLink RX4 30 "UnitVectors" "now" "LUnitVectors$State;", Cond.methodLink RX4 117 yX0_restore, Cond.instanceMethod yX0_restore, Cond.selects RX0 yX0_restore yX0_restore, Cond.initialized RX0, Cond.code yX0_restore cX0_restore 3 none, Cond.fieldLink RX0 18 "UnitVectors$Past" "next" "I", Cond.fieldLink RX0 26 "UnitVectors$Past" "count" "I", Cond.fieldLink RX0 11 "UnitVectors$Past" "ahead" "[LUnitVectors$State;", Cond.methodLink RX0 29 yJ9_floorMod_7cf53, Cond.static yJ9_floorMod_7cf53, Cond.initialized RJ9, Cond.code yJ9_floorMod_7cf53 cJ9_floorMod_7cf53 3 (some .int), Cond.methodLink RX0 22 yX3_copyDeeds, Cond.instanceMethod yX3_copyDeeds, Cond.selects RX3 yX3_copyDeeds yX3_copyDeeds, Cond.initialized RX3, Cond.code yX3_copyDeeds cX3_copyDeeds 3 none, Cond.fieldLink RX3 29 "UnitVectors$State" "count" "I", Cond.fieldLink RX3 11 "UnitVectors$State" "sayings" "[[I", Cond.methodLink RX3 33 arraycopyName]
def wsX4_undo_r2 : List Cond := [Cond.native arraycopyName, Cond.static arraycopyName, Cond.initialized "java/lang/System", Cond.fieldLink RX3 16 "UnitVectors$State" "above" "[I", Cond.fieldLink RX3 20 "UnitVectors$State" "below" "[I", Cond.methodLink RX4 102 yX4_solveAnew, Cond.instanceMethod yX4_solveAnew, Cond.selects RX4 yX4_solveAnew yX4_solveAnew, Cond.initialized RX4, Cond.code yX4_solveAnew cX4_solveAnew 2 none, Cond.fieldLink RX4 48 "UnitVectors" "solutions" "LUnitVectors$Solutions;", Cond.methodLink RX4 198 yX2_clear, Cond.instanceMethod yX2_clear, Cond.selects RX2 yX2_clear yX2_clear, Cond.initialized RX2, Cond.code yX2_clear cX2_clear 2 none, Cond.fieldLink RX2 32 "UnitVectors$Solutions" "count" "I", Cond.fieldLink RX2 11 "UnitVectors$Solutions" "rows" "[[J", Cond.fieldLink RX2 16 "UnitVectors$Solutions" "lowest" "[[J", Cond.methodLink RX2 36 yJ7_fill_d0a16, Cond.static yJ7_fill_d0a16, Cond.initialized RJ7, Cond.code yJ7_fill_d0a16 cJ7_fill_d0a16 5 none, Cond.methodLink RX4 197 yX2_put]
def wsX4_undo_r3 : List Cond := [Cond.instanceMethod yX2_put, Cond.selects RX2 yX2_put yX2_put, Cond.code yX2_put cX2_put 4 none, Cond.fieldLink RX2 26 "UnitVectors$Solutions" "step" "[J", Cond.fieldLink RX2 19 "UnitVectors$Solutions" "gains" "[J", Cond.methodLink RX2 70 arraycopyName, Cond.fieldLink RX2 76 "UnitVectors$Solutions" "stepGain" "J", Cond.methodLink RX2 46 yX2_weigh, Cond.instanceMethod yX2_weigh, Cond.selects RX2 yX2_weigh yX2_weigh, Cond.code yX2_weigh cX2_weigh 3 none, Cond.fieldLink RX2 23 "UnitVectors$Solutions" "lacks" "[J", Cond.methodLink RX2 42 yX2_product, Cond.static yX2_product, Cond.code yX2_product cX2_product 5 (some .long), Cond.methodLink RX2 86 yX2_powerOf, Cond.instanceMethod yX2_powerOf, Cond.selects RX2 yX2_powerOf yX2_powerOf, Cond.code yX2_powerOf cX2_powerOf 3 (some .long), Cond.methodLink RX2 58 yX2_divideToAndFro, Cond.instanceMethod yX2_divideToAndFro, Cond.selects RX2 yX2_divideToAndFro yX2_divideToAndFro, Cond.code yX2_divideToAndFro cX2_divideToAndFro 10 none, Cond.methodLink RX2 94 yX2_addTimes]
def wsX4_undo_r4 : List Cond := [Cond.static yX2_addTimes, Cond.code yX2_addTimes cX2_addTimes 5 none, Cond.methodLink RX2 62 yX2_makeHeadPositive, Cond.static yX2_makeHeadPositive, Cond.code yX2_makeHeadPositive cX2_makeHeadPositive 3 none, Cond.methodLink RX2 98 yX2_headOf, Cond.static yX2_headOf, Cond.code yX2_headOf cX2_headOf 2 (some .int), Cond.methodLink RX2 66 yX2_reduce, Cond.instanceMethod yX2_reduce, Cond.selects RX2 yX2_reduce yX2_reduce, Cond.code yX2_reduce cX2_reduce 6 none, Cond.methodLink RX2 102 yJ9_floorDiv_f86c9, Cond.static yJ9_floorDiv_f86c9, Cond.code yJ9_floorDiv_f86c9 cJ9_floorDiv_f86c9 6 (some .long), Cond.methodLink RX2 80 yX2_moveLowest, Cond.instanceMethod yX2_moveLowest, Cond.selects RX2 yX2_moveLowest yX2_moveLowest, Cond.code yX2_moveLowest cX2_moveLowest 3 none, Cond.methodLink RX2 83 yX2_leaveOut, Cond.instanceMethod yX2_leaveOut, Cond.selects RX2 yX2_leaveOut yX2_leaveOut, Cond.code yX2_leaveOut cX2_leaveOut 4 none]
def wsX4_undo : List Cond := .code yX4_undo cX4_undo 2 (some .int) :: ((wsX4_undo_r1 ++ (wsX4_undo_r2 ++ (wsX4_undo_r3 ++ wsX4_undo_r4))) ++ wsX40 ++ wsX00 ++ wsX30 ++ wsX20)
def wsX4_saying_r1 : List Cond := [Cond.fieldLink RX4 30 "UnitVectors" "now" "LUnitVectors$State;", Cond.constant RX4 97 (-1000000001), Cond.constant RX4 55 (-1000000002), Cond.methodLink RX4 121 yX4_isSpare, Cond.instanceMethod yX4_isSpare, Cond.selects RX4 yX4_isSpare yX4_isSpare, Cond.initialized RX4, Cond.code yX4_isSpare cX4_isSpare 3 (some .boolean), Cond.fieldLink RX4 52 "UnitVectors" "others" "LUnitVectors$Solutions;", Cond.methodLink RX4 198 yX2_clear, Cond.instanceMethod yX2_clear, Cond.selects RX2 yX2_clear yX2_clear, Cond.initialized RX2, Cond.code yX2_clear cX2_clear 2 none, Cond.fieldLink RX2 32 "UnitVectors$Solutions" "count" "I", Cond.fieldLink RX2 11 "UnitVectors$Solutions" "rows" "[[J", Cond.fieldLink RX2 16 "UnitVectors$Solutions" "lowest" "[[J", Cond.methodLink RX2 36 yJ7_fill_d0a16, Cond.static yJ7_fill_d0a16, Cond.initialized RJ7, Cond.code yJ7_fill_d0a16 cJ7_fill_d0a16 5 none, Cond.methodLink RX4 197 yX2_put, Cond.instanceMethod yX2_put, Cond.selects RX2 yX2_put yX2_put]
def wsX4_saying_r2 : List Cond := [Cond.code yX2_put cX2_put 4 none, Cond.fieldLink RX2 26 "UnitVectors$Solutions" "step" "[J", Cond.fieldLink RX2 19 "UnitVectors$Solutions" "gains" "[J", Cond.methodLink RX2 70 arraycopyName, Cond.native arraycopyName, Cond.static arraycopyName, Cond.initialized "java/lang/System", Cond.fieldLink RX2 76 "UnitVectors$Solutions" "stepGain" "J", Cond.methodLink RX2 46 yX2_weigh, Cond.instanceMethod yX2_weigh, Cond.selects RX2 yX2_weigh yX2_weigh, Cond.code yX2_weigh cX2_weigh 3 none, Cond.fieldLink RX2 23 "UnitVectors$Solutions" "lacks" "[J", Cond.methodLink RX2 42 yX2_product, Cond.static yX2_product, Cond.code yX2_product cX2_product 5 (some .long), Cond.methodLink RX2 86 yX2_powerOf, Cond.instanceMethod yX2_powerOf, Cond.selects RX2 yX2_powerOf yX2_powerOf, Cond.code yX2_powerOf cX2_powerOf 3 (some .long), Cond.methodLink RX2 58 yX2_divideToAndFro, Cond.instanceMethod yX2_divideToAndFro, Cond.selects RX2 yX2_divideToAndFro yX2_divideToAndFro, Cond.code yX2_divideToAndFro cX2_divideToAndFro 10 none]
def wsX4_saying_r3 : List Cond := [Cond.methodLink RX2 94 yX2_addTimes, Cond.static yX2_addTimes, Cond.code yX2_addTimes cX2_addTimes 5 none, Cond.methodLink RX2 62 yX2_makeHeadPositive, Cond.static yX2_makeHeadPositive, Cond.code yX2_makeHeadPositive cX2_makeHeadPositive 3 none, Cond.methodLink RX2 98 yX2_headOf, Cond.static yX2_headOf, Cond.code yX2_headOf cX2_headOf 2 (some .int), Cond.methodLink RX2 66 yX2_reduce, Cond.instanceMethod yX2_reduce, Cond.selects RX2 yX2_reduce yX2_reduce, Cond.code yX2_reduce cX2_reduce 6 none, Cond.methodLink RX2 102 yJ9_floorDiv_f86c9, Cond.static yJ9_floorDiv_f86c9, Cond.initialized RJ9, Cond.code yJ9_floorDiv_f86c9 cJ9_floorDiv_f86c9 6 (some .long), Cond.methodLink RX2 80 yX2_moveLowest, Cond.instanceMethod yX2_moveLowest, Cond.selects RX2 yX2_moveLowest yX2_moveLowest, Cond.code yX2_moveLowest cX2_moveLowest 3 none, Cond.methodLink RX2 83 yX2_leaveOut, Cond.instanceMethod yX2_leaveOut, Cond.selects RX2 yX2_leaveOut yX2_leaveOut]
def wsX4_saying_r4 : List Cond := [Cond.code yX2_leaveOut cX2_leaveOut 4 none, Cond.methodLink RX4 145 yX2_imply, Cond.instanceMethod yX2_imply, Cond.selects RX2 yX2_imply yX2_imply, Cond.code yX2_imply cX2_imply 2 (some .boolean), Cond.methodLink RX2 50 yX2_commonGain, Cond.instanceMethod yX2_commonGain, Cond.selects RX2 yX2_commonGain yX2_commonGain, Cond.code yX2_commonGain cX2_commonGain 4 (some .long), Cond.methodLink RX2 90 yX2_commonDivisor, Cond.static yX2_commonDivisor, Cond.code yX2_commonDivisor cX2_commonDivisor 11 (some .long), Cond.methodLink RX2 107 Lib.MathLoose.abs_long.x, Cond.static Lib.MathLoose.abs_long.x, Cond.initialized "java/lang/Math", Cond.code Lib.MathLoose.abs_long.x Lib.MathLoose.abs_long.code 2 (some .long), Cond.methodLink RX2 54 yX2_lacksAreTimes, Cond.instanceMethod yX2_lacksAreTimes, Cond.selects RX2 yX2_lacksAreTimes yX2_lacksAreTimes, Cond.code yX2_lacksAreTimes cX2_lacksAreTimes 6 (some .boolean)]
def wsX4_saying : List Cond := .code yX4_saying cX4_saying 3 (some .int) :: ((wsX4_saying_r1 ++ (wsX4_saying_r2 ++ (wsX4_saying_r3 ++ wsX4_saying_r4))) ++ wsX40 ++ wsX30 ++ wsX20)
def wsX4_free : List Cond := .code yX4_free cX4_free 3 (some .long) :: ([.fieldLink RX4 48 "UnitVectors" "solutions" "LUnitVectors$Solutions;", .constantLong RX4 129 (-1000000001), .constantLong RX4 131 (-1000000002), .constantLong RX4 137 (1000000000000)] ++ wsX40 ++ wsX20)
def wsX4_least : List Cond := .code yX4_least cX4_least 3 (some .long) :: ([.constantLong RX4 129 (-1000000001), .fieldLink RX4 48 "UnitVectors" "solutions" "LUnitVectors$Solutions;", .constantLong RX4 137 (1000000000000)] ++ wsX40 ++ wsX20)
def wsX4_isTold : List Cond := .code yX4_isTold cX4_isTold 2 (some .int) :: ([.constant RX4 97 (-1000000001), .fieldLink RX4 48 "UnitVectors" "solutions" "LUnitVectors$Solutions;", .methodLink RX4 142 yX2_isFixed, .instanceMethod yX2_isFixed, .selects RX2 yX2_isFixed yX2_isFixed, .initialized RX2, .code yX2_isFixed cX2_isFixed 3 (some .boolean), .fieldLink RX2 32 "UnitVectors$Solutions" "count" "I", .fieldLink RX2 11 "UnitVectors$Solutions" "rows" "[[J"] ++ wsX40 ++ wsX20)
def wsX4_follows_r1 : List Cond := [Cond.fieldLink RX4 48 "UnitVectors" "solutions" "LUnitVectors$Solutions;", Cond.fieldLink RX4 24 "UnitVectors" "read" "[I", Cond.methodLink RX4 81 yX4_readText, Cond.instanceMethod yX4_readText, Cond.selects RX4 yX4_readText yX4_readText, Cond.initialized RX4, Cond.code yX4_readText cX4_readText 4 (some .int), Cond.fieldLink RX4 20 "UnitVectors" "reader" "LUnitVectors$Reader;", Cond.fieldLink RX4 9 "UnitVectors" "text" "[I", Cond.fieldLink RX4 56 "UnitVectors" "letters" "I", Cond.fieldLink RX4 13 "UnitVectors" "faultPlace" "I", Cond.methodLink RX4 183 yX1_readAll, Cond.instanceMethod yX1_readAll, Cond.selects RX1 yX1_readAll yX1_readAll, Cond.initialized RX1, Cond.code yX1_readAll cX1_readAll 6 (some .int), Cond.fieldLink RX1 24 "UnitVectors$Reader" "place" "I", Cond.methodLink RX1 28 yX1_start, Cond.instanceMethod yX1_start, Cond.selects RX1 yX1_start yX1_start, Cond.code yX1_start cX1_start 2 none, Cond.fieldLink RX1 40 "UnitVectors$Reader" "open" "I", Cond.fieldLink RX1 43 "UnitVectors$Reader" "side" "I", Cond.fieldLink RX1 46 "UnitVectors$Reader" "lacksEqual" "Z"]
def wsX4_follows_r2 : List Cond := [Cond.methodLink RX1 50 yX1_startTotal, Cond.instanceMethod yX1_startTotal, Cond.selects RX1 yX1_startTotal yX1_startTotal, Cond.code yX1_startTotal cX1_startTotal 2 none, Cond.fieldLink RX1 13 "UnitVectors$Reader" "totals" "[[J", Cond.fieldLink RX1 16 "UnitVectors$Reader" "signs" "[I", Cond.fieldLink RX1 53 "UnitVectors$Reader" "expected" "I", Cond.methodLink RX1 32 yX1_take, Cond.instanceMethod yX1_take, Cond.selects RX1 yX1_take yX1_take, Cond.code yX1_take cX1_take 2 (some .int), Cond.fieldLink RX1 70 "UnitVectors$Reader" "powerSign" "I", Cond.methodLink RX1 67 yX1_takeAtom, Cond.instanceMethod yX1_takeAtom, Cond.selects RX1 yX1_takeAtom yX1_takeAtom, Cond.code yX1_takeAtom cX1_takeAtom 2 (some .int), Cond.fieldLink RX1 20 "UnitVectors$Reader" "factor" "[J", Cond.methodLink RX1 79 yX1_takeOpening, Cond.instanceMethod yX1_takeOpening, Cond.selects RX1 yX1_takeOpening yX1_takeOpening, Cond.code yX1_takeOpening cX1_takeOpening 1 (some .int), Cond.methodLink RX1 82 yJ7_fill_d0a16, Cond.static yJ7_fill_d0a16, Cond.initialized RJ7]
def wsX4_follows_r3 : List Cond := [Cond.code yJ7_fill_d0a16 cJ7_fill_d0a16 5 none, Cond.methodLink RX1 73 yX1_takeJoint, Cond.instanceMethod yX1_takeJoint, Cond.selects RX1 yX1_takeJoint yX1_takeJoint, Cond.code yX1_takeJoint cX1_takeJoint 3 (some .int), Cond.methodLink RX1 88 yX1_joinNext, Cond.instanceMethod yX1_joinNext, Cond.selects RX1 yX1_joinNext yX1_joinNext, Cond.code yX1_joinNext cX1_joinNext 2 none, Cond.methodLink RX1 56 yX1_putFactor, Cond.instanceMethod yX1_putFactor, Cond.selects RX1 yX1_putFactor yX1_putFactor, Cond.code yX1_putFactor cX1_putFactor 2 none, Cond.methodLink RX1 92 yX1_takeClosing, Cond.instanceMethod yX1_takeClosing, Cond.selects RX1 yX1_takeClosing yX1_takeClosing, Cond.code yX1_takeClosing cX1_takeClosing 1 none, Cond.methodLink RX1 95 arraycopyName, Cond.native arraycopyName, Cond.static arraycopyName, Cond.initialized "java/lang/System", Cond.methodLink RX1 76 yX1_takeFigure, Cond.instanceMethod yX1_takeFigure, Cond.selects RX1 yX1_takeFigure yX1_takeFigure]
def wsX4_follows_r4 : List Cond := [Cond.code yX1_takeFigure cX1_takeFigure 3 (some .int), Cond.methodLink RX1 36 yX1_end, Cond.instanceMethod yX1_end, Cond.selects RX1 yX1_end yX1_end, Cond.code yX1_end cX1_end 3 (some .int), Cond.methodLink RX1 59 Lib.MathLoose.abs_long.x, Cond.static Lib.MathLoose.abs_long.x, Cond.initialized "java/lang/Math", Cond.code Lib.MathLoose.abs_long.x Lib.MathLoose.abs_long.code 2 (some .long), Cond.constantLong RX1 65 (9), Cond.methodLink RX4 145 yX2_imply, Cond.instanceMethod yX2_imply, Cond.selects RX2 yX2_imply yX2_imply, Cond.initialized RX2, Cond.code yX2_imply cX2_imply 2 (some .boolean), Cond.methodLink RX2 46 yX2_weigh, Cond.instanceMethod yX2_weigh, Cond.selects RX2 yX2_weigh yX2_weigh, Cond.code yX2_weigh cX2_weigh 3 none, Cond.fieldLink RX2 32 "UnitVectors$Solutions" "count" "I", Cond.fieldLink RX2 19 "UnitVectors$Solutions" "gains" "[J", Cond.fieldLink RX2 11 "UnitVectors$Solutions" "rows" "[[J", Cond.fieldLink RX2 23 "UnitVectors$Solutions" "lacks" "[J", Cond.methodLink RX2 42 yX2_product]
def wsX4_follows_r5 : List Cond := [Cond.static yX2_product, Cond.code yX2_product cX2_product 5 (some .long), Cond.methodLink RX2 86 yX2_powerOf, Cond.instanceMethod yX2_powerOf, Cond.selects RX2 yX2_powerOf yX2_powerOf, Cond.code yX2_powerOf cX2_powerOf 3 (some .long), Cond.fieldLink RX2 16 "UnitVectors$Solutions" "lowest" "[[J", Cond.methodLink RX2 50 yX2_commonGain, Cond.instanceMethod yX2_commonGain, Cond.selects RX2 yX2_commonGain yX2_commonGain, Cond.code yX2_commonGain cX2_commonGain 4 (some .long), Cond.methodLink RX2 90 yX2_commonDivisor, Cond.static yX2_commonDivisor, Cond.code yX2_commonDivisor cX2_commonDivisor 11 (some .long), Cond.methodLink RX2 107 Lib.MathLoose.abs_long.x, Cond.methodLink RX2 54 yX2_lacksAreTimes, Cond.instanceMethod yX2_lacksAreTimes, Cond.selects RX2 yX2_lacksAreTimes yX2_lacksAreTimes, Cond.code yX2_lacksAreTimes cX2_lacksAreTimes 6 (some .boolean)]
def wsX4_follows : List Cond := .code yX4_follows cX4_follows 2 (some .int) :: ((wsX4_follows_r1 ++ (wsX4_follows_r2 ++ (wsX4_follows_r3 ++ (wsX4_follows_r4 ++ wsX4_follows_r5)))) ++ wsX40 ++ wsX10 ++ wsX20)
def wsX4_couldBe_r1 : List Cond := [Cond.fieldLink RX4 48 "UnitVectors" "solutions" "LUnitVectors$Solutions;", Cond.fieldLink RX4 24 "UnitVectors" "read" "[I", Cond.methodLink RX4 81 yX4_readText, Cond.instanceMethod yX4_readText, Cond.selects RX4 yX4_readText yX4_readText, Cond.initialized RX4, Cond.code yX4_readText cX4_readText 4 (some .int), Cond.fieldLink RX4 20 "UnitVectors" "reader" "LUnitVectors$Reader;", Cond.fieldLink RX4 9 "UnitVectors" "text" "[I", Cond.fieldLink RX4 56 "UnitVectors" "letters" "I", Cond.fieldLink RX4 13 "UnitVectors" "faultPlace" "I", Cond.methodLink RX4 183 yX1_readAll, Cond.instanceMethod yX1_readAll, Cond.selects RX1 yX1_readAll yX1_readAll, Cond.initialized RX1, Cond.code yX1_readAll cX1_readAll 6 (some .int), Cond.fieldLink RX1 24 "UnitVectors$Reader" "place" "I", Cond.methodLink RX1 28 yX1_start, Cond.instanceMethod yX1_start, Cond.selects RX1 yX1_start yX1_start, Cond.code yX1_start cX1_start 2 none, Cond.fieldLink RX1 40 "UnitVectors$Reader" "open" "I", Cond.fieldLink RX1 43 "UnitVectors$Reader" "side" "I", Cond.fieldLink RX1 46 "UnitVectors$Reader" "lacksEqual" "Z"]
def wsX4_couldBe_r2 : List Cond := [Cond.methodLink RX1 50 yX1_startTotal, Cond.instanceMethod yX1_startTotal, Cond.selects RX1 yX1_startTotal yX1_startTotal, Cond.code yX1_startTotal cX1_startTotal 2 none, Cond.fieldLink RX1 13 "UnitVectors$Reader" "totals" "[[J", Cond.fieldLink RX1 16 "UnitVectors$Reader" "signs" "[I", Cond.fieldLink RX1 53 "UnitVectors$Reader" "expected" "I", Cond.methodLink RX1 32 yX1_take, Cond.instanceMethod yX1_take, Cond.selects RX1 yX1_take yX1_take, Cond.code yX1_take cX1_take 2 (some .int), Cond.fieldLink RX1 70 "UnitVectors$Reader" "powerSign" "I", Cond.methodLink RX1 67 yX1_takeAtom, Cond.instanceMethod yX1_takeAtom, Cond.selects RX1 yX1_takeAtom yX1_takeAtom, Cond.code yX1_takeAtom cX1_takeAtom 2 (some .int), Cond.fieldLink RX1 20 "UnitVectors$Reader" "factor" "[J", Cond.methodLink RX1 79 yX1_takeOpening, Cond.instanceMethod yX1_takeOpening, Cond.selects RX1 yX1_takeOpening yX1_takeOpening, Cond.code yX1_takeOpening cX1_takeOpening 1 (some .int), Cond.methodLink RX1 82 yJ7_fill_d0a16, Cond.static yJ7_fill_d0a16, Cond.initialized RJ7]
def wsX4_couldBe_r3 : List Cond := [Cond.code yJ7_fill_d0a16 cJ7_fill_d0a16 5 none, Cond.methodLink RX1 73 yX1_takeJoint, Cond.instanceMethod yX1_takeJoint, Cond.selects RX1 yX1_takeJoint yX1_takeJoint, Cond.code yX1_takeJoint cX1_takeJoint 3 (some .int), Cond.methodLink RX1 88 yX1_joinNext, Cond.instanceMethod yX1_joinNext, Cond.selects RX1 yX1_joinNext yX1_joinNext, Cond.code yX1_joinNext cX1_joinNext 2 none, Cond.methodLink RX1 56 yX1_putFactor, Cond.instanceMethod yX1_putFactor, Cond.selects RX1 yX1_putFactor yX1_putFactor, Cond.code yX1_putFactor cX1_putFactor 2 none, Cond.methodLink RX1 92 yX1_takeClosing, Cond.instanceMethod yX1_takeClosing, Cond.selects RX1 yX1_takeClosing yX1_takeClosing, Cond.code yX1_takeClosing cX1_takeClosing 1 none, Cond.methodLink RX1 95 arraycopyName, Cond.native arraycopyName, Cond.static arraycopyName, Cond.initialized "java/lang/System", Cond.methodLink RX1 76 yX1_takeFigure, Cond.instanceMethod yX1_takeFigure, Cond.selects RX1 yX1_takeFigure yX1_takeFigure]
def wsX4_couldBe_r4 : List Cond := [Cond.code yX1_takeFigure cX1_takeFigure 3 (some .int), Cond.methodLink RX1 36 yX1_end, Cond.instanceMethod yX1_end, Cond.selects RX1 yX1_end yX1_end, Cond.code yX1_end cX1_end 3 (some .int), Cond.methodLink RX1 59 Lib.MathLoose.abs_long.x, Cond.static Lib.MathLoose.abs_long.x, Cond.initialized "java/lang/Math", Cond.code Lib.MathLoose.abs_long.x Lib.MathLoose.abs_long.code 2 (some .long), Cond.constantLong RX1 65 (9), Cond.methodLink RX4 85 yX2_agrees, Cond.instanceMethod yX2_agrees, Cond.selects RX2 yX2_agrees yX2_agrees, Cond.initialized RX2, Cond.code yX2_agrees cX2_agrees 2 (some .boolean), Cond.methodLink RX2 46 yX2_weigh, Cond.instanceMethod yX2_weigh, Cond.selects RX2 yX2_weigh yX2_weigh, Cond.code yX2_weigh cX2_weigh 3 none, Cond.fieldLink RX2 32 "UnitVectors$Solutions" "count" "I", Cond.fieldLink RX2 19 "UnitVectors$Solutions" "gains" "[J", Cond.fieldLink RX2 11 "UnitVectors$Solutions" "rows" "[[J", Cond.fieldLink RX2 23 "UnitVectors$Solutions" "lacks" "[J", Cond.methodLink RX2 42 yX2_product]
def wsX4_couldBe_r5 : List Cond := [Cond.static yX2_product, Cond.code yX2_product cX2_product 5 (some .long), Cond.methodLink RX2 86 yX2_powerOf, Cond.instanceMethod yX2_powerOf, Cond.selects RX2 yX2_powerOf yX2_powerOf, Cond.code yX2_powerOf cX2_powerOf 3 (some .long), Cond.fieldLink RX2 16 "UnitVectors$Solutions" "lowest" "[[J", Cond.methodLink RX2 50 yX2_commonGain, Cond.instanceMethod yX2_commonGain, Cond.selects RX2 yX2_commonGain yX2_commonGain, Cond.code yX2_commonGain cX2_commonGain 4 (some .long), Cond.methodLink RX2 90 yX2_commonDivisor, Cond.static yX2_commonDivisor, Cond.code yX2_commonDivisor cX2_commonDivisor 11 (some .long), Cond.methodLink RX2 107 Lib.MathLoose.abs_long.x, Cond.methodLink RX2 54 yX2_lacksAreTimes, Cond.instanceMethod yX2_lacksAreTimes, Cond.selects RX2 yX2_lacksAreTimes yX2_lacksAreTimes, Cond.code yX2_lacksAreTimes cX2_lacksAreTimes 6 (some .boolean)]
def wsX4_couldBe : List Cond := .code yX4_couldBe cX4_couldBe 2 (some .int) :: ((wsX4_couldBe_r1 ++ (wsX4_couldBe_r2 ++ (wsX4_couldBe_r3 ++ (wsX4_couldBe_r4 ++ wsX4_couldBe_r5)))) ++ wsX40 ++ wsX10 ++ wsX20)
def wsX4_measured_r1 : List Cond := [Cond.constantLong RX4 131 (-1000000002), Cond.fieldLink RX4 48 "UnitVectors" "solutions" "LUnitVectors$Solutions;", Cond.fieldLink RX4 24 "UnitVectors" "read" "[I", Cond.constantLong RX4 137 (1000000000000), Cond.methodLink RX4 81 yX4_readText, Cond.instanceMethod yX4_readText, Cond.selects RX4 yX4_readText yX4_readText, Cond.initialized RX4, Cond.code yX4_readText cX4_readText 4 (some .int), Cond.fieldLink RX4 20 "UnitVectors" "reader" "LUnitVectors$Reader;", Cond.fieldLink RX4 9 "UnitVectors" "text" "[I", Cond.fieldLink RX4 56 "UnitVectors" "letters" "I", Cond.fieldLink RX4 13 "UnitVectors" "faultPlace" "I", Cond.methodLink RX4 183 yX1_readAll, Cond.instanceMethod yX1_readAll, Cond.selects RX1 yX1_readAll yX1_readAll, Cond.initialized RX1, Cond.code yX1_readAll cX1_readAll 6 (some .int), Cond.fieldLink RX1 24 "UnitVectors$Reader" "place" "I", Cond.methodLink RX1 28 yX1_start, Cond.instanceMethod yX1_start, Cond.selects RX1 yX1_start yX1_start, Cond.code yX1_start cX1_start 2 none, Cond.fieldLink RX1 40 "UnitVectors$Reader" "open" "I"]
def wsX4_measured_r2 : List Cond := [Cond.fieldLink RX1 43 "UnitVectors$Reader" "side" "I", Cond.fieldLink RX1 46 "UnitVectors$Reader" "lacksEqual" "Z", Cond.methodLink RX1 50 yX1_startTotal, Cond.instanceMethod yX1_startTotal, Cond.selects RX1 yX1_startTotal yX1_startTotal, Cond.code yX1_startTotal cX1_startTotal 2 none, Cond.fieldLink RX1 13 "UnitVectors$Reader" "totals" "[[J", Cond.fieldLink RX1 16 "UnitVectors$Reader" "signs" "[I", Cond.fieldLink RX1 53 "UnitVectors$Reader" "expected" "I", Cond.methodLink RX1 32 yX1_take, Cond.instanceMethod yX1_take, Cond.selects RX1 yX1_take yX1_take, Cond.code yX1_take cX1_take 2 (some .int), Cond.fieldLink RX1 70 "UnitVectors$Reader" "powerSign" "I", Cond.methodLink RX1 67 yX1_takeAtom, Cond.instanceMethod yX1_takeAtom, Cond.selects RX1 yX1_takeAtom yX1_takeAtom, Cond.code yX1_takeAtom cX1_takeAtom 2 (some .int), Cond.fieldLink RX1 20 "UnitVectors$Reader" "factor" "[J", Cond.methodLink RX1 79 yX1_takeOpening, Cond.instanceMethod yX1_takeOpening, Cond.selects RX1 yX1_takeOpening yX1_takeOpening, Cond.code yX1_takeOpening cX1_takeOpening 1 (some .int), Cond.methodLink RX1 82 yJ7_fill_d0a16]
def wsX4_measured_r3 : List Cond := [Cond.static yJ7_fill_d0a16, Cond.initialized RJ7, Cond.code yJ7_fill_d0a16 cJ7_fill_d0a16 5 none, Cond.methodLink RX1 73 yX1_takeJoint, Cond.instanceMethod yX1_takeJoint, Cond.selects RX1 yX1_takeJoint yX1_takeJoint, Cond.code yX1_takeJoint cX1_takeJoint 3 (some .int), Cond.methodLink RX1 88 yX1_joinNext, Cond.instanceMethod yX1_joinNext, Cond.selects RX1 yX1_joinNext yX1_joinNext, Cond.code yX1_joinNext cX1_joinNext 2 none, Cond.methodLink RX1 56 yX1_putFactor, Cond.instanceMethod yX1_putFactor, Cond.selects RX1 yX1_putFactor yX1_putFactor, Cond.code yX1_putFactor cX1_putFactor 2 none, Cond.methodLink RX1 92 yX1_takeClosing, Cond.instanceMethod yX1_takeClosing, Cond.selects RX1 yX1_takeClosing yX1_takeClosing, Cond.code yX1_takeClosing cX1_takeClosing 1 none, Cond.methodLink RX1 95 arraycopyName, Cond.native arraycopyName, Cond.static arraycopyName, Cond.initialized "java/lang/System", Cond.methodLink RX1 76 yX1_takeFigure]
def wsX4_measured_r4 : List Cond := [Cond.instanceMethod yX1_takeFigure, Cond.selects RX1 yX1_takeFigure yX1_takeFigure, Cond.code yX1_takeFigure cX1_takeFigure 3 (some .int), Cond.methodLink RX1 36 yX1_end, Cond.instanceMethod yX1_end, Cond.selects RX1 yX1_end yX1_end, Cond.code yX1_end cX1_end 3 (some .int), Cond.methodLink RX1 59 Lib.MathLoose.abs_long.x, Cond.static Lib.MathLoose.abs_long.x, Cond.initialized "java/lang/Math", Cond.code Lib.MathLoose.abs_long.x Lib.MathLoose.abs_long.code 2 (some .long), Cond.constantLong RX1 65 (9), Cond.methodLink RX4 148 yX2_powerOf, Cond.instanceMethod yX2_powerOf, Cond.selects RX2 yX2_powerOf yX2_powerOf, Cond.initialized RX2, Cond.code yX2_powerOf cX2_powerOf 3 (some .long), Cond.fieldLink RX2 16 "UnitVectors$Solutions" "lowest" "[[J", Cond.methodLink RX2 42 yX2_product, Cond.static yX2_product, Cond.code yX2_product cX2_product 5 (some .long), Cond.methodLink RX4 152 yX2_rise, Cond.instanceMethod yX2_rise, Cond.selects RX2 yX2_rise yX2_rise]
def wsX4_measured_r5 : List Cond := [Cond.code yX2_rise cX2_rise 3 (some .long), Cond.fieldLink RX2 32 "UnitVectors$Solutions" "count" "I", Cond.fieldLink RX2 11 "UnitVectors$Solutions" "rows" "[[J"]
def wsX4_measured : List Cond := .code yX4_measured cX4_measured 3 (some .long) :: ((wsX4_measured_r1 ++ (wsX4_measured_r2 ++ (wsX4_measured_r3 ++ (wsX4_measured_r4 ++ wsX4_measured_r5)))) ++ wsX40 ++ wsX10 ++ wsX20)
def wsX4_canConvert : List Cond := .code yX4_canConvert cX4_canConvert 2 (some .boolean) :: ([.fieldLink RX4 24 "UnitVectors" "read" "[I"] ++ wsX40)
def wsX4_scaleProduct : List Cond := .code yX4_scaleProduct cX4_scaleProduct 8 (some .long) :: ([.fieldLink RX4 24 "UnitVectors" "read" "[I", .fieldLink RX4 30 "UnitVectors" "now" "LUnitVectors$State;", .methodLink RX4 210 Lib.Math.abs.name, .static Lib.Math.abs.name, .initialized "java/lang/Math", .code Lib.Math.abs.name Lib.Math.abs.code 1 (some .int)] ++ wsX40 ++ wsX30)
def wsX4_whole : List Cond := .code yX4_whole cX4_whole 10 (some .long) :: ([.constantLong RX4 160 (-1000000003), .constantLong RX4 215 (2)])
def wsX4_converted_r1 : List Cond := [Cond.constant RX4 155 (1000000), Cond.constantLong RX4 131 (-1000000002), Cond.constantLong RX4 160 (-1000000003), Cond.methodLink RX4 81 yX4_readText, Cond.instanceMethod yX4_readText, Cond.selects RX4 yX4_readText yX4_readText, Cond.initialized RX4, Cond.code yX4_readText cX4_readText 4 (some .int), Cond.fieldLink RX4 20 "UnitVectors" "reader" "LUnitVectors$Reader;", Cond.fieldLink RX4 9 "UnitVectors" "text" "[I", Cond.fieldLink RX4 56 "UnitVectors" "letters" "I", Cond.fieldLink RX4 13 "UnitVectors" "faultPlace" "I", Cond.fieldLink RX4 24 "UnitVectors" "read" "[I", Cond.methodLink RX4 183 yX1_readAll, Cond.instanceMethod yX1_readAll, Cond.selects RX1 yX1_readAll yX1_readAll, Cond.initialized RX1, Cond.code yX1_readAll cX1_readAll 6 (some .int), Cond.fieldLink RX1 24 "UnitVectors$Reader" "place" "I", Cond.methodLink RX1 28 yX1_start, Cond.instanceMethod yX1_start, Cond.selects RX1 yX1_start yX1_start, Cond.code yX1_start cX1_start 2 none, Cond.fieldLink RX1 40 "UnitVectors$Reader" "open" "I"]
def wsX4_converted_r2 : List Cond := [Cond.fieldLink RX1 43 "UnitVectors$Reader" "side" "I", Cond.fieldLink RX1 46 "UnitVectors$Reader" "lacksEqual" "Z", Cond.methodLink RX1 50 yX1_startTotal, Cond.instanceMethod yX1_startTotal, Cond.selects RX1 yX1_startTotal yX1_startTotal, Cond.code yX1_startTotal cX1_startTotal 2 none, Cond.fieldLink RX1 13 "UnitVectors$Reader" "totals" "[[J", Cond.fieldLink RX1 16 "UnitVectors$Reader" "signs" "[I", Cond.fieldLink RX1 53 "UnitVectors$Reader" "expected" "I", Cond.methodLink RX1 32 yX1_take, Cond.instanceMethod yX1_take, Cond.selects RX1 yX1_take yX1_take, Cond.code yX1_take cX1_take 2 (some .int), Cond.fieldLink RX1 70 "UnitVectors$Reader" "powerSign" "I", Cond.methodLink RX1 67 yX1_takeAtom, Cond.instanceMethod yX1_takeAtom, Cond.selects RX1 yX1_takeAtom yX1_takeAtom, Cond.code yX1_takeAtom cX1_takeAtom 2 (some .int), Cond.fieldLink RX1 20 "UnitVectors$Reader" "factor" "[J", Cond.methodLink RX1 79 yX1_takeOpening, Cond.instanceMethod yX1_takeOpening, Cond.selects RX1 yX1_takeOpening yX1_takeOpening, Cond.code yX1_takeOpening cX1_takeOpening 1 (some .int), Cond.methodLink RX1 82 yJ7_fill_d0a16]
def wsX4_converted_r3 : List Cond := [Cond.static yJ7_fill_d0a16, Cond.initialized RJ7, Cond.code yJ7_fill_d0a16 cJ7_fill_d0a16 5 none, Cond.methodLink RX1 73 yX1_takeJoint, Cond.instanceMethod yX1_takeJoint, Cond.selects RX1 yX1_takeJoint yX1_takeJoint, Cond.code yX1_takeJoint cX1_takeJoint 3 (some .int), Cond.methodLink RX1 88 yX1_joinNext, Cond.instanceMethod yX1_joinNext, Cond.selects RX1 yX1_joinNext yX1_joinNext, Cond.code yX1_joinNext cX1_joinNext 2 none, Cond.methodLink RX1 56 yX1_putFactor, Cond.instanceMethod yX1_putFactor, Cond.selects RX1 yX1_putFactor yX1_putFactor, Cond.code yX1_putFactor cX1_putFactor 2 none, Cond.methodLink RX1 92 yX1_takeClosing, Cond.instanceMethod yX1_takeClosing, Cond.selects RX1 yX1_takeClosing yX1_takeClosing, Cond.code yX1_takeClosing cX1_takeClosing 1 none, Cond.methodLink RX1 95 arraycopyName, Cond.native arraycopyName, Cond.static arraycopyName, Cond.initialized "java/lang/System", Cond.methodLink RX1 76 yX1_takeFigure]
def wsX4_converted_r4 : List Cond := [Cond.instanceMethod yX1_takeFigure, Cond.selects RX1 yX1_takeFigure yX1_takeFigure, Cond.code yX1_takeFigure cX1_takeFigure 3 (some .int), Cond.methodLink RX1 36 yX1_end, Cond.instanceMethod yX1_end, Cond.selects RX1 yX1_end yX1_end, Cond.code yX1_end cX1_end 3 (some .int), Cond.methodLink RX1 59 Lib.MathLoose.abs_long.x, Cond.static Lib.MathLoose.abs_long.x, Cond.initialized "java/lang/Math", Cond.code Lib.MathLoose.abs_long.x Lib.MathLoose.abs_long.code 2 (some .long), Cond.constantLong RX1 65 (9), Cond.methodLink RX4 156 yX4_canConvert, Cond.instanceMethod yX4_canConvert, Cond.selects RX4 yX4_canConvert yX4_canConvert, Cond.code yX4_canConvert cX4_canConvert 2 (some .boolean), Cond.methodLink RX4 162 yX4_scaleProduct, Cond.instanceMethod yX4_scaleProduct, Cond.selects RX4 yX4_scaleProduct yX4_scaleProduct, Cond.code yX4_scaleProduct cX4_scaleProduct 8 (some .long), Cond.fieldLink RX4 30 "UnitVectors" "now" "LUnitVectors$State;", Cond.methodLink RX4 210 Lib.Math.abs.name, Cond.static Lib.Math.abs.name, Cond.code Lib.Math.abs.name Lib.Math.abs.code 1 (some .int)]
def wsX4_converted_r5 : List Cond := [Cond.methodLink RX4 166 yX4_whole, Cond.static yX4_whole, Cond.code yX4_whole cX4_whole 10 (some .long), Cond.constantLong RX4 215 (2)]
def wsX4_converted : List Cond := .code yX4_converted cX4_converted 4 (some .long) :: ((wsX4_converted_r1 ++ (wsX4_converted_r2 ++ (wsX4_converted_r3 ++ (wsX4_converted_r4 ++ wsX4_converted_r5)))) ++ wsX40 ++ wsX10 ++ wsX30)
def wsX4_seed : List Cond := .code yX4_seed cX4_seed 3 (some .int) :: ([.constant RX4 55 (-1000000002), .fieldLink RX4 30 "UnitVectors" "now" "LUnitVectors$State;"] ++ wsX40 ++ wsX30)
def wsX4_keep : List Cond := .code yX4_keep cX4_keep 3 (some .int) :: ([.constant RX4 97 (-1000000001), .fieldLink RX4 34 "UnitVectors" "images" "[LUnitVectors$State;", .fieldLink RX4 30 "UnitVectors" "now" "LUnitVectors$State;", .fieldLink RX4 41 "UnitVectors" "past" "LUnitVectors$Past;", .methodLink RX4 173 yX3_copyDeeds, .instanceMethod yX3_copyDeeds, .selects RX3 yX3_copyDeeds yX3_copyDeeds, .initialized RX3, .code yX3_copyDeeds cX3_copyDeeds 3 none, .fieldLink RX3 29 "UnitVectors$State" "count" "I", .fieldLink RX3 11 "UnitVectors$State" "sayings" "[[I", .methodLink RX3 33 arraycopyName, .native arraycopyName, .static arraycopyName, .initialized "java/lang/System", .fieldLink RX3 16 "UnitVectors$State" "above" "[I", .fieldLink RX3 20 "UnitVectors$State" "below" "[I", .methodLink RX4 180 yX0_forget, .instanceMethod yX0_forget, .selects RX0 yX0_forget yX0_forget, .initialized RX0, .code yX0_forget cX0_forget 1 none, .fieldLink RX0 26 "UnitVectors$Past" "count" "I"] ++ wsX40 ++ wsX30 ++ wsX00)
def wsX4_goBack_r1 : List Cond := [Cond.constant RX4 97 (-1000000001), Cond.fieldLink RX4 34 "UnitVectors" "images" "[LUnitVectors$State;", Cond.constant RX4 89 (-1000000003), Cond.fieldLink RX4 30 "UnitVectors" "now" "LUnitVectors$State;", Cond.fieldLink RX4 41 "UnitVectors" "past" "LUnitVectors$Past;", Cond.methodLink RX4 173 yX3_copyDeeds, Cond.instanceMethod yX3_copyDeeds, Cond.selects RX3 yX3_copyDeeds yX3_copyDeeds, Cond.initialized RX3, Cond.code yX3_copyDeeds cX3_copyDeeds 3 none, Cond.fieldLink RX3 29 "UnitVectors$State" "count" "I", Cond.fieldLink RX3 11 "UnitVectors$State" "sayings" "[[I", Cond.methodLink RX3 33 arraycopyName, Cond.native arraycopyName, Cond.static arraycopyName, Cond.initialized "java/lang/System", Cond.fieldLink RX3 16 "UnitVectors$State" "above" "[I", Cond.fieldLink RX3 20 "UnitVectors$State" "below" "[I", Cond.methodLink RX4 180 yX0_forget, Cond.instanceMethod yX0_forget, Cond.selects RX0 yX0_forget yX0_forget, Cond.initialized RX0, Cond.code yX0_forget cX0_forget 1 none, Cond.fieldLink RX0 26 "UnitVectors$Past" "count" "I"]
def wsX4_goBack_r2 : List Cond := [Cond.methodLink RX4 102 yX4_solveAnew, Cond.instanceMethod yX4_solveAnew, Cond.selects RX4 yX4_solveAnew yX4_solveAnew, Cond.initialized RX4, Cond.code yX4_solveAnew cX4_solveAnew 2 none, Cond.fieldLink RX4 48 "UnitVectors" "solutions" "LUnitVectors$Solutions;", Cond.methodLink RX4 198 yX2_clear, Cond.instanceMethod yX2_clear, Cond.selects RX2 yX2_clear yX2_clear, Cond.initialized RX2, Cond.code yX2_clear cX2_clear 2 none, Cond.fieldLink RX2 32 "UnitVectors$Solutions" "count" "I", Cond.fieldLink RX2 11 "UnitVectors$Solutions" "rows" "[[J", Cond.fieldLink RX2 16 "UnitVectors$Solutions" "lowest" "[[J", Cond.methodLink RX2 36 yJ7_fill_d0a16, Cond.static yJ7_fill_d0a16, Cond.initialized RJ7, Cond.code yJ7_fill_d0a16 cJ7_fill_d0a16 5 none, Cond.methodLink RX4 197 yX2_put, Cond.instanceMethod yX2_put, Cond.selects RX2 yX2_put yX2_put, Cond.code yX2_put cX2_put 4 none, Cond.fieldLink RX2 26 "UnitVectors$Solutions" "step" "[J", Cond.fieldLink RX2 19 "UnitVectors$Solutions" "gains" "[J"]
def wsX4_goBack_r3 : List Cond := [Cond.methodLink RX2 70 arraycopyName, Cond.fieldLink RX2 76 "UnitVectors$Solutions" "stepGain" "J", Cond.methodLink RX2 46 yX2_weigh, Cond.instanceMethod yX2_weigh, Cond.selects RX2 yX2_weigh yX2_weigh, Cond.code yX2_weigh cX2_weigh 3 none, Cond.fieldLink RX2 23 "UnitVectors$Solutions" "lacks" "[J", Cond.methodLink RX2 42 yX2_product, Cond.static yX2_product, Cond.code yX2_product cX2_product 5 (some .long), Cond.methodLink RX2 86 yX2_powerOf, Cond.instanceMethod yX2_powerOf, Cond.selects RX2 yX2_powerOf yX2_powerOf, Cond.code yX2_powerOf cX2_powerOf 3 (some .long), Cond.methodLink RX2 58 yX2_divideToAndFro, Cond.instanceMethod yX2_divideToAndFro, Cond.selects RX2 yX2_divideToAndFro yX2_divideToAndFro, Cond.code yX2_divideToAndFro cX2_divideToAndFro 10 none, Cond.methodLink RX2 94 yX2_addTimes, Cond.static yX2_addTimes, Cond.code yX2_addTimes cX2_addTimes 5 none, Cond.methodLink RX2 62 yX2_makeHeadPositive, Cond.static yX2_makeHeadPositive, Cond.code yX2_makeHeadPositive cX2_makeHeadPositive 3 none]
def wsX4_goBack_r4 : List Cond := [Cond.methodLink RX2 98 yX2_headOf, Cond.static yX2_headOf, Cond.code yX2_headOf cX2_headOf 2 (some .int), Cond.methodLink RX2 66 yX2_reduce, Cond.instanceMethod yX2_reduce, Cond.selects RX2 yX2_reduce yX2_reduce, Cond.code yX2_reduce cX2_reduce 6 none, Cond.methodLink RX2 102 yJ9_floorDiv_f86c9, Cond.static yJ9_floorDiv_f86c9, Cond.initialized RJ9, Cond.code yJ9_floorDiv_f86c9 cJ9_floorDiv_f86c9 6 (some .long), Cond.methodLink RX2 80 yX2_moveLowest, Cond.instanceMethod yX2_moveLowest, Cond.selects RX2 yX2_moveLowest yX2_moveLowest, Cond.code yX2_moveLowest cX2_moveLowest 3 none, Cond.methodLink RX2 83 yX2_leaveOut, Cond.instanceMethod yX2_leaveOut, Cond.selects RX2 yX2_leaveOut yX2_leaveOut, Cond.code yX2_leaveOut cX2_leaveOut 4 none]
def wsX4_goBack : List Cond := .code yX4_goBack cX4_goBack 3 (some .int) :: ((wsX4_goBack_r1 ++ (wsX4_goBack_r2 ++ (wsX4_goBack_r3 ++ wsX4_goBack_r4))) ++ wsX40 ++ wsX30 ++ wsX00 ++ wsX20)
def wsX5_init : List Cond := .code yX5_init cX5_init 2 none :: ([.methodLink RX5 1 objectInit, .instanceMethod objectInit, .code objectInit ⟨#[0xb1]⟩ 1 none, .arrayClass .int, .fieldLink RX5 7 "UnitVectorsModel" "text" "[I", .fieldLink RX5 13 "UnitVectorsModel" "faultAt" "I", .fieldLink RX5 17 "UnitVectorsModel" "st" "[I", .fieldLink RX5 20 "UnitVectorsModel" "deeds" "[I", .fieldLink RX5 23 "UnitVectorsModel" "images" "[I", .arrayClass .long, .fieldLink RX5 26 "UnitVectorsModel" "seeds" "[J", .arrayClass .boolean, .fieldLink RX5 30 "UnitVectorsModel" "isKept" "[Z", .fieldLink RX5 34 "UnitVectorsModel" "sums" "[I", .fieldLink RX5 37 "UnitVectorsModel" "ways" "[I", .fieldLink RX5 40 "UnitVectorsModel" "factor" "[I", .fieldLink RX5 43 "UnitVectorsModel" "powers" "[I", .fieldLink RX5 46 "UnitVectorsModel" "rows" "[J", .fieldLink RX5 49 "UnitVectorsModel" "choice" "[J", .fieldLink RX5 52 "UnitVectorsModel" "over" "[J"] ++ wsX50)
def wsX5_in : List Cond := .code yX5_in cX5_in 3 (some .boolean) :: ([])
def wsX5_has : List Cond := .code yX5_has cX5_has 2 (some .boolean) :: ([])
def wsX5_bits : List Cond := .code yX5_bits cX5_bits 3 (some .int) :: ([])
def wsX5_bring : List Cond := .code yX5_bring cX5_bring 6 none :: ([])
def wsX5_feed : List Cond := .code yX5_feed cX5_feed 2 (some .int) :: ([.constant RX5 59 (-1000000002), .fieldLink RX5 60 "UnitVectorsModel" "length" "I", .constant RX5 63 (-1000000004), .fieldLink RX5 7 "UnitVectorsModel" "text" "[I", .methodLink RX5 55 yX5_in, .static yX5_in, .initialized RX5, .code yX5_in cX5_in 3 (some .boolean)] ++ wsX50)
def wsX5_wipe : List Cond := .code yX5_wipe cX5_wipe 2 (some .int) :: ([.fieldLink RX5 60 "UnitVectorsModel" "length" "I"] ++ wsX50)
def wsX5_fault : List Cond := .code yX5_fault cX5_fault 1 (some .int) :: ([.fieldLink RX5 13 "UnitVectorsModel" "faultAt" "I"] ++ wsX50)
def wsX5_here : List Cond := .code yX5_here cX5_here 1 (some .int) :: ([.fieldLink RX5 64 "UnitVectorsModel" "place" "I", .fieldLink RX5 60 "UnitVectorsModel" "length" "I", .fieldLink RX5 7 "UnitVectorsModel" "text" "[I"] ++ wsX50)
def wsX5_fails : List Cond := .code yX5_fails cX5_fails 2 none :: ([.fieldLink RX5 67 "UnitVectorsModel" "wrong" "I"] ++ wsX50)
def wsX5_opens : List Cond := .code yX5_opens cX5_opens 3 none :: ([.fieldLink RX5 70 "UnitVectorsModel" "depth" "I", .fieldLink RX5 37 "UnitVectorsModel" "ways" "[I", .fieldLink RX5 34 "UnitVectorsModel" "sums" "[I"] ++ wsX50)
def wsX5_readsLetter : List Cond := .code yX5_readsLetter cX5_readsLetter 3 (some .boolean) :: ([.fieldLink RX5 40 "UnitVectorsModel" "factor" "[I", .fieldLink RX5 70 "UnitVectorsModel" "depth" "I", .fieldLink RX5 64 "UnitVectorsModel" "place" "I", .methodLink RX5 73 yX5_here, .instanceMethod yX5_here, .selects RX5 yX5_here yX5_here, .initialized RX5, .code yX5_here cX5_here 1 (some .int), .fieldLink RX5 60 "UnitVectorsModel" "length" "I", .fieldLink RX5 7 "UnitVectorsModel" "text" "[I", .methodLink RX5 55 yX5_in, .static yX5_in, .code yX5_in cX5_in 3 (some .boolean), .methodLink RX5 77 yX5_fails, .instanceMethod yX5_fails, .selects RX5 yX5_fails yX5_fails, .code yX5_fails cX5_fails 2 none, .fieldLink RX5 67 "UnitVectorsModel" "wrong" "I", .methodLink RX5 81 yX5_opens, .instanceMethod yX5_opens, .selects RX5 yX5_opens yX5_opens, .code yX5_opens cX5_opens 3 none, .fieldLink RX5 37 "UnitVectorsModel" "ways" "[I", .fieldLink RX5 34 "UnitVectorsModel" "sums" "[I"] ++ wsX50)
def wsX5_readsPower : List Cond := .code yX5_readsPower cX5_readsPower 4 none :: ([.fieldLink RX5 64 "UnitVectorsModel" "place" "I", .fieldLink RX5 40 "UnitVectorsModel" "factor" "[I", .methodLink RX5 73 yX5_here, .instanceMethod yX5_here, .selects RX5 yX5_here yX5_here, .initialized RX5, .code yX5_here cX5_here 1 (some .int), .fieldLink RX5 60 "UnitVectorsModel" "length" "I", .fieldLink RX5 7 "UnitVectorsModel" "text" "[I", .methodLink RX5 55 yX5_in, .static yX5_in, .code yX5_in cX5_in 3 (some .boolean), .methodLink RX5 77 yX5_fails, .instanceMethod yX5_fails, .selects RX5 yX5_fails yX5_fails, .code yX5_fails cX5_fails 2 none, .fieldLink RX5 67 "UnitVectorsModel" "wrong" "I"] ++ wsX50)
def wsX5_counts : List Cond := .code yX5_counts cX5_counts 2 none :: ([.fieldLink RX5 34 "UnitVectorsModel" "sums" "[I", .fieldLink RX5 70 "UnitVectorsModel" "depth" "I", .fieldLink RX5 37 "UnitVectorsModel" "ways" "[I", .fieldLink RX5 40 "UnitVectorsModel" "factor" "[I"] ++ wsX50)
def wsX5_closes_r1 : List Cond := [Cond.fieldLink RX5 67 "UnitVectorsModel" "wrong" "I", Cond.fieldLink RX5 70 "UnitVectorsModel" "depth" "I", Cond.fieldLink RX5 64 "UnitVectorsModel" "place" "I", Cond.fieldLink RX5 34 "UnitVectorsModel" "sums" "[I", Cond.fieldLink RX5 40 "UnitVectorsModel" "factor" "[I", Cond.methodLink RX5 84 yX5_readsPower, Cond.instanceMethod yX5_readsPower, Cond.selects RX5 yX5_readsPower yX5_readsPower, Cond.initialized RX5, Cond.code yX5_readsPower cX5_readsPower 4 none, Cond.methodLink RX5 73 yX5_here, Cond.instanceMethod yX5_here, Cond.selects RX5 yX5_here yX5_here, Cond.code yX5_here cX5_here 1 (some .int), Cond.fieldLink RX5 60 "UnitVectorsModel" "length" "I", Cond.fieldLink RX5 7 "UnitVectorsModel" "text" "[I", Cond.methodLink RX5 55 yX5_in, Cond.static yX5_in, Cond.code yX5_in cX5_in 3 (some .boolean), Cond.methodLink RX5 77 yX5_fails, Cond.instanceMethod yX5_fails, Cond.selects RX5 yX5_fails yX5_fails, Cond.code yX5_fails cX5_fails 2 none, Cond.methodLink RX5 87 yX5_counts]
def wsX5_closes_r2 : List Cond := [Cond.instanceMethod yX5_counts, Cond.selects RX5 yX5_counts yX5_counts, Cond.code yX5_counts cX5_counts 2 none, Cond.fieldLink RX5 37 "UnitVectorsModel" "ways" "[I", Cond.methodLink RX5 90 yX5_bring, Cond.static yX5_bring, Cond.code yX5_bring cX5_bring 6 none]
def wsX5_closes : List Cond := .code yX5_closes cX5_closes 1 none :: ((wsX5_closes_r1 ++ wsX5_closes_r2) ++ wsX50)
def wsX5_readsSide_r1 : List Cond := [Cond.fieldLink RX5 67 "UnitVectorsModel" "wrong" "I", Cond.fieldLink RX5 64 "UnitVectorsModel" "place" "I", Cond.fieldLink RX5 37 "UnitVectorsModel" "ways" "[I", Cond.fieldLink RX5 70 "UnitVectorsModel" "depth" "I", Cond.methodLink RX5 81 yX5_opens, Cond.instanceMethod yX5_opens, Cond.selects RX5 yX5_opens yX5_opens, Cond.initialized RX5, Cond.code yX5_opens cX5_opens 3 none, Cond.fieldLink RX5 34 "UnitVectorsModel" "sums" "[I", Cond.methodLink RX5 94 yX5_readsLetter, Cond.instanceMethod yX5_readsLetter, Cond.selects RX5 yX5_readsLetter yX5_readsLetter, Cond.code yX5_readsLetter cX5_readsLetter 3 (some .boolean), Cond.fieldLink RX5 40 "UnitVectorsModel" "factor" "[I", Cond.methodLink RX5 73 yX5_here, Cond.instanceMethod yX5_here, Cond.selects RX5 yX5_here yX5_here, Cond.code yX5_here cX5_here 1 (some .int), Cond.fieldLink RX5 60 "UnitVectorsModel" "length" "I", Cond.fieldLink RX5 7 "UnitVectorsModel" "text" "[I", Cond.methodLink RX5 55 yX5_in, Cond.static yX5_in, Cond.code yX5_in cX5_in 3 (some .boolean)]
def wsX5_readsSide_r2 : List Cond := [Cond.methodLink RX5 77 yX5_fails, Cond.instanceMethod yX5_fails, Cond.selects RX5 yX5_fails yX5_fails, Cond.code yX5_fails cX5_fails 2 none, Cond.methodLink RX5 98 yX5_closes, Cond.instanceMethod yX5_closes, Cond.selects RX5 yX5_closes yX5_closes, Cond.code yX5_closes cX5_closes 1 none, Cond.methodLink RX5 84 yX5_readsPower, Cond.instanceMethod yX5_readsPower, Cond.selects RX5 yX5_readsPower yX5_readsPower, Cond.code yX5_readsPower cX5_readsPower 4 none, Cond.methodLink RX5 87 yX5_counts, Cond.instanceMethod yX5_counts, Cond.selects RX5 yX5_counts yX5_counts, Cond.code yX5_counts cX5_counts 2 none, Cond.methodLink RX5 90 yX5_bring, Cond.static yX5_bring, Cond.code yX5_bring cX5_bring 6 none]
def wsX5_readsSide : List Cond := .code yX5_readsSide cX5_readsSide 2 (some .int) :: ((wsX5_readsSide_r1 ++ wsX5_readsSide_r2) ++ wsX50)
def wsX5_reads_r1 : List Cond := [Cond.fieldLink RX5 64 "UnitVectorsModel" "place" "I", Cond.fieldLink RX5 67 "UnitVectorsModel" "wrong" "I", Cond.fieldLink RX5 34 "UnitVectorsModel" "sums" "[I", Cond.fieldLink RX5 43 "UnitVectorsModel" "powers" "[I", Cond.fieldLink RX5 60 "UnitVectorsModel" "length" "I", Cond.fieldLink RX5 13 "UnitVectorsModel" "faultAt" "I", Cond.methodLink RX5 101 yX5_readsSide, Cond.instanceMethod yX5_readsSide, Cond.selects RX5 yX5_readsSide yX5_readsSide, Cond.initialized RX5, Cond.code yX5_readsSide cX5_readsSide 2 (some .int), Cond.fieldLink RX5 37 "UnitVectorsModel" "ways" "[I", Cond.fieldLink RX5 70 "UnitVectorsModel" "depth" "I", Cond.methodLink RX5 81 yX5_opens, Cond.instanceMethod yX5_opens, Cond.selects RX5 yX5_opens yX5_opens, Cond.code yX5_opens cX5_opens 3 none, Cond.methodLink RX5 94 yX5_readsLetter, Cond.instanceMethod yX5_readsLetter, Cond.selects RX5 yX5_readsLetter yX5_readsLetter, Cond.code yX5_readsLetter cX5_readsLetter 3 (some .boolean), Cond.fieldLink RX5 40 "UnitVectorsModel" "factor" "[I", Cond.methodLink RX5 73 yX5_here, Cond.instanceMethod yX5_here]
def wsX5_reads_r2 : List Cond := [Cond.selects RX5 yX5_here yX5_here, Cond.code yX5_here cX5_here 1 (some .int), Cond.fieldLink RX5 7 "UnitVectorsModel" "text" "[I", Cond.methodLink RX5 55 yX5_in, Cond.static yX5_in, Cond.code yX5_in cX5_in 3 (some .boolean), Cond.methodLink RX5 77 yX5_fails, Cond.instanceMethod yX5_fails, Cond.selects RX5 yX5_fails yX5_fails, Cond.code yX5_fails cX5_fails 2 none, Cond.methodLink RX5 98 yX5_closes, Cond.instanceMethod yX5_closes, Cond.selects RX5 yX5_closes yX5_closes, Cond.code yX5_closes cX5_closes 1 none, Cond.methodLink RX5 84 yX5_readsPower, Cond.instanceMethod yX5_readsPower, Cond.selects RX5 yX5_readsPower yX5_readsPower, Cond.code yX5_readsPower cX5_readsPower 4 none, Cond.methodLink RX5 87 yX5_counts, Cond.instanceMethod yX5_counts, Cond.selects RX5 yX5_counts yX5_counts, Cond.code yX5_counts cX5_counts 2 none, Cond.methodLink RX5 90 yX5_bring, Cond.static yX5_bring]
def wsX5_reads_r3 : List Cond := [Cond.code yX5_bring cX5_bring 6 none]
def wsX5_reads : List Cond := .code yX5_reads cX5_reads 4 (some .int) :: ((wsX5_reads_r1 ++ (wsX5_reads_r2 ++ wsX5_reads_r3)) ++ wsX50)
def wsX5_startsFree : List Cond := .code yX5_startsFree cX5_startsFree 2 none :: ([.fieldLink RX5 104 "UnitVectorsModel" "free" "I", .fieldLink RX5 46 "UnitVectorsModel" "rows" "[J", .fieldLink RX5 49 "UnitVectorsModel" "choice" "[J"] ++ wsX50)
def wsX5_takes : List Cond := .code yX5_takes cX5_takes 6 none :: ([.fieldLink RX5 46 "UnitVectorsModel" "rows" "[J", .fieldLink RX5 52 "UnitVectorsModel" "over" "[J"] ++ wsX50)
def wsX5_swaps : List Cond := .code yX5_swaps cX5_swaps 6 none :: ([.fieldLink RX5 46 "UnitVectorsModel" "rows" "[J", .fieldLink RX5 52 "UnitVectorsModel" "over" "[J"] ++ wsX50)
def wsX5_floor : List Cond := .code yX5_floor cX5_floor 6 (some .long) :: ([])
def wsX5_sizeOf : List Cond := .code yX5_sizeOf cX5_sizeOf 2 (some .long) :: ([])
def wsX5_gathers : List Cond := .code yX5_gathers cX5_gathers 6 (some .boolean) :: ([.fieldLink RX5 52 "UnitVectorsModel" "over" "[J", .methodLink RX5 107 yX5_sizeOf, .static yX5_sizeOf, .initialized RX5, .code yX5_sizeOf cX5_sizeOf 2 (some .long), .methodLink RX5 111 yX5_swaps, .instanceMethod yX5_swaps, .selects RX5 yX5_swaps yX5_swaps, .code yX5_swaps cX5_swaps 6 none, .fieldLink RX5 46 "UnitVectorsModel" "rows" "[J", .methodLink RX5 115 yX5_takes, .instanceMethod yX5_takes, .selects RX5 yX5_takes yX5_takes, .code yX5_takes cX5_takes 6 none] ++ wsX50)
def wsX5_sumOf : List Cond := .code yX5_sumOf cX5_sumOf 7 (some .long) :: ([.fieldLink RX5 46 "UnitVectorsModel" "rows" "[J"] ++ wsX50)
def wsX5_restOf : List Cond := .code yX5_restOf cX5_restOf 7 (some .long) :: ([.fieldLink RX5 49 "UnitVectorsModel" "choice" "[J"] ++ wsX50)
def wsX5_headOf : List Cond := .code yX5_headOf cX5_headOf 3 (some .int) :: ([.fieldLink RX5 46 "UnitVectorsModel" "rows" "[J"] ++ wsX50)
def wsX5_orders_r1 : List Cond := [Cond.fieldLink RX5 104 "UnitVectorsModel" "free" "I", Cond.fieldLink RX5 52 "UnitVectorsModel" "over" "[J", Cond.fieldLink RX5 46 "UnitVectorsModel" "rows" "[J", Cond.constantLong RX5 133 (2), Cond.fieldLink RX5 49 "UnitVectorsModel" "choice" "[J", Cond.methodLink RX5 123 yX5_gathers, Cond.instanceMethod yX5_gathers, Cond.selects RX5 yX5_gathers yX5_gathers, Cond.initialized RX5, Cond.code yX5_gathers cX5_gathers 6 (some .boolean), Cond.methodLink RX5 107 yX5_sizeOf, Cond.static yX5_sizeOf, Cond.code yX5_sizeOf cX5_sizeOf 2 (some .long), Cond.methodLink RX5 111 yX5_swaps, Cond.instanceMethod yX5_swaps, Cond.selects RX5 yX5_swaps yX5_swaps, Cond.code yX5_swaps cX5_swaps 6 none, Cond.methodLink RX5 115 yX5_takes, Cond.instanceMethod yX5_takes, Cond.selects RX5 yX5_takes yX5_takes, Cond.code yX5_takes cX5_takes 6 none, Cond.methodLink RX5 135 yX5_floor, Cond.static yX5_floor, Cond.code yX5_floor cX5_floor 6 (some .long)]
def wsX5_orders_r2 : List Cond := [Cond.methodLink RX5 139 yX5_headOf, Cond.instanceMethod yX5_headOf, Cond.selects RX5 yX5_headOf yX5_headOf, Cond.code yX5_headOf cX5_headOf 3 (some .int)]
def wsX5_orders : List Cond := .code yX5_orders cX5_orders 8 none :: ((wsX5_orders_r1 ++ wsX5_orders_r2) ++ wsX50)
def wsX5_adds_r1 : List Cond := [Cond.fieldLink RX5 104 "UnitVectorsModel" "free" "I", Cond.fieldLink RX5 52 "UnitVectorsModel" "over" "[J", Cond.fieldLink RX5 49 "UnitVectorsModel" "choice" "[J", Cond.fieldLink RX5 46 "UnitVectorsModel" "rows" "[J", Cond.methodLink RX5 119 yX5_sumOf, Cond.instanceMethod yX5_sumOf, Cond.selects RX5 yX5_sumOf yX5_sumOf, Cond.initialized RX5, Cond.code yX5_sumOf cX5_sumOf 7 (some .long), Cond.methodLink RX5 123 yX5_gathers, Cond.instanceMethod yX5_gathers, Cond.selects RX5 yX5_gathers yX5_gathers, Cond.code yX5_gathers cX5_gathers 6 (some .boolean), Cond.methodLink RX5 107 yX5_sizeOf, Cond.static yX5_sizeOf, Cond.code yX5_sizeOf cX5_sizeOf 2 (some .long), Cond.methodLink RX5 111 yX5_swaps, Cond.instanceMethod yX5_swaps, Cond.selects RX5 yX5_swaps yX5_swaps, Cond.code yX5_swaps cX5_swaps 6 none, Cond.methodLink RX5 115 yX5_takes, Cond.instanceMethod yX5_takes, Cond.selects RX5 yX5_takes yX5_takes, Cond.code yX5_takes cX5_takes 6 none]
def wsX5_adds_r2 : List Cond := [Cond.methodLink RX5 127 yX5_restOf, Cond.instanceMethod yX5_restOf, Cond.selects RX5 yX5_restOf yX5_restOf, Cond.code yX5_restOf cX5_restOf 7 (some .long), Cond.methodLink RX5 130 yX5_orders, Cond.instanceMethod yX5_orders, Cond.selects RX5 yX5_orders yX5_orders, Cond.code yX5_orders cX5_orders 8 none, Cond.constantLong RX5 133 (2), Cond.methodLink RX5 135 yX5_floor, Cond.static yX5_floor, Cond.code yX5_floor cX5_floor 6 (some .long), Cond.methodLink RX5 139 yX5_headOf, Cond.instanceMethod yX5_headOf, Cond.selects RX5 yX5_headOf yX5_headOf, Cond.code yX5_headOf cX5_headOf 3 (some .int)]
def wsX5_adds : List Cond := .code yX5_adds cX5_adds 9 (some .boolean) :: ((wsX5_adds_r1 ++ wsX5_adds_r2) ++ wsX50)
def wsX5_solves_r1 : List Cond := [Cond.fieldLink RX5 17 "UnitVectorsModel" "st" "[I", Cond.methodLink RX5 143 yX5_startsFree, Cond.instanceMethod yX5_startsFree, Cond.selects RX5 yX5_startsFree yX5_startsFree, Cond.initialized RX5, Cond.code yX5_startsFree cX5_startsFree 2 none, Cond.fieldLink RX5 104 "UnitVectorsModel" "free" "I", Cond.fieldLink RX5 46 "UnitVectorsModel" "rows" "[J", Cond.fieldLink RX5 49 "UnitVectorsModel" "choice" "[J", Cond.methodLink RX5 146 yX5_has, Cond.static yX5_has, Cond.code yX5_has cX5_has 2 (some .boolean), Cond.methodLink RX5 149 yX5_adds, Cond.instanceMethod yX5_adds, Cond.selects RX5 yX5_adds yX5_adds, Cond.code yX5_adds cX5_adds 9 (some .boolean), Cond.fieldLink RX5 52 "UnitVectorsModel" "over" "[J", Cond.methodLink RX5 119 yX5_sumOf, Cond.instanceMethod yX5_sumOf, Cond.selects RX5 yX5_sumOf yX5_sumOf, Cond.code yX5_sumOf cX5_sumOf 7 (some .long), Cond.methodLink RX5 123 yX5_gathers, Cond.instanceMethod yX5_gathers, Cond.selects RX5 yX5_gathers yX5_gathers]
def wsX5_solves_r2 : List Cond := [Cond.code yX5_gathers cX5_gathers 6 (some .boolean), Cond.methodLink RX5 107 yX5_sizeOf, Cond.static yX5_sizeOf, Cond.code yX5_sizeOf cX5_sizeOf 2 (some .long), Cond.methodLink RX5 111 yX5_swaps, Cond.instanceMethod yX5_swaps, Cond.selects RX5 yX5_swaps yX5_swaps, Cond.code yX5_swaps cX5_swaps 6 none, Cond.methodLink RX5 115 yX5_takes, Cond.instanceMethod yX5_takes, Cond.selects RX5 yX5_takes yX5_takes, Cond.code yX5_takes cX5_takes 6 none, Cond.methodLink RX5 127 yX5_restOf, Cond.instanceMethod yX5_restOf, Cond.selects RX5 yX5_restOf yX5_restOf, Cond.code yX5_restOf cX5_restOf 7 (some .long), Cond.methodLink RX5 130 yX5_orders, Cond.instanceMethod yX5_orders, Cond.selects RX5 yX5_orders yX5_orders, Cond.code yX5_orders cX5_orders 8 none, Cond.constantLong RX5 133 (2), Cond.methodLink RX5 135 yX5_floor, Cond.static yX5_floor, Cond.code yX5_floor cX5_floor 6 (some .long)]
def wsX5_solves_r3 : List Cond := [Cond.methodLink RX5 139 yX5_headOf, Cond.instanceMethod yX5_headOf, Cond.selects RX5 yX5_headOf yX5_headOf, Cond.code yX5_headOf cX5_headOf 3 (some .int)]
def wsX5_solves : List Cond := .code yX5_solves cX5_solves 3 none :: ((wsX5_solves_r1 ++ (wsX5_solves_r2 ++ wsX5_solves_r3)) ++ wsX50)
def wsX5_allOf : List Cond := .code yX5_allOf cX5_allOf 1 (some .int) :: ([.fieldLink RX5 17 "UnitVectorsModel" "st" "[I"] ++ wsX50)
def wsX5_isTrue : List Cond := .code yX5_isTrue cX5_isTrue 5 (some .boolean) :: ([.fieldLink RX5 104 "UnitVectorsModel" "free" "I", .methodLink RX5 119 yX5_sumOf, .instanceMethod yX5_sumOf, .selects RX5 yX5_sumOf yX5_sumOf, .initialized RX5, .code yX5_sumOf cX5_sumOf 7 (some .long), .fieldLink RX5 46 "UnitVectorsModel" "rows" "[J", .methodLink RX5 127 yX5_restOf, .instanceMethod yX5_restOf, .selects RX5 yX5_restOf yX5_restOf, .code yX5_restOf cX5_restOf 7 (some .long), .fieldLink RX5 49 "UnitVectorsModel" "choice" "[J"] ++ wsX50)
def wsX5_isSpare_r1 : List Cond := [Cond.fieldLink RX5 17 "UnitVectorsModel" "st" "[I", Cond.methodLink RX5 153 yX5_allOf, Cond.instanceMethod yX5_allOf, Cond.selects RX5 yX5_allOf yX5_allOf, Cond.initialized RX5, Cond.code yX5_allOf cX5_allOf 1 (some .int), Cond.methodLink RX5 156 yX5_solves, Cond.instanceMethod yX5_solves, Cond.selects RX5 yX5_solves yX5_solves, Cond.code yX5_solves cX5_solves 3 none, Cond.methodLink RX5 143 yX5_startsFree, Cond.instanceMethod yX5_startsFree, Cond.selects RX5 yX5_startsFree yX5_startsFree, Cond.code yX5_startsFree cX5_startsFree 2 none, Cond.fieldLink RX5 104 "UnitVectorsModel" "free" "I", Cond.fieldLink RX5 46 "UnitVectorsModel" "rows" "[J", Cond.fieldLink RX5 49 "UnitVectorsModel" "choice" "[J", Cond.methodLink RX5 146 yX5_has, Cond.static yX5_has, Cond.code yX5_has cX5_has 2 (some .boolean), Cond.methodLink RX5 149 yX5_adds, Cond.instanceMethod yX5_adds, Cond.selects RX5 yX5_adds yX5_adds, Cond.code yX5_adds cX5_adds 9 (some .boolean)]
def wsX5_isSpare_r2 : List Cond := [Cond.fieldLink RX5 52 "UnitVectorsModel" "over" "[J", Cond.methodLink RX5 119 yX5_sumOf, Cond.instanceMethod yX5_sumOf, Cond.selects RX5 yX5_sumOf yX5_sumOf, Cond.code yX5_sumOf cX5_sumOf 7 (some .long), Cond.methodLink RX5 123 yX5_gathers, Cond.instanceMethod yX5_gathers, Cond.selects RX5 yX5_gathers yX5_gathers, Cond.code yX5_gathers cX5_gathers 6 (some .boolean), Cond.methodLink RX5 107 yX5_sizeOf, Cond.static yX5_sizeOf, Cond.code yX5_sizeOf cX5_sizeOf 2 (some .long), Cond.methodLink RX5 111 yX5_swaps, Cond.instanceMethod yX5_swaps, Cond.selects RX5 yX5_swaps yX5_swaps, Cond.code yX5_swaps cX5_swaps 6 none, Cond.methodLink RX5 115 yX5_takes, Cond.instanceMethod yX5_takes, Cond.selects RX5 yX5_takes yX5_takes, Cond.code yX5_takes cX5_takes 6 none, Cond.methodLink RX5 127 yX5_restOf, Cond.instanceMethod yX5_restOf, Cond.selects RX5 yX5_restOf yX5_restOf, Cond.code yX5_restOf cX5_restOf 7 (some .long)]
def wsX5_isSpare_r3 : List Cond := [Cond.methodLink RX5 130 yX5_orders, Cond.instanceMethod yX5_orders, Cond.selects RX5 yX5_orders yX5_orders, Cond.code yX5_orders cX5_orders 8 none, Cond.constantLong RX5 133 (2), Cond.methodLink RX5 135 yX5_floor, Cond.static yX5_floor, Cond.code yX5_floor cX5_floor 6 (some .long), Cond.methodLink RX5 139 yX5_headOf, Cond.instanceMethod yX5_headOf, Cond.selects RX5 yX5_headOf yX5_headOf, Cond.code yX5_headOf cX5_headOf 3 (some .int), Cond.methodLink RX5 159 yX5_isTrue, Cond.instanceMethod yX5_isTrue, Cond.selects RX5 yX5_isTrue yX5_isTrue, Cond.code yX5_isTrue cX5_isTrue 5 (some .boolean)]
def wsX5_isSpare : List Cond := .code yX5_isSpare cX5_isSpare 2 (some .boolean) :: ((wsX5_isSpare_r1 ++ (wsX5_isSpare_r2 ++ wsX5_isSpare_r3)) ++ wsX50)
def wsX5_spareMany_r1 : List Cond := [Cond.fieldLink RX5 17 "UnitVectorsModel" "st" "[I", Cond.methodLink RX5 162 yX5_isSpare, Cond.instanceMethod yX5_isSpare, Cond.selects RX5 yX5_isSpare yX5_isSpare, Cond.initialized RX5, Cond.code yX5_isSpare cX5_isSpare 2 (some .boolean), Cond.methodLink RX5 153 yX5_allOf, Cond.instanceMethod yX5_allOf, Cond.selects RX5 yX5_allOf yX5_allOf, Cond.code yX5_allOf cX5_allOf 1 (some .int), Cond.methodLink RX5 156 yX5_solves, Cond.instanceMethod yX5_solves, Cond.selects RX5 yX5_solves yX5_solves, Cond.code yX5_solves cX5_solves 3 none, Cond.methodLink RX5 143 yX5_startsFree, Cond.instanceMethod yX5_startsFree, Cond.selects RX5 yX5_startsFree yX5_startsFree, Cond.code yX5_startsFree cX5_startsFree 2 none, Cond.fieldLink RX5 104 "UnitVectorsModel" "free" "I", Cond.fieldLink RX5 46 "UnitVectorsModel" "rows" "[J", Cond.fieldLink RX5 49 "UnitVectorsModel" "choice" "[J", Cond.methodLink RX5 146 yX5_has, Cond.static yX5_has, Cond.code yX5_has cX5_has 2 (some .boolean)]
def wsX5_spareMany_r2 : List Cond := [Cond.methodLink RX5 149 yX5_adds, Cond.instanceMethod yX5_adds, Cond.selects RX5 yX5_adds yX5_adds, Cond.code yX5_adds cX5_adds 9 (some .boolean), Cond.fieldLink RX5 52 "UnitVectorsModel" "over" "[J", Cond.methodLink RX5 119 yX5_sumOf, Cond.instanceMethod yX5_sumOf, Cond.selects RX5 yX5_sumOf yX5_sumOf, Cond.code yX5_sumOf cX5_sumOf 7 (some .long), Cond.methodLink RX5 123 yX5_gathers, Cond.instanceMethod yX5_gathers, Cond.selects RX5 yX5_gathers yX5_gathers, Cond.code yX5_gathers cX5_gathers 6 (some .boolean), Cond.methodLink RX5 107 yX5_sizeOf, Cond.static yX5_sizeOf, Cond.code yX5_sizeOf cX5_sizeOf 2 (some .long), Cond.methodLink RX5 111 yX5_swaps, Cond.instanceMethod yX5_swaps, Cond.selects RX5 yX5_swaps yX5_swaps, Cond.code yX5_swaps cX5_swaps 6 none, Cond.methodLink RX5 115 yX5_takes, Cond.instanceMethod yX5_takes, Cond.selects RX5 yX5_takes yX5_takes, Cond.code yX5_takes cX5_takes 6 none]
def wsX5_spareMany_r3 : List Cond := [Cond.methodLink RX5 127 yX5_restOf, Cond.instanceMethod yX5_restOf, Cond.selects RX5 yX5_restOf yX5_restOf, Cond.code yX5_restOf cX5_restOf 7 (some .long), Cond.methodLink RX5 130 yX5_orders, Cond.instanceMethod yX5_orders, Cond.selects RX5 yX5_orders yX5_orders, Cond.code yX5_orders cX5_orders 8 none, Cond.constantLong RX5 133 (2), Cond.methodLink RX5 135 yX5_floor, Cond.static yX5_floor, Cond.code yX5_floor cX5_floor 6 (some .long), Cond.methodLink RX5 139 yX5_headOf, Cond.instanceMethod yX5_headOf, Cond.selects RX5 yX5_headOf yX5_headOf, Cond.code yX5_headOf cX5_headOf 3 (some .int), Cond.methodLink RX5 159 yX5_isTrue, Cond.instanceMethod yX5_isTrue, Cond.selects RX5 yX5_isTrue yX5_isTrue, Cond.code yX5_isTrue cX5_isTrue 5 (some .boolean)]
def wsX5_spareMany : List Cond := .code yX5_spareMany cX5_spareMany 3 (some .int) :: ((wsX5_spareMany_r1 ++ (wsX5_spareMany_r2 ++ wsX5_spareMany_r3)) ++ wsX50)
def wsX5_fewestOf_r1 : List Cond := [Cond.fieldLink RX5 17 "UnitVectorsModel" "st" "[I", Cond.methodLink RX5 153 yX5_allOf, Cond.instanceMethod yX5_allOf, Cond.selects RX5 yX5_allOf yX5_allOf, Cond.initialized RX5, Cond.code yX5_allOf cX5_allOf 1 (some .int), Cond.methodLink RX5 166 yX5_bits, Cond.static yX5_bits, Cond.code yX5_bits cX5_bits 3 (some .int), Cond.methodLink RX5 156 yX5_solves, Cond.instanceMethod yX5_solves, Cond.selects RX5 yX5_solves yX5_solves, Cond.code yX5_solves cX5_solves 3 none, Cond.methodLink RX5 143 yX5_startsFree, Cond.instanceMethod yX5_startsFree, Cond.selects RX5 yX5_startsFree yX5_startsFree, Cond.code yX5_startsFree cX5_startsFree 2 none, Cond.fieldLink RX5 104 "UnitVectorsModel" "free" "I", Cond.fieldLink RX5 46 "UnitVectorsModel" "rows" "[J", Cond.fieldLink RX5 49 "UnitVectorsModel" "choice" "[J", Cond.methodLink RX5 146 yX5_has, Cond.static yX5_has, Cond.code yX5_has cX5_has 2 (some .boolean), Cond.methodLink RX5 149 yX5_adds]
def wsX5_fewestOf_r2 : List Cond := [Cond.instanceMethod yX5_adds, Cond.selects RX5 yX5_adds yX5_adds, Cond.code yX5_adds cX5_adds 9 (some .boolean), Cond.fieldLink RX5 52 "UnitVectorsModel" "over" "[J", Cond.methodLink RX5 119 yX5_sumOf, Cond.instanceMethod yX5_sumOf, Cond.selects RX5 yX5_sumOf yX5_sumOf, Cond.code yX5_sumOf cX5_sumOf 7 (some .long), Cond.methodLink RX5 123 yX5_gathers, Cond.instanceMethod yX5_gathers, Cond.selects RX5 yX5_gathers yX5_gathers, Cond.code yX5_gathers cX5_gathers 6 (some .boolean), Cond.methodLink RX5 107 yX5_sizeOf, Cond.static yX5_sizeOf, Cond.code yX5_sizeOf cX5_sizeOf 2 (some .long), Cond.methodLink RX5 111 yX5_swaps, Cond.instanceMethod yX5_swaps, Cond.selects RX5 yX5_swaps yX5_swaps, Cond.code yX5_swaps cX5_swaps 6 none, Cond.methodLink RX5 115 yX5_takes, Cond.instanceMethod yX5_takes, Cond.selects RX5 yX5_takes yX5_takes, Cond.code yX5_takes cX5_takes 6 none, Cond.methodLink RX5 127 yX5_restOf]
def wsX5_fewestOf_r3 : List Cond := [Cond.instanceMethod yX5_restOf, Cond.selects RX5 yX5_restOf yX5_restOf, Cond.code yX5_restOf cX5_restOf 7 (some .long), Cond.methodLink RX5 130 yX5_orders, Cond.instanceMethod yX5_orders, Cond.selects RX5 yX5_orders yX5_orders, Cond.code yX5_orders cX5_orders 8 none, Cond.constantLong RX5 133 (2), Cond.methodLink RX5 135 yX5_floor, Cond.static yX5_floor, Cond.code yX5_floor cX5_floor 6 (some .long), Cond.methodLink RX5 139 yX5_headOf, Cond.instanceMethod yX5_headOf, Cond.selects RX5 yX5_headOf yX5_headOf, Cond.code yX5_headOf cX5_headOf 3 (some .int), Cond.methodLink RX5 159 yX5_isTrue, Cond.instanceMethod yX5_isTrue, Cond.selects RX5 yX5_isTrue yX5_isTrue, Cond.code yX5_isTrue cX5_isTrue 5 (some .boolean)]
def wsX5_fewestOf : List Cond := .code yX5_fewestOf cX5_fewestOf 5 (some .int) :: ((wsX5_fewestOf_r1 ++ (wsX5_fewestOf_r2 ++ wsX5_fewestOf_r3)) ++ wsX50)
def wsX5_isSure : List Cond := .code yX5_isSure cX5_isSure 4 (some .boolean) :: ([.fieldLink RX5 104 "UnitVectorsModel" "free" "I", .fieldLink RX5 46 "UnitVectorsModel" "rows" "[J"] ++ wsX50)
def wsX5_toldMany : List Cond := .code yX5_toldMany cX5_toldMany 3 (some .int) :: ([.methodLink RX5 169 yX5_isSure, .instanceMethod yX5_isSure, .selects RX5 yX5_isSure yX5_isSure, .initialized RX5, .code yX5_isSure cX5_isSure 4 (some .boolean), .fieldLink RX5 104 "UnitVectorsModel" "free" "I", .fieldLink RX5 46 "UnitVectorsModel" "rows" "[J"] ++ wsX50)
def wsX5_told_r1 : List Cond := [Cond.fieldLink RX5 17 "UnitVectorsModel" "st" "[I", Cond.fieldLink RX5 104 "UnitVectorsModel" "free" "I", Cond.fieldLink RX5 60 "UnitVectorsModel" "length" "I", Cond.fieldLink RX5 181 "UnitVectorsModel" "deedsMany" "I", Cond.constant RX5 59 (-1000000002), Cond.methodLink RX5 153 yX5_allOf, Cond.instanceMethod yX5_allOf, Cond.selects RX5 yX5_allOf yX5_allOf, Cond.initialized RX5, Cond.code yX5_allOf cX5_allOf 1 (some .int), Cond.methodLink RX5 156 yX5_solves, Cond.instanceMethod yX5_solves, Cond.selects RX5 yX5_solves yX5_solves, Cond.code yX5_solves cX5_solves 3 none, Cond.methodLink RX5 143 yX5_startsFree, Cond.instanceMethod yX5_startsFree, Cond.selects RX5 yX5_startsFree yX5_startsFree, Cond.code yX5_startsFree cX5_startsFree 2 none, Cond.fieldLink RX5 46 "UnitVectorsModel" "rows" "[J", Cond.fieldLink RX5 49 "UnitVectorsModel" "choice" "[J", Cond.methodLink RX5 146 yX5_has, Cond.static yX5_has, Cond.code yX5_has cX5_has 2 (some .boolean), Cond.methodLink RX5 149 yX5_adds]
def wsX5_told_r2 : List Cond := [Cond.instanceMethod yX5_adds, Cond.selects RX5 yX5_adds yX5_adds, Cond.code yX5_adds cX5_adds 9 (some .boolean), Cond.fieldLink RX5 52 "UnitVectorsModel" "over" "[J", Cond.methodLink RX5 119 yX5_sumOf, Cond.instanceMethod yX5_sumOf, Cond.selects RX5 yX5_sumOf yX5_sumOf, Cond.code yX5_sumOf cX5_sumOf 7 (some .long), Cond.methodLink RX5 123 yX5_gathers, Cond.instanceMethod yX5_gathers, Cond.selects RX5 yX5_gathers yX5_gathers, Cond.code yX5_gathers cX5_gathers 6 (some .boolean), Cond.methodLink RX5 107 yX5_sizeOf, Cond.static yX5_sizeOf, Cond.code yX5_sizeOf cX5_sizeOf 2 (some .long), Cond.methodLink RX5 111 yX5_swaps, Cond.instanceMethod yX5_swaps, Cond.selects RX5 yX5_swaps yX5_swaps, Cond.code yX5_swaps cX5_swaps 6 none, Cond.methodLink RX5 115 yX5_takes, Cond.instanceMethod yX5_takes, Cond.selects RX5 yX5_takes yX5_takes, Cond.code yX5_takes cX5_takes 6 none, Cond.methodLink RX5 127 yX5_restOf]
def wsX5_told_r3 : List Cond := [Cond.instanceMethod yX5_restOf, Cond.selects RX5 yX5_restOf yX5_restOf, Cond.code yX5_restOf cX5_restOf 7 (some .long), Cond.methodLink RX5 130 yX5_orders, Cond.instanceMethod yX5_orders, Cond.selects RX5 yX5_orders yX5_orders, Cond.code yX5_orders cX5_orders 8 none, Cond.constantLong RX5 133 (2), Cond.methodLink RX5 135 yX5_floor, Cond.static yX5_floor, Cond.code yX5_floor cX5_floor 6 (some .long), Cond.methodLink RX5 139 yX5_headOf, Cond.instanceMethod yX5_headOf, Cond.selects RX5 yX5_headOf yX5_headOf, Cond.code yX5_headOf cX5_headOf 3 (some .int), Cond.methodLink RX5 172 yX5_toldMany, Cond.instanceMethod yX5_toldMany, Cond.selects RX5 yX5_toldMany yX5_toldMany, Cond.code yX5_toldMany cX5_toldMany 3 (some .int), Cond.methodLink RX5 169 yX5_isSure, Cond.instanceMethod yX5_isSure, Cond.selects RX5 yX5_isSure yX5_isSure, Cond.code yX5_isSure cX5_isSure 4 (some .boolean), Cond.methodLink RX5 175 yX5_spareMany]
def wsX5_told_r4 : List Cond := [Cond.instanceMethod yX5_spareMany, Cond.selects RX5 yX5_spareMany yX5_spareMany, Cond.code yX5_spareMany cX5_spareMany 3 (some .int), Cond.methodLink RX5 162 yX5_isSpare, Cond.instanceMethod yX5_isSpare, Cond.selects RX5 yX5_isSpare yX5_isSpare, Cond.code yX5_isSpare cX5_isSpare 2 (some .boolean), Cond.methodLink RX5 159 yX5_isTrue, Cond.instanceMethod yX5_isTrue, Cond.selects RX5 yX5_isTrue yX5_isTrue, Cond.code yX5_isTrue cX5_isTrue 5 (some .boolean), Cond.methodLink RX5 178 yX5_fewestOf, Cond.instanceMethod yX5_fewestOf, Cond.selects RX5 yX5_fewestOf yX5_fewestOf, Cond.code yX5_fewestOf cX5_fewestOf 5 (some .int), Cond.methodLink RX5 166 yX5_bits, Cond.static yX5_bits, Cond.code yX5_bits cX5_bits 3 (some .int)]
def wsX5_told : List Cond := .code yX5_told cX5_told 2 (some .int) :: ((wsX5_told_r1 ++ (wsX5_told_r2 ++ (wsX5_told_r3 ++ wsX5_told_r4))) ++ wsX50)
def wsX5_notes : List Cond := .code yX5_notes cX5_notes 1 none :: ([.fieldLink RX5 181 "UnitVectorsModel" "deedsMany" "I", .fieldLink RX5 20 "UnitVectorsModel" "deeds" "[I", .fieldLink RX5 17 "UnitVectorsModel" "st" "[I", .methodLink RX5 90 yX5_bring, .static yX5_bring, .initialized RX5, .code yX5_bring cX5_bring 6 none] ++ wsX50)
def wsX5_mayBe_r1 : List Cond := [Cond.fieldLink RX5 43 "UnitVectorsModel" "powers" "[I", Cond.methodLink RX5 153 yX5_allOf, Cond.instanceMethod yX5_allOf, Cond.selects RX5 yX5_allOf yX5_allOf, Cond.initialized RX5, Cond.code yX5_allOf cX5_allOf 1 (some .int), Cond.fieldLink RX5 17 "UnitVectorsModel" "st" "[I", Cond.methodLink RX5 156 yX5_solves, Cond.instanceMethod yX5_solves, Cond.selects RX5 yX5_solves yX5_solves, Cond.code yX5_solves cX5_solves 3 none, Cond.methodLink RX5 143 yX5_startsFree, Cond.instanceMethod yX5_startsFree, Cond.selects RX5 yX5_startsFree yX5_startsFree, Cond.code yX5_startsFree cX5_startsFree 2 none, Cond.fieldLink RX5 104 "UnitVectorsModel" "free" "I", Cond.fieldLink RX5 46 "UnitVectorsModel" "rows" "[J", Cond.fieldLink RX5 49 "UnitVectorsModel" "choice" "[J", Cond.methodLink RX5 146 yX5_has, Cond.static yX5_has, Cond.code yX5_has cX5_has 2 (some .boolean), Cond.methodLink RX5 149 yX5_adds, Cond.instanceMethod yX5_adds, Cond.selects RX5 yX5_adds yX5_adds]
def wsX5_mayBe_r2 : List Cond := [Cond.code yX5_adds cX5_adds 9 (some .boolean), Cond.fieldLink RX5 52 "UnitVectorsModel" "over" "[J", Cond.methodLink RX5 119 yX5_sumOf, Cond.instanceMethod yX5_sumOf, Cond.selects RX5 yX5_sumOf yX5_sumOf, Cond.code yX5_sumOf cX5_sumOf 7 (some .long), Cond.methodLink RX5 123 yX5_gathers, Cond.instanceMethod yX5_gathers, Cond.selects RX5 yX5_gathers yX5_gathers, Cond.code yX5_gathers cX5_gathers 6 (some .boolean), Cond.methodLink RX5 107 yX5_sizeOf, Cond.static yX5_sizeOf, Cond.code yX5_sizeOf cX5_sizeOf 2 (some .long), Cond.methodLink RX5 111 yX5_swaps, Cond.instanceMethod yX5_swaps, Cond.selects RX5 yX5_swaps yX5_swaps, Cond.code yX5_swaps cX5_swaps 6 none, Cond.methodLink RX5 115 yX5_takes, Cond.instanceMethod yX5_takes, Cond.selects RX5 yX5_takes yX5_takes, Cond.code yX5_takes cX5_takes 6 none, Cond.methodLink RX5 127 yX5_restOf, Cond.instanceMethod yX5_restOf, Cond.selects RX5 yX5_restOf yX5_restOf]
def wsX5_mayBe_r3 : List Cond := [Cond.code yX5_restOf cX5_restOf 7 (some .long), Cond.methodLink RX5 130 yX5_orders, Cond.instanceMethod yX5_orders, Cond.selects RX5 yX5_orders yX5_orders, Cond.code yX5_orders cX5_orders 8 none, Cond.constantLong RX5 133 (2), Cond.methodLink RX5 135 yX5_floor, Cond.static yX5_floor, Cond.code yX5_floor cX5_floor 6 (some .long), Cond.methodLink RX5 139 yX5_headOf, Cond.instanceMethod yX5_headOf, Cond.selects RX5 yX5_headOf yX5_headOf, Cond.code yX5_headOf cX5_headOf 3 (some .int)]
def wsX5_mayBe : List Cond := .code yX5_mayBe cX5_mayBe 1 (some .boolean) :: ((wsX5_mayBe_r1 ++ (wsX5_mayBe_r2 ++ wsX5_mayBe_r3)) ++ wsX50)
def wsX5_says : List Cond := .code yX5_says cX5_says 1 none :: ([.fieldLink RX5 43 "UnitVectorsModel" "powers" "[I", .fieldLink RX5 17 "UnitVectorsModel" "st" "[I", .methodLink RX5 90 yX5_bring, .static yX5_bring, .initialized RX5, .code yX5_bring cX5_bring 6 none] ++ wsX50)
def wsX5_say_r1 : List Cond := [Cond.fieldLink RX5 17 "UnitVectorsModel" "st" "[I", Cond.constant RX5 63 (-1000000004), Cond.constant RX5 191 (-1000000003), Cond.methodLink RX5 184 yX5_reads, Cond.instanceMethod yX5_reads, Cond.selects RX5 yX5_reads yX5_reads, Cond.initialized RX5, Cond.code yX5_reads cX5_reads 4 (some .int), Cond.fieldLink RX5 64 "UnitVectorsModel" "place" "I", Cond.fieldLink RX5 67 "UnitVectorsModel" "wrong" "I", Cond.fieldLink RX5 34 "UnitVectorsModel" "sums" "[I", Cond.fieldLink RX5 43 "UnitVectorsModel" "powers" "[I", Cond.fieldLink RX5 60 "UnitVectorsModel" "length" "I", Cond.fieldLink RX5 13 "UnitVectorsModel" "faultAt" "I", Cond.methodLink RX5 101 yX5_readsSide, Cond.instanceMethod yX5_readsSide, Cond.selects RX5 yX5_readsSide yX5_readsSide, Cond.code yX5_readsSide cX5_readsSide 2 (some .int), Cond.fieldLink RX5 37 "UnitVectorsModel" "ways" "[I", Cond.fieldLink RX5 70 "UnitVectorsModel" "depth" "I", Cond.methodLink RX5 81 yX5_opens, Cond.instanceMethod yX5_opens, Cond.selects RX5 yX5_opens yX5_opens, Cond.code yX5_opens cX5_opens 3 none]
def wsX5_say_r2 : List Cond := [Cond.methodLink RX5 94 yX5_readsLetter, Cond.instanceMethod yX5_readsLetter, Cond.selects RX5 yX5_readsLetter yX5_readsLetter, Cond.code yX5_readsLetter cX5_readsLetter 3 (some .boolean), Cond.fieldLink RX5 40 "UnitVectorsModel" "factor" "[I", Cond.methodLink RX5 73 yX5_here, Cond.instanceMethod yX5_here, Cond.selects RX5 yX5_here yX5_here, Cond.code yX5_here cX5_here 1 (some .int), Cond.fieldLink RX5 7 "UnitVectorsModel" "text" "[I", Cond.methodLink RX5 55 yX5_in, Cond.static yX5_in, Cond.code yX5_in cX5_in 3 (some .boolean), Cond.methodLink RX5 77 yX5_fails, Cond.instanceMethod yX5_fails, Cond.selects RX5 yX5_fails yX5_fails, Cond.code yX5_fails cX5_fails 2 none, Cond.methodLink RX5 98 yX5_closes, Cond.instanceMethod yX5_closes, Cond.selects RX5 yX5_closes yX5_closes, Cond.code yX5_closes cX5_closes 1 none, Cond.methodLink RX5 84 yX5_readsPower, Cond.instanceMethod yX5_readsPower, Cond.selects RX5 yX5_readsPower yX5_readsPower]
def wsX5_say_r3 : List Cond := [Cond.code yX5_readsPower cX5_readsPower 4 none, Cond.methodLink RX5 87 yX5_counts, Cond.instanceMethod yX5_counts, Cond.selects RX5 yX5_counts yX5_counts, Cond.code yX5_counts cX5_counts 2 none, Cond.methodLink RX5 90 yX5_bring, Cond.static yX5_bring, Cond.code yX5_bring cX5_bring 6 none, Cond.methodLink RX5 188 yX5_mayBe, Cond.instanceMethod yX5_mayBe, Cond.selects RX5 yX5_mayBe yX5_mayBe, Cond.code yX5_mayBe cX5_mayBe 1 (some .boolean), Cond.methodLink RX5 153 yX5_allOf, Cond.instanceMethod yX5_allOf, Cond.selects RX5 yX5_allOf yX5_allOf, Cond.code yX5_allOf cX5_allOf 1 (some .int), Cond.methodLink RX5 156 yX5_solves, Cond.instanceMethod yX5_solves, Cond.selects RX5 yX5_solves yX5_solves, Cond.code yX5_solves cX5_solves 3 none, Cond.methodLink RX5 143 yX5_startsFree, Cond.instanceMethod yX5_startsFree, Cond.selects RX5 yX5_startsFree yX5_startsFree, Cond.code yX5_startsFree cX5_startsFree 2 none]
def wsX5_say_r4 : List Cond := [Cond.fieldLink RX5 104 "UnitVectorsModel" "free" "I", Cond.fieldLink RX5 46 "UnitVectorsModel" "rows" "[J", Cond.fieldLink RX5 49 "UnitVectorsModel" "choice" "[J", Cond.methodLink RX5 146 yX5_has, Cond.static yX5_has, Cond.code yX5_has cX5_has 2 (some .boolean), Cond.methodLink RX5 149 yX5_adds, Cond.instanceMethod yX5_adds, Cond.selects RX5 yX5_adds yX5_adds, Cond.code yX5_adds cX5_adds 9 (some .boolean), Cond.fieldLink RX5 52 "UnitVectorsModel" "over" "[J", Cond.methodLink RX5 119 yX5_sumOf, Cond.instanceMethod yX5_sumOf, Cond.selects RX5 yX5_sumOf yX5_sumOf, Cond.code yX5_sumOf cX5_sumOf 7 (some .long), Cond.methodLink RX5 123 yX5_gathers, Cond.instanceMethod yX5_gathers, Cond.selects RX5 yX5_gathers yX5_gathers, Cond.code yX5_gathers cX5_gathers 6 (some .boolean), Cond.methodLink RX5 107 yX5_sizeOf, Cond.static yX5_sizeOf, Cond.code yX5_sizeOf cX5_sizeOf 2 (some .long), Cond.methodLink RX5 111 yX5_swaps, Cond.instanceMethod yX5_swaps]
def wsX5_say_r5 : List Cond := [Cond.selects RX5 yX5_swaps yX5_swaps, Cond.code yX5_swaps cX5_swaps 6 none, Cond.methodLink RX5 115 yX5_takes, Cond.instanceMethod yX5_takes, Cond.selects RX5 yX5_takes yX5_takes, Cond.code yX5_takes cX5_takes 6 none, Cond.methodLink RX5 127 yX5_restOf, Cond.instanceMethod yX5_restOf, Cond.selects RX5 yX5_restOf yX5_restOf, Cond.code yX5_restOf cX5_restOf 7 (some .long), Cond.methodLink RX5 130 yX5_orders, Cond.instanceMethod yX5_orders, Cond.selects RX5 yX5_orders yX5_orders, Cond.code yX5_orders cX5_orders 8 none, Cond.constantLong RX5 133 (2), Cond.methodLink RX5 135 yX5_floor, Cond.static yX5_floor, Cond.code yX5_floor cX5_floor 6 (some .long), Cond.methodLink RX5 139 yX5_headOf, Cond.instanceMethod yX5_headOf, Cond.selects RX5 yX5_headOf yX5_headOf, Cond.code yX5_headOf cX5_headOf 3 (some .int), Cond.methodLink RX5 192 yX5_notes, Cond.instanceMethod yX5_notes]
def wsX5_say_r6 : List Cond := [Cond.selects RX5 yX5_notes yX5_notes, Cond.code yX5_notes cX5_notes 1 none, Cond.fieldLink RX5 181 "UnitVectorsModel" "deedsMany" "I", Cond.fieldLink RX5 20 "UnitVectorsModel" "deeds" "[I", Cond.methodLink RX5 195 yX5_says, Cond.instanceMethod yX5_says, Cond.selects RX5 yX5_says yX5_says, Cond.code yX5_says cX5_says 1 none]
def wsX5_say : List Cond := .code yX5_say cX5_say 2 (some .int) :: ((wsX5_say_r1 ++ (wsX5_say_r2 ++ (wsX5_say_r3 ++ (wsX5_say_r4 ++ (wsX5_say_r5 ++ wsX5_say_r6))))) ++ wsX50)
def wsX5_back : List Cond := .code yX5_back cX5_back 2 (some .int) :: ([.fieldLink RX5 17 "UnitVectorsModel" "st" "[I", .constant RX5 198 (-1000000001), .methodLink RX5 55 yX5_in, .static yX5_in, .initialized RX5, .code yX5_in cX5_in 3 (some .boolean), .methodLink RX5 192 yX5_notes, .instanceMethod yX5_notes, .selects RX5 yX5_notes yX5_notes, .code yX5_notes cX5_notes 1 none, .fieldLink RX5 181 "UnitVectorsModel" "deedsMany" "I", .fieldLink RX5 20 "UnitVectorsModel" "deeds" "[I", .methodLink RX5 90 yX5_bring, .static yX5_bring, .code yX5_bring cX5_bring 6 none] ++ wsX50)
def wsX5_isBase : List Cond := .code yX5_isBase cX5_isBase 1 (some .boolean) :: ([.methodLink RX5 55 yX5_in, .static yX5_in, .initialized RX5, .code yX5_in cX5_in 3 (some .boolean)])
def wsX5_scale : List Cond := .code yX5_scale cX5_scale 6 (some .int) :: ([.constant RX5 198 (-1000000001), .constant RX5 59 (-1000000002), .fieldLink RX5 17 "UnitVectorsModel" "st" "[I", .methodLink RX5 199 yX5_isBase, .static yX5_isBase, .initialized RX5, .code yX5_isBase cX5_isBase 1 (some .boolean), .methodLink RX5 55 yX5_in, .static yX5_in, .code yX5_in cX5_in 3 (some .boolean), .methodLink RX5 192 yX5_notes, .instanceMethod yX5_notes, .selects RX5 yX5_notes yX5_notes, .code yX5_notes cX5_notes 1 none, .fieldLink RX5 181 "UnitVectorsModel" "deedsMany" "I", .fieldLink RX5 20 "UnitVectorsModel" "deeds" "[I", .methodLink RX5 90 yX5_bring, .static yX5_bring, .code yX5_bring cX5_bring 6 none] ++ wsX50)
def wsX5_draw : List Cond := .code yX5_draw cX5_draw 2 (some .int) :: ([.fieldLink RX5 202 "UnitVectorsModel" "seed" "J", .constantLong RX5 206 (1103515245), .constantLong RX5 208 (12345), .constantLong RX5 210 (2147483648), .constantLong RX5 212 (65536)] ++ wsX50)
def wsX5_drawn_r1 : List Cond := [Cond.fieldLink RX5 43 "UnitVectorsModel" "powers" "[I", Cond.fieldLink RX5 17 "UnitVectorsModel" "st" "[I", Cond.methodLink RX5 214 yX5_draw, Cond.instanceMethod yX5_draw, Cond.selects RX5 yX5_draw yX5_draw, Cond.initialized RX5, Cond.code yX5_draw cX5_draw 2 (some .int), Cond.fieldLink RX5 202 "UnitVectorsModel" "seed" "J", Cond.constantLong RX5 206 (1103515245), Cond.constantLong RX5 208 (12345), Cond.constantLong RX5 210 (2147483648), Cond.constantLong RX5 212 (65536), Cond.methodLink RX5 188 yX5_mayBe, Cond.instanceMethod yX5_mayBe, Cond.selects RX5 yX5_mayBe yX5_mayBe, Cond.code yX5_mayBe cX5_mayBe 1 (some .boolean), Cond.methodLink RX5 153 yX5_allOf, Cond.instanceMethod yX5_allOf, Cond.selects RX5 yX5_allOf yX5_allOf, Cond.code yX5_allOf cX5_allOf 1 (some .int), Cond.methodLink RX5 156 yX5_solves, Cond.instanceMethod yX5_solves, Cond.selects RX5 yX5_solves yX5_solves, Cond.code yX5_solves cX5_solves 3 none]
def wsX5_drawn_r2 : List Cond := [Cond.methodLink RX5 143 yX5_startsFree, Cond.instanceMethod yX5_startsFree, Cond.selects RX5 yX5_startsFree yX5_startsFree, Cond.code yX5_startsFree cX5_startsFree 2 none, Cond.fieldLink RX5 104 "UnitVectorsModel" "free" "I", Cond.fieldLink RX5 46 "UnitVectorsModel" "rows" "[J", Cond.fieldLink RX5 49 "UnitVectorsModel" "choice" "[J", Cond.methodLink RX5 146 yX5_has, Cond.static yX5_has, Cond.code yX5_has cX5_has 2 (some .boolean), Cond.methodLink RX5 149 yX5_adds, Cond.instanceMethod yX5_adds, Cond.selects RX5 yX5_adds yX5_adds, Cond.code yX5_adds cX5_adds 9 (some .boolean), Cond.fieldLink RX5 52 "UnitVectorsModel" "over" "[J", Cond.methodLink RX5 119 yX5_sumOf, Cond.instanceMethod yX5_sumOf, Cond.selects RX5 yX5_sumOf yX5_sumOf, Cond.code yX5_sumOf cX5_sumOf 7 (some .long), Cond.methodLink RX5 123 yX5_gathers, Cond.instanceMethod yX5_gathers, Cond.selects RX5 yX5_gathers yX5_gathers, Cond.code yX5_gathers cX5_gathers 6 (some .boolean), Cond.methodLink RX5 107 yX5_sizeOf]
def wsX5_drawn_r3 : List Cond := [Cond.static yX5_sizeOf, Cond.code yX5_sizeOf cX5_sizeOf 2 (some .long), Cond.methodLink RX5 111 yX5_swaps, Cond.instanceMethod yX5_swaps, Cond.selects RX5 yX5_swaps yX5_swaps, Cond.code yX5_swaps cX5_swaps 6 none, Cond.methodLink RX5 115 yX5_takes, Cond.instanceMethod yX5_takes, Cond.selects RX5 yX5_takes yX5_takes, Cond.code yX5_takes cX5_takes 6 none, Cond.methodLink RX5 127 yX5_restOf, Cond.instanceMethod yX5_restOf, Cond.selects RX5 yX5_restOf yX5_restOf, Cond.code yX5_restOf cX5_restOf 7 (some .long), Cond.methodLink RX5 130 yX5_orders, Cond.instanceMethod yX5_orders, Cond.selects RX5 yX5_orders yX5_orders, Cond.code yX5_orders cX5_orders 8 none, Cond.constantLong RX5 133 (2), Cond.methodLink RX5 135 yX5_floor, Cond.static yX5_floor, Cond.code yX5_floor cX5_floor 6 (some .long), Cond.methodLink RX5 139 yX5_headOf, Cond.instanceMethod yX5_headOf]
def wsX5_drawn_r4 : List Cond := [Cond.selects RX5 yX5_headOf yX5_headOf, Cond.code yX5_headOf cX5_headOf 3 (some .int), Cond.methodLink RX5 192 yX5_notes, Cond.instanceMethod yX5_notes, Cond.selects RX5 yX5_notes yX5_notes, Cond.code yX5_notes cX5_notes 1 none, Cond.fieldLink RX5 181 "UnitVectorsModel" "deedsMany" "I", Cond.fieldLink RX5 20 "UnitVectorsModel" "deeds" "[I", Cond.methodLink RX5 90 yX5_bring, Cond.static yX5_bring, Cond.code yX5_bring cX5_bring 6 none, Cond.methodLink RX5 195 yX5_says, Cond.instanceMethod yX5_says, Cond.selects RX5 yX5_says yX5_says, Cond.code yX5_says cX5_says 1 none]
def wsX5_drawn : List Cond := .code yX5_drawn cX5_drawn 5 none :: ((wsX5_drawn_r1 ++ (wsX5_drawn_r2 ++ (wsX5_drawn_r3 ++ wsX5_drawn_r4))) ++ wsX50)
def wsX5_drift_r1 : List Cond := [Cond.constant RX5 59 (-1000000002), Cond.fieldLink RX5 17 "UnitVectorsModel" "st" "[I", Cond.methodLink RX5 55 yX5_in, Cond.static yX5_in, Cond.initialized RX5, Cond.code yX5_in cX5_in 3 (some .boolean), Cond.methodLink RX5 217 yX5_drawn, Cond.instanceMethod yX5_drawn, Cond.selects RX5 yX5_drawn yX5_drawn, Cond.code yX5_drawn cX5_drawn 5 none, Cond.fieldLink RX5 43 "UnitVectorsModel" "powers" "[I", Cond.methodLink RX5 214 yX5_draw, Cond.instanceMethod yX5_draw, Cond.selects RX5 yX5_draw yX5_draw, Cond.code yX5_draw cX5_draw 2 (some .int), Cond.fieldLink RX5 202 "UnitVectorsModel" "seed" "J", Cond.constantLong RX5 206 (1103515245), Cond.constantLong RX5 208 (12345), Cond.constantLong RX5 210 (2147483648), Cond.constantLong RX5 212 (65536), Cond.methodLink RX5 188 yX5_mayBe, Cond.instanceMethod yX5_mayBe, Cond.selects RX5 yX5_mayBe yX5_mayBe, Cond.code yX5_mayBe cX5_mayBe 1 (some .boolean)]
def wsX5_drift_r2 : List Cond := [Cond.methodLink RX5 153 yX5_allOf, Cond.instanceMethod yX5_allOf, Cond.selects RX5 yX5_allOf yX5_allOf, Cond.code yX5_allOf cX5_allOf 1 (some .int), Cond.methodLink RX5 156 yX5_solves, Cond.instanceMethod yX5_solves, Cond.selects RX5 yX5_solves yX5_solves, Cond.code yX5_solves cX5_solves 3 none, Cond.methodLink RX5 143 yX5_startsFree, Cond.instanceMethod yX5_startsFree, Cond.selects RX5 yX5_startsFree yX5_startsFree, Cond.code yX5_startsFree cX5_startsFree 2 none, Cond.fieldLink RX5 104 "UnitVectorsModel" "free" "I", Cond.fieldLink RX5 46 "UnitVectorsModel" "rows" "[J", Cond.fieldLink RX5 49 "UnitVectorsModel" "choice" "[J", Cond.methodLink RX5 146 yX5_has, Cond.static yX5_has, Cond.code yX5_has cX5_has 2 (some .boolean), Cond.methodLink RX5 149 yX5_adds, Cond.instanceMethod yX5_adds, Cond.selects RX5 yX5_adds yX5_adds, Cond.code yX5_adds cX5_adds 9 (some .boolean), Cond.fieldLink RX5 52 "UnitVectorsModel" "over" "[J", Cond.methodLink RX5 119 yX5_sumOf]
def wsX5_drift_r3 : List Cond := [Cond.instanceMethod yX5_sumOf, Cond.selects RX5 yX5_sumOf yX5_sumOf, Cond.code yX5_sumOf cX5_sumOf 7 (some .long), Cond.methodLink RX5 123 yX5_gathers, Cond.instanceMethod yX5_gathers, Cond.selects RX5 yX5_gathers yX5_gathers, Cond.code yX5_gathers cX5_gathers 6 (some .boolean), Cond.methodLink RX5 107 yX5_sizeOf, Cond.static yX5_sizeOf, Cond.code yX5_sizeOf cX5_sizeOf 2 (some .long), Cond.methodLink RX5 111 yX5_swaps, Cond.instanceMethod yX5_swaps, Cond.selects RX5 yX5_swaps yX5_swaps, Cond.code yX5_swaps cX5_swaps 6 none, Cond.methodLink RX5 115 yX5_takes, Cond.instanceMethod yX5_takes, Cond.selects RX5 yX5_takes yX5_takes, Cond.code yX5_takes cX5_takes 6 none, Cond.methodLink RX5 127 yX5_restOf, Cond.instanceMethod yX5_restOf, Cond.selects RX5 yX5_restOf yX5_restOf, Cond.code yX5_restOf cX5_restOf 7 (some .long), Cond.methodLink RX5 130 yX5_orders, Cond.instanceMethod yX5_orders]
def wsX5_drift_r4 : List Cond := [Cond.selects RX5 yX5_orders yX5_orders, Cond.code yX5_orders cX5_orders 8 none, Cond.constantLong RX5 133 (2), Cond.methodLink RX5 135 yX5_floor, Cond.static yX5_floor, Cond.code yX5_floor cX5_floor 6 (some .long), Cond.methodLink RX5 139 yX5_headOf, Cond.instanceMethod yX5_headOf, Cond.selects RX5 yX5_headOf yX5_headOf, Cond.code yX5_headOf cX5_headOf 3 (some .int), Cond.methodLink RX5 192 yX5_notes, Cond.instanceMethod yX5_notes, Cond.selects RX5 yX5_notes yX5_notes, Cond.code yX5_notes cX5_notes 1 none, Cond.fieldLink RX5 181 "UnitVectorsModel" "deedsMany" "I", Cond.fieldLink RX5 20 "UnitVectorsModel" "deeds" "[I", Cond.methodLink RX5 90 yX5_bring, Cond.static yX5_bring, Cond.code yX5_bring cX5_bring 6 none, Cond.methodLink RX5 195 yX5_says, Cond.instanceMethod yX5_says, Cond.selects RX5 yX5_says yX5_says, Cond.code yX5_says cX5_says 1 none]
def wsX5_drift : List Cond := .code yX5_drift cX5_drift 3 (some .int) :: ((wsX5_drift_r1 ++ (wsX5_drift_r2 ++ (wsX5_drift_r3 ++ wsX5_drift_r4))) ++ wsX50)
def wsX5_undo : List Cond := .code yX5_undo cX5_undo 2 (some .int) :: ([.constant RX5 59 (-1000000002), .fieldLink RX5 181 "UnitVectorsModel" "deedsMany" "I", .constant RX5 191 (-1000000003), .fieldLink RX5 20 "UnitVectorsModel" "deeds" "[I", .fieldLink RX5 17 "UnitVectorsModel" "st" "[I", .methodLink RX5 55 yX5_in, .static yX5_in, .initialized RX5, .code yX5_in cX5_in 3 (some .boolean), .methodLink RX5 90 yX5_bring, .static yX5_bring, .code yX5_bring cX5_bring 6 none] ++ wsX50)
def wsX5_saying_r1 : List Cond := [Cond.fieldLink RX5 17 "UnitVectorsModel" "st" "[I", Cond.constant RX5 198 (-1000000001), Cond.constant RX5 59 (-1000000002), Cond.methodLink RX5 55 yX5_in, Cond.static yX5_in, Cond.initialized RX5, Cond.code yX5_in cX5_in 3 (some .boolean), Cond.methodLink RX5 162 yX5_isSpare, Cond.instanceMethod yX5_isSpare, Cond.selects RX5 yX5_isSpare yX5_isSpare, Cond.code yX5_isSpare cX5_isSpare 2 (some .boolean), Cond.methodLink RX5 153 yX5_allOf, Cond.instanceMethod yX5_allOf, Cond.selects RX5 yX5_allOf yX5_allOf, Cond.code yX5_allOf cX5_allOf 1 (some .int), Cond.methodLink RX5 156 yX5_solves, Cond.instanceMethod yX5_solves, Cond.selects RX5 yX5_solves yX5_solves, Cond.code yX5_solves cX5_solves 3 none, Cond.methodLink RX5 143 yX5_startsFree, Cond.instanceMethod yX5_startsFree, Cond.selects RX5 yX5_startsFree yX5_startsFree, Cond.code yX5_startsFree cX5_startsFree 2 none, Cond.fieldLink RX5 104 "UnitVectorsModel" "free" "I"]
def wsX5_saying_r2 : List Cond := [Cond.fieldLink RX5 46 "UnitVectorsModel" "rows" "[J", Cond.fieldLink RX5 49 "UnitVectorsModel" "choice" "[J", Cond.methodLink RX5 146 yX5_has, Cond.static yX5_has, Cond.code yX5_has cX5_has 2 (some .boolean), Cond.methodLink RX5 149 yX5_adds, Cond.instanceMethod yX5_adds, Cond.selects RX5 yX5_adds yX5_adds, Cond.code yX5_adds cX5_adds 9 (some .boolean), Cond.fieldLink RX5 52 "UnitVectorsModel" "over" "[J", Cond.methodLink RX5 119 yX5_sumOf, Cond.instanceMethod yX5_sumOf, Cond.selects RX5 yX5_sumOf yX5_sumOf, Cond.code yX5_sumOf cX5_sumOf 7 (some .long), Cond.methodLink RX5 123 yX5_gathers, Cond.instanceMethod yX5_gathers, Cond.selects RX5 yX5_gathers yX5_gathers, Cond.code yX5_gathers cX5_gathers 6 (some .boolean), Cond.methodLink RX5 107 yX5_sizeOf, Cond.static yX5_sizeOf, Cond.code yX5_sizeOf cX5_sizeOf 2 (some .long), Cond.methodLink RX5 111 yX5_swaps, Cond.instanceMethod yX5_swaps, Cond.selects RX5 yX5_swaps yX5_swaps]
def wsX5_saying_r3 : List Cond := [Cond.code yX5_swaps cX5_swaps 6 none, Cond.methodLink RX5 115 yX5_takes, Cond.instanceMethod yX5_takes, Cond.selects RX5 yX5_takes yX5_takes, Cond.code yX5_takes cX5_takes 6 none, Cond.methodLink RX5 127 yX5_restOf, Cond.instanceMethod yX5_restOf, Cond.selects RX5 yX5_restOf yX5_restOf, Cond.code yX5_restOf cX5_restOf 7 (some .long), Cond.methodLink RX5 130 yX5_orders, Cond.instanceMethod yX5_orders, Cond.selects RX5 yX5_orders yX5_orders, Cond.code yX5_orders cX5_orders 8 none, Cond.constantLong RX5 133 (2), Cond.methodLink RX5 135 yX5_floor, Cond.static yX5_floor, Cond.code yX5_floor cX5_floor 6 (some .long), Cond.methodLink RX5 139 yX5_headOf, Cond.instanceMethod yX5_headOf, Cond.selects RX5 yX5_headOf yX5_headOf, Cond.code yX5_headOf cX5_headOf 3 (some .int), Cond.methodLink RX5 159 yX5_isTrue, Cond.instanceMethod yX5_isTrue, Cond.selects RX5 yX5_isTrue yX5_isTrue]
def wsX5_saying_r4 : List Cond := [Cond.code yX5_isTrue cX5_isTrue 5 (some .boolean)]
def wsX5_saying : List Cond := .code yX5_saying cX5_saying 3 (some .int) :: ((wsX5_saying_r1 ++ (wsX5_saying_r2 ++ (wsX5_saying_r3 ++ wsX5_saying_r4))) ++ wsX50)
def wsX5_free_r1 : List Cond := [Cond.fieldLink RX5 104 "UnitVectorsModel" "free" "I", Cond.constantLong RX5 220 (-1000000001), Cond.fieldLink RX5 46 "UnitVectorsModel" "rows" "[J", Cond.constantLong RX5 222 (1000000000000), Cond.constantLong RX5 224 (-1000000002), Cond.methodLink RX5 153 yX5_allOf, Cond.instanceMethod yX5_allOf, Cond.selects RX5 yX5_allOf yX5_allOf, Cond.initialized RX5, Cond.code yX5_allOf cX5_allOf 1 (some .int), Cond.fieldLink RX5 17 "UnitVectorsModel" "st" "[I", Cond.methodLink RX5 156 yX5_solves, Cond.instanceMethod yX5_solves, Cond.selects RX5 yX5_solves yX5_solves, Cond.code yX5_solves cX5_solves 3 none, Cond.methodLink RX5 143 yX5_startsFree, Cond.instanceMethod yX5_startsFree, Cond.selects RX5 yX5_startsFree yX5_startsFree, Cond.code yX5_startsFree cX5_startsFree 2 none, Cond.fieldLink RX5 49 "UnitVectorsModel" "choice" "[J", Cond.methodLink RX5 146 yX5_has, Cond.static yX5_has, Cond.code yX5_has cX5_has 2 (some .boolean), Cond.methodLink RX5 149 yX5_adds]
def wsX5_free_r2 : List Cond := [Cond.instanceMethod yX5_adds, Cond.selects RX5 yX5_adds yX5_adds, Cond.code yX5_adds cX5_adds 9 (some .boolean), Cond.fieldLink RX5 52 "UnitVectorsModel" "over" "[J", Cond.methodLink RX5 119 yX5_sumOf, Cond.instanceMethod yX5_sumOf, Cond.selects RX5 yX5_sumOf yX5_sumOf, Cond.code yX5_sumOf cX5_sumOf 7 (some .long), Cond.methodLink RX5 123 yX5_gathers, Cond.instanceMethod yX5_gathers, Cond.selects RX5 yX5_gathers yX5_gathers, Cond.code yX5_gathers cX5_gathers 6 (some .boolean), Cond.methodLink RX5 107 yX5_sizeOf, Cond.static yX5_sizeOf, Cond.code yX5_sizeOf cX5_sizeOf 2 (some .long), Cond.methodLink RX5 111 yX5_swaps, Cond.instanceMethod yX5_swaps, Cond.selects RX5 yX5_swaps yX5_swaps, Cond.code yX5_swaps cX5_swaps 6 none, Cond.methodLink RX5 115 yX5_takes, Cond.instanceMethod yX5_takes, Cond.selects RX5 yX5_takes yX5_takes, Cond.code yX5_takes cX5_takes 6 none, Cond.methodLink RX5 127 yX5_restOf]
def wsX5_free_r3 : List Cond := [Cond.instanceMethod yX5_restOf, Cond.selects RX5 yX5_restOf yX5_restOf, Cond.code yX5_restOf cX5_restOf 7 (some .long), Cond.methodLink RX5 130 yX5_orders, Cond.instanceMethod yX5_orders, Cond.selects RX5 yX5_orders yX5_orders, Cond.code yX5_orders cX5_orders 8 none, Cond.constantLong RX5 133 (2), Cond.methodLink RX5 135 yX5_floor, Cond.static yX5_floor, Cond.code yX5_floor cX5_floor 6 (some .long), Cond.methodLink RX5 139 yX5_headOf, Cond.instanceMethod yX5_headOf, Cond.selects RX5 yX5_headOf yX5_headOf, Cond.code yX5_headOf cX5_headOf 3 (some .int), Cond.methodLink RX5 55 yX5_in, Cond.static yX5_in, Cond.code yX5_in cX5_in 3 (some .boolean)]
def wsX5_free : List Cond := .code yX5_free cX5_free 3 (some .long) :: ((wsX5_free_r1 ++ (wsX5_free_r2 ++ wsX5_free_r3)) ++ wsX50)
def wsX5_isUnknown : List Cond := .code yX5_isUnknown cX5_isUnknown 1 (some .boolean) :: ([.methodLink RX5 55 yX5_in, .static yX5_in, .initialized RX5, .code yX5_in cX5_in 3 (some .boolean)])
def wsX5_least_r1 : List Cond := [Cond.constantLong RX5 220 (-1000000001), Cond.fieldLink RX5 49 "UnitVectorsModel" "choice" "[J", Cond.constantLong RX5 222 (1000000000000), Cond.methodLink RX5 226 yX5_isUnknown, Cond.static yX5_isUnknown, Cond.initialized RX5, Cond.code yX5_isUnknown cX5_isUnknown 1 (some .boolean), Cond.methodLink RX5 55 yX5_in, Cond.static yX5_in, Cond.code yX5_in cX5_in 3 (some .boolean), Cond.methodLink RX5 199 yX5_isBase, Cond.static yX5_isBase, Cond.code yX5_isBase cX5_isBase 1 (some .boolean), Cond.methodLink RX5 153 yX5_allOf, Cond.instanceMethod yX5_allOf, Cond.selects RX5 yX5_allOf yX5_allOf, Cond.code yX5_allOf cX5_allOf 1 (some .int), Cond.fieldLink RX5 17 "UnitVectorsModel" "st" "[I", Cond.methodLink RX5 156 yX5_solves, Cond.instanceMethod yX5_solves, Cond.selects RX5 yX5_solves yX5_solves, Cond.code yX5_solves cX5_solves 3 none, Cond.methodLink RX5 143 yX5_startsFree, Cond.instanceMethod yX5_startsFree]
def wsX5_least_r2 : List Cond := [Cond.selects RX5 yX5_startsFree yX5_startsFree, Cond.code yX5_startsFree cX5_startsFree 2 none, Cond.fieldLink RX5 104 "UnitVectorsModel" "free" "I", Cond.fieldLink RX5 46 "UnitVectorsModel" "rows" "[J", Cond.methodLink RX5 146 yX5_has, Cond.static yX5_has, Cond.code yX5_has cX5_has 2 (some .boolean), Cond.methodLink RX5 149 yX5_adds, Cond.instanceMethod yX5_adds, Cond.selects RX5 yX5_adds yX5_adds, Cond.code yX5_adds cX5_adds 9 (some .boolean), Cond.fieldLink RX5 52 "UnitVectorsModel" "over" "[J", Cond.methodLink RX5 119 yX5_sumOf, Cond.instanceMethod yX5_sumOf, Cond.selects RX5 yX5_sumOf yX5_sumOf, Cond.code yX5_sumOf cX5_sumOf 7 (some .long), Cond.methodLink RX5 123 yX5_gathers, Cond.instanceMethod yX5_gathers, Cond.selects RX5 yX5_gathers yX5_gathers, Cond.code yX5_gathers cX5_gathers 6 (some .boolean), Cond.methodLink RX5 107 yX5_sizeOf, Cond.static yX5_sizeOf, Cond.code yX5_sizeOf cX5_sizeOf 2 (some .long), Cond.methodLink RX5 111 yX5_swaps]
def wsX5_least_r3 : List Cond := [Cond.instanceMethod yX5_swaps, Cond.selects RX5 yX5_swaps yX5_swaps, Cond.code yX5_swaps cX5_swaps 6 none, Cond.methodLink RX5 115 yX5_takes, Cond.instanceMethod yX5_takes, Cond.selects RX5 yX5_takes yX5_takes, Cond.code yX5_takes cX5_takes 6 none, Cond.methodLink RX5 127 yX5_restOf, Cond.instanceMethod yX5_restOf, Cond.selects RX5 yX5_restOf yX5_restOf, Cond.code yX5_restOf cX5_restOf 7 (some .long), Cond.methodLink RX5 130 yX5_orders, Cond.instanceMethod yX5_orders, Cond.selects RX5 yX5_orders yX5_orders, Cond.code yX5_orders cX5_orders 8 none, Cond.constantLong RX5 133 (2), Cond.methodLink RX5 135 yX5_floor, Cond.static yX5_floor, Cond.code yX5_floor cX5_floor 6 (some .long), Cond.methodLink RX5 139 yX5_headOf, Cond.instanceMethod yX5_headOf, Cond.selects RX5 yX5_headOf yX5_headOf, Cond.code yX5_headOf cX5_headOf 3 (some .int)]
def wsX5_least : List Cond := .code yX5_least cX5_least 3 (some .long) :: ((wsX5_least_r1 ++ (wsX5_least_r2 ++ wsX5_least_r3)) ++ wsX50)
def wsX5_isTold_r1 : List Cond := [Cond.constant RX5 198 (-1000000001), Cond.methodLink RX5 226 yX5_isUnknown, Cond.static yX5_isUnknown, Cond.initialized RX5, Cond.code yX5_isUnknown cX5_isUnknown 1 (some .boolean), Cond.methodLink RX5 55 yX5_in, Cond.static yX5_in, Cond.code yX5_in cX5_in 3 (some .boolean), Cond.methodLink RX5 153 yX5_allOf, Cond.instanceMethod yX5_allOf, Cond.selects RX5 yX5_allOf yX5_allOf, Cond.code yX5_allOf cX5_allOf 1 (some .int), Cond.fieldLink RX5 17 "UnitVectorsModel" "st" "[I", Cond.methodLink RX5 156 yX5_solves, Cond.instanceMethod yX5_solves, Cond.selects RX5 yX5_solves yX5_solves, Cond.code yX5_solves cX5_solves 3 none, Cond.methodLink RX5 143 yX5_startsFree, Cond.instanceMethod yX5_startsFree, Cond.selects RX5 yX5_startsFree yX5_startsFree, Cond.code yX5_startsFree cX5_startsFree 2 none, Cond.fieldLink RX5 104 "UnitVectorsModel" "free" "I", Cond.fieldLink RX5 46 "UnitVectorsModel" "rows" "[J", Cond.fieldLink RX5 49 "UnitVectorsModel" "choice" "[J"]
def wsX5_isTold_r2 : List Cond := [Cond.methodLink RX5 146 yX5_has, Cond.static yX5_has, Cond.code yX5_has cX5_has 2 (some .boolean), Cond.methodLink RX5 149 yX5_adds, Cond.instanceMethod yX5_adds, Cond.selects RX5 yX5_adds yX5_adds, Cond.code yX5_adds cX5_adds 9 (some .boolean), Cond.fieldLink RX5 52 "UnitVectorsModel" "over" "[J", Cond.methodLink RX5 119 yX5_sumOf, Cond.instanceMethod yX5_sumOf, Cond.selects RX5 yX5_sumOf yX5_sumOf, Cond.code yX5_sumOf cX5_sumOf 7 (some .long), Cond.methodLink RX5 123 yX5_gathers, Cond.instanceMethod yX5_gathers, Cond.selects RX5 yX5_gathers yX5_gathers, Cond.code yX5_gathers cX5_gathers 6 (some .boolean), Cond.methodLink RX5 107 yX5_sizeOf, Cond.static yX5_sizeOf, Cond.code yX5_sizeOf cX5_sizeOf 2 (some .long), Cond.methodLink RX5 111 yX5_swaps, Cond.instanceMethod yX5_swaps, Cond.selects RX5 yX5_swaps yX5_swaps, Cond.code yX5_swaps cX5_swaps 6 none, Cond.methodLink RX5 115 yX5_takes]
def wsX5_isTold_r3 : List Cond := [Cond.instanceMethod yX5_takes, Cond.selects RX5 yX5_takes yX5_takes, Cond.code yX5_takes cX5_takes 6 none, Cond.methodLink RX5 127 yX5_restOf, Cond.instanceMethod yX5_restOf, Cond.selects RX5 yX5_restOf yX5_restOf, Cond.code yX5_restOf cX5_restOf 7 (some .long), Cond.methodLink RX5 130 yX5_orders, Cond.instanceMethod yX5_orders, Cond.selects RX5 yX5_orders yX5_orders, Cond.code yX5_orders cX5_orders 8 none, Cond.constantLong RX5 133 (2), Cond.methodLink RX5 135 yX5_floor, Cond.static yX5_floor, Cond.code yX5_floor cX5_floor 6 (some .long), Cond.methodLink RX5 139 yX5_headOf, Cond.instanceMethod yX5_headOf, Cond.selects RX5 yX5_headOf yX5_headOf, Cond.code yX5_headOf cX5_headOf 3 (some .int), Cond.methodLink RX5 169 yX5_isSure, Cond.instanceMethod yX5_isSure, Cond.selects RX5 yX5_isSure yX5_isSure, Cond.code yX5_isSure cX5_isSure 4 (some .boolean)]
def wsX5_isTold : List Cond := .code yX5_isTold cX5_isTold 2 (some .int) :: ((wsX5_isTold_r1 ++ (wsX5_isTold_r2 ++ wsX5_isTold_r3)) ++ wsX50)
def wsX5_follows_r1 : List Cond := [Cond.fieldLink RX5 43 "UnitVectorsModel" "powers" "[I", Cond.methodLink RX5 184 yX5_reads, Cond.instanceMethod yX5_reads, Cond.selects RX5 yX5_reads yX5_reads, Cond.initialized RX5, Cond.code yX5_reads cX5_reads 4 (some .int), Cond.fieldLink RX5 64 "UnitVectorsModel" "place" "I", Cond.fieldLink RX5 67 "UnitVectorsModel" "wrong" "I", Cond.fieldLink RX5 34 "UnitVectorsModel" "sums" "[I", Cond.fieldLink RX5 60 "UnitVectorsModel" "length" "I", Cond.fieldLink RX5 13 "UnitVectorsModel" "faultAt" "I", Cond.methodLink RX5 101 yX5_readsSide, Cond.instanceMethod yX5_readsSide, Cond.selects RX5 yX5_readsSide yX5_readsSide, Cond.code yX5_readsSide cX5_readsSide 2 (some .int), Cond.fieldLink RX5 37 "UnitVectorsModel" "ways" "[I", Cond.fieldLink RX5 70 "UnitVectorsModel" "depth" "I", Cond.methodLink RX5 81 yX5_opens, Cond.instanceMethod yX5_opens, Cond.selects RX5 yX5_opens yX5_opens, Cond.code yX5_opens cX5_opens 3 none, Cond.methodLink RX5 94 yX5_readsLetter, Cond.instanceMethod yX5_readsLetter, Cond.selects RX5 yX5_readsLetter yX5_readsLetter]
def wsX5_follows_r2 : List Cond := [Cond.code yX5_readsLetter cX5_readsLetter 3 (some .boolean), Cond.fieldLink RX5 40 "UnitVectorsModel" "factor" "[I", Cond.methodLink RX5 73 yX5_here, Cond.instanceMethod yX5_here, Cond.selects RX5 yX5_here yX5_here, Cond.code yX5_here cX5_here 1 (some .int), Cond.fieldLink RX5 7 "UnitVectorsModel" "text" "[I", Cond.methodLink RX5 55 yX5_in, Cond.static yX5_in, Cond.code yX5_in cX5_in 3 (some .boolean), Cond.methodLink RX5 77 yX5_fails, Cond.instanceMethod yX5_fails, Cond.selects RX5 yX5_fails yX5_fails, Cond.code yX5_fails cX5_fails 2 none, Cond.methodLink RX5 98 yX5_closes, Cond.instanceMethod yX5_closes, Cond.selects RX5 yX5_closes yX5_closes, Cond.code yX5_closes cX5_closes 1 none, Cond.methodLink RX5 84 yX5_readsPower, Cond.instanceMethod yX5_readsPower, Cond.selects RX5 yX5_readsPower yX5_readsPower, Cond.code yX5_readsPower cX5_readsPower 4 none, Cond.methodLink RX5 87 yX5_counts, Cond.instanceMethod yX5_counts]
def wsX5_follows_r3 : List Cond := [Cond.selects RX5 yX5_counts yX5_counts, Cond.code yX5_counts cX5_counts 2 none, Cond.methodLink RX5 90 yX5_bring, Cond.static yX5_bring, Cond.code yX5_bring cX5_bring 6 none, Cond.methodLink RX5 153 yX5_allOf, Cond.instanceMethod yX5_allOf, Cond.selects RX5 yX5_allOf yX5_allOf, Cond.code yX5_allOf cX5_allOf 1 (some .int), Cond.fieldLink RX5 17 "UnitVectorsModel" "st" "[I", Cond.methodLink RX5 156 yX5_solves, Cond.instanceMethod yX5_solves, Cond.selects RX5 yX5_solves yX5_solves, Cond.code yX5_solves cX5_solves 3 none, Cond.methodLink RX5 143 yX5_startsFree, Cond.instanceMethod yX5_startsFree, Cond.selects RX5 yX5_startsFree yX5_startsFree, Cond.code yX5_startsFree cX5_startsFree 2 none, Cond.fieldLink RX5 104 "UnitVectorsModel" "free" "I", Cond.fieldLink RX5 46 "UnitVectorsModel" "rows" "[J", Cond.fieldLink RX5 49 "UnitVectorsModel" "choice" "[J", Cond.methodLink RX5 146 yX5_has, Cond.static yX5_has, Cond.code yX5_has cX5_has 2 (some .boolean)]
def wsX5_follows_r4 : List Cond := [Cond.methodLink RX5 149 yX5_adds, Cond.instanceMethod yX5_adds, Cond.selects RX5 yX5_adds yX5_adds, Cond.code yX5_adds cX5_adds 9 (some .boolean), Cond.fieldLink RX5 52 "UnitVectorsModel" "over" "[J", Cond.methodLink RX5 119 yX5_sumOf, Cond.instanceMethod yX5_sumOf, Cond.selects RX5 yX5_sumOf yX5_sumOf, Cond.code yX5_sumOf cX5_sumOf 7 (some .long), Cond.methodLink RX5 123 yX5_gathers, Cond.instanceMethod yX5_gathers, Cond.selects RX5 yX5_gathers yX5_gathers, Cond.code yX5_gathers cX5_gathers 6 (some .boolean), Cond.methodLink RX5 107 yX5_sizeOf, Cond.static yX5_sizeOf, Cond.code yX5_sizeOf cX5_sizeOf 2 (some .long), Cond.methodLink RX5 111 yX5_swaps, Cond.instanceMethod yX5_swaps, Cond.selects RX5 yX5_swaps yX5_swaps, Cond.code yX5_swaps cX5_swaps 6 none, Cond.methodLink RX5 115 yX5_takes, Cond.instanceMethod yX5_takes, Cond.selects RX5 yX5_takes yX5_takes, Cond.code yX5_takes cX5_takes 6 none]
def wsX5_follows_r5 : List Cond := [Cond.methodLink RX5 127 yX5_restOf, Cond.instanceMethod yX5_restOf, Cond.selects RX5 yX5_restOf yX5_restOf, Cond.code yX5_restOf cX5_restOf 7 (some .long), Cond.methodLink RX5 130 yX5_orders, Cond.instanceMethod yX5_orders, Cond.selects RX5 yX5_orders yX5_orders, Cond.code yX5_orders cX5_orders 8 none, Cond.constantLong RX5 133 (2), Cond.methodLink RX5 135 yX5_floor, Cond.static yX5_floor, Cond.code yX5_floor cX5_floor 6 (some .long), Cond.methodLink RX5 139 yX5_headOf, Cond.instanceMethod yX5_headOf, Cond.selects RX5 yX5_headOf yX5_headOf, Cond.code yX5_headOf cX5_headOf 3 (some .int), Cond.methodLink RX5 159 yX5_isTrue, Cond.instanceMethod yX5_isTrue, Cond.selects RX5 yX5_isTrue yX5_isTrue, Cond.code yX5_isTrue cX5_isTrue 5 (some .boolean)]
def wsX5_follows : List Cond := .code yX5_follows cX5_follows 2 (some .int) :: ((wsX5_follows_r1 ++ (wsX5_follows_r2 ++ (wsX5_follows_r3 ++ (wsX5_follows_r4 ++ wsX5_follows_r5)))) ++ wsX50)
def wsX5_couldBe_r1 : List Cond := [Cond.methodLink RX5 184 yX5_reads, Cond.instanceMethod yX5_reads, Cond.selects RX5 yX5_reads yX5_reads, Cond.initialized RX5, Cond.code yX5_reads cX5_reads 4 (some .int), Cond.fieldLink RX5 64 "UnitVectorsModel" "place" "I", Cond.fieldLink RX5 67 "UnitVectorsModel" "wrong" "I", Cond.fieldLink RX5 34 "UnitVectorsModel" "sums" "[I", Cond.fieldLink RX5 43 "UnitVectorsModel" "powers" "[I", Cond.fieldLink RX5 60 "UnitVectorsModel" "length" "I", Cond.fieldLink RX5 13 "UnitVectorsModel" "faultAt" "I", Cond.methodLink RX5 101 yX5_readsSide, Cond.instanceMethod yX5_readsSide, Cond.selects RX5 yX5_readsSide yX5_readsSide, Cond.code yX5_readsSide cX5_readsSide 2 (some .int), Cond.fieldLink RX5 37 "UnitVectorsModel" "ways" "[I", Cond.fieldLink RX5 70 "UnitVectorsModel" "depth" "I", Cond.methodLink RX5 81 yX5_opens, Cond.instanceMethod yX5_opens, Cond.selects RX5 yX5_opens yX5_opens, Cond.code yX5_opens cX5_opens 3 none, Cond.methodLink RX5 94 yX5_readsLetter, Cond.instanceMethod yX5_readsLetter, Cond.selects RX5 yX5_readsLetter yX5_readsLetter]
def wsX5_couldBe_r2 : List Cond := [Cond.code yX5_readsLetter cX5_readsLetter 3 (some .boolean), Cond.fieldLink RX5 40 "UnitVectorsModel" "factor" "[I", Cond.methodLink RX5 73 yX5_here, Cond.instanceMethod yX5_here, Cond.selects RX5 yX5_here yX5_here, Cond.code yX5_here cX5_here 1 (some .int), Cond.fieldLink RX5 7 "UnitVectorsModel" "text" "[I", Cond.methodLink RX5 55 yX5_in, Cond.static yX5_in, Cond.code yX5_in cX5_in 3 (some .boolean), Cond.methodLink RX5 77 yX5_fails, Cond.instanceMethod yX5_fails, Cond.selects RX5 yX5_fails yX5_fails, Cond.code yX5_fails cX5_fails 2 none, Cond.methodLink RX5 98 yX5_closes, Cond.instanceMethod yX5_closes, Cond.selects RX5 yX5_closes yX5_closes, Cond.code yX5_closes cX5_closes 1 none, Cond.methodLink RX5 84 yX5_readsPower, Cond.instanceMethod yX5_readsPower, Cond.selects RX5 yX5_readsPower yX5_readsPower, Cond.code yX5_readsPower cX5_readsPower 4 none, Cond.methodLink RX5 87 yX5_counts, Cond.instanceMethod yX5_counts]
def wsX5_couldBe_r3 : List Cond := [Cond.selects RX5 yX5_counts yX5_counts, Cond.code yX5_counts cX5_counts 2 none, Cond.methodLink RX5 90 yX5_bring, Cond.static yX5_bring, Cond.code yX5_bring cX5_bring 6 none, Cond.methodLink RX5 188 yX5_mayBe, Cond.instanceMethod yX5_mayBe, Cond.selects RX5 yX5_mayBe yX5_mayBe, Cond.code yX5_mayBe cX5_mayBe 1 (some .boolean), Cond.methodLink RX5 153 yX5_allOf, Cond.instanceMethod yX5_allOf, Cond.selects RX5 yX5_allOf yX5_allOf, Cond.code yX5_allOf cX5_allOf 1 (some .int), Cond.fieldLink RX5 17 "UnitVectorsModel" "st" "[I", Cond.methodLink RX5 156 yX5_solves, Cond.instanceMethod yX5_solves, Cond.selects RX5 yX5_solves yX5_solves, Cond.code yX5_solves cX5_solves 3 none, Cond.methodLink RX5 143 yX5_startsFree, Cond.instanceMethod yX5_startsFree, Cond.selects RX5 yX5_startsFree yX5_startsFree, Cond.code yX5_startsFree cX5_startsFree 2 none, Cond.fieldLink RX5 104 "UnitVectorsModel" "free" "I", Cond.fieldLink RX5 46 "UnitVectorsModel" "rows" "[J"]
def wsX5_couldBe_r4 : List Cond := [Cond.fieldLink RX5 49 "UnitVectorsModel" "choice" "[J", Cond.methodLink RX5 146 yX5_has, Cond.static yX5_has, Cond.code yX5_has cX5_has 2 (some .boolean), Cond.methodLink RX5 149 yX5_adds, Cond.instanceMethod yX5_adds, Cond.selects RX5 yX5_adds yX5_adds, Cond.code yX5_adds cX5_adds 9 (some .boolean), Cond.fieldLink RX5 52 "UnitVectorsModel" "over" "[J", Cond.methodLink RX5 119 yX5_sumOf, Cond.instanceMethod yX5_sumOf, Cond.selects RX5 yX5_sumOf yX5_sumOf, Cond.code yX5_sumOf cX5_sumOf 7 (some .long), Cond.methodLink RX5 123 yX5_gathers, Cond.instanceMethod yX5_gathers, Cond.selects RX5 yX5_gathers yX5_gathers, Cond.code yX5_gathers cX5_gathers 6 (some .boolean), Cond.methodLink RX5 107 yX5_sizeOf, Cond.static yX5_sizeOf, Cond.code yX5_sizeOf cX5_sizeOf 2 (some .long), Cond.methodLink RX5 111 yX5_swaps, Cond.instanceMethod yX5_swaps, Cond.selects RX5 yX5_swaps yX5_swaps, Cond.code yX5_swaps cX5_swaps 6 none]
def wsX5_couldBe_r5 : List Cond := [Cond.methodLink RX5 115 yX5_takes, Cond.instanceMethod yX5_takes, Cond.selects RX5 yX5_takes yX5_takes, Cond.code yX5_takes cX5_takes 6 none, Cond.methodLink RX5 127 yX5_restOf, Cond.instanceMethod yX5_restOf, Cond.selects RX5 yX5_restOf yX5_restOf, Cond.code yX5_restOf cX5_restOf 7 (some .long), Cond.methodLink RX5 130 yX5_orders, Cond.instanceMethod yX5_orders, Cond.selects RX5 yX5_orders yX5_orders, Cond.code yX5_orders cX5_orders 8 none, Cond.constantLong RX5 133 (2), Cond.methodLink RX5 135 yX5_floor, Cond.static yX5_floor, Cond.code yX5_floor cX5_floor 6 (some .long), Cond.methodLink RX5 139 yX5_headOf, Cond.instanceMethod yX5_headOf, Cond.selects RX5 yX5_headOf yX5_headOf, Cond.code yX5_headOf cX5_headOf 3 (some .int)]
def wsX5_couldBe : List Cond := .code yX5_couldBe cX5_couldBe 2 (some .int) :: ((wsX5_couldBe_r1 ++ (wsX5_couldBe_r2 ++ (wsX5_couldBe_r3 ++ (wsX5_couldBe_r4 ++ wsX5_couldBe_r5)))) ++ wsX50)
def wsX5_measured_r1 : List Cond := [Cond.constantLong RX5 224 (-1000000002), Cond.fieldLink RX5 43 "UnitVectorsModel" "powers" "[I", Cond.constantLong RX5 222 (1000000000000), Cond.fieldLink RX5 104 "UnitVectorsModel" "free" "I", Cond.methodLink RX5 55 yX5_in, Cond.static yX5_in, Cond.initialized RX5, Cond.code yX5_in cX5_in 3 (some .boolean), Cond.methodLink RX5 184 yX5_reads, Cond.instanceMethod yX5_reads, Cond.selects RX5 yX5_reads yX5_reads, Cond.code yX5_reads cX5_reads 4 (some .int), Cond.fieldLink RX5 64 "UnitVectorsModel" "place" "I", Cond.fieldLink RX5 67 "UnitVectorsModel" "wrong" "I", Cond.fieldLink RX5 34 "UnitVectorsModel" "sums" "[I", Cond.fieldLink RX5 60 "UnitVectorsModel" "length" "I", Cond.fieldLink RX5 13 "UnitVectorsModel" "faultAt" "I", Cond.methodLink RX5 101 yX5_readsSide, Cond.instanceMethod yX5_readsSide, Cond.selects RX5 yX5_readsSide yX5_readsSide, Cond.code yX5_readsSide cX5_readsSide 2 (some .int), Cond.fieldLink RX5 37 "UnitVectorsModel" "ways" "[I", Cond.fieldLink RX5 70 "UnitVectorsModel" "depth" "I", Cond.methodLink RX5 81 yX5_opens]
def wsX5_measured_r2 : List Cond := [Cond.instanceMethod yX5_opens, Cond.selects RX5 yX5_opens yX5_opens, Cond.code yX5_opens cX5_opens 3 none, Cond.methodLink RX5 94 yX5_readsLetter, Cond.instanceMethod yX5_readsLetter, Cond.selects RX5 yX5_readsLetter yX5_readsLetter, Cond.code yX5_readsLetter cX5_readsLetter 3 (some .boolean), Cond.fieldLink RX5 40 "UnitVectorsModel" "factor" "[I", Cond.methodLink RX5 73 yX5_here, Cond.instanceMethod yX5_here, Cond.selects RX5 yX5_here yX5_here, Cond.code yX5_here cX5_here 1 (some .int), Cond.fieldLink RX5 7 "UnitVectorsModel" "text" "[I", Cond.methodLink RX5 77 yX5_fails, Cond.instanceMethod yX5_fails, Cond.selects RX5 yX5_fails yX5_fails, Cond.code yX5_fails cX5_fails 2 none, Cond.methodLink RX5 98 yX5_closes, Cond.instanceMethod yX5_closes, Cond.selects RX5 yX5_closes yX5_closes, Cond.code yX5_closes cX5_closes 1 none, Cond.methodLink RX5 84 yX5_readsPower, Cond.instanceMethod yX5_readsPower, Cond.selects RX5 yX5_readsPower yX5_readsPower]
def wsX5_measured_r3 : List Cond := [Cond.code yX5_readsPower cX5_readsPower 4 none, Cond.methodLink RX5 87 yX5_counts, Cond.instanceMethod yX5_counts, Cond.selects RX5 yX5_counts yX5_counts, Cond.code yX5_counts cX5_counts 2 none, Cond.methodLink RX5 90 yX5_bring, Cond.static yX5_bring, Cond.code yX5_bring cX5_bring 6 none, Cond.methodLink RX5 153 yX5_allOf, Cond.instanceMethod yX5_allOf, Cond.selects RX5 yX5_allOf yX5_allOf, Cond.code yX5_allOf cX5_allOf 1 (some .int), Cond.fieldLink RX5 17 "UnitVectorsModel" "st" "[I", Cond.methodLink RX5 156 yX5_solves, Cond.instanceMethod yX5_solves, Cond.selects RX5 yX5_solves yX5_solves, Cond.code yX5_solves cX5_solves 3 none, Cond.methodLink RX5 143 yX5_startsFree, Cond.instanceMethod yX5_startsFree, Cond.selects RX5 yX5_startsFree yX5_startsFree, Cond.code yX5_startsFree cX5_startsFree 2 none, Cond.fieldLink RX5 46 "UnitVectorsModel" "rows" "[J", Cond.fieldLink RX5 49 "UnitVectorsModel" "choice" "[J", Cond.methodLink RX5 146 yX5_has]
def wsX5_measured_r4 : List Cond := [Cond.static yX5_has, Cond.code yX5_has cX5_has 2 (some .boolean), Cond.methodLink RX5 149 yX5_adds, Cond.instanceMethod yX5_adds, Cond.selects RX5 yX5_adds yX5_adds, Cond.code yX5_adds cX5_adds 9 (some .boolean), Cond.fieldLink RX5 52 "UnitVectorsModel" "over" "[J", Cond.methodLink RX5 119 yX5_sumOf, Cond.instanceMethod yX5_sumOf, Cond.selects RX5 yX5_sumOf yX5_sumOf, Cond.code yX5_sumOf cX5_sumOf 7 (some .long), Cond.methodLink RX5 123 yX5_gathers, Cond.instanceMethod yX5_gathers, Cond.selects RX5 yX5_gathers yX5_gathers, Cond.code yX5_gathers cX5_gathers 6 (some .boolean), Cond.methodLink RX5 107 yX5_sizeOf, Cond.static yX5_sizeOf, Cond.code yX5_sizeOf cX5_sizeOf 2 (some .long), Cond.methodLink RX5 111 yX5_swaps, Cond.instanceMethod yX5_swaps, Cond.selects RX5 yX5_swaps yX5_swaps, Cond.code yX5_swaps cX5_swaps 6 none, Cond.methodLink RX5 115 yX5_takes, Cond.instanceMethod yX5_takes]
def wsX5_measured_r5 : List Cond := [Cond.selects RX5 yX5_takes yX5_takes, Cond.code yX5_takes cX5_takes 6 none, Cond.methodLink RX5 127 yX5_restOf, Cond.instanceMethod yX5_restOf, Cond.selects RX5 yX5_restOf yX5_restOf, Cond.code yX5_restOf cX5_restOf 7 (some .long), Cond.methodLink RX5 130 yX5_orders, Cond.instanceMethod yX5_orders, Cond.selects RX5 yX5_orders yX5_orders, Cond.code yX5_orders cX5_orders 8 none, Cond.constantLong RX5 133 (2), Cond.methodLink RX5 135 yX5_floor, Cond.static yX5_floor, Cond.code yX5_floor cX5_floor 6 (some .long), Cond.methodLink RX5 139 yX5_headOf, Cond.instanceMethod yX5_headOf, Cond.selects RX5 yX5_headOf yX5_headOf, Cond.code yX5_headOf cX5_headOf 3 (some .int)]
def wsX5_measured : List Cond := .code yX5_measured cX5_measured 3 (some .long) :: ((wsX5_measured_r1 ++ (wsX5_measured_r2 ++ (wsX5_measured_r3 ++ (wsX5_measured_r4 ++ wsX5_measured_r5)))) ++ wsX50)
def wsX5_madeWhole : List Cond := .code yX5_madeWhole cX5_madeWhole 10 (some .long) :: ([.constantLong RX5 133 (2)])
def wsX5_converted_r1 : List Cond := [Cond.constant RX5 229 (1000000), Cond.constantLong RX5 224 (-1000000002), Cond.fieldLink RX5 43 "UnitVectorsModel" "powers" "[I", Cond.constantLong RX5 230 (-1000000003), Cond.fieldLink RX5 17 "UnitVectorsModel" "st" "[I", Cond.methodLink RX5 55 yX5_in, Cond.static yX5_in, Cond.initialized RX5, Cond.code yX5_in cX5_in 3 (some .boolean), Cond.methodLink RX5 184 yX5_reads, Cond.instanceMethod yX5_reads, Cond.selects RX5 yX5_reads yX5_reads, Cond.code yX5_reads cX5_reads 4 (some .int), Cond.fieldLink RX5 64 "UnitVectorsModel" "place" "I", Cond.fieldLink RX5 67 "UnitVectorsModel" "wrong" "I", Cond.fieldLink RX5 34 "UnitVectorsModel" "sums" "[I", Cond.fieldLink RX5 60 "UnitVectorsModel" "length" "I", Cond.fieldLink RX5 13 "UnitVectorsModel" "faultAt" "I", Cond.methodLink RX5 101 yX5_readsSide, Cond.instanceMethod yX5_readsSide, Cond.selects RX5 yX5_readsSide yX5_readsSide, Cond.code yX5_readsSide cX5_readsSide 2 (some .int), Cond.fieldLink RX5 37 "UnitVectorsModel" "ways" "[I", Cond.fieldLink RX5 70 "UnitVectorsModel" "depth" "I"]
def wsX5_converted_r2 : List Cond := [Cond.methodLink RX5 81 yX5_opens, Cond.instanceMethod yX5_opens, Cond.selects RX5 yX5_opens yX5_opens, Cond.code yX5_opens cX5_opens 3 none, Cond.methodLink RX5 94 yX5_readsLetter, Cond.instanceMethod yX5_readsLetter, Cond.selects RX5 yX5_readsLetter yX5_readsLetter, Cond.code yX5_readsLetter cX5_readsLetter 3 (some .boolean), Cond.fieldLink RX5 40 "UnitVectorsModel" "factor" "[I", Cond.methodLink RX5 73 yX5_here, Cond.instanceMethod yX5_here, Cond.selects RX5 yX5_here yX5_here, Cond.code yX5_here cX5_here 1 (some .int), Cond.fieldLink RX5 7 "UnitVectorsModel" "text" "[I", Cond.methodLink RX5 77 yX5_fails, Cond.instanceMethod yX5_fails, Cond.selects RX5 yX5_fails yX5_fails, Cond.code yX5_fails cX5_fails 2 none, Cond.methodLink RX5 98 yX5_closes, Cond.instanceMethod yX5_closes, Cond.selects RX5 yX5_closes yX5_closes, Cond.code yX5_closes cX5_closes 1 none, Cond.methodLink RX5 84 yX5_readsPower, Cond.instanceMethod yX5_readsPower]
def wsX5_converted_r3 : List Cond := [Cond.selects RX5 yX5_readsPower yX5_readsPower, Cond.code yX5_readsPower cX5_readsPower 4 none, Cond.methodLink RX5 87 yX5_counts, Cond.instanceMethod yX5_counts, Cond.selects RX5 yX5_counts yX5_counts, Cond.code yX5_counts cX5_counts 2 none, Cond.methodLink RX5 90 yX5_bring, Cond.static yX5_bring, Cond.code yX5_bring cX5_bring 6 none, Cond.methodLink RX5 232 yX5_madeWhole, Cond.static yX5_madeWhole, Cond.code yX5_madeWhole cX5_madeWhole 10 (some .long), Cond.constantLong RX5 133 (2)]
def wsX5_converted : List Cond := .code yX5_converted cX5_converted 12 (some .long) :: ((wsX5_converted_r1 ++ (wsX5_converted_r2 ++ wsX5_converted_r3)) ++ wsX50)
def wsX5_seed : List Cond := .code yX5_seed cX5_seed 3 (some .int) :: ([.constant RX5 59 (-1000000002), .fieldLink RX5 202 "UnitVectorsModel" "seed" "J"] ++ wsX50)
def wsX5_keep : List Cond := .code yX5_keep cX5_keep 2 (some .int) :: ([.constant RX5 198 (-1000000001), .fieldLink RX5 17 "UnitVectorsModel" "st" "[I", .fieldLink RX5 23 "UnitVectorsModel" "images" "[I", .fieldLink RX5 26 "UnitVectorsModel" "seeds" "[J", .fieldLink RX5 202 "UnitVectorsModel" "seed" "J", .fieldLink RX5 30 "UnitVectorsModel" "isKept" "[Z", .fieldLink RX5 181 "UnitVectorsModel" "deedsMany" "I", .methodLink RX5 55 yX5_in, .static yX5_in, .initialized RX5, .code yX5_in cX5_in 3 (some .boolean), .methodLink RX5 90 yX5_bring, .static yX5_bring, .code yX5_bring cX5_bring 6 none] ++ wsX50)
def wsX5_goBack : List Cond := .code yX5_goBack cX5_goBack 2 (some .int) :: ([.constant RX5 198 (-1000000001), .fieldLink RX5 30 "UnitVectorsModel" "isKept" "[Z", .constant RX5 191 (-1000000003), .fieldLink RX5 23 "UnitVectorsModel" "images" "[I", .fieldLink RX5 17 "UnitVectorsModel" "st" "[I", .fieldLink RX5 26 "UnitVectorsModel" "seeds" "[J", .fieldLink RX5 202 "UnitVectorsModel" "seed" "J", .fieldLink RX5 181 "UnitVectorsModel" "deedsMany" "I", .methodLink RX5 55 yX5_in, .static yX5_in, .initialized RX5, .code yX5_in cX5_in 3 (some .boolean), .methodLink RX5 90 yX5_bring, .static yX5_bring, .code yX5_bring cX5_bring 6 none] ++ wsX50)
def wsJ9_abs_0f7a4 : List Cond := .code yJ9_abs_0f7a4 cJ9_abs_0f7a4 1 (some .int) :: ([])
def wsJ9_abs_067f4 : List Cond := .code yJ9_abs_067f4 cJ9_abs_067f4 2 (some .long) :: ([])
def wsL_law_r1 : List Cond := [Cond.classLink RL 7 RX4, Cond.instantiable RX4 10, Cond.initialized RX4, Cond.classLink RL 10 RX5, Cond.instantiable RX5 21, Cond.initialized RX5, Cond.methodLink RL 9 yX4_init, Cond.instanceMethod yX4_init, Cond.code yX4_init cX4_init 2 none, Cond.methodLink RX4 3 objectInit, Cond.instanceMethod objectInit, Cond.code objectInit ⟨#[0xb1]⟩ 1 none, Cond.arrayClass .int, Cond.fieldLink RX4 9 "UnitVectors" "text" "[I", Cond.fieldLink RX4 13 "UnitVectors" "faultPlace" "I", Cond.classLink RX4 17 RX1, Cond.instantiable RX1 9, Cond.initialized RX1, Cond.fieldLink RX4 20 "UnitVectors" "reader" "LUnitVectors$Reader;", Cond.fieldLink RX4 24 "UnitVectors" "read" "[I", Cond.classLink RX4 27 RX3, Cond.instantiable RX3 6, Cond.initialized RX3, Cond.fieldLink RX4 30 "UnitVectors" "now" "LUnitVectors$State;"]
def wsL_law_r2 : List Cond := [Cond.fieldLink RX4 34 "UnitVectors" "images" "[LUnitVectors$State;", Cond.classLink RX4 38 RX0, Cond.instantiable RX0 3, Cond.initialized RX0, Cond.fieldLink RX4 41 "UnitVectors" "past" "LUnitVectors$Past;", Cond.classLink RX4 45 RX2, Cond.instantiable RX2 7, Cond.initialized RX2, Cond.fieldLink RX4 48 "UnitVectors" "solutions" "LUnitVectors$Solutions;", Cond.fieldLink RX4 52 "UnitVectors" "others" "LUnitVectors$Solutions;", Cond.instanceMethod yX1_init, Cond.code yX1_init cX1_init 1 none, Cond.methodLink RX1 3 objectInit, Cond.classLink RX1 11 "[[J", Cond.arrayClass .long, Cond.fieldLink RX1 13 "UnitVectors$Reader" "totals" "[[J", Cond.fieldLink RX1 16 "UnitVectors$Reader" "signs" "[I", Cond.fieldLink RX1 20 "UnitVectors$Reader" "factor" "[J", Cond.fieldLink RX1 24 "UnitVectors$Reader" "place" "I", Cond.methodLink RX4 29 yX3_init, Cond.instanceMethod yX3_init, Cond.code yX3_init cX3_init 1 none, Cond.methodLink RX3 3 objectInit, Cond.classLink RX3 9 "[[I"]
def wsL_law_r3 : List Cond := [Cond.fieldLink RX3 11 "UnitVectors$State" "sayings" "[[I", Cond.fieldLink RX3 16 "UnitVectors$State" "above" "[I", Cond.fieldLink RX3 20 "UnitVectors$State" "below" "[I", Cond.methodLink RX3 23 yJ7_fill_53178, Cond.static yJ7_fill_53178, Cond.initialized RJ7, Cond.code yJ7_fill_53178 cJ7_fill_53178 4 none, Cond.methodLink RX4 40 yX0_init, Cond.instanceMethod yX0_init, Cond.code yX0_init cX0_init 2 none, Cond.methodLink RX0 3 objectInit, Cond.classLink RX0 9 RX3, Cond.fieldLink RX0 11 "UnitVectors$Past" "ahead" "[LUnitVectors$State;", Cond.methodLink RX0 17 yX3_init, Cond.methodLink RX4 47 yX2_init, Cond.instanceMethod yX2_init, Cond.code yX2_init cX2_init 1 none, Cond.methodLink RX2 3 objectInit, Cond.classLink RX2 9 "[[J", Cond.fieldLink RX2 11 "UnitVectors$Solutions" "rows" "[[J", Cond.fieldLink RX2 16 "UnitVectors$Solutions" "lowest" "[[J", Cond.fieldLink RX2 19 "UnitVectors$Solutions" "gains" "[J", Cond.fieldLink RX2 23 "UnitVectors$Solutions" "lacks" "[J", Cond.fieldLink RX2 26 "UnitVectors$Solutions" "step" "[J"]
def wsL_law_r4 : List Cond := [Cond.methodLink RX2 29 yX2_clear, Cond.instanceMethod yX2_clear, Cond.selects RX2 yX2_clear yX2_clear, Cond.code yX2_clear cX2_clear 2 none, Cond.fieldLink RX2 32 "UnitVectors$Solutions" "count" "I", Cond.methodLink RX2 36 yJ7_fill_d0a16, Cond.static yJ7_fill_d0a16, Cond.code yJ7_fill_d0a16 cJ7_fill_d0a16 5 none, Cond.methodLink RL 12 yX5_init, Cond.instanceMethod yX5_init, Cond.code yX5_init cX5_init 2 none, Cond.methodLink RX5 1 objectInit, Cond.fieldLink RX5 7 "UnitVectorsModel" "text" "[I", Cond.fieldLink RX5 13 "UnitVectorsModel" "faultAt" "I", Cond.fieldLink RX5 17 "UnitVectorsModel" "st" "[I", Cond.fieldLink RX5 20 "UnitVectorsModel" "deeds" "[I", Cond.fieldLink RX5 23 "UnitVectorsModel" "images" "[I", Cond.fieldLink RX5 26 "UnitVectorsModel" "seeds" "[J", Cond.arrayClass .boolean, Cond.fieldLink RX5 30 "UnitVectorsModel" "isKept" "[Z", Cond.fieldLink RX5 34 "UnitVectorsModel" "sums" "[I", Cond.fieldLink RX5 37 "UnitVectorsModel" "ways" "[I", Cond.fieldLink RX5 40 "UnitVectorsModel" "factor" "[I", Cond.fieldLink RX5 43 "UnitVectorsModel" "powers" "[I"]
def wsL_law_r5 : List Cond := [Cond.fieldLink RX5 46 "UnitVectorsModel" "rows" "[J", Cond.fieldLink RX5 49 "UnitVectorsModel" "choice" "[J", Cond.fieldLink RX5 52 "UnitVectorsModel" "over" "[J", Cond.methodLink RL 13 yX4_feed, Cond.instanceMethod yX4_feed, Cond.selects RX4 yX4_feed yX4_feed, Cond.code yX4_feed cX4_feed 2 (some .int), Cond.constant RX4 55 (-1000000002), Cond.fieldLink RX4 56 "UnitVectors" "letters" "I", Cond.constant RX4 59 (-1000000004), Cond.methodLink RL 17 yX5_feed, Cond.instanceMethod yX5_feed, Cond.selects RX5 yX5_feed yX5_feed, Cond.code yX5_feed cX5_feed 2 (some .int), Cond.constant RX5 59 (-1000000002), Cond.fieldLink RX5 60 "UnitVectorsModel" "length" "I", Cond.constant RX5 63 (-1000000004), Cond.methodLink RX5 55 yX5_in, Cond.static yX5_in, Cond.code yX5_in cX5_in 3 (some .boolean), Cond.methodLink RL 18 yX4_wipe, Cond.instanceMethod yX4_wipe, Cond.selects RX4 yX4_wipe yX4_wipe, Cond.code yX4_wipe cX4_wipe 2 (some .int)]
def wsL_law_r6 : List Cond := [Cond.methodLink RL 22 yX5_wipe, Cond.instanceMethod yX5_wipe, Cond.selects RX5 yX5_wipe yX5_wipe, Cond.code yX5_wipe cX5_wipe 2 (some .int), Cond.methodLink RL 23 yX4_fault, Cond.instanceMethod yX4_fault, Cond.selects RX4 yX4_fault yX4_fault, Cond.code yX4_fault cX4_fault 1 (some .int), Cond.methodLink RL 26 yX5_fault, Cond.instanceMethod yX5_fault, Cond.selects RX5 yX5_fault yX5_fault, Cond.code yX5_fault cX5_fault 1 (some .int), Cond.methodLink RL 27 yX4_told, Cond.instanceMethod yX4_told, Cond.selects RX4 yX4_told yX4_told, Cond.code yX4_told cX4_told 2 (some .int), Cond.methodLink RX4 64 yX4_countFixed, Cond.instanceMethod yX4_countFixed, Cond.selects RX4 yX4_countFixed yX4_countFixed, Cond.code yX4_countFixed cX4_countFixed 3 (some .int), Cond.methodLink RX4 142 yX2_isFixed, Cond.instanceMethod yX2_isFixed, Cond.selects RX2 yX2_isFixed yX2_isFixed, Cond.code yX2_isFixed cX2_isFixed 3 (some .boolean)]
def wsL_law_r7 : List Cond := [Cond.methodLink RX4 68 yX4_countSpare, Cond.instanceMethod yX4_countSpare, Cond.selects RX4 yX4_countSpare yX4_countSpare, Cond.code yX4_countSpare cX4_countSpare 3 (some .int), Cond.methodLink RX4 121 yX4_isSpare, Cond.instanceMethod yX4_isSpare, Cond.selects RX4 yX4_isSpare yX4_isSpare, Cond.code yX4_isSpare cX4_isSpare 3 (some .boolean), Cond.methodLink RX4 198 yX2_clear, Cond.methodLink RX4 197 yX2_put, Cond.instanceMethod yX2_put, Cond.selects RX2 yX2_put yX2_put, Cond.code yX2_put cX2_put 4 none, Cond.methodLink RX2 70 arraycopyName, Cond.native arraycopyName, Cond.static arraycopyName, Cond.initialized "java/lang/System", Cond.fieldLink RX2 76 "UnitVectors$Solutions" "stepGain" "J", Cond.methodLink RX2 46 yX2_weigh, Cond.instanceMethod yX2_weigh, Cond.selects RX2 yX2_weigh yX2_weigh, Cond.code yX2_weigh cX2_weigh 3 none, Cond.methodLink RX2 42 yX2_product, Cond.static yX2_product]
def wsL_law_r8 : List Cond := [Cond.code yX2_product cX2_product 5 (some .long), Cond.methodLink RX2 86 yX2_powerOf, Cond.instanceMethod yX2_powerOf, Cond.selects RX2 yX2_powerOf yX2_powerOf, Cond.code yX2_powerOf cX2_powerOf 3 (some .long), Cond.methodLink RX2 58 yX2_divideToAndFro, Cond.instanceMethod yX2_divideToAndFro, Cond.selects RX2 yX2_divideToAndFro yX2_divideToAndFro, Cond.code yX2_divideToAndFro cX2_divideToAndFro 10 none, Cond.methodLink RX2 94 yX2_addTimes, Cond.static yX2_addTimes, Cond.code yX2_addTimes cX2_addTimes 5 none, Cond.methodLink RX2 62 yX2_makeHeadPositive, Cond.static yX2_makeHeadPositive, Cond.code yX2_makeHeadPositive cX2_makeHeadPositive 3 none, Cond.methodLink RX2 98 yX2_headOf, Cond.static yX2_headOf, Cond.code yX2_headOf cX2_headOf 2 (some .int), Cond.methodLink RX2 66 yX2_reduce, Cond.instanceMethod yX2_reduce, Cond.selects RX2 yX2_reduce yX2_reduce, Cond.code yX2_reduce cX2_reduce 6 none, Cond.methodLink RX2 102 yJ9_floorDiv_f86c9, Cond.static yJ9_floorDiv_f86c9]
def wsL_law_r9 : List Cond := [Cond.initialized RJ9, Cond.code yJ9_floorDiv_f86c9 cJ9_floorDiv_f86c9 6 (some .long), Cond.methodLink RX2 80 yX2_moveLowest, Cond.instanceMethod yX2_moveLowest, Cond.selects RX2 yX2_moveLowest yX2_moveLowest, Cond.code yX2_moveLowest cX2_moveLowest 3 none, Cond.methodLink RX2 83 yX2_leaveOut, Cond.instanceMethod yX2_leaveOut, Cond.selects RX2 yX2_leaveOut yX2_leaveOut, Cond.code yX2_leaveOut cX2_leaveOut 4 none, Cond.methodLink RX4 145 yX2_imply, Cond.instanceMethod yX2_imply, Cond.selects RX2 yX2_imply yX2_imply, Cond.code yX2_imply cX2_imply 2 (some .boolean), Cond.methodLink RX2 50 yX2_commonGain, Cond.instanceMethod yX2_commonGain, Cond.selects RX2 yX2_commonGain yX2_commonGain, Cond.code yX2_commonGain cX2_commonGain 4 (some .long), Cond.methodLink RX2 90 yX2_commonDivisor, Cond.static yX2_commonDivisor, Cond.code yX2_commonDivisor cX2_commonDivisor 11 (some .long), Cond.methodLink RX2 107 Lib.MathLoose.abs_long.x, Cond.static Lib.MathLoose.abs_long.x, Cond.initialized "java/lang/Math"]
def wsL_law_r10 : List Cond := [Cond.code Lib.MathLoose.abs_long.x Lib.MathLoose.abs_long.code 2 (some .long), Cond.methodLink RX2 54 yX2_lacksAreTimes, Cond.instanceMethod yX2_lacksAreTimes, Cond.selects RX2 yX2_lacksAreTimes yX2_lacksAreTimes, Cond.code yX2_lacksAreTimes cX2_lacksAreTimes 6 (some .boolean), Cond.methodLink RX4 71 yX4_neededSet, Cond.instanceMethod yX4_neededSet, Cond.selects RX4 yX4_neededSet yX4_neededSet, Cond.code yX4_neededSet cX4_neededSet 3 (some .int), Cond.methodLink RX4 74 yJ6_bitCount_0f7a4, Cond.static yJ6_bitCount_0f7a4, Cond.initialized RJ6, Cond.code yJ6_bitCount_0f7a4 cJ6_bitCount_0f7a4 1 (some .int), Cond.constant RJ6 265 (1431655765), Cond.constant RJ6 266 (858993459), Cond.constant RJ6 267 (252645135), Cond.methodLink RL 30 yX5_told, Cond.instanceMethod yX5_told, Cond.selects RX5 yX5_told yX5_told, Cond.code yX5_told cX5_told 2 (some .int), Cond.fieldLink RX5 104 "UnitVectorsModel" "free" "I", Cond.fieldLink RX5 181 "UnitVectorsModel" "deedsMany" "I", Cond.methodLink RX5 153 yX5_allOf, Cond.instanceMethod yX5_allOf]
def wsL_law_r11 : List Cond := [Cond.selects RX5 yX5_allOf yX5_allOf, Cond.code yX5_allOf cX5_allOf 1 (some .int), Cond.methodLink RX5 156 yX5_solves, Cond.instanceMethod yX5_solves, Cond.selects RX5 yX5_solves yX5_solves, Cond.code yX5_solves cX5_solves 3 none, Cond.methodLink RX5 143 yX5_startsFree, Cond.instanceMethod yX5_startsFree, Cond.selects RX5 yX5_startsFree yX5_startsFree, Cond.code yX5_startsFree cX5_startsFree 2 none, Cond.methodLink RX5 146 yX5_has, Cond.static yX5_has, Cond.code yX5_has cX5_has 2 (some .boolean), Cond.methodLink RX5 149 yX5_adds, Cond.instanceMethod yX5_adds, Cond.selects RX5 yX5_adds yX5_adds, Cond.code yX5_adds cX5_adds 9 (some .boolean), Cond.methodLink RX5 119 yX5_sumOf, Cond.instanceMethod yX5_sumOf, Cond.selects RX5 yX5_sumOf yX5_sumOf, Cond.code yX5_sumOf cX5_sumOf 7 (some .long), Cond.methodLink RX5 123 yX5_gathers, Cond.instanceMethod yX5_gathers, Cond.selects RX5 yX5_gathers yX5_gathers]
def wsL_law_r12 : List Cond := [Cond.code yX5_gathers cX5_gathers 6 (some .boolean), Cond.methodLink RX5 107 yX5_sizeOf, Cond.static yX5_sizeOf, Cond.code yX5_sizeOf cX5_sizeOf 2 (some .long), Cond.methodLink RX5 111 yX5_swaps, Cond.instanceMethod yX5_swaps, Cond.selects RX5 yX5_swaps yX5_swaps, Cond.code yX5_swaps cX5_swaps 6 none, Cond.methodLink RX5 115 yX5_takes, Cond.instanceMethod yX5_takes, Cond.selects RX5 yX5_takes yX5_takes, Cond.code yX5_takes cX5_takes 6 none, Cond.methodLink RX5 127 yX5_restOf, Cond.instanceMethod yX5_restOf, Cond.selects RX5 yX5_restOf yX5_restOf, Cond.code yX5_restOf cX5_restOf 7 (some .long), Cond.methodLink RX5 130 yX5_orders, Cond.instanceMethod yX5_orders, Cond.selects RX5 yX5_orders yX5_orders, Cond.code yX5_orders cX5_orders 8 none, Cond.constantLong RX5 133 (2), Cond.methodLink RX5 135 yX5_floor, Cond.static yX5_floor, Cond.code yX5_floor cX5_floor 6 (some .long)]
def wsL_law_r13 : List Cond := [Cond.methodLink RX5 139 yX5_headOf, Cond.instanceMethod yX5_headOf, Cond.selects RX5 yX5_headOf yX5_headOf, Cond.code yX5_headOf cX5_headOf 3 (some .int), Cond.methodLink RX5 172 yX5_toldMany, Cond.instanceMethod yX5_toldMany, Cond.selects RX5 yX5_toldMany yX5_toldMany, Cond.code yX5_toldMany cX5_toldMany 3 (some .int), Cond.methodLink RX5 169 yX5_isSure, Cond.instanceMethod yX5_isSure, Cond.selects RX5 yX5_isSure yX5_isSure, Cond.code yX5_isSure cX5_isSure 4 (some .boolean), Cond.methodLink RX5 175 yX5_spareMany, Cond.instanceMethod yX5_spareMany, Cond.selects RX5 yX5_spareMany yX5_spareMany, Cond.code yX5_spareMany cX5_spareMany 3 (some .int), Cond.methodLink RX5 162 yX5_isSpare, Cond.instanceMethod yX5_isSpare, Cond.selects RX5 yX5_isSpare yX5_isSpare, Cond.code yX5_isSpare cX5_isSpare 2 (some .boolean), Cond.methodLink RX5 159 yX5_isTrue, Cond.instanceMethod yX5_isTrue, Cond.selects RX5 yX5_isTrue yX5_isTrue, Cond.code yX5_isTrue cX5_isTrue 5 (some .boolean)]
def wsL_law_r14 : List Cond := [Cond.methodLink RX5 178 yX5_fewestOf, Cond.instanceMethod yX5_fewestOf, Cond.selects RX5 yX5_fewestOf yX5_fewestOf, Cond.code yX5_fewestOf cX5_fewestOf 5 (some .int), Cond.methodLink RX5 166 yX5_bits, Cond.static yX5_bits, Cond.code yX5_bits cX5_bits 3 (some .int), Cond.methodLink RL 31 yX4_say, Cond.instanceMethod yX4_say, Cond.selects RX4 yX4_say yX4_say, Cond.code yX4_say cX4_say 2 (some .int), Cond.constant RX4 89 (-1000000003), Cond.methodLink RX4 81 yX4_readText, Cond.instanceMethod yX4_readText, Cond.selects RX4 yX4_readText yX4_readText, Cond.code yX4_readText cX4_readText 4 (some .int), Cond.methodLink RX4 183 yX1_readAll, Cond.instanceMethod yX1_readAll, Cond.selects RX1 yX1_readAll yX1_readAll, Cond.code yX1_readAll cX1_readAll 6 (some .int), Cond.methodLink RX1 28 yX1_start, Cond.instanceMethod yX1_start, Cond.selects RX1 yX1_start yX1_start, Cond.code yX1_start cX1_start 2 none]
def wsL_law_r15 : List Cond := [Cond.fieldLink RX1 40 "UnitVectors$Reader" "open" "I", Cond.fieldLink RX1 43 "UnitVectors$Reader" "side" "I", Cond.fieldLink RX1 46 "UnitVectors$Reader" "lacksEqual" "Z", Cond.methodLink RX1 50 yX1_startTotal, Cond.instanceMethod yX1_startTotal, Cond.selects RX1 yX1_startTotal yX1_startTotal, Cond.code yX1_startTotal cX1_startTotal 2 none, Cond.fieldLink RX1 53 "UnitVectors$Reader" "expected" "I", Cond.methodLink RX1 32 yX1_take, Cond.instanceMethod yX1_take, Cond.selects RX1 yX1_take yX1_take, Cond.code yX1_take cX1_take 2 (some .int), Cond.fieldLink RX1 70 "UnitVectors$Reader" "powerSign" "I", Cond.methodLink RX1 67 yX1_takeAtom, Cond.instanceMethod yX1_takeAtom, Cond.selects RX1 yX1_takeAtom yX1_takeAtom, Cond.code yX1_takeAtom cX1_takeAtom 2 (some .int), Cond.methodLink RX1 79 yX1_takeOpening, Cond.instanceMethod yX1_takeOpening, Cond.selects RX1 yX1_takeOpening yX1_takeOpening, Cond.code yX1_takeOpening cX1_takeOpening 1 (some .int), Cond.methodLink RX1 82 yJ7_fill_d0a16, Cond.methodLink RX1 73 yX1_takeJoint, Cond.instanceMethod yX1_takeJoint]
def wsL_law_r16 : List Cond := [Cond.selects RX1 yX1_takeJoint yX1_takeJoint, Cond.code yX1_takeJoint cX1_takeJoint 3 (some .int), Cond.methodLink RX1 88 yX1_joinNext, Cond.instanceMethod yX1_joinNext, Cond.selects RX1 yX1_joinNext yX1_joinNext, Cond.code yX1_joinNext cX1_joinNext 2 none, Cond.methodLink RX1 56 yX1_putFactor, Cond.instanceMethod yX1_putFactor, Cond.selects RX1 yX1_putFactor yX1_putFactor, Cond.code yX1_putFactor cX1_putFactor 2 none, Cond.methodLink RX1 92 yX1_takeClosing, Cond.instanceMethod yX1_takeClosing, Cond.selects RX1 yX1_takeClosing yX1_takeClosing, Cond.code yX1_takeClosing cX1_takeClosing 1 none, Cond.methodLink RX1 95 arraycopyName, Cond.methodLink RX1 76 yX1_takeFigure, Cond.instanceMethod yX1_takeFigure, Cond.selects RX1 yX1_takeFigure yX1_takeFigure, Cond.code yX1_takeFigure cX1_takeFigure 3 (some .int), Cond.methodLink RX1 36 yX1_end, Cond.instanceMethod yX1_end, Cond.selects RX1 yX1_end yX1_end, Cond.code yX1_end cX1_end 3 (some .int), Cond.methodLink RX1 59 Lib.MathLoose.abs_long.x]
def wsL_law_r17 : List Cond := [Cond.constantLong RX1 65 (9), Cond.methodLink RX4 85 yX2_agrees, Cond.instanceMethod yX2_agrees, Cond.selects RX2 yX2_agrees yX2_agrees, Cond.code yX2_agrees cX2_agrees 2 (some .boolean), Cond.methodLink RX4 90 yX0_note, Cond.instanceMethod yX0_note, Cond.selects RX0 yX0_note yX0_note, Cond.code yX0_note cX0_note 2 none, Cond.fieldLink RX0 18 "UnitVectors$Past" "next" "I", Cond.fieldLink RX0 26 "UnitVectors$Past" "count" "I", Cond.methodLink RX0 22 yX3_copyDeeds, Cond.instanceMethod yX3_copyDeeds, Cond.selects RX3 yX3_copyDeeds yX3_copyDeeds, Cond.code yX3_copyDeeds cX3_copyDeeds 3 none, Cond.fieldLink RX3 29 "UnitVectors$State" "count" "I", Cond.methodLink RX3 33 arraycopyName, Cond.methodLink RX4 94 yX4_putSaying, Cond.instanceMethod yX4_putSaying, Cond.selects RX4 yX4_putSaying yX4_putSaying, Cond.code yX4_putSaying cX4_putSaying 1 none, Cond.methodLink RX4 193 yX3_put, Cond.instanceMethod yX3_put, Cond.selects RX3 yX3_put yX3_put]
def wsL_law_r18 : List Cond := [Cond.code yX3_put cX3_put 2 none, Cond.methodLink RL 34 yX5_say, Cond.instanceMethod yX5_say, Cond.selects RX5 yX5_say yX5_say, Cond.code yX5_say cX5_say 2 (some .int), Cond.constant RX5 191 (-1000000003), Cond.methodLink RX5 184 yX5_reads, Cond.instanceMethod yX5_reads, Cond.selects RX5 yX5_reads yX5_reads, Cond.code yX5_reads cX5_reads 4 (some .int), Cond.fieldLink RX5 64 "UnitVectorsModel" "place" "I", Cond.fieldLink RX5 67 "UnitVectorsModel" "wrong" "I", Cond.methodLink RX5 101 yX5_readsSide, Cond.instanceMethod yX5_readsSide, Cond.selects RX5 yX5_readsSide yX5_readsSide, Cond.code yX5_readsSide cX5_readsSide 2 (some .int), Cond.fieldLink RX5 70 "UnitVectorsModel" "depth" "I", Cond.methodLink RX5 81 yX5_opens, Cond.instanceMethod yX5_opens, Cond.selects RX5 yX5_opens yX5_opens, Cond.code yX5_opens cX5_opens 3 none, Cond.methodLink RX5 94 yX5_readsLetter, Cond.instanceMethod yX5_readsLetter, Cond.selects RX5 yX5_readsLetter yX5_readsLetter]
def wsL_law_r19 : List Cond := [Cond.code yX5_readsLetter cX5_readsLetter 3 (some .boolean), Cond.methodLink RX5 73 yX5_here, Cond.instanceMethod yX5_here, Cond.selects RX5 yX5_here yX5_here, Cond.code yX5_here cX5_here 1 (some .int), Cond.methodLink RX5 77 yX5_fails, Cond.instanceMethod yX5_fails, Cond.selects RX5 yX5_fails yX5_fails, Cond.code yX5_fails cX5_fails 2 none, Cond.methodLink RX5 98 yX5_closes, Cond.instanceMethod yX5_closes, Cond.selects RX5 yX5_closes yX5_closes, Cond.code yX5_closes cX5_closes 1 none, Cond.methodLink RX5 84 yX5_readsPower, Cond.instanceMethod yX5_readsPower, Cond.selects RX5 yX5_readsPower yX5_readsPower, Cond.code yX5_readsPower cX5_readsPower 4 none, Cond.methodLink RX5 87 yX5_counts, Cond.instanceMethod yX5_counts, Cond.selects RX5 yX5_counts yX5_counts, Cond.code yX5_counts cX5_counts 2 none, Cond.methodLink RX5 90 yX5_bring, Cond.static yX5_bring, Cond.code yX5_bring cX5_bring 6 none]
def wsL_law_r20 : List Cond := [Cond.methodLink RX5 188 yX5_mayBe, Cond.instanceMethod yX5_mayBe, Cond.selects RX5 yX5_mayBe yX5_mayBe, Cond.code yX5_mayBe cX5_mayBe 1 (some .boolean), Cond.methodLink RX5 192 yX5_notes, Cond.instanceMethod yX5_notes, Cond.selects RX5 yX5_notes yX5_notes, Cond.code yX5_notes cX5_notes 1 none, Cond.methodLink RX5 195 yX5_says, Cond.instanceMethod yX5_says, Cond.selects RX5 yX5_says yX5_says, Cond.code yX5_says cX5_says 1 none, Cond.methodLink RL 35 yX4_back, Cond.instanceMethod yX4_back, Cond.selects RX4 yX4_back yX4_back, Cond.code yX4_back cX4_back 2 (some .int), Cond.constant RX4 97 (-1000000001), Cond.methodLink RX4 98 yX3_remove, Cond.instanceMethod yX3_remove, Cond.selects RX3 yX3_remove yX3_remove, Cond.code yX3_remove cX3_remove 3 none, Cond.methodLink RX4 102 yX4_solveAnew, Cond.instanceMethod yX4_solveAnew, Cond.selects RX4 yX4_solveAnew yX4_solveAnew]
def wsL_law_r21 : List Cond := [Cond.code yX4_solveAnew cX4_solveAnew 2 none, Cond.methodLink RL 38 yX5_back, Cond.instanceMethod yX5_back, Cond.selects RX5 yX5_back yX5_back, Cond.code yX5_back cX5_back 2 (some .int), Cond.constant RX5 198 (-1000000001), Cond.methodLink RL 39 yX4_scale, Cond.instanceMethod yX4_scale, Cond.selects RX4 yX4_scale yX4_scale, Cond.code yX4_scale cX4_scale 4 (some .int), Cond.methodLink RX4 111 yX3_countScaled, Cond.instanceMethod yX3_countScaled, Cond.selects RX3 yX3_countScaled yX3_countScaled, Cond.code yX3_countScaled cX3_countScaled 3 (some .int), Cond.methodLink RL 43 yX5_scale, Cond.instanceMethod yX5_scale, Cond.selects RX5 yX5_scale yX5_scale, Cond.code yX5_scale cX5_scale 6 (some .int), Cond.methodLink RX5 199 yX5_isBase, Cond.static yX5_isBase, Cond.code yX5_isBase cX5_isBase 1 (some .boolean), Cond.methodLink RL 44 yX4_drift, Cond.instanceMethod yX4_drift, Cond.selects RX4 yX4_drift yX4_drift]
def wsL_law_r22 : List Cond := [Cond.code yX4_drift cX4_drift 3 (some .int), Cond.methodLink RX4 114 yX4_driftOnce, Cond.instanceMethod yX4_driftOnce, Cond.selects RX4 yX4_driftOnce yX4_driftOnce, Cond.code yX4_driftOnce cX4_driftOnce 6 none, Cond.methodLink RX4 201 yX3_draw, Cond.instanceMethod yX3_draw, Cond.selects RX3 yX3_draw yX3_draw, Cond.code yX3_draw cX3_draw 2 (some .int), Cond.fieldLink RX3 39 "UnitVectors$State" "drawSeed" "I", Cond.constantLong RX3 42 (1103515245), Cond.constantLong RX3 44 (12345), Cond.constantLong RX3 46 (2147483647), Cond.constant RX3 48 (65536), Cond.methodLink RX4 204 yJ7_fill_53178, Cond.methodLink RL 47 yX5_drift, Cond.instanceMethod yX5_drift, Cond.selects RX5 yX5_drift yX5_drift, Cond.code yX5_drift cX5_drift 3 (some .int), Cond.methodLink RX5 217 yX5_drawn, Cond.instanceMethod yX5_drawn, Cond.selects RX5 yX5_drawn yX5_drawn, Cond.code yX5_drawn cX5_drawn 5 none, Cond.methodLink RX5 214 yX5_draw]
def wsL_law_r23 : List Cond := [Cond.instanceMethod yX5_draw, Cond.selects RX5 yX5_draw yX5_draw, Cond.code yX5_draw cX5_draw 2 (some .int), Cond.fieldLink RX5 202 "UnitVectorsModel" "seed" "J", Cond.constantLong RX5 206 (1103515245), Cond.constantLong RX5 208 (12345), Cond.constantLong RX5 210 (2147483648), Cond.constantLong RX5 212 (65536), Cond.methodLink RL 48 yX4_undo, Cond.instanceMethod yX4_undo, Cond.selects RX4 yX4_undo yX4_undo, Cond.code yX4_undo cX4_undo 2 (some .int), Cond.methodLink RX4 117 yX0_restore, Cond.instanceMethod yX0_restore, Cond.selects RX0 yX0_restore yX0_restore, Cond.code yX0_restore cX0_restore 3 none, Cond.methodLink RX0 29 yJ9_floorMod_7cf53, Cond.static yJ9_floorMod_7cf53, Cond.code yJ9_floorMod_7cf53 cJ9_floorMod_7cf53 3 (some .int), Cond.methodLink RL 51 yX5_undo, Cond.instanceMethod yX5_undo, Cond.selects RX5 yX5_undo yX5_undo, Cond.code yX5_undo cX5_undo 2 (some .int), Cond.methodLink RL 52 yX4_saying]
def wsL_law_r24 : List Cond := [Cond.instanceMethod yX4_saying, Cond.selects RX4 yX4_saying yX4_saying, Cond.code yX4_saying cX4_saying 3 (some .int), Cond.methodLink RL 56 yX5_saying, Cond.instanceMethod yX5_saying, Cond.selects RX5 yX5_saying yX5_saying, Cond.code yX5_saying cX5_saying 3 (some .int), Cond.methodLink RL 57 yX4_free, Cond.instanceMethod yX4_free, Cond.selects RX4 yX4_free yX4_free, Cond.code yX4_free cX4_free 3 (some .long), Cond.constantLong RX4 129 (-1000000001), Cond.constantLong RX4 131 (-1000000002), Cond.constantLong RX4 137 (1000000000000), Cond.methodLink RL 61 yX5_free, Cond.instanceMethod yX5_free, Cond.selects RX5 yX5_free yX5_free, Cond.code yX5_free cX5_free 3 (some .long), Cond.constantLong RX5 220 (-1000000001), Cond.constantLong RX5 222 (1000000000000), Cond.constantLong RX5 224 (-1000000002), Cond.methodLink RL 62 yX4_least, Cond.instanceMethod yX4_least, Cond.selects RX4 yX4_least yX4_least]
def wsL_law_r25 : List Cond := [Cond.code yX4_least cX4_least 3 (some .long), Cond.methodLink RL 65 yX5_least, Cond.instanceMethod yX5_least, Cond.selects RX5 yX5_least yX5_least, Cond.code yX5_least cX5_least 3 (some .long), Cond.methodLink RX5 226 yX5_isUnknown, Cond.static yX5_isUnknown, Cond.code yX5_isUnknown cX5_isUnknown 1 (some .boolean), Cond.methodLink RL 66 yX4_isTold, Cond.instanceMethod yX4_isTold, Cond.selects RX4 yX4_isTold yX4_isTold, Cond.code yX4_isTold cX4_isTold 2 (some .int), Cond.methodLink RL 69 yX5_isTold, Cond.instanceMethod yX5_isTold, Cond.selects RX5 yX5_isTold yX5_isTold, Cond.code yX5_isTold cX5_isTold 2 (some .int), Cond.methodLink RL 70 yX4_follows, Cond.instanceMethod yX4_follows, Cond.selects RX4 yX4_follows yX4_follows, Cond.code yX4_follows cX4_follows 2 (some .int), Cond.methodLink RL 73 yX5_follows, Cond.instanceMethod yX5_follows, Cond.selects RX5 yX5_follows yX5_follows, Cond.code yX5_follows cX5_follows 2 (some .int)]
def wsL_law_r26 : List Cond := [Cond.methodLink RL 74 yX4_couldBe, Cond.instanceMethod yX4_couldBe, Cond.selects RX4 yX4_couldBe yX4_couldBe, Cond.code yX4_couldBe cX4_couldBe 2 (some .int), Cond.methodLink RL 77 yX5_couldBe, Cond.instanceMethod yX5_couldBe, Cond.selects RX5 yX5_couldBe yX5_couldBe, Cond.code yX5_couldBe cX5_couldBe 2 (some .int), Cond.methodLink RL 78 yX4_measured, Cond.instanceMethod yX4_measured, Cond.selects RX4 yX4_measured yX4_measured, Cond.code yX4_measured cX4_measured 3 (some .long), Cond.methodLink RX4 148 yX2_powerOf, Cond.methodLink RX4 152 yX2_rise, Cond.instanceMethod yX2_rise, Cond.selects RX2 yX2_rise yX2_rise, Cond.code yX2_rise cX2_rise 3 (some .long), Cond.methodLink RL 82 yX5_measured, Cond.instanceMethod yX5_measured, Cond.selects RX5 yX5_measured yX5_measured, Cond.code yX5_measured cX5_measured 3 (some .long), Cond.methodLink RL 83 yX4_converted, Cond.instanceMethod yX4_converted, Cond.selects RX4 yX4_converted yX4_converted]
def wsL_law_r27 : List Cond := [Cond.code yX4_converted cX4_converted 4 (some .long), Cond.constant RX4 155 (1000000), Cond.constantLong RX4 160 (-1000000003), Cond.methodLink RX4 156 yX4_canConvert, Cond.instanceMethod yX4_canConvert, Cond.selects RX4 yX4_canConvert yX4_canConvert, Cond.code yX4_canConvert cX4_canConvert 2 (some .boolean), Cond.methodLink RX4 162 yX4_scaleProduct, Cond.instanceMethod yX4_scaleProduct, Cond.selects RX4 yX4_scaleProduct yX4_scaleProduct, Cond.code yX4_scaleProduct cX4_scaleProduct 8 (some .long), Cond.methodLink RX4 210 Lib.Math.abs.name, Cond.static Lib.Math.abs.name, Cond.code Lib.Math.abs.name Lib.Math.abs.code 1 (some .int), Cond.methodLink RX4 166 yX4_whole, Cond.static yX4_whole, Cond.code yX4_whole cX4_whole 10 (some .long), Cond.constantLong RX4 215 (2), Cond.methodLink RL 86 yX5_converted, Cond.instanceMethod yX5_converted, Cond.selects RX5 yX5_converted yX5_converted, Cond.code yX5_converted cX5_converted 12 (some .long), Cond.constant RX5 229 (1000000), Cond.constantLong RX5 230 (-1000000003)]
def wsL_law_r28 : List Cond := [Cond.methodLink RX5 232 yX5_madeWhole, Cond.static yX5_madeWhole, Cond.code yX5_madeWhole cX5_madeWhole 10 (some .long), Cond.methodLink RL 87 yX4_seed, Cond.instanceMethod yX4_seed, Cond.selects RX4 yX4_seed yX4_seed, Cond.code yX4_seed cX4_seed 3 (some .int), Cond.methodLink RL 90 yX5_seed, Cond.instanceMethod yX5_seed, Cond.selects RX5 yX5_seed yX5_seed, Cond.code yX5_seed cX5_seed 3 (some .int), Cond.methodLink RL 91 yX4_keep, Cond.instanceMethod yX4_keep, Cond.selects RX4 yX4_keep yX4_keep, Cond.code yX4_keep cX4_keep 3 (some .int), Cond.methodLink RX4 173 yX3_copyDeeds, Cond.methodLink RX4 180 yX0_forget, Cond.instanceMethod yX0_forget, Cond.selects RX0 yX0_forget yX0_forget, Cond.code yX0_forget cX0_forget 1 none, Cond.methodLink RL 94 yX5_keep, Cond.instanceMethod yX5_keep, Cond.selects RX5 yX5_keep yX5_keep, Cond.code yX5_keep cX5_keep 2 (some .int)]
def wsL_law_r29 : List Cond := [Cond.methodLink RL 95 yX4_goBack, Cond.instanceMethod yX4_goBack, Cond.selects RX4 yX4_goBack yX4_goBack, Cond.code yX4_goBack cX4_goBack 3 (some .int), Cond.methodLink RL 98 yX5_goBack, Cond.instanceMethod yX5_goBack, Cond.selects RX5 yX5_goBack yX5_goBack, Cond.code yX5_goBack cX5_goBack 2 (some .int)]
def wsL_law : List Cond := (wsL_law_r1 ++ (wsL_law_r2 ++ (wsL_law_r3 ++ (wsL_law_r4 ++ (wsL_law_r5 ++ (wsL_law_r6 ++ (wsL_law_r7 ++ (wsL_law_r8 ++ (wsL_law_r9 ++ (wsL_law_r10 ++ (wsL_law_r11 ++ (wsL_law_r12 ++ (wsL_law_r13 ++ (wsL_law_r14 ++ (wsL_law_r15 ++ (wsL_law_r16 ++ (wsL_law_r17 ++ (wsL_law_r18 ++ (wsL_law_r19 ++ (wsL_law_r20 ++ (wsL_law_r21 ++ (wsL_law_r22 ++ (wsL_law_r23 ++ (wsL_law_r24 ++ (wsL_law_r25 ++ (wsL_law_r26 ++ (wsL_law_r27 ++ (wsL_law_r28 ++ wsL_law_r29)))))))))))))))))))))))))))) ++ wsX40 ++ wsX50 ++ wsX10 ++ wsX30 ++ wsX00 ++ wsX20 ++ ([] : List Cond)
theorem inlX0 : ∀ w ∈ wsX00, w ∈ wsL_law := fun _ h => List.mem_append_left _ (List.mem_append_left _ (List.mem_append_right _ h))
theorem inlX1 : ∀ w ∈ wsX10, w ∈ wsL_law := fun _ h => List.mem_append_left _ (List.mem_append_left _ (List.mem_append_left _ (List.mem_append_left _ (List.mem_append_right _ h))))
theorem inlX2 : ∀ w ∈ wsX20, w ∈ wsL_law := fun _ h => List.mem_append_left _ (List.mem_append_right _ h)
theorem inlX3 : ∀ w ∈ wsX30, w ∈ wsL_law := fun _ h => List.mem_append_left _ (List.mem_append_left _ (List.mem_append_left _ (List.mem_append_right _ h)))
theorem inlX4 : ∀ w ∈ wsX40, w ∈ wsL_law := fun _ h => List.mem_append_left _ (List.mem_append_left _ (List.mem_append_left _ (List.mem_append_left _ (List.mem_append_left _ (List.mem_append_left _ (List.mem_append_right _ h))))))
theorem inlX5 : ∀ w ∈ wsX50, w ∈ wsL_law := fun _ h => List.mem_append_left _ (List.mem_append_left _ (List.mem_append_left _ (List.mem_append_left _ (List.mem_append_left _ (List.mem_append_right _ h)))))
theorem inJ6 : ∀ w ∈ wsJ60, w ∈ lw_tbl := by decide +kernel
theorem inJ9 : ∀ w ∈ wsJ90, w ∈ lw_tbl := by decide +kernel
theorem inJ10 : ∀ w ∈ wsJ100, w ∈ lw_tbl := by decide +kernel
theorem inJ7 : ∀ w ∈ wsJ70, w ∈ lw_tbl := by decide +kernel
set_option maxRecDepth 20000 in
theorem ggX0_init_X3_init : GoodIn wsX0_init wsX3_init := goodIn_r _ [10, 11, 2, 3, 12, 13, 14, 15, 16, 17, 18, 19, 20, 24, 25, 26, 27, 28, 29] (by decide +kernel) (by decide +kernel)
set_option maxRecDepth 20000 in
theorem gX0_init_X3_init : GoodIn wsX0_init (wsX3_init) := ggX0_init_X3_init
abbrev vwCl : List vw_C := [(RX0, TX0, 3), (RX1, TX1, 9), (RX2, TX2, 7), (RX3, TX3, 6), (RX4, TX4, 10), (RX5, TX5, 21)]
end
section
/-! ## The layer of the walks: a heap is a map from addresses to entries; a point of a walk is (pc, locals, stack, heap) -/
abbrev xH : Type := Nat → Option va_E
def x_up (h : xH) (a : Nat) (e : va_E) : xH := fun q => if q = a then some e else h q
theorem x_up_eq {h : xH} {a : Nat} {e : va_E} : x_up h a e a = some e := if_pos rfl
theorem x_up_ne {h : xH} {a b : Nat} {e : va_E} (n : b ≠ a) : x_up h a e b = h b := if_neg n
theorem x_up_up {h : xH} {a : Nat} {e e2 : va_E} : x_up (x_up h a e) a e2 = x_up h a e2 := by
  funext q
  unfold x_up
  by_cases k : q = a
  · rw [if_pos k, if_pos k]
  · rw [if_neg k, if_neg k, if_neg k]
theorem x_up_self {h : xH} {a : Nat} {e : va_E} (k : h a = some e) : x_up h a e = h := by
  funext q
  unfold x_up
  by_cases j : q = a
  · rw [if_pos j, j, k]
  · rw [if_neg j]
theorem x_up_sw {h : xH} {a b : Nat} {e e2 : va_E} (n : a ≠ b) : x_up (x_up h a e) b e2 = x_up (x_up h b e2) a e := by
  funext q
  unfold x_up
  by_cases k : q = b
  · rw [if_pos k, if_neg (fun j => n (j.symm.trans k)), if_pos k]
  · rw [if_neg k, if_neg k]
theorem x_up_dom {h : xH} {a : Nat} {e e0 : va_E} (k : h a = some e0) (q : Nat) : (x_up h a e q).isSome = (h q).isSome := by
  unfold x_up
  by_cases j : q = a
  · rw [if_pos j, j, k]; rfl
  · rw [if_neg j]
def x_f (h : xH) (a : Nat) : va_E := (h a).getD (.inr (0, []))
theorem x_f_of {h : xH} {a : Nat} {e : va_E} (k : h a = some e) : x_f h a = e := by unfold x_f; rw [k]; rfl
/-- the heap holds the map; the map's addresses lie in A -/
def xR (D : va_G) (A : Nat → Prop) (h : xH) (H : Heap) : Prop := ∃ L : List Nat, (∀ a, a ∈ L ↔ (h a).isSome = true) ∧ va_D A (va_pl L (x_f h)) ∧ va_P D vwCl (va_pl L (x_f h)) H
theorem xR_get {D : va_G} {A : Nat → Prop} {h : xH} {H : Heap} {a : Nat} {e : va_E} (r : xR D A h H) (k : h a = some e) : ∃ (L : List Nat) (i : Nat), (∀ a, a ∈ L ↔ (h a).isSome = true) ∧ va_D A (va_pl L (x_f h)) ∧ va_P D vwCl (va_pl L (x_f h)) H ∧ a ∈ L ∧ (va_pl L (x_f h))[i]? = some (a, e) := by
  obtain ⟨L, h1, h2, h3⟩ := r
  have hm : a ∈ L := (h1 a).mpr (by rw [k]; rfl)
  obtain ⟨i, hi⟩ := va_pl_get (X := []) (f := x_f h) hm
  rw [x_f_of k] at hi
  exact ⟨L, i, h1, h2, h3, hm, hi⟩
theorem xR_at {D : va_G} {A : Nat → Prop} {h : xH} {H : Heap} {a : Nat} {e : va_E} (r : xR D A h H) (k : h a = some e) : va_at D vwCl (a, e) H := by
  obtain ⟨L, i, -, -, h3, -, hi⟩ := xR_get r k
  exact h3 i _ hi
theorem x_fup {h : xH} {a : Nat} {e : va_E} : va_up (x_f h) a e = x_f (x_up h a e) := by
  funext q
  unfold va_up x_f x_up
  by_cases j : q = a
  · rw [if_pos j, if_pos j]; rfl
  · rw [if_neg j, if_neg j]
theorem xR_set {D : va_G} {A : Nat → Prop} {h : xH} {H1 : Heap} {a i : Nat} {e e1 : va_E} {L : List Nat} (k : h a = some e) (h1 : ∀ a, a ∈ L ↔ (h a).isSome = true) (h2 : va_D A (va_pl L (x_f h))) (hm : a ∈ L) (hi : (va_pl L (x_f h))[i]? = some (a, e)) (hP : va_P D vwCl ((va_pl L (x_f h)).set i (a, e1)) H1) (hD : va_D A ((va_pl L (x_f h)).set i (a, e1))) : xR D A (x_up h a e1) H1 := by
  have e0 : (va_pl L (x_f h)).set i (a, e1) = va_pl L (va_up (x_f h) a e1) := va_pl_set (X := []) (A := A) h2 hm (by rw [x_f_of k]; exact hi)
  rw [e0, x_fup] at hP hD
  exact ⟨L, fun q => by rw [x_up_dom k q]; exact h1 q, hD, hP⟩
/-- of what is there at the start (and of all that comes) -/
def xA (h : xH) (sz : Nat) : Nat → Prop := fun q => (h q).isSome = true ∨ sz ≤ q
theorem xR_weak {D : va_G} {A B : Nat → Prop} {h : xH} {H : Heap} (r : xR D A h H) (k : ∀ a, (h a).isSome = true → B a) : xR D B h H := by
  obtain ⟨L, h1, h2, h3⟩ := r
  refine ⟨L, h1, ⟨h2.1, fun i q hq => ?_⟩, h3⟩
  obtain ⟨a, ha, rfl⟩ := List.mem_map.mp (List.mem_of_getElem? hq)
  exact k a ((h1 a).mp ha)
theorem xR_in {D : va_G} {A : Nat → Prop} {h : xH} {H : Heap} (r : xR D A h H) {a : Nat} (k : (h a).isSome = true) : A a := by
  obtain ⟨L, h1, h2, h3⟩ := r
  obtain ⟨i, hi⟩ := va_pl_get (X := []) (f := x_f h) ((h1 a).mpr k)
  exact h2.2 i _ hi
theorem xR_kept {D : va_G} {A : Nat → Prop} {h : xH} {H H1 : Heap} (r : xR D A h H) (k : ∀ a, (h a).isSome = true → H1[a]? = H[a]?) : xR D A h H1 := by
  obtain ⟨L, h1, h2, h3⟩ := r
  refine ⟨L, h1, h2, h3.kept fun i q hq => ?_⟩
  obtain ⟨a, ha, rfl⟩ := List.mem_map.mp (List.mem_of_getElem? hq)
  exact k a ((h1 a).mp ha)
/-- the classes of arrays: 0 ints, 1 longs, 2 booleans, 3 States, 4 rows of ints, 5 rows of longs -/
abbrev xT (dA : Nat → ClassId) : List (ClassId × FieldType) := [(dA 0, .int), (dA 1, .long), (dA 2, .boolean), (dA 3, .object "UnitVectors$State"), (dA 4, .array .int), (dA 5, .array .long)]
/-- the words on nest mates -/
def xNw : List Cond := [.fieldLinkNest "UnitVectors" 80 "UnitVectors$Past" "count" "I" "UnitVectors", .fieldLinkNest "UnitVectors" 63 "UnitVectors$Solutions" "count" "I" "UnitVectors", .fieldLinkNest "UnitVectors" 60 "UnitVectors$State" "count" "I" "UnitVectors", .fieldLinkNest "UnitVectors" 190 "UnitVectors$Reader" "totals" "[[J" "UnitVectors", .fieldLinkNest "UnitVectors" 187 "UnitVectors$Reader" "place" "I" "UnitVectors", .fieldLinkNest "UnitVectors" 176 "UnitVectors$State" "isKept" "Z" "UnitVectors", .fieldLinkNest "UnitVectors" 170 "UnitVectors$State" "drawSeed" "I" "UnitVectors", .fieldLinkNest "UnitVectors" 139 "UnitVectors$Solutions" "lowest" "[[J" "UnitVectors", .fieldLinkNest "UnitVectors" 133 "UnitVectors$Solutions" "rows" "[[J" "UnitVectors", .fieldLinkNest "UnitVectors" 125 "UnitVectors$State" "sayings" "[[I" "UnitVectors", .fieldLinkNest "UnitVectors" 108 "UnitVectors$State" "below" "[I" "UnitVectors", .fieldLinkNest "UnitVectors" 105 "UnitVectors$State" "above" "[I" "UnitVectors"]
def xN (U : State) : Prop := ∀ w ∈ xNw, va_Nw w U
theorem xN_warm {s U : State} (hW : s.WarmedH U.vm) (h : xN s) : xN U := by
  intro w hw
  have h1 := h w hw
  simp only [xNw, List.mem_cons, List.not_mem_nil, or_false] at hw
  rcases hw with rfl | rfl | rfl | rfl | rfl | rfl | rfl | rfl | rfl | rfl | rfl | rfl <;> exact va_Nw.warmF hW h1
theorem xN_same {s U : State} (hv : s.vm = U.vm) (h : xN s) : xN U := by
  intro w hw
  have h1 := h w hw
  simp only [xNw, List.mem_cons, List.not_mem_nil, or_false] at hw
  rcases hw with rfl | rfl | rfl | rfl | rfl | rfl | rfl | rfl | rfl | rfl | rfl | rfl <;> exact va_Nw.same rfl hv h1
/-- what holds of a state where the map is h and the next address sz -/
def xPre (D : va_G) (dA : Nat → ClassId) (A : Nat → Prop) (h : xH) (sz : Nat) (U : State) : Prop := U.heap.size = sz ∧ xR D A h U.heap ∧ va_K D vwCl (xT dA) U ∧ xN U
def xQ (D : va_G) (dA : Nat → ClassId) (h : xH) (sz : Nat) (Post : Option Value → xH → Nat → Prop) : Array Value → State → Outcome → State → Prop := fun _ st o t => (∃ (r : Option Value) (h1 : xH) (sz1 : Nat), o = .returned r ∧ Post r h1 sz1 ∧ xPre D dA (xA h sz) h1 sz1 t) ∧ va_F (xA h sz) st t
/-- a contract of one run of a method: from the map h with the arguments As to a map and an answer with Post -/
def xMet (l : Launch) (y : MethodName) (ws : List Cond) (fr lo mc ms : Nat) (D : va_G) (dA : Nat → ClassId) (As : List Value) (h : xH) (sz : Nat) (Post : Option Value → xH → Nat → Prop) : Prop := Met l y ws { frames := fr, cells := mc, slots := ms, locals := lo } (va_Pc As (xPre D dA (fun _ => True) h sz)) (xQ D dA h sz Post) mc ms (xA h sz)
/-- what a walk stands on -/
def xG (p : Program) (s : State) (m : MethodId) (args : Array Value) (meth : Method) (c : Code) (cc : ByteArray) (nL : Nat) (Ts : List Cond) (own : String) (ret : Option FieldType) (D : va_G) (dA : Nat → ClassId) (sz0 : Nat) : Prop :=
  p.tables.exec = Jvm.exec ∧ c.code = cc ∧ c.maxLocals = nL ∧ s.vm.findClass own = some m.cls ∧ (∀ w ∈ Ts, w.before args s = true) ∧ va_K D vwCl (xT dA) s ∧ meth.locks = false ∧ s.heap.size = sz0 ∧ xN s ∧ meth.sig.returnType = ret
/-- a point of a walk -/
def xV (p : Program) (l : Launch) (e : Env) (R : Room) (s : State) (m : MethodId) (args : Array Value) (below : List Frame) (meth : Method) (c : Code) (D : va_G) (dA : Nat → ClassId) (nL : Nat) (h0 : xH) (sz0 mc ms : Nat) (Post : Option Value → xH → Nat → Prop) (cells slots : Nat) (pc : Nat) (lv : List (Nat × Value)) (st : List Value) (h : xH) (sz : Nat) : Prop :=
  ∀ (H : Heap) (locs : List Loc) (ls : Array Slot), xR D (xA h0 sz0) h H → H.size = sz → va_S (xA h0 sz0) s.heap H locs → lv_has ls nL lv → W p l e R s m args below meth c H locs cells slots (MQ below (xQ D dA h0 sz0 Post) args s mc ms (xA h0 sz0)) (F0 m pc ls st)
theorem x_open {l : Launch} {y : MethodName} {ws ws' : List Cond} {fr lo mc ms : Nat} {D : va_G} {dA : Nat → ClassId} {As : List Value} {h : xH} {sz : Nat} {Post : Option Value → xH → Nat → Prop} {cc : ByteArray} {maxL : Nat} {ret : Option FieldType} (hy : plainName y.cls = true) (hw : ws = Cond.code y cc maxL ret :: ws') (hn : (lg_sl As).length ≤ maxL)
    (body : ∀ (p : Program) (e : Env) (s : State) (m : MethodId) (args : Array Value) (below : List Frame) (meth : Method) (c : Code), xG p s m args meth c cc maxL ws y.cls ret D dA sz → (y.name = "<init>" → meth.name = "<init>") → xV p l e (headSpec ws { frames := fr, cells := mc, slots := ms, locals := lo }).room s m args below meth c D dA maxL h sz mc ms Post 0 0 0 (lv_args 0 As) [] h sz) : xMet l y ws fr lo mc ms D dA As h sz Post := by
  refine Met.ofW (cc := cc) (maxL := maxL) (ret := ret) hy hw ?_
  intro p e s m args below meth c s₁ B hml hv
  obtain ⟨rfl, hsz, hR, hK, hN⟩ := hv
  have hown : s.vm.findClass y.cls = some m.cls := findClass_of_methodNamed B.named
  have hl := lv_entry As (n := maxL) hn
  rw [lg_entry_eq]
  exact body p e s m _ below meth c ⟨B.exec, B.bytes, hml, hown, atoms_spec (ws := ws) B.pre, hK, B.notSynchronized, hsz, hN, B.returns⟩ (fun hi => (name_of_methodNamed B.named B.method).1.trans hi) s.heap [] _ (xR_weak hR fun a k => Or.inl k) hsz va_S.rf hl
end
section
/-! ## One instruction, a row -/
def x_lk : List (Nat × Value) → Nat → Option Value
  | [], _ => none
  | q :: r, i => if q.1 = i then some q.2 else x_lk r i
theorem x_lk_mem : ∀ {lv : List (Nat × Value)} {i : Nat} {v : Value}, x_lk lv i = some v → (i, v) ∈ lv
  | [], _, _, h => by cases h
  | q :: r, i, v, h => by
    unfold x_lk at h
    by_cases k : q.1 = i
    · rw [if_pos k] at h
      have e : q.2 = v := Option.some.inj h
      rw [← k, ← e]
      exact List.mem_cons_self
    · rw [if_neg k] at h
      exact List.mem_cons_of_mem _ (x_lk_mem h)
def x_ins : List (Nat × Value) → Nat → Value → List (Nat × Value)
  | [], i, v => [(i, v)]
  | q :: r, i, v => if i < q.1 then (i, v) :: q :: r else q :: x_ins r i v
theorem x_ins_mem : ∀ {lv : List (Nat × Value)} {i : Nat} {v : Value} {q : Nat × Value}, q ∈ x_ins lv i v → q ∈ (i, v) :: lv
  | [], _, _, _, h => h
  | p :: r, i, v, q, h => by
    unfold x_ins at h
    by_cases k : i < p.1
    · rw [if_pos k] at h
      exact h
    · rw [if_neg k] at h
      rcases List.mem_cons.mp h with h | h
      · rw [h]
        exact List.mem_cons_of_mem _ List.mem_cons_self
      · rcases List.mem_cons.mp (x_ins_mem h) with h | h
        · rw [h]
          exact List.mem_cons_self
        · exact List.mem_cons_of_mem _ (List.mem_cons_of_mem _ h)
def x_s1 (lv : List (Nat × Value)) (i : Nat) (v : Value) : List (Nat × Value) := x_ins (lv.filter (fun q => !(q.1 == i) && !(q.1 + 1 == i && q.2.category == 2))) i v
def x_s2 (lv : List (Nat × Value)) (i : Nat) (v : Value) : List (Nat × Value) := x_ins (lv.filter (fun q => !(q.1 == i) && (!(q.1 == i + 1) && !(q.1 + 1 == i && q.2.category == 2)))) i v
theorem x_hasI {ls : Array Slot} {nL : Nat} {lv : List (Nat × Value)} {i : Nat} {v : Value} (h : lv_has ls nL ((i, v) :: lv)) : lv_has ls nL (x_ins lv i v) := ⟨h.1, h.2.1, fun q hq => h.2.2 q (x_ins_mem hq)⟩
theorem x_hasL {ls : Array Slot} {nL : Nat} {lv : List (Nat × Value)} {i : Nat} {v : Value} (h : lv_has ls nL lv) (k : x_lk lv i = some v) : ls[i]? = some (.val v) := h.2.2 (i, v) (x_lk_mem k)
section XR
variable {p : Program} {l : Launch} {e : Env} {R : Room} {s : State} {m : MethodId} {args : Array Value} {below : List Frame} {meth : Method} {c : Code} {D : va_G} {dA : Nat → ClassId} {nL : Nat} {h0 : xH} {sz0 mc ms : Nat} {Post : Option Value → xH → Nat → Prop} {cells slots pc : Nat} {lv : List (Nat × Value)} {st : List Value} {h : xH} {sz : Nat} {cc : ByteArray} {Ts : List Cond} {own : String} {ret : Option FieldType}
theorem x_iload_n (G : xG p s m args meth c cc nL Ts own ret D dA sz0) {k : Fin 4} {x : Int32} (hd : decode cc pc = .ok (.iload_n k, 1)) (hl : x_lk lv k = some (.int x)) (kk : xV p l e R s m args below meth c D dA nL h0 sz0 mc ms Post cells slots (pc + 1) lv (.int x :: st) h sz) : xV p l e R s m args below meth c D dA nL h0 sz0 mc ms Post cells slots pc lv st h sz := fun H locs ls hR hz hS hv => lv_iload_n G.1 G.2.1 hd rfl (x_hasL hv hl) (kk H locs ls hR hz hS hv)
theorem x_iload (G : xG p s m args meth c cc nL Ts own ret D dA sz0) {k : Nat} {x : Int32} (hd : decode cc pc = .ok (.iload k, 2)) (hl : x_lk lv k = some (.int x)) (kk : xV p l e R s m args below meth c D dA nL h0 sz0 mc ms Post cells slots (pc + 2) lv (.int x :: st) h sz) : xV p l e R s m args below meth c D dA nL h0 sz0 mc ms Post cells slots pc lv st h sz := fun H locs ls hR hz hS hv => lv_iload G.1 G.2.1 hd (x_hasL hv hl) (kk H locs ls hR hz hS hv)
theorem x_lload_n (G : xG p s m args meth c cc nL Ts own ret D dA sz0) {k : Fin 4} {x : Int64} (hd : decode cc pc = .ok (.lload_n k, 1)) (hl : x_lk lv k = some (.long x)) (kk : xV p l e R s m args below meth c D dA nL h0 sz0 mc ms Post cells slots (pc + 1) lv (.long x :: st) h sz) : xV p l e R s m args below meth c D dA nL h0 sz0 mc ms Post cells slots pc lv st h sz := fun H locs ls hR hz hS hv => lv_lload_n G.1 G.2.1 hd rfl (x_hasL hv hl) (kk H locs ls hR hz hS hv)
theorem x_lload (G : xG p s m args meth c cc nL Ts own ret D dA sz0) {k : Nat} {x : Int64} (hd : decode cc pc = .ok (.lload k, 2)) (hl : x_lk lv k = some (.long x)) (kk : xV p l e R s m args below meth c D dA nL h0 sz0 mc ms Post cells slots (pc + 2) lv (.long x :: st) h sz) : xV p l e R s m args below meth c D dA nL h0 sz0 mc ms Post cells slots pc lv st h sz := fun H locs ls hR hz hS hv => lv_lload G.1 G.2.1 hd (x_hasL hv hl) (kk H locs ls hR hz hS hv)
theorem x_aload_n (G : xG p s m args meth c cc nL Ts own ret D dA sz0) {k : Fin 4} {x : Nat} (hd : decode cc pc = .ok (.aload_n k, 1)) (hl : x_lk lv k = some (.ref x)) (kk : xV p l e R s m args below meth c D dA nL h0 sz0 mc ms Post cells slots (pc + 1) lv (.ref x :: st) h sz) : xV p l e R s m args below meth c D dA nL h0 sz0 mc ms Post cells slots pc lv st h sz := fun H locs ls hR hz hS hv => lv_aload_n G.1 G.2.1 hd rfl (x_hasL hv hl) (kk H locs ls hR hz hS hv)
theorem x_aload (G : xG p s m args meth c cc nL Ts own ret D dA sz0) {k : Nat} {x : Nat} (hd : decode cc pc = .ok (.aload k, 2)) (hl : x_lk lv k = some (.ref x)) (kk : xV p l e R s m args below meth c D dA nL h0 sz0 mc ms Post cells slots (pc + 2) lv (.ref x :: st) h sz) : xV p l e R s m args below meth c D dA nL h0 sz0 mc ms Post cells slots pc lv st h sz := fun H locs ls hR hz hS hv => lv_aload G.1 G.2.1 hd (x_hasL hv hl) (kk H locs ls hR hz hS hv)
theorem x_istore_n (G : xG p s m args meth c cc nL Ts own ret D dA sz0) {k : Fin 4} {x : Int32} (hd : decode cc pc = .ok (.istore_n k, 1)) (hn : (k : Nat) < nL) (kk : xV p l e R s m args below meth c D dA nL h0 sz0 mc ms Post cells slots (pc + 1) (x_s1 lv k (.int x)) st h sz) : xV p l e R s m args below meth c D dA nL h0 sz0 mc ms Post cells slots pc lv (.int x :: st) h sz := fun H locs ls hR hz hS hv => lv_istore_n G.1 G.2.1 hd rfl hv hn rfl (fun ls1 hv1 => kk H locs ls1 hR hz hS (x_hasI hv1))
theorem x_istore (G : xG p s m args meth c cc nL Ts own ret D dA sz0) {k : Nat} {x : Int32} (hd : decode cc pc = .ok (.istore k, 2)) (hn : k < nL) (kk : xV p l e R s m args below meth c D dA nL h0 sz0 mc ms Post cells slots (pc + 2) (x_s1 lv k (.int x)) st h sz) : xV p l e R s m args below meth c D dA nL h0 sz0 mc ms Post cells slots pc lv (.int x :: st) h sz := fun H locs ls hR hz hS hv => lv_istore G.1 G.2.1 hd hv hn rfl (fun ls1 hv1 => kk H locs ls1 hR hz hS (x_hasI hv1))
theorem x_lstore_n (G : xG p s m args meth c cc nL Ts own ret D dA sz0) {k : Fin 4} {x : Int64} (hd : decode cc pc = .ok (.lstore_n k, 1)) (hn : (k : Nat) + 1 < nL) (kk : xV p l e R s m args below meth c D dA nL h0 sz0 mc ms Post cells slots (pc + 1) (x_s2 lv k (.long x)) st h sz) : xV p l e R s m args below meth c D dA nL h0 sz0 mc ms Post cells slots pc lv (.long x :: st) h sz := fun H locs ls hR hz hS hv => lv_lstore_n G.1 G.2.1 hd rfl hv hn rfl (fun ls1 hv1 => kk H locs ls1 hR hz hS (x_hasI hv1))
theorem x_lstore (G : xG p s m args meth c cc nL Ts own ret D dA sz0) {k : Nat} {x : Int64} (hd : decode cc pc = .ok (.lstore k, 2)) (hn : k + 1 < nL) (kk : xV p l e R s m args below meth c D dA nL h0 sz0 mc ms Post cells slots (pc + 2) (x_s2 lv k (.long x)) st h sz) : xV p l e R s m args below meth c D dA nL h0 sz0 mc ms Post cells slots pc lv (.long x :: st) h sz := fun H locs ls hR hz hS hv => lv_lstore G.1 G.2.1 hd hv hn rfl (fun ls1 hv1 => kk H locs ls1 hR hz hS (x_hasI hv1))
theorem x_astore_n (G : xG p s m args meth c cc nL Ts own ret D dA sz0) {k : Fin 4} {x : Nat} (hd : decode cc pc = .ok (.astore_n k, 1)) (hn : (k : Nat) < nL) (kk : xV p l e R s m args below meth c D dA nL h0 sz0 mc ms Post cells slots (pc + 1) (x_s1 lv k (.ref x)) st h sz) : xV p l e R s m args below meth c D dA nL h0 sz0 mc ms Post cells slots pc lv (.ref x :: st) h sz := fun H locs ls hR hz hS hv => lv_astore_n G.1 G.2.1 hd rfl hv hn rfl (fun ls1 hv1 => kk H locs ls1 hR hz hS (x_hasI hv1))
theorem x_astore (G : xG p s m args meth c cc nL Ts own ret D dA sz0) {k : Nat} {x : Nat} (hd : decode cc pc = .ok (.astore k, 2)) (hn : k < nL) (kk : xV p l e R s m args below meth c D dA nL h0 sz0 mc ms Post cells slots (pc + 2) (x_s1 lv k (.ref x)) st h sz) : xV p l e R s m args below meth c D dA nL h0 sz0 mc ms Post cells slots pc lv (.ref x :: st) h sz := fun H locs ls hR hz hS hv => lv_astore G.1 G.2.1 hd hv hn rfl (fun ls1 hv1 => kk H locs ls1 hR hz hS (x_hasI hv1))
theorem x_iinc (G : xG p s m args meth c cc nL Ts own ret D dA sz0) {k : Nat} {n : Int} {x : Int32} (hd : decode cc pc = .ok (.iinc k n, 3)) (hl : x_lk lv k = some (.int x)) (hn : k < nL) (kk : xV p l e R s m args below meth c D dA nL h0 sz0 mc ms Post cells slots (pc + 3) (x_s1 lv k (.int (x + Int32.ofInt n))) st h sz) : xV p l e R s m args below meth c D dA nL h0 sz0 mc ms Post cells slots pc lv st h sz := fun H locs ls hR hz hS hv => by
  obtain ⟨j, hj⟩ := List.getElem?_of_mem (x_lk_mem hl)
  exact lv_iinc G.1 G.2.1 hd hv hj rfl hn rfl (fun ls1 hv1 => kk H locs ls1 hR hz hS (x_hasI hv1))
theorem x_iconst (G : xG p s m args meth c cc nL Ts own ret D dA sz0) {n : Int} (hd : decode cc pc = .ok (.iconst n, 1)) (kk : xV p l e R s m args below meth c D dA nL h0 sz0 mc ms Post cells slots (pc + 1) lv (.int (Int32.ofInt n) :: st) h sz) : xV p l e R s m args below meth c D dA nL h0 sz0 mc ms Post cells slots pc lv st h sz := fun H locs ls hR hz hS hv => lv_iconst G.1 G.2.1 hd rfl (kk H locs ls hR hz hS hv)
theorem x_bipush (G : xG p s m args meth c cc nL Ts own ret D dA sz0) {n : Int} (hd : decode cc pc = .ok (.bipush n, 2)) (kk : xV p l e R s m args below meth c D dA nL h0 sz0 mc ms Post cells slots (pc + 2) lv (.int ((Int8.ofInt n).toInt32) :: st) h sz) : xV p l e R s m args below meth c D dA nL h0 sz0 mc ms Post cells slots pc lv st h sz := fun H locs ls hR hz hS hv => lv_bipush G.1 G.2.1 hd rfl (kk H locs ls hR hz hS hv)
theorem x_sipush (G : xG p s m args meth c cc nL Ts own ret D dA sz0) {n : Int} (hd : decode cc pc = .ok (.sipush n, 3)) (kk : xV p l e R s m args below meth c D dA nL h0 sz0 mc ms Post cells slots (pc + 3) lv (.int ((Int16.ofInt n).toInt32) :: st) h sz) : xV p l e R s m args below meth c D dA nL h0 sz0 mc ms Post cells slots pc lv st h sz := fun H locs ls hR hz hS hv => lv_sipush G.1 G.2.1 hd rfl (kk H locs ls hR hz hS hv)
theorem x_lconst (G : xG p s m args meth c cc nL Ts own ret D dA sz0) {n : Fin 2} (hd : decode cc pc = .ok (.lconst n, 1)) (kk : xV p l e R s m args below meth c D dA nL h0 sz0 mc ms Post cells slots (pc + 1) lv (.long (Int64.ofNat (n : Nat)) :: st) h sz) : xV p l e R s m args below meth c D dA nL h0 sz0 mc ms Post cells slots pc lv st h sz := fun H locs ls hR hz hS hv => lv_lconst G.1 G.2.1 hd rfl (kk H locs ls hR hz hS hv)
theorem x_ldc (G : xG p s m args meth c cc nL Ts own ret D dA sz0) {i : Nat} (v : Int32) (hc : Cond.constant own i v ∈ Ts) (hd : decode cc pc = .ok (.ldc i, 2)) (kk : xV p l e R s m args below meth c D dA nL h0 sz0 mc ms Post cells slots (pc + 2) lv (.int v :: st) h sz) : xV p l e R s m args below meth c D dA nL h0 sz0 mc ms Post cells slots pc lv st h sz := fun H locs ls hR hz hS hv => lv_ldc G.1 G.2.1 G.2.2.2.1 (G.2.2.2.2.1 _ hc) hd (kk H locs ls hR hz hS hv)
theorem x_ldc_w (G : xG p s m args meth c cc nL Ts own ret D dA sz0) {i : Nat} (v : Int32) (hc : Cond.constant own i v ∈ Ts) (hd : decode cc pc = .ok (.ldc_w i, 3)) (kk : xV p l e R s m args below meth c D dA nL h0 sz0 mc ms Post cells slots (pc + 3) lv (.int v :: st) h sz) : xV p l e R s m args below meth c D dA nL h0 sz0 mc ms Post cells slots pc lv st h sz := fun H locs ls hR hz hS hv => lv_ldcw G.1 G.2.1 G.2.2.2.1 (G.2.2.2.2.1 _ hc) hd (kk H locs ls hR hz hS hv)
theorem x_ldc2_w (G : xG p s m args meth c cc nL Ts own ret D dA sz0) {i : Nat} (v : Int64) (hc : Cond.constantLong own i v ∈ Ts) (hd : decode cc pc = .ok (.ldc2_w i, 3)) (kk : xV p l e R s m args below meth c D dA nL h0 sz0 mc ms Post cells slots (pc + 3) lv (.long v :: st) h sz) : xV p l e R s m args below meth c D dA nL h0 sz0 mc ms Post cells slots pc lv st h sz := fun H locs ls hR hz hS hv => lv_ldc2 G.1 G.2.1 G.2.2.2.1 (G.2.2.2.2.1 _ hc) hd (kk H locs ls hR hz hS hv)
theorem x_iadd (G : xG p s m args meth c cc nL Ts own ret D dA sz0) {x y : Int32} (hd : decode cc pc = .ok (.iadd, 1)) (kk : xV p l e R s m args below meth c D dA nL h0 sz0 mc ms Post cells slots (pc + 1) lv (.int (x + y) :: st) h sz) : xV p l e R s m args below meth c D dA nL h0 sz0 mc ms Post cells slots pc lv (.int y :: .int x :: st) h sz := fun H locs ls hR hz hS hv => lv_iadd G.1 G.2.1 hd (kk H locs ls hR hz hS hv)
theorem x_isub (G : xG p s m args meth c cc nL Ts own ret D dA sz0) {x y : Int32} (hd : decode cc pc = .ok (.isub, 1)) (kk : xV p l e R s m args below meth c D dA nL h0 sz0 mc ms Post cells slots (pc + 1) lv (.int (x - y) :: st) h sz) : xV p l e R s m args below meth c D dA nL h0 sz0 mc ms Post cells slots pc lv (.int y :: .int x :: st) h sz := fun H locs ls hR hz hS hv => lv_isub G.1 G.2.1 hd (kk H locs ls hR hz hS hv)
theorem x_imul (G : xG p s m args meth c cc nL Ts own ret D dA sz0) {x y : Int32} (hd : decode cc pc = .ok (.imul, 1)) (kk : xV p l e R s m args below meth c D dA nL h0 sz0 mc ms Post cells slots (pc + 1) lv (.int (x * y) :: st) h sz) : xV p l e R s m args below meth c D dA nL h0 sz0 mc ms Post cells slots pc lv (.int y :: .int x :: st) h sz := fun H locs ls hR hz hS hv => lv_imul G.1 G.2.1 hd (kk H locs ls hR hz hS hv)
theorem x_iand (G : xG p s m args meth c cc nL Ts own ret D dA sz0) {x y : Int32} (hd : decode cc pc = .ok (.iand, 1)) (kk : xV p l e R s m args below meth c D dA nL h0 sz0 mc ms Post cells slots (pc + 1) lv (.int (x &&& y) :: st) h sz) : xV p l e R s m args below meth c D dA nL h0 sz0 mc ms Post cells slots pc lv (.int y :: .int x :: st) h sz := fun H locs ls hR hz hS hv => lv_iand G.1 G.2.1 hd (kk H locs ls hR hz hS hv)
theorem x_ior (G : xG p s m args meth c cc nL Ts own ret D dA sz0) {x y : Int32} (hd : decode cc pc = .ok (.ior, 1)) (kk : xV p l e R s m args below meth c D dA nL h0 sz0 mc ms Post cells slots (pc + 1) lv (.int (x ||| y) :: st) h sz) : xV p l e R s m args below meth c D dA nL h0 sz0 mc ms Post cells slots pc lv (.int y :: .int x :: st) h sz := fun H locs ls hR hz hS hv => lv_ior G.1 G.2.1 hd (kk H locs ls hR hz hS hv)
theorem x_ixor (G : xG p s m args meth c cc nL Ts own ret D dA sz0) {x y : Int32} (hd : decode cc pc = .ok (.ixor, 1)) (kk : xV p l e R s m args below meth c D dA nL h0 sz0 mc ms Post cells slots (pc + 1) lv (.int (x ^^^ y) :: st) h sz) : xV p l e R s m args below meth c D dA nL h0 sz0 mc ms Post cells slots pc lv (.int y :: .int x :: st) h sz := fun H locs ls hR hz hS hv => lv_ixor G.1 G.2.1 hd (kk H locs ls hR hz hS hv)
theorem x_ishl (G : xG p s m args meth c cc nL Ts own ret D dA sz0) {x y : Int32} (hd : decode cc pc = .ok (.ishl, 1)) (kk : xV p l e R s m args below meth c D dA nL h0 sz0 mc ms Post cells slots (pc + 1) lv (.int (x <<< (y &&& 31)) :: st) h sz) : xV p l e R s m args below meth c D dA nL h0 sz0 mc ms Post cells slots pc lv (.int y :: .int x :: st) h sz := fun H locs ls hR hz hS hv => lv_ishl G.1 G.2.1 hd (kk H locs ls hR hz hS hv)
theorem x_ishr (G : xG p s m args meth c cc nL Ts own ret D dA sz0) {x y : Int32} (hd : decode cc pc = .ok (.ishr, 1)) (kk : xV p l e R s m args below meth c D dA nL h0 sz0 mc ms Post cells slots (pc + 1) lv (.int (x >>> (y &&& 31)) :: st) h sz) : xV p l e R s m args below meth c D dA nL h0 sz0 mc ms Post cells slots pc lv (.int y :: .int x :: st) h sz := fun H locs ls hR hz hS hv => lv_ishr G.1 G.2.1 hd (kk H locs ls hR hz hS hv)
theorem x_iushr (G : xG p s m args meth c cc nL Ts own ret D dA sz0) {x y : Int32} (hd : decode cc pc = .ok (.iushr, 1)) (kk : xV p l e R s m args below meth c D dA nL h0 sz0 mc ms Post cells slots (pc + 1) lv (.int ((x.toUInt32 >>> (y.toUInt32 &&& Int32.toUInt32 31)).toInt32) :: st) h sz) : xV p l e R s m args below meth c D dA nL h0 sz0 mc ms Post cells slots pc lv (.int y :: .int x :: st) h sz := fun H locs ls hR hz hS hv => lv_iushr G.1 G.2.1 hd rfl (kk H locs ls hR hz hS hv)
theorem x_idiv (G : xG p s m args meth c cc nL Ts own ret D dA sz0) {x y : Int32} (hd : decode cc pc = .ok (.idiv, 1)) (hne : ¬ y = 0) (kk : xV p l e R s m args below meth c D dA nL h0 sz0 mc ms Post cells slots (pc + 1) lv (.int (x / y) :: st) h sz) : xV p l e R s m args below meth c D dA nL h0 sz0 mc ms Post cells slots pc lv (.int y :: .int x :: st) h sz := fun H locs ls hR hz hS hv => lv_idiv G.1 G.2.1 hd hne (kk H locs ls hR hz hS hv)
theorem x_irem (G : xG p s m args meth c cc nL Ts own ret D dA sz0) {x y : Int32} (hd : decode cc pc = .ok (.irem, 1)) (hne : ¬ y = 0) (kk : xV p l e R s m args below meth c D dA nL h0 sz0 mc ms Post cells slots (pc + 1) lv (.int (x - x / y * y) :: st) h sz) : xV p l e R s m args below meth c D dA nL h0 sz0 mc ms Post cells slots pc lv (.int y :: .int x :: st) h sz := fun H locs ls hR hz hS hv => lv_irem G.1 G.2.1 hd hne (kk H locs ls hR hz hS hv)
theorem x_ineg (G : xG p s m args meth c cc nL Ts own ret D dA sz0) {x : Int32} (hd : decode cc pc = .ok (.ineg, 1)) (kk : xV p l e R s m args below meth c D dA nL h0 sz0 mc ms Post cells slots (pc + 1) lv (.int (-x) :: st) h sz) : xV p l e R s m args below meth c D dA nL h0 sz0 mc ms Post cells slots pc lv (.int x :: st) h sz := fun H locs ls hR hz hS hv => lv_ineg G.1 G.2.1 hd (kk H locs ls hR hz hS hv)
theorem x_ladd (G : xG p s m args meth c cc nL Ts own ret D dA sz0) {x y : Int64} (hd : decode cc pc = .ok (.ladd, 1)) (kk : xV p l e R s m args below meth c D dA nL h0 sz0 mc ms Post cells slots (pc + 1) lv (.long (x + y) :: st) h sz) : xV p l e R s m args below meth c D dA nL h0 sz0 mc ms Post cells slots pc lv (.long y :: .long x :: st) h sz := fun H locs ls hR hz hS hv => lv_ladd G.1 G.2.1 hd (kk H locs ls hR hz hS hv)
theorem x_lsub (G : xG p s m args meth c cc nL Ts own ret D dA sz0) {x y : Int64} (hd : decode cc pc = .ok (.lsub, 1)) (kk : xV p l e R s m args below meth c D dA nL h0 sz0 mc ms Post cells slots (pc + 1) lv (.long (x - y) :: st) h sz) : xV p l e R s m args below meth c D dA nL h0 sz0 mc ms Post cells slots pc lv (.long y :: .long x :: st) h sz := fun H locs ls hR hz hS hv => lv_lsub G.1 G.2.1 hd (kk H locs ls hR hz hS hv)
theorem x_lmul (G : xG p s m args meth c cc nL Ts own ret D dA sz0) {x y : Int64} (hd : decode cc pc = .ok (.lmul, 1)) (kk : xV p l e R s m args below meth c D dA nL h0 sz0 mc ms Post cells slots (pc + 1) lv (.long (x * y) :: st) h sz) : xV p l e R s m args below meth c D dA nL h0 sz0 mc ms Post cells slots pc lv (.long y :: .long x :: st) h sz := fun H locs ls hR hz hS hv => lv_lmul G.1 G.2.1 hd (kk H locs ls hR hz hS hv)
theorem x_land (G : xG p s m args meth c cc nL Ts own ret D dA sz0) {x y : Int64} (hd : decode cc pc = .ok (.land, 1)) (kk : xV p l e R s m args below meth c D dA nL h0 sz0 mc ms Post cells slots (pc + 1) lv (.long (x &&& y) :: st) h sz) : xV p l e R s m args below meth c D dA nL h0 sz0 mc ms Post cells slots pc lv (.long y :: .long x :: st) h sz := fun H locs ls hR hz hS hv => lv_land G.1 G.2.1 hd (kk H locs ls hR hz hS hv)
theorem x_lxor (G : xG p s m args meth c cc nL Ts own ret D dA sz0) {x y : Int64} (hd : decode cc pc = .ok (.lxor, 1)) (kk : xV p l e R s m args below meth c D dA nL h0 sz0 mc ms Post cells slots (pc + 1) lv (.long (x ^^^ y) :: st) h sz) : xV p l e R s m args below meth c D dA nL h0 sz0 mc ms Post cells slots pc lv (.long y :: .long x :: st) h sz := fun H locs ls hR hz hS hv => lv_lxor G.1 G.2.1 hd (kk H locs ls hR hz hS hv)
theorem x_ldiv (G : xG p s m args meth c cc nL Ts own ret D dA sz0) {x y : Int64} (hd : decode cc pc = .ok (.ldiv, 1)) (hne : ¬ y = 0) (kk : xV p l e R s m args below meth c D dA nL h0 sz0 mc ms Post cells slots (pc + 1) lv (.long (x / y) :: st) h sz) : xV p l e R s m args below meth c D dA nL h0 sz0 mc ms Post cells slots pc lv (.long y :: .long x :: st) h sz := fun H locs ls hR hz hS hv => lv_ldiv G.1 G.2.1 hd hne (kk H locs ls hR hz hS hv)
theorem x_lrem (G : xG p s m args meth c cc nL Ts own ret D dA sz0) {x y : Int64} (hd : decode cc pc = .ok (.lrem, 1)) (hne : ¬ y = 0) (kk : xV p l e R s m args below meth c D dA nL h0 sz0 mc ms Post cells slots (pc + 1) lv (.long (x - x / y * y) :: st) h sz) : xV p l e R s m args below meth c D dA nL h0 sz0 mc ms Post cells slots pc lv (.long y :: .long x :: st) h sz := fun H locs ls hR hz hS hv => lv_lrem G.1 G.2.1 hd hne (kk H locs ls hR hz hS hv)
theorem x_lneg (G : xG p s m args meth c cc nL Ts own ret D dA sz0) {x : Int64} (hd : decode cc pc = .ok (.lneg, 1)) (kk : xV p l e R s m args below meth c D dA nL h0 sz0 mc ms Post cells slots (pc + 1) lv (.long (-x) :: st) h sz) : xV p l e R s m args below meth c D dA nL h0 sz0 mc ms Post cells slots pc lv (.long x :: st) h sz := fun H locs ls hR hz hS hv => lv_lneg G.1 G.2.1 hd (kk H locs ls hR hz hS hv)
theorem x_lcmp (G : xG p s m args meth c cc nL Ts own ret D dA sz0) {x y : Int64} (hd : decode cc pc = .ok (.lcmp, 1)) (kk : xV p l e R s m args below meth c D dA nL h0 sz0 mc ms Post cells slots (pc + 1) lv (.int (lg_cmp x y) :: st) h sz) : xV p l e R s m args below meth c D dA nL h0 sz0 mc ms Post cells slots pc lv (.long y :: .long x :: st) h sz := fun H locs ls hR hz hS hv => W.lcmp G.1 G.2.1 hd (kk H locs ls hR hz hS hv)
theorem x_i2l (G : xG p s m args meth c cc nL Ts own ret D dA sz0) {x : Int32} (hd : decode cc pc = .ok (.i2l, 1)) (kk : xV p l e R s m args below meth c D dA nL h0 sz0 mc ms Post cells slots (pc + 1) lv (.long x.toInt64 :: st) h sz) : xV p l e R s m args below meth c D dA nL h0 sz0 mc ms Post cells slots pc lv (.int x :: st) h sz := fun H locs ls hR hz hS hv => lv_i2l G.1 G.2.1 hd rfl (kk H locs ls hR hz hS hv)
theorem x_l2i (G : xG p s m args meth c cc nL Ts own ret D dA sz0) {x : Int64} (hd : decode cc pc = .ok (.l2i, 1)) (kk : xV p l e R s m args below meth c D dA nL h0 sz0 mc ms Post cells slots (pc + 1) lv (.int x.toInt32 :: st) h sz) : xV p l e R s m args below meth c D dA nL h0 sz0 mc ms Post cells slots pc lv (.long x :: st) h sz := fun H locs ls hR hz hS hv => lv_l2i G.1 G.2.1 hd rfl (kk H locs ls hR hz hS hv)
theorem x_dup (G : xG p s m args meth c cc nL Ts own ret D dA sz0) {v : Value} (hd : decode cc pc = .ok (.dup, 1)) (hc : v.category = 1) (kk : xV p l e R s m args below meth c D dA nL h0 sz0 mc ms Post cells slots (pc + 1) lv (v :: v :: st) h sz) : xV p l e R s m args below meth c D dA nL h0 sz0 mc ms Post cells slots pc lv (v :: st) h sz := fun H locs ls hR hz hS hv => lv_dup G.1 G.2.1 hd hc (kk H locs ls hR hz hS hv)
theorem x_pop (G : xG p s m args meth c cc nL Ts own ret D dA sz0) {v : Value} (hd : decode cc pc = .ok (.pop, 1)) (hc : v.category = 1) (kk : xV p l e R s m args below meth c D dA nL h0 sz0 mc ms Post cells slots (pc + 1) lv st h sz) : xV p l e R s m args below meth c D dA nL h0 sz0 mc ms Post cells slots pc lv (v :: st) h sz := fun H locs ls hR hz hS hv => lv_pop G.1 G.2.1 hd hc (kk H locs ls hR hz hS hv)
theorem x_dup2 (G : xG p s m args meth c cc nL Ts own ret D dA sz0) {v w : Value} (hd : decode cc pc = .ok (.dup2, 1)) (hc : v.category = 1) (hc2 : w.category = 1) (kk : xV p l e R s m args below meth c D dA nL h0 sz0 mc ms Post cells slots (pc + 1) lv (v :: w :: v :: w :: st) h sz) : xV p l e R s m args below meth c D dA nL h0 sz0 mc ms Post cells slots pc lv (v :: w :: st) h sz := fun H locs ls hR hz hS hv => lv_dup2_11 G.1 G.2.1 hd hc hc2 (kk H locs ls hR hz hS hv)
theorem x_if_eq (G : xG p s m args meth c cc nL Ts own ret D dA sz0) {x : Int32} {off : Int} (tgt : Nat) (hd : decode cc pc = .ok (.ifCond .eq off, 3)) (ht : (pc : Int) + off = (tgt : Int)) (kt : x = 0 → xV p l e R s m args below meth c D dA nL h0 sz0 mc ms Post cells slots tgt lv st h sz) (kf : ¬ x = 0 → xV p l e R s m args below meth c D dA nL h0 sz0 mc ms Post cells slots (pc + 3) lv st h sz) : xV p l e R s m args below meth c D dA nL h0 sz0 mc ms Post cells slots pc lv (.int x :: st) h sz := fun H locs ls hR hz hS hv => lv_if_eq G.1 G.2.1 hd ht (fun q => kt q H locs ls hR hz hS hv) (fun q => kf q H locs ls hR hz hS hv)
theorem x_if_ne (G : xG p s m args meth c cc nL Ts own ret D dA sz0) {x : Int32} {off : Int} (tgt : Nat) (hd : decode cc pc = .ok (.ifCond .ne off, 3)) (ht : (pc : Int) + off = (tgt : Int)) (kt : ¬ x = 0 → xV p l e R s m args below meth c D dA nL h0 sz0 mc ms Post cells slots tgt lv st h sz) (kf : x = 0 → xV p l e R s m args below meth c D dA nL h0 sz0 mc ms Post cells slots (pc + 3) lv st h sz) : xV p l e R s m args below meth c D dA nL h0 sz0 mc ms Post cells slots pc lv (.int x :: st) h sz := fun H locs ls hR hz hS hv => lv_if_ne G.1 G.2.1 hd ht (fun q => kt q H locs ls hR hz hS hv) (fun q => kf q H locs ls hR hz hS hv)
theorem x_if_lt (G : xG p s m args meth c cc nL Ts own ret D dA sz0) {x : Int32} {off : Int} (tgt : Nat) (hd : decode cc pc = .ok (.ifCond .lt off, 3)) (ht : (pc : Int) + off = (tgt : Int)) (kt : x < 0 → xV p l e R s m args below meth c D dA nL h0 sz0 mc ms Post cells slots tgt lv st h sz) (kf : ¬ x < 0 → xV p l e R s m args below meth c D dA nL h0 sz0 mc ms Post cells slots (pc + 3) lv st h sz) : xV p l e R s m args below meth c D dA nL h0 sz0 mc ms Post cells slots pc lv (.int x :: st) h sz := fun H locs ls hR hz hS hv => lv_if_lt G.1 G.2.1 hd ht (fun q => kt q H locs ls hR hz hS hv) (fun q => kf q H locs ls hR hz hS hv)
theorem x_if_ge (G : xG p s m args meth c cc nL Ts own ret D dA sz0) {x : Int32} {off : Int} (tgt : Nat) (hd : decode cc pc = .ok (.ifCond .ge off, 3)) (ht : (pc : Int) + off = (tgt : Int)) (kt : 0 ≤ x → xV p l e R s m args below meth c D dA nL h0 sz0 mc ms Post cells slots tgt lv st h sz) (kf : ¬ 0 ≤ x → xV p l e R s m args below meth c D dA nL h0 sz0 mc ms Post cells slots (pc + 3) lv st h sz) : xV p l e R s m args below meth c D dA nL h0 sz0 mc ms Post cells slots pc lv (.int x :: st) h sz := fun H locs ls hR hz hS hv => lv_if_ge G.1 G.2.1 hd ht (fun q => kt q H locs ls hR hz hS hv) (fun q => kf q H locs ls hR hz hS hv)
theorem x_if_gt (G : xG p s m args meth c cc nL Ts own ret D dA sz0) {x : Int32} {off : Int} (tgt : Nat) (hd : decode cc pc = .ok (.ifCond .gt off, 3)) (ht : (pc : Int) + off = (tgt : Int)) (kt : 0 < x → xV p l e R s m args below meth c D dA nL h0 sz0 mc ms Post cells slots tgt lv st h sz) (kf : ¬ 0 < x → xV p l e R s m args below meth c D dA nL h0 sz0 mc ms Post cells slots (pc + 3) lv st h sz) : xV p l e R s m args below meth c D dA nL h0 sz0 mc ms Post cells slots pc lv (.int x :: st) h sz := fun H locs ls hR hz hS hv => lv_if_gt G.1 G.2.1 hd ht (fun q => kt q H locs ls hR hz hS hv) (fun q => kf q H locs ls hR hz hS hv)
theorem x_if_le (G : xG p s m args meth c cc nL Ts own ret D dA sz0) {x : Int32} {off : Int} (tgt : Nat) (hd : decode cc pc = .ok (.ifCond .le off, 3)) (ht : (pc : Int) + off = (tgt : Int)) (kt : x ≤ 0 → xV p l e R s m args below meth c D dA nL h0 sz0 mc ms Post cells slots tgt lv st h sz) (kf : ¬ x ≤ 0 → xV p l e R s m args below meth c D dA nL h0 sz0 mc ms Post cells slots (pc + 3) lv st h sz) : xV p l e R s m args below meth c D dA nL h0 sz0 mc ms Post cells slots pc lv (.int x :: st) h sz := fun H locs ls hR hz hS hv => lv_if_le G.1 G.2.1 hd ht (fun q => kt q H locs ls hR hz hS hv) (fun q => kf q H locs ls hR hz hS hv)
theorem x_icmp_eq (G : xG p s m args meth c cc nL Ts own ret D dA sz0) {x y : Int32} {off : Int} (tgt : Nat) (hd : decode cc pc = .ok (.if_icmp .eq off, 3)) (ht : (pc : Int) + off = (tgt : Int)) (kt : x = y → xV p l e R s m args below meth c D dA nL h0 sz0 mc ms Post cells slots tgt lv st h sz) (kf : ¬ x = y → xV p l e R s m args below meth c D dA nL h0 sz0 mc ms Post cells slots (pc + 3) lv st h sz) : xV p l e R s m args below meth c D dA nL h0 sz0 mc ms Post cells slots pc lv (.int y :: .int x :: st) h sz := fun H locs ls hR hz hS hv => lv_icmp_eq G.1 G.2.1 hd ht (fun q => kt q H locs ls hR hz hS hv) (fun q => kf q H locs ls hR hz hS hv)
theorem x_icmp_ne (G : xG p s m args meth c cc nL Ts own ret D dA sz0) {x y : Int32} {off : Int} (tgt : Nat) (hd : decode cc pc = .ok (.if_icmp .ne off, 3)) (ht : (pc : Int) + off = (tgt : Int)) (kt : ¬ x = y → xV p l e R s m args below meth c D dA nL h0 sz0 mc ms Post cells slots tgt lv st h sz) (kf : x = y → xV p l e R s m args below meth c D dA nL h0 sz0 mc ms Post cells slots (pc + 3) lv st h sz) : xV p l e R s m args below meth c D dA nL h0 sz0 mc ms Post cells slots pc lv (.int y :: .int x :: st) h sz := fun H locs ls hR hz hS hv => lv_icmp_ne G.1 G.2.1 hd ht (fun q => kt q H locs ls hR hz hS hv) (fun q => kf q H locs ls hR hz hS hv)
theorem x_icmp_lt (G : xG p s m args meth c cc nL Ts own ret D dA sz0) {x y : Int32} {off : Int} (tgt : Nat) (hd : decode cc pc = .ok (.if_icmp .lt off, 3)) (ht : (pc : Int) + off = (tgt : Int)) (kt : x < y → xV p l e R s m args below meth c D dA nL h0 sz0 mc ms Post cells slots tgt lv st h sz) (kf : ¬ x < y → xV p l e R s m args below meth c D dA nL h0 sz0 mc ms Post cells slots (pc + 3) lv st h sz) : xV p l e R s m args below meth c D dA nL h0 sz0 mc ms Post cells slots pc lv (.int y :: .int x :: st) h sz := fun H locs ls hR hz hS hv => lv_icmp_lt G.1 G.2.1 hd ht (fun q => kt q H locs ls hR hz hS hv) (fun q => kf q H locs ls hR hz hS hv)
theorem x_icmp_ge (G : xG p s m args meth c cc nL Ts own ret D dA sz0) {x y : Int32} {off : Int} (tgt : Nat) (hd : decode cc pc = .ok (.if_icmp .ge off, 3)) (ht : (pc : Int) + off = (tgt : Int)) (kt : y ≤ x → xV p l e R s m args below meth c D dA nL h0 sz0 mc ms Post cells slots tgt lv st h sz) (kf : ¬ y ≤ x → xV p l e R s m args below meth c D dA nL h0 sz0 mc ms Post cells slots (pc + 3) lv st h sz) : xV p l e R s m args below meth c D dA nL h0 sz0 mc ms Post cells slots pc lv (.int y :: .int x :: st) h sz := fun H locs ls hR hz hS hv => lv_icmp_ge G.1 G.2.1 hd ht (fun q => kt q H locs ls hR hz hS hv) (fun q => kf q H locs ls hR hz hS hv)
theorem x_icmp_gt (G : xG p s m args meth c cc nL Ts own ret D dA sz0) {x y : Int32} {off : Int} (tgt : Nat) (hd : decode cc pc = .ok (.if_icmp .gt off, 3)) (ht : (pc : Int) + off = (tgt : Int)) (kt : y < x → xV p l e R s m args below meth c D dA nL h0 sz0 mc ms Post cells slots tgt lv st h sz) (kf : ¬ y < x → xV p l e R s m args below meth c D dA nL h0 sz0 mc ms Post cells slots (pc + 3) lv st h sz) : xV p l e R s m args below meth c D dA nL h0 sz0 mc ms Post cells slots pc lv (.int y :: .int x :: st) h sz := fun H locs ls hR hz hS hv => lv_icmp_gt G.1 G.2.1 hd ht (fun q => kt q H locs ls hR hz hS hv) (fun q => kf q H locs ls hR hz hS hv)
theorem x_icmp_le (G : xG p s m args meth c cc nL Ts own ret D dA sz0) {x y : Int32} {off : Int} (tgt : Nat) (hd : decode cc pc = .ok (.if_icmp .le off, 3)) (ht : (pc : Int) + off = (tgt : Int)) (kt : x ≤ y → xV p l e R s m args below meth c D dA nL h0 sz0 mc ms Post cells slots tgt lv st h sz) (kf : ¬ x ≤ y → xV p l e R s m args below meth c D dA nL h0 sz0 mc ms Post cells slots (pc + 3) lv st h sz) : xV p l e R s m args below meth c D dA nL h0 sz0 mc ms Post cells slots pc lv (.int y :: .int x :: st) h sz := fun H locs ls hR hz hS hv => lv_icmp_le G.1 G.2.1 hd ht (fun q => kt q H locs ls hR hz hS hv) (fun q => kf q H locs ls hR hz hS hv)
theorem x_goto (G : xG p s m args meth c cc nL Ts own ret D dA sz0) {off : Int} (tgt : Nat) (hd : decode cc pc = .ok (.goto off, 3)) (ht : (pc : Int) + off = (tgt : Int)) (kk : xV p l e R s m args below meth c D dA nL h0 sz0 mc ms Post cells slots tgt lv st h sz) : xV p l e R s m args below meth c D dA nL h0 sz0 mc ms Post cells slots pc lv st h sz := fun H locs ls hR hz hS hv => lv_goto G.1 G.2.1 hd ht (kk H locs ls hR hz hS hv)
theorem x_tableOut (G : xG p s m args meth c cc nL Ts own ret D dA sz0) {dflt lo hi : Int} {offs : Array Int} {len : Nat} {x : Int32} (tgt : Nat) (hd : decode cc pc = .ok (.tableswitch dflt lo hi offs, len)) (hx : x.toInt < lo ∨ hi < x.toInt) (ht : (pc : Int) + dflt = (tgt : Int)) (kk : xV p l e R s m args below meth c D dA nL h0 sz0 mc ms Post cells slots tgt lv st h sz) : xV p l e R s m args below meth c D dA nL h0 sz0 mc ms Post cells slots pc lv (.int x :: st) h sz := fun H locs ls hR hz hS hv => lv_tableOut G.1 G.2.1 hd hx ht (kk H locs ls hR hz hS hv)
theorem x_tableIn (G : xG p s m args meth c cc nL Ts own ret D dA sz0) {dflt lo hi off : Int} {offs : Array Int} {len : Nat} {x : Int32} (tgt : Nat) (hd : decode cc pc = .ok (.tableswitch dflt lo hi offs, len)) (h1 : ¬ x.toInt < lo) (h2 : ¬ hi < x.toInt) (ho : offs[(x.toInt - lo).toNat]? = some off) (ht : (pc : Int) + off = (tgt : Int)) (kk : xV p l e R s m args below meth c D dA nL h0 sz0 mc ms Post cells slots tgt lv st h sz) : xV p l e R s m args below meth c D dA nL h0 sz0 mc ms Post cells slots pc lv (.int x :: st) h sz := fun H locs ls hR hz hS hv => lv_tableIn G.1 G.2.1 hd h1 h2 ho ht (kk H locs ls hR hz hS hv)
theorem x_keep (ks : List Nat) (kk : xV p l e R s m args below meth c D dA nL h0 sz0 mc ms Post cells slots pc (lv.filter (fun q => ks.contains q.1)) st h sz) : xV p l e R s m args below meth c D dA nL h0 sz0 mc ms Post cells slots pc lv st h sz := fun H locs ls hR hz hS hv => kk H locs ls hR hz hS ⟨hv.1, hv.2.1, fun q hq => hv.2.2 q (List.mem_filter.mp hq).1⟩
theorem x_top {x : Int32} (kk : ∀ y : Int32, y = x → xV p l e R s m args below meth c D dA nL h0 sz0 mc ms Post cells slots pc lv (.int y :: st) h sz) : xV p l e R s m args below meth c D dA nL h0 sz0 mc ms Post cells slots pc lv (.int x :: st) h sz := kk x rfl
theorem x_topl {x : Int64} (kk : ∀ y : Int64, y = x → xV p l e R s m args below meth c D dA nL h0 sz0 mc ms Post cells slots pc lv (.long y :: st) h sz) : xV p l e R s m args below meth c D dA nL h0 sz0 mc ms Post cells slots pc lv (.long x :: st) h sz := kk x rfl
theorem x_as {lv2 : List (Nat × Value)} {st2 : List Value} {h2 : xH} (el : lv = lv2) (es : st = st2) (eh : h = h2) (kk : xV p l e R s m args below meth c D dA nL h0 sz0 mc ms Post cells slots pc lv2 st2 h2 sz) : xV p l e R s m args below meth c D dA nL h0 sz0 mc ms Post cells slots pc lv st h sz := by subst el; subst es; subst eh; exact kk
theorem xR_put {A : Nat → Prop} {H H1 : Heap} {a : Nat} {e0 e1 : va_E} (r : xR D A h H) (k : h a = some e0) (he : va_at D vwCl (a, e1) H1) (oq : ∀ q : Nat, q ≠ a → H1[q]? = H[q]?) : xR D A (x_up h a e1) H1 := by
  obtain ⟨L, j, h1, h2, hP, hm, hj⟩ := xR_get r k
  exact xR_set k h1 h2 hm hj (hP.set h2 hj he oq) (h2.set hj)
theorem xR_some {A : Nat → Prop} {H : Heap} {a : Nat} {e0 : va_E} (r : xR D A h H) (k : h a = some e0) : A a := xR_in r (by rw [k]; rfl)
/-- a class by its number, with what the rows on fields ask of it -/
def xC (ci : Nat) (C : String) (T : u_T) (N : Nat) (ty : Nat → FieldType) : Prop := vwCl[ci]? = some (C, T, N) ∧ (∀ k, k < N → parseFieldDescriptor (T k).2.2.1 = some (ty k)) ∧ (∀ a, a < N → ∀ b, b < N → a ≠ b → (T a).2.1 ≠ (T b).2.1)
theorem x_get (G : xG p s m args meth c cc nL Ts own ret D dA sz0) {i ci a N : Nat} {C : String} {T : u_T} {ty : Nat → FieldType} {fs : List Value} {v : Value} (K : xC ci C T N ty) (hin : ∀ w ∈ u_ws C T N, w ∈ Ts) (k : Nat) (hk : k < N) (hl : Cond.fieldLink own i (T k).1 (T k).2.1 (T k).2.2.1 ∈ Ts) (hd : decode cc pc = .ok (.getfield i, 3)) (ha : h a = some (.inr (ci, fs))) (hw : fs[k]? = some v) (kk : xV p l e R s m args below meth c D dA nL h0 sz0 mc ms Post cells slots (pc + 3) lv (v :: st) h sz) : xV p l e R s m args below meth c D dA nL h0 sz0 mc ms Post cells slots pc lv (.ref a :: st) h sz := fun H locs ls hR hz hS hv => by
  obtain ⟨L, j, -, -, hP, -, hj⟩ := xR_get hR ha
  exact va_get G.1 G.2.1 G.2.2.2.2.1 hin G.2.2.2.1 G.2.2.2.2.2.1 hP j hj K.1 k hk (G.2.2.2.2.1 _ hl) (fun _ h9 => h9) hw hd (kk H locs ls hR hz hS hv)
theorem x_getN (G : xG p s m args meth c cc nL Ts own ret D dA sz0) {i ci a N : Nat} {C : String} {T : u_T} {ty : Nat → FieldType} {fs : List Value} {v : Value} (K : xC ci C T N ty) (hin : ∀ w ∈ u_ws C T N, w ∈ Ts) (k : Nat) (hk : k < N) {host : String} (hl : Cond.fieldLinkNest own i (T k).1 (T k).2.1 (T k).2.2.1 host ∈ xNw) (hd : decode cc pc = .ok (.getfield i, 3)) (ha : h a = some (.inr (ci, fs))) (hw : fs[k]? = some v) (kk : xV p l e R s m args below meth c D dA nL h0 sz0 mc ms Post cells slots (pc + 3) lv (v :: st) h sz) : xV p l e R s m args below meth c D dA nL h0 sz0 mc ms Post cells slots pc lv (.ref a :: st) h sz := fun H locs ls hR hz hS hv => by
  obtain ⟨L, j, -, -, hP, -, hj⟩ := xR_get hR ha
  exact va_getN G.1 G.2.1 G.2.2.2.2.1 hin G.2.2.2.1 G.2.2.2.2.2.1 hP j hj K.1 k hk (va_Nw.use rfl (G.2.2.2.2.2.2.2.2.1 _ hl)) (fun _ h9 => h9) hw hd (kk H locs ls hR hz hS hv)
theorem x_put (G : xG p s m args meth c cc nL Ts own ret D dA sz0) {i ci a N : Nat} {C : String} {T : u_T} {ty : Nat → FieldType} {fs : List Value} {v : Value} (K : xC ci C T N ty) (hin : ∀ w ∈ u_ws C T N, w ∈ Ts) (k : Nat) (hk : k < N) (hl : Cond.fieldLink own i (T k).1 (T k).2.1 (T k).2.2.1 ∈ Ts) (hf : (T k).2.2.2 = false) (hd : decode cc pc = .ok (.putfield i, 3)) (ha : h a = some (.inr (ci, fs))) (hn : narrow (ty k) v = v) (hfit : fits (ty k) v = true) (hk2 : k < fs.length) (kk : xV p l e R s m args below meth c D dA nL h0 sz0 mc ms Post cells slots (pc + 3) lv st (x_up h a (.inr (ci, fs.set k v))) sz) : xV p l e R s m args below meth c D dA nL h0 sz0 mc ms Post cells slots pc lv (v :: .ref a :: st) h sz := fun H locs ls hR hz hS hv => by
  obtain ⟨hx, hb, hml, hown, hts, hK, hlocks, hsz, hN, hr⟩ := G
  obtain ⟨L, j, h1, h2, hP, hm, hj⟩ := xR_get hR ha
  have hap := va_apart (own := own) hts hin ty K.2.1 K.2.2 hK K.1
  obtain ⟨r, g1, cell, q1, q2, q3, q4⟩ := hP j _ hj
  have hr : r = (C, T, N) := Option.some.inj (g1.symm.trans K.1)
  subst hr
  obtain ⟨hSl, hfc, kC, hkC, hkind⟩ := hK.1 ci _ K.1
  obtain ⟨cf, kf, fi, f, hi, hsl⟩ := hSl k hk
  have hlay := hts _ (hin _ (u_in_lay hk))
  unfold u_lay at hlay
  rw [if_neg (by rw [hf]; decide)] at hlay
  have hst := (u_facts hfc hkC (u_lays hts hin hk) hi).1
  have h6 := u_store hfc hkC hkind hlay hi (K.2.1 k hk) hn hfit
  refine W.putK hx hb (f := f) ⟨hown, hts _ hl, ⟨_, _, _, hi⟩, hst⟩ (by rw [q2]; exact h6) q1 q3 (by rw [hsl]; exact k2_hasslot (q4 k hk)) rfl rfl hd fun H1 e1 e2 e3 => ?_
  rw [hsl] at e1 ⊢
  exact kk H1 _ ls (xR_put hR ha ⟨_, K.1, t_OB.to (V := updV (vp_V fs) k v) ⟨_, e1, q2, q3, t_set q4 hap hk v⟩ (fun j _ => vp_updV_set hk2 v j)⟩ e3) (e2.trans hz) (hS.put e2 e3 (xR_some hR ha)) hv
theorem x_putN (G : xG p s m args meth c cc nL Ts own ret D dA sz0) {i ci a N : Nat} {C : String} {T : u_T} {ty : Nat → FieldType} {fs : List Value} {v : Value} (K : xC ci C T N ty) (hin : ∀ w ∈ u_ws C T N, w ∈ Ts) (k : Nat) (hk : k < N) {host : String} (hl : Cond.fieldLinkNest own i (T k).1 (T k).2.1 (T k).2.2.1 host ∈ xNw) (hf : (T k).2.2.2 = false) (hd : decode cc pc = .ok (.putfield i, 3)) (ha : h a = some (.inr (ci, fs))) (hn : narrow (ty k) v = v) (hfit : fits (ty k) v = true) (hk2 : k < fs.length) (kk : xV p l e R s m args below meth c D dA nL h0 sz0 mc ms Post cells slots (pc + 3) lv st (x_up h a (.inr (ci, fs.set k v))) sz) : xV p l e R s m args below meth c D dA nL h0 sz0 mc ms Post cells slots pc lv (v :: .ref a :: st) h sz := fun H locs ls hR hz hS hv => by
  obtain ⟨hx, hb, hml, hown, hts, hK, hlocks, hsz, hN, hr⟩ := G
  obtain ⟨L, j, h1, h2, hP, hm, hj⟩ := xR_get hR ha
  have hap := va_apart (own := own) hts hin ty K.2.1 K.2.2 hK K.1
  obtain ⟨r, g1, cell, q1, q2, q3, q4⟩ := hP j _ hj
  have hr : r = (C, T, N) := Option.some.inj (g1.symm.trans K.1)
  subst hr
  obtain ⟨hSl, hfc, kC, hkC, hkind⟩ := hK.1 ci _ K.1
  obtain ⟨cf, kf, fi, f, hi, hsl⟩ := hSl k hk
  have hlay := hts _ (hin _ (u_in_lay hk))
  unfold u_lay at hlay
  rw [if_neg (by rw [hf]; decide)] at hlay
  have hst := (u_facts hfc hkC (u_lays hts hin hk) hi).1
  have h6 := u_store hfc hkC hkind hlay hi (K.2.1 k hk) hn hfit
  refine va_WputK hx hb (f := f) hown (va_Nw.use rfl (hN _ hl)) hi hst (by rw [q2]; exact h6) q1 q3 (by rw [hsl]; exact k2_hasslot (q4 k hk)) rfl rfl hd fun H1 e1 e2 e3 => ?_
  rw [hsl] at e1 ⊢
  exact kk H1 _ ls (xR_put hR ha ⟨_, K.1, t_OB.to (V := updV (vp_V fs) k v) ⟨_, e1, q2, q3, t_set q4 hap hk v⟩ (fun j _ => vp_updV_set hk2 v j)⟩ e3) (e2.trans hz) (hS.put e2 e3 (xR_some hR ha)) hv
theorem x_putF (G : xG p s m args meth c cc nL Ts own ret D dA sz0) {i ci a N : Nat} {C : String} {T : u_T} {ty : Nat → FieldType} {fs : List Value} {v : Value} (K : xC ci C T N ty) (hin : ∀ w ∈ u_ws C T N, w ∈ Ts) (k : Nat) (hk : k < N) (hl : Cond.fieldLink own i (T k).1 (T k).2.1 (T k).2.2.1 ∈ Ts) (hf : (T k).2.2.2 = true) (hin2 : meth.name = "<init>") (hdecl : (T k).1 = own) (hd : decode cc pc = .ok (.putfield i, 3)) (ha : h a = some (.inr (ci, fs))) (hn : narrow (ty k) v = v) (hfit : fits (ty k) v = true) (hk2 : k < fs.length) (kk : xV p l e R s m args below meth c D dA nL h0 sz0 mc ms Post cells slots (pc + 3) lv st (x_up h a (.inr (ci, fs.set k v))) sz) : xV p l e R s m args below meth c D dA nL h0 sz0 mc ms Post cells slots pc lv (v :: .ref a :: st) h sz := fun H locs ls hR hz hS hv => by
  obtain ⟨hx, hb, hml, hown, hts, hK, hlocks, hsz, hN, hr⟩ := G
  obtain ⟨L, j, h1, h2, hP, hm, hj⟩ := xR_get hR ha
  have hap := va_apart (own := own) hts hin ty K.2.1 K.2.2 hK K.1
  obtain ⟨r, g1, cell, q1, q2, q3, q4⟩ := hP j _ hj
  have hr : r = (C, T, N) := Option.some.inj (g1.symm.trans K.1)
  subst hr
  obtain ⟨hSl, hfc, kC, hkC, hkind⟩ := hK.1 ci _ K.1
  obtain ⟨cf, kf, fi, f, hi, hsl⟩ := hSl k hk
  have hlay := hts _ (hin _ (u_in_lay hk))
  unfold u_lay at hlay
  rw [if_pos hf] at hlay
  have hst := (u_facts hfc hkC (u_lays hts hin hk) hi).1
  have hcf : m.cls = cf := by
    obtain ⟨_, _, c', _, _, _, -, -, hf', -, -, -, hown2, -⟩ := Cond.laysFinal_spec hlay
    have e1 : c' = cf := by have := hi.symm.trans hf'; simp at this; exact this.1.symm
    rw [hdecl] at hown2
    rw [← e1]; exact Option.some.inj (hown.symm.trans hown2)
  have h6 := u_fits hfc hkC hkind (Or.inr hlay) hi (K.2.1 k hk) hn hfit
  refine W.putFinK hx hb hown (hts _ hl) hi hst hcf hin2 (by rw [q2]; exact h6) q1 q3 (by rw [hsl]; exact k2_hasslot (q4 k hk)) rfl rfl hd fun H1 e1 e2 e3 => ?_
  rw [hsl] at e1 ⊢
  exact kk H1 _ ls (xR_put hR ha ⟨_, K.1, t_OB.to (V := updV (vp_V fs) k v) ⟨_, e1, q2, q3, t_set q4 hap hk v⟩ (fun j _ => vp_updV_set hk2 v j)⟩ e3) (e2.trans hz) (hS.put e2 e3 (xR_some hR ha)) hv
theorem x_iald (G : xG p s m args meth c cc nL Ts own ret D dA sz0) {a n : Nat} {f : Nat → Int32} {i : Int32} (hd : decode cc pc = .ok (.iaload, 1)) (ha : h a = some (.inl (dA 0, n, .inl f))) (hi : vp_in i n) (kk : xV p l e R s m args below meth c D dA nL h0 sz0 mc ms Post cells slots (pc + 1) lv (.int (f i.toNatClampNeg) :: st) h sz) : xV p l e R s m args below meth c D dA nL h0 sz0 mc ms Post cells slots pc lv (.int i :: .ref a :: st) h sz := fun H locs ls hR hz hS hv => by
  obtain ⟨L, j, -, -, hP, -, hj⟩ := xR_get hR ha
  exact va_iald G.1 G.2.1 G.2.2.2.2.2.1 hP j 0 hj rfl hi hd (kk H locs ls hR hz hS hv)
theorem x_lald (G : xG p s m args meth c cc nL Ts own ret D dA sz0) {a n : Nat} {f : Nat → Int64} {i : Int32} (hd : decode cc pc = .ok (.laload, 1)) (ha : h a = some (.inl (dA 1, n, .inr (.inl f)))) (hi : vp_in i n) (kk : xV p l e R s m args below meth c D dA nL h0 sz0 mc ms Post cells slots (pc + 1) lv (.long (f i.toNatClampNeg) :: st) h sz) : xV p l e R s m args below meth c D dA nL h0 sz0 mc ms Post cells slots pc lv (.int i :: .ref a :: st) h sz := fun H locs ls hR hz hS hv => by
  obtain ⟨L, j, -, -, hP, -, hj⟩ := xR_get hR ha
  exact va_lald G.1 G.2.1 G.2.2.2.2.2.1 hP j 1 hj rfl hi hd (kk H locs ls hR hz hS hv)
theorem x_zald (G : xG p s m args meth c cc nL Ts own ret D dA sz0) {a n : Nat} {f : Nat → Int32} {i : Int32} (hd : decode cc pc = .ok (.baload, 1)) (ha : h a = some (.inl (dA 2, n, .inl f))) (hi : vp_in i n) (kk : xV p l e R s m args below meth c D dA nL h0 sz0 mc ms Post cells slots (pc + 1) lv (.int (f i.toNatClampNeg) :: st) h sz) : xV p l e R s m args below meth c D dA nL h0 sz0 mc ms Post cells slots pc lv (.int i :: .ref a :: st) h sz := fun H locs ls hR hz hS hv => by
  obtain ⟨L, j, -, -, hP, -, hj⟩ := xR_get hR ha
  exact va_zald G.1 G.2.1 G.2.2.2.2.2.1 hP j 2 hj rfl hi hd (kk H locs ls hR hz hS hv)
theorem x_iast (G : xG p s m args meth c cc nL Ts own ret D dA sz0) {a n : Nat} {f : Nat → Int32} {i : Int32} {x : Int32} (hd : decode cc pc = .ok (.iastore, 1)) (ha : h a = some (.inl (dA 0, n, .inl f))) (hi : vp_in i n) (kk : xV p l e R s m args below meth c D dA nL h0 sz0 mc ms Post cells slots (pc + 1) lv st (x_up h a (.inl (dA 0, n, .inl (upd f i.toNatClampNeg x)))) sz) : xV p l e R s m args below meth c D dA nL h0 sz0 mc ms Post cells slots pc lv (.int x :: .int i :: .ref a :: st) h sz := fun H locs ls hR hz hS hv => by
  have hP1 : va_at D vwCl (a, .inl (dA 0, n, .inl f)) H := xR_at hR ha
  refine W.iast G.1 G.2.1 hP1 ((G.2.2.2.2.2.1.2 0 _ rfl).1 n (fun j => .int (f j))) (fun q => by cases q) (by show ¬ (i < 0 ∨ (arrV _ _ _).slots.size ≤ _); rw [arrV_size]; exact hi) rfl rfl hd fun H1 e z oq => ?_
  refine kk H1 _ ls (xR_put hR ha ?_ oq) (z.trans hz) (hS.put z oq (xR_some hR ha)) hv
  show H1[a]? = some (vp_cell _ _)
  rw [e]
  rw [vp_cell_i, vp_cell_i, arrV_store]
  congr 2
  funext q
  by_cases hq : q = i.toNatClampNeg
  · subst hq
    simp [updV, upd]
    
  · simp [updV, upd, hq]
theorem x_last (G : xG p s m args meth c cc nL Ts own ret D dA sz0) {a n : Nat} {f : Nat → Int64} {i : Int32} {x : Int64} (hd : decode cc pc = .ok (.lastore, 1)) (ha : h a = some (.inl (dA 1, n, .inr (.inl f)))) (hi : vp_in i n) (kk : xV p l e R s m args below meth c D dA nL h0 sz0 mc ms Post cells slots (pc + 1) lv st (x_up h a (.inl (dA 1, n, .inr (.inl (vp_updL f i.toNatClampNeg x))))) sz) : xV p l e R s m args below meth c D dA nL h0 sz0 mc ms Post cells slots pc lv (.long x :: .int i :: .ref a :: st) h sz := fun H locs ls hR hz hS hv => by
  have hP1 : va_at D vwCl (a, .inl (dA 1, n, .inr (.inl f))) H := xR_at hR ha
  refine W.last G.1 G.2.1 hP1 ((G.2.2.2.2.2.1.2 1 _ rfl).1 n (fun j => .long (f j))) (fun q => by cases q) (by show ¬ (i < 0 ∨ (arrV _ _ _).slots.size ≤ _); rw [arrV_size]; exact hi) rfl rfl hd fun H1 e z oq => ?_
  refine kk H1 _ ls (xR_put hR ha ?_ oq) (z.trans hz) (hS.put z oq (xR_some hR ha)) hv
  show H1[a]? = some (vp_cell _ _)
  rw [e]
  rw [vp_cell_l, vp_cell_l, arrV_store]
  congr 2
  funext q
  by_cases hq : q = i.toNatClampNeg
  · subst hq
    simp [updV, vp_updL]
    
  · simp [updV, vp_updL, hq]
theorem x_zast (G : xG p s m args meth c cc nL Ts own ret D dA sz0) {a n : Nat} {f : Nat → Int32} {i : Int32} {x : Int32} (hd : decode cc pc = .ok (.bastore, 1)) (ha : h a = some (.inl (dA 2, n, .inl f))) (hi : vp_in i n) (kk : xV p l e R s m args below meth c D dA nL h0 sz0 mc ms Post cells slots (pc + 1) lv st (x_up h a (.inl (dA 2, n, .inl (upd f i.toNatClampNeg (vp_nar .boolean x))))) sz) : xV p l e R s m args below meth c D dA nL h0 sz0 mc ms Post cells slots pc lv (.int x :: .int i :: .ref a :: st) h sz := fun H locs ls hR hz hS hv => by
  have hP1 : va_at D vwCl (a, .inl (dA 2, n, .inl f)) H := xR_at hR ha
  refine W.zast G.1 G.2.1 hP1 ((G.2.2.2.2.2.1.2 2 _ rfl).1 n (fun j => .int (f j))) (fun q => by cases q) (by show ¬ (i < 0 ∨ (arrV _ _ _).slots.size ≤ _); rw [arrV_size]; exact hi) rfl rfl hd fun H1 e z oq => ?_
  refine kk H1 _ ls (xR_put hR ha ?_ oq) (z.trans hz) (hS.put z oq (xR_some hR ha)) hv
  show H1[a]? = some (vp_cell _ _)
  rw [e]
  rw [vp_cell_i, vp_cell_i, arrV_store]
  congr 2
  funext q
  by_cases hq : q = i.toNatClampNeg
  · subst hq
    simp [updV, upd]
    try rfl
  · simp [updV, upd, hq]
theorem x_aald (G : xG p s m args meth c cc nL Ts own ret D dA sz0) {a n t y : Nat} {f : Nat → Option Nat} {i : Int32} {ty : FieldType} (ht : (xT dA)[t]? = some (dA t, ty)) (hr : ty.isReference = true) (hd : decode cc pc = .ok (.aaload, 1)) (ha : h a = some (.inl (dA t, n, .inr (.inr (.inr (.inr f)))))) (hi : vp_in i n) (hf : f i.toNatClampNeg = some y) (kk : xV p l e R s m args below meth c D dA nL h0 sz0 mc ms Post cells slots (pc + 1) lv (.ref y :: st) h sz) : xV p l e R s m args below meth c D dA nL h0 sz0 mc ms Post cells slots pc lv (.int i :: .ref a :: st) h sz := fun H locs ls hR hz hS hv => by
  have hlt : i.toNatClampNeg < n := Nat.not_le.mp fun q => hi (Or.inr q)
  exact W.aald (v := .ref y) (ty := ty) G.1 G.2.1 (xR_at hR ha) ((G.2.2.2.2.2.1.2 t _ ht).1 n (fun j => va_rf (f j))) hr (fun q => by cases q) (by show ¬ (i < 0 ∨ (arrV _ _ _).slots.size ≤ _); rw [arrV_size]; exact hi) (by show (arrV _ _ _).slots[_]? = _; rw [arrV_read _ _ hlt, hf]; rfl) rfl rfl hd (kk H locs ls hR hz hS hv)
theorem x_alen (G : xG p s m args meth c cc nL Ts own ret D dA sz0) {a t : Nat} {x : vp_A} {ty : FieldType} (ht : (xT dA)[t]? = some (dA t, ty)) (hd : decode cc pc = .ok (.arraylength, 1)) (ha : h a = some (.inl (dA t, x))) (kk : xV p l e R s m args below meth c D dA nL h0 sz0 mc ms Post cells slots (pc + 1) lv (.int (Int32.ofNat x.1) :: st) h sz) : xV p l e R s m args below meth c D dA nL h0 sz0 mc ms Post cells slots pc lv (.ref a :: st) h sz := fun H locs ls hR hz hS hv => by
  obtain ⟨L, j, -, -, hP, -, hj⟩ := xR_get hR ha
  exact va_alen G.1 G.2.1 G.2.2.2.2.2.1 hP j t hj ht rfl hd (kk H locs ls hR hz hS hv)
theorem x_copyi (G : xG p s m args meth c cc nL Ts own ret D dA sz0) {i a0 a n0 n1 : Nat} {f g : Nat → Int32} {sp dp n : Int32} (hl : Cond.methodLink own i arraycopyName ∈ Ts) (hnat : Cond.native arraycopyName ∈ Ts) (hstat : Cond.static arraycopyName ∈ Ts) (hini : Cond.initialized "java/lang/System" ∈ Ts) (hd : decode cc pc = .ok (.invokestatic i, 3)) (ha0 : h a0 = some (.inl (dA 0, n0, .inl f))) (ha : h a = some (.inl (dA 0, n1, .inl g))) (h1 : ¬ sp < 0) (h2 : ¬ dp < 0) (h3 : ¬ n < 0) (h4 : sp.toNatClampNeg + n.toNatClampNeg ≤ n0) (h5 : dp.toNatClampNeg + n.toNatClampNeg ≤ n1) (hfr : 1 ≤ R.frames) (hlo : (st.map fun v => v.category).sum + (nativeFrameWords "java/lang/System" "arraycopy" 5 + 11) ≤ R.locals) (kk : ∀ sz1 : Nat, xV p l e R s m args below meth c D dA nL h0 sz0 mc ms Post cells slots (pc + 3) lv st (x_up h a (.inl (dA 0, n1, .inl (va_cpy f g sp.toNatClampNeg dp.toNatClampNeg n.toNatClampNeg)))) sz1) : xV p l e R s m args below meth c D dA nL h0 sz0 mc ms Post cells slots pc lv (.int n :: .int dp :: .ref a :: .int sp :: .ref a0 :: st) h sz := fun H locs ls hR hz hS hv => by
  obtain ⟨hx, hb, hml, hown, hts, hK, hlocks, hsz, hN, hr⟩ := G
  obtain ⟨L, g1, g2, hP⟩ := id hR
  have hm : a ∈ L := (g1 a).mpr (by rw [ha]; rfl)
  have hm0 : a0 ∈ L := (g1 a0).mpr (by rw [ha0]; rfl)
  obtain ⟨j, hj⟩ := va_pl_get (X := []) (f := x_f h) hm
  obtain ⟨j0, hj0⟩ := va_pl_get (X := []) (f := x_f h) hm0
  rw [x_f_of ha] at hj
  rw [x_f_of ha0] at hj0
  exact va_copyi (ty := .int) hx hb (hml.trans hv.1.symm) hown (hts _ hl) (hts _ hnat) (hts _ hstat) (hts _ hini) hK hP g2 hS j0 j 0 0 hj0 hj rfl rfl rfl h1 h2 h3 h4 h5 (fun _ _ => rfl) hfr hlo hd (fun H1 locs1 q1 q2 q3 => kk H1.size H1 locs1 ls (xR_set ha g1 g2 hm hj q1 q2) rfl q3 hv)
theorem x_copyl (G : xG p s m args meth c cc nL Ts own ret D dA sz0) {i a0 a n0 n1 : Nat} {f g : Nat → Int64} {sp dp n : Int32} (hl : Cond.methodLink own i arraycopyName ∈ Ts) (hnat : Cond.native arraycopyName ∈ Ts) (hstat : Cond.static arraycopyName ∈ Ts) (hini : Cond.initialized "java/lang/System" ∈ Ts) (hd : decode cc pc = .ok (.invokestatic i, 3)) (ha0 : h a0 = some (.inl (dA 1, n0, .inr (.inl f)))) (ha : h a = some (.inl (dA 1, n1, .inr (.inl g)))) (h1 : ¬ sp < 0) (h2 : ¬ dp < 0) (h3 : ¬ n < 0) (h4 : sp.toNatClampNeg + n.toNatClampNeg ≤ n0) (h5 : dp.toNatClampNeg + n.toNatClampNeg ≤ n1) (hfr : 1 ≤ R.frames) (hlo : (st.map fun v => v.category).sum + (nativeFrameWords "java/lang/System" "arraycopy" 5 + 11) ≤ R.locals) (kk : ∀ sz1 : Nat, xV p l e R s m args below meth c D dA nL h0 sz0 mc ms Post cells slots (pc + 3) lv st (x_up h a (.inl (dA 1, n1, .inr (.inl (va_cpy f g sp.toNatClampNeg dp.toNatClampNeg n.toNatClampNeg))))) sz1) : xV p l e R s m args below meth c D dA nL h0 sz0 mc ms Post cells slots pc lv (.int n :: .int dp :: .ref a :: .int sp :: .ref a0 :: st) h sz := fun H locs ls hR hz hS hv => by
  obtain ⟨hx, hb, hml, hown, hts, hK, hlocks, hsz, hN, hr⟩ := G
  obtain ⟨L, g1, g2, hP⟩ := id hR
  have hm : a ∈ L := (g1 a).mpr (by rw [ha]; rfl)
  have hm0 : a0 ∈ L := (g1 a0).mpr (by rw [ha0]; rfl)
  obtain ⟨j, hj⟩ := va_pl_get (X := []) (f := x_f h) hm
  obtain ⟨j0, hj0⟩ := va_pl_get (X := []) (f := x_f h) hm0
  rw [x_f_of ha] at hj
  rw [x_f_of ha0] at hj0
  exact va_copyl (ty := .long) hx hb (hml.trans hv.1.symm) hown (hts _ hl) (hts _ hnat) (hts _ hstat) (hts _ hini) hK hP g2 hS j0 j 1 1 hj0 hj rfl rfl rfl h1 h2 h3 h4 h5 (fun _ _ => rfl) hfr hlo hd (fun H1 locs1 q1 q2 q3 => kk H1.size H1 locs1 ls (xR_set ha g1 g2 hm hj q1 q2) rfl q3 hv)
theorem x_iret {v : Int32} (G : xG p s m args meth c cc nL Ts own (some .int) D dA sz0) (hd : decode cc pc = .ok (.ireturn, 1)) (hq : Post (some (.int v)) h sz) : xV p l e R s m args below meth c D dA nL h0 sz0 mc ms Post mc ms pc lv [.int v] h sz := fun H locs ls hR hz hS hv => W.iret (v := v) G.1 G.2.1 G.2.2.2.2.2.2.2.2.2 (fun t ht hW => ⟨⟨_, h, sz, rfl, hq, by rw [ht]; exact hz, by rw [ht]; exact hR, va_K.moved hW.alike G.2.2.2.2.2.1, xN_warm hW G.2.2.2.2.2.2.2.2.1⟩, hS.F ht⟩) hS.2.2 hd G.2.2.2.2.2.2.1
theorem x_lret {v : Int64} (G : xG p s m args meth c cc nL Ts own (some .long) D dA sz0) (hd : decode cc pc = .ok (.lreturn, 1)) (hq : Post (some (.long v)) h sz) : xV p l e R s m args below meth c D dA nL h0 sz0 mc ms Post mc ms pc lv [.long v] h sz := fun H locs ls hR hz hS hv => W.lret (v := v) G.1 G.2.1 G.2.2.2.2.2.2.2.2.2 (fun t ht hW => ⟨⟨_, h, sz, rfl, hq, by rw [ht]; exact hz, by rw [ht]; exact hR, va_K.moved hW.alike G.2.2.2.2.2.1, xN_warm hW G.2.2.2.2.2.2.2.2.1⟩, hS.F ht⟩) hS.2.2 hd G.2.2.2.2.2.2.1
theorem x_vret (G : xG p s m args meth c cc nL Ts own (none) D dA sz0) (hd : decode cc pc = .ok (.return_, 1)) (hq : Post none h sz) : xV p l e R s m args below meth c D dA nL h0 sz0 mc ms Post mc ms pc lv [] h sz := fun H locs ls hR hz hS hv => W.vret G.1 G.2.1 G.2.2.2.2.2.2.2.2.2 (fun t ht hW => ⟨⟨_, h, sz, rfl, hq, by rw [ht]; exact hz, by rw [ht]; exact hR, va_K.moved hW.alike G.2.2.2.2.2.1, xN_warm hW G.2.2.2.2.2.2.2.2.1⟩, hS.F ht⟩) hS.2.2 hd G.2.2.2.2.2.2.1
theorem x_zret {v : Int32} (G : xG p s m args meth c cc nL Ts own (some .boolean) D dA sz0) (hd : decode cc pc = .ok (.ireturn, 1)) (hn : narrow .boolean (.int v) = .int v) (hq : Post (some (.int v)) h sz) : xV p l e R s m args below meth c D dA nL h0 sz0 mc ms Post mc ms pc lv [.int v] h sz := fun H locs ls hR hz hS hv => W.zret (v := v) G.1 G.2.1 G.2.2.2.2.2.2.2.2.2 hn (fun t ht hW => ⟨⟨_, h, sz, rfl, hq, by rw [ht]; exact hz, by rw [ht]; exact hR, va_K.moved hW.alike G.2.2.2.2.2.1, xN_warm hW G.2.2.2.2.2.2.2.2.1⟩, hS.F ht⟩) hS.2.2 hd G.2.2.2.2.2.2.1
end XR
theorem x_lgeq (x y : Int64) : lg_cmp x y = 0 ↔ x = y := by
  unfold lg_cmp
  by_cases h1 : x > y
  · rw [if_pos h1]
    have h2 : y.toInt < x.toInt := Int64.lt_iff_toInt_lt.mp h1
    constructor
    · intro q
      first | exact absurd q (by decide) | exact h1 | exact Int64.le_iff_toInt_le.mpr (by omega)
    · intro q
      first | decide | (exfalso; subst q; omega) | (exfalso; have := Int64.lt_iff_toInt_lt.mp q; omega) | (exfalso; have := Int64.le_iff_toInt_le.mp q; omega)
  · rw [if_neg h1]
    have h2 : ¬ y.toInt < x.toInt := fun q => h1 (Int64.lt_iff_toInt_lt.mpr q)
    by_cases h3 : x = y
    · rw [if_pos h3]
      subst h3
      constructor
      · intro q
        first | rfl | exact absurd q (by decide) | exact Int64.le_iff_toInt_le.mpr (by omega)
      · intro q
        first | decide | (exfalso; have := Int64.lt_iff_toInt_lt.mp q; omega)
    · rw [if_neg h3]
      have h4 : x.toInt ≠ y.toInt := fun q => h3 (Int64.toInt_inj.mp q)
      constructor
      · intro q
        first | exact absurd q (by decide) | exact Int64.lt_iff_toInt_lt.mpr (by omega) | exact Int64.le_iff_toInt_le.mpr (by omega)
      · intro q
        first | decide | exact absurd q h3 | (exfalso; have := Int64.lt_iff_toInt_lt.mp q; omega) | (exfalso; have := Int64.le_iff_toInt_le.mp q; omega)
theorem x_lglt (x y : Int64) : lg_cmp x y < 0 ↔ x < y := by
  unfold lg_cmp
  by_cases h1 : x > y
  · rw [if_pos h1]
    have h2 : y.toInt < x.toInt := Int64.lt_iff_toInt_lt.mp h1
    constructor
    · intro q
      first | exact absurd q (by decide) | exact h1 | exact Int64.le_iff_toInt_le.mpr (by omega)
    · intro q
      first | decide | (exfalso; subst q; omega) | (exfalso; have := Int64.lt_iff_toInt_lt.mp q; omega) | (exfalso; have := Int64.le_iff_toInt_le.mp q; omega)
  · rw [if_neg h1]
    have h2 : ¬ y.toInt < x.toInt := fun q => h1 (Int64.lt_iff_toInt_lt.mpr q)
    by_cases h3 : x = y
    · rw [if_pos h3]
      subst h3
      constructor
      · intro q
        first | rfl | exact absurd q (by decide) | exact Int64.le_iff_toInt_le.mpr (by omega)
      · intro q
        first | decide | (exfalso; have := Int64.lt_iff_toInt_lt.mp q; omega)
    · rw [if_neg h3]
      have h4 : x.toInt ≠ y.toInt := fun q => h3 (Int64.toInt_inj.mp q)
      constructor
      · intro q
        first | exact absurd q (by decide) | exact Int64.lt_iff_toInt_lt.mpr (by omega) | exact Int64.le_iff_toInt_le.mpr (by omega)
      · intro q
        first | decide | exact absurd q h3 | (exfalso; have := Int64.lt_iff_toInt_lt.mp q; omega) | (exfalso; have := Int64.le_iff_toInt_le.mp q; omega)
theorem x_lgle (x y : Int64) : lg_cmp x y ≤ 0 ↔ x ≤ y := by
  unfold lg_cmp
  by_cases h1 : x > y
  · rw [if_pos h1]
    have h2 : y.toInt < x.toInt := Int64.lt_iff_toInt_lt.mp h1
    constructor
    · intro q
      first | exact absurd q (by decide) | exact h1 | exact Int64.le_iff_toInt_le.mpr (by omega)
    · intro q
      first | decide | (exfalso; subst q; omega) | (exfalso; have := Int64.lt_iff_toInt_lt.mp q; omega) | (exfalso; have := Int64.le_iff_toInt_le.mp q; omega)
  · rw [if_neg h1]
    have h2 : ¬ y.toInt < x.toInt := fun q => h1 (Int64.lt_iff_toInt_lt.mpr q)
    by_cases h3 : x = y
    · rw [if_pos h3]
      subst h3
      constructor
      · intro q
        first | rfl | exact absurd q (by decide) | exact Int64.le_iff_toInt_le.mpr (by omega)
      · intro q
        first | decide | (exfalso; have := Int64.lt_iff_toInt_lt.mp q; omega)
    · rw [if_neg h3]
      have h4 : x.toInt ≠ y.toInt := fun q => h3 (Int64.toInt_inj.mp q)
      constructor
      · intro q
        first | exact absurd q (by decide) | exact Int64.lt_iff_toInt_lt.mpr (by omega) | exact Int64.le_iff_toInt_le.mpr (by omega)
      · intro q
        first | decide | exact absurd q h3 | (exfalso; have := Int64.lt_iff_toInt_lt.mp q; omega) | (exfalso; have := Int64.le_iff_toInt_le.mp q; omega)
theorem x_lgge (x y : Int64) : 0 ≤ lg_cmp x y ↔ y ≤ x := by
  unfold lg_cmp
  by_cases h1 : x > y
  · rw [if_pos h1]
    have h2 : y.toInt < x.toInt := Int64.lt_iff_toInt_lt.mp h1
    constructor
    · intro q
      first | exact absurd q (by decide) | exact h1 | exact Int64.le_iff_toInt_le.mpr (by omega)
    · intro q
      first | decide | (exfalso; subst q; omega) | (exfalso; have := Int64.lt_iff_toInt_lt.mp q; omega) | (exfalso; have := Int64.le_iff_toInt_le.mp q; omega)
  · rw [if_neg h1]
    have h2 : ¬ y.toInt < x.toInt := fun q => h1 (Int64.lt_iff_toInt_lt.mpr q)
    by_cases h3 : x = y
    · rw [if_pos h3]
      subst h3
      constructor
      · intro q
        first | rfl | exact absurd q (by decide) | exact Int64.le_iff_toInt_le.mpr (by omega)
      · intro q
        first | decide | (exfalso; have := Int64.lt_iff_toInt_lt.mp q; omega)
    · rw [if_neg h3]
      have h4 : x.toInt ≠ y.toInt := fun q => h3 (Int64.toInt_inj.mp q)
      constructor
      · intro q
        first | exact absurd q (by decide) | exact Int64.lt_iff_toInt_lt.mpr (by omega) | exact Int64.le_iff_toInt_le.mpr (by omega)
      · intro q
        first | decide | exact absurd q h3 | (exfalso; have := Int64.lt_iff_toInt_lt.mp q; omega) | (exfalso; have := Int64.le_iff_toInt_le.mp q; omega)
theorem x_lggt (x y : Int64) : 0 < lg_cmp x y ↔ y < x := by
  unfold lg_cmp
  by_cases h1 : x > y
  · rw [if_pos h1]
    have h2 : y.toInt < x.toInt := Int64.lt_iff_toInt_lt.mp h1
    constructor
    · intro q
      first | exact absurd q (by decide) | exact h1 | exact Int64.le_iff_toInt_le.mpr (by omega)
    · intro q
      first | decide | (exfalso; subst q; omega) | (exfalso; have := Int64.lt_iff_toInt_lt.mp q; omega) | (exfalso; have := Int64.le_iff_toInt_le.mp q; omega)
  · rw [if_neg h1]
    have h2 : ¬ y.toInt < x.toInt := fun q => h1 (Int64.lt_iff_toInt_lt.mpr q)
    by_cases h3 : x = y
    · rw [if_pos h3]
      subst h3
      constructor
      · intro q
        first | rfl | exact absurd q (by decide) | exact Int64.le_iff_toInt_le.mpr (by omega)
      · intro q
        first | decide | (exfalso; have := Int64.lt_iff_toInt_lt.mp q; omega)
    · rw [if_neg h3]
      have h4 : x.toInt ≠ y.toInt := fun q => h3 (Int64.toInt_inj.mp q)
      constructor
      · intro q
        first | exact absurd q (by decide) | exact Int64.lt_iff_toInt_lt.mpr (by omega) | exact Int64.le_iff_toInt_le.mpr (by omega)
      · intro q
        first | decide | exact absurd q h3 | (exfalso; have := Int64.lt_iff_toInt_lt.mp q; omega) | (exfalso; have := Int64.le_iff_toInt_le.mp q; omega)
end
section
/-! ## Calls, a row a kind -/
theorem x_blind {D : va_G} {dA : Nat → ClassId} {A : Nat → Prop} {h : xH} {sz : Nat} {As : List Value} : FrameBlind (va_Pc As (xPre D dA A h sz)) := fun a U g mk q => by
  obtain ⟨q0, q1, qR, qK, qN⟩ := q
  exact ⟨q0, q1, qR, va_K.moved (u := U) (U := U.calling g mk a) (Vm.Alike.refl U.vm) qK, xN_same (s := U) (U := U.calling g mk a) rfl qN⟩
section XC
variable {p : Program} {l : Launch} {e : Env} {R : Room} {s : State} {m : MethodId} {args : Array Value} {below : List Frame} {meth : Method} {c : Code} {D : va_G} {dA : Nat → ClassId} {nL : Nat} {h0 : xH} {sz0 mc ms : Nat} {Post : Option Value → xH → Nat → Prop} {cells slots pc : Nat} {lv : List (Nat × Value)} {st : List Value} {h : xH} {sz : Nat} {cc : ByteArray} {Ts : List Cond} {own : String} {ret : Option FieldType}
variable {y : MethodName} {ws ws' : List Cond} {bytes : ByteArray} {maxL i n fr lo mc1 ms1 : Nat} {ret1 : Option FieldType} {As rest : List Value} {Post1 : Option Value → xH → Nat → Prop}
/-- behind a call -/
theorem x_ran {H : Heap} {locs : List Loc} {ls : Array Slot} {a : Array Value} (G : xG p s m args meth c cc nL Ts own ret D dA sz0) (hR : xR D (xA h0 sz0) h H) (hz : H.size = sz) (hS : va_S (xA h0 sz0) s.heap H locs) (hv : lv_has ls nL lv)
    (run : va_Run p l e R s m args below meth c H locs cells slots mc1 ms1 (F0 m pc ls st) rest (xQ D dA h sz Post1 a) (xA h sz))
    (kk : ∀ (r : Option Value) (h1 : xH) (sz1 : Nat), Post1 r h1 sz1 → xV p l e R s m args below meth c D dA nL h0 sz0 mc ms Post (cells + mc1) (slots + ms1) (pc + 3) lv (r.toList ++ rest) h1 sz1) :
    W p l e R s m args below meth c H locs cells slots (MQ below (xQ D dA h0 sz0 Post) args s mc ms (xA h0 sz0)) (F0 m pc ls st) := by
  have hsz : s.heap.size = sz0 := G.2.2.2.2.2.2.2.1
  have hA : ∀ q, xA h sz q → xA h0 sz0 q := fun q hq => by
    rcases hq with hq | hq
    · exact xR_in hR hq
    · exact Or.inr (by have := hS.1; omega)
  intro T hT X
  obtain ⟨v, st₀, t, T', L, g0, X', hL, e1, e2, ⟨⟨r, h1, sz1, hr, hp, q1, q2, q3, q4⟩, hz2, hk2⟩, stp⟩ := run T hT X
  cases hr
  rw [g0] at hz2 hk2
  obtain ⟨t2, a1, b1⟩ := kk v h1 sz1 hp T'.heap (locs ++ L) ls (xR_weak (by rw [e1]; exact q2) fun a ha => hA a (xR_in q2 ha)) (by rw [e1]; exact q1)
    ⟨Nat.le_trans hS.1 (by rw [e1]; exact hz2), fun q g1 g2 => by rw [e1, hk2 q (Nat.lt_of_lt_of_le g1 hS.1) (fun z => g2 (hA q z))]; exact hS.2.1 q g1 g2, fun q hq => by
      rcases List.mem_append.mp hq with g | g
      · exact hS.2.2 q g
      · exact hA _ (hL q g)⟩ hv T' rfl X'
  exact ⟨t2, stp t2 a1, b1⟩
theorem x_callV (G : xG p s m args meth c cc nL Ts own ret D dA sz0) {C : String} {ci b : Nat} {q : vw_C} {fs : List Value} (hM : xMet l y ws fr lo mc1 ms1 D dA (.ref b :: As) h sz Post1) (hg : GoodIn Ts (wsV own i C y ws)) (hw : ws = Cond.code y bytes maxL ret1 :: ws')
    (hy : y.cls = C ∧ y.cls ≠ "java/lang/invoke/MethodHandle" ∧ y.cls ≠ "java/lang/invoke/VarHandle" ∧ (parseMethodDescriptor y.desc).map (fun d => d.parameters.length) = some n) (hRm : fr + 1 ≤ R.frames ∧ 8 + (maxL + 11) + lo ≤ R.locals)
    (hc : vwCl[ci]? = some q) (hq : q.1 = C) (hb : h b = some (.inr (ci, fs))) (hd : decode cc pc = .ok (.invokevirtual i, 3)) (hn : As.length = n) (hst : st = As.reverse ++ .ref b :: rest) (hcat : (rest.map fun v => v.category).sum ≤ 8) (hcl : cells + mc1 ≤ R.cells ∧ slots + ms1 ≤ R.slots)
    (kk : ∀ (r : Option Value) (h1 : xH) (sz1 : Nat), Post1 r h1 sz1 → xV p l e R s m args below meth c D dA nL h0 sz0 mc ms Post (cells + mc1) (slots + ms1) (pc + 3) lv (r.toList ++ rest) h1 sz1) :
    xV p l e R s m args below meth c D dA nL h0 sz0 mc ms Post cells slots pc lv st h sz := fun H locs ls hR hz hS hv => by
  obtain ⟨L, j, -, -, hP, -, hj⟩ := xR_get hR hb
  refine x_ran G hR hz hS hv (va_runV (As := As) (rest := rest) (b := b) ⟨G.1, G.2.1, G.2.2.1, G.2.2.2.1, G.2.2.2.2.1⟩ hM (cwV n G.2.2.2.2.1 hg hw rfl rfl hy hRm) ⟨x_blind, ?_, fun U hU hW => ⟨rfl, by rw [hU]; exact hz, by rw [hU]; exact xR_weak hR (fun _ _ => trivial), va_K.moved hW.alike G.2.2.2.2.2.1, xN_warm hW G.2.2.2.2.2.2.2.2.1⟩⟩ rfl hn hv.1 hst (lv_room hcat) hd hcl) kk
  obtain ⟨cell, k1, k2, k3⟩ := va_recv G.2.2.2.2.2.1 hP hc hj
  exact ⟨cell, k1, k2, by rw [← hq]; exact k3⟩
theorem x_callS (G : xG p s m args meth c cc nL Ts own ret D dA sz0) (hM : xMet l y ws fr lo mc1 ms1 D dA As h sz Post1) (hg : GoodIn Ts (va_wsS own i y ws)) (hw : ws = Cond.code y bytes maxL ret1 :: ws')
    (hy : y.cls ≠ "java/lang/invoke/MethodHandle" ∧ y.cls ≠ "java/lang/invoke/VarHandle" ∧ (parseMethodDescriptor y.desc).map (fun d => d.parameters.length) = some n) (hRm : fr + 1 ≤ R.frames ∧ 8 + (maxL + 11) + lo ≤ R.locals)
    (hd : decode cc pc = .ok (.invokestatic i, 3)) (hn : As.length = n) (hst : st = As.reverse ++ rest) (hcat : (rest.map fun v => v.category).sum ≤ 8) (hcl : cells + mc1 ≤ R.cells ∧ slots + ms1 ≤ R.slots)
    (kk : ∀ (r : Option Value) (h1 : xH) (sz1 : Nat), Post1 r h1 sz1 → xV p l e R s m args below meth c D dA nL h0 sz0 mc ms Post (cells + mc1) (slots + ms1) (pc + 3) lv (r.toList ++ rest) h1 sz1) :
    xV p l e R s m args below meth c D dA nL h0 sz0 mc ms Post cells slots pc lv st h sz := fun H locs ls hR hz hS hv =>
  x_ran G hR hz hS hv (va_runS (As := As) (rest := rest) ⟨G.1, G.2.1, G.2.2.1, G.2.2.2.1, G.2.2.2.2.1⟩ hM (va_cwS n G.2.2.2.2.1 hg hw rfl rfl hy hRm) ⟨x_blind, fun U hU hW => ⟨rfl, by rw [hU]; exact hz, by rw [hU]; exact xR_weak hR (fun _ _ => trivial), va_K.moved hW.alike G.2.2.2.2.2.1, xN_warm hW G.2.2.2.2.2.2.2.2.1⟩⟩ rfl hn hv.1 hst (lv_room hcat) hd hcl) kk
theorem x_absl (G : xG p s m args meth c cc nL Ts own ret D dA sz0) {x : Int64} (hl : Cond.methodLink own i Lib.MathLoose.abs_long.x ∈ Ts) (hst : Cond.static Lib.MathLoose.abs_long.x ∈ Ts) (hini : Cond.initialized "java/lang/Math" ∈ Ts) (hco : Cond.code Lib.MathLoose.abs_long.x Lib.MathLoose.abs_long.code 2 (some .long) ∈ Ts) (hfr : 1 ≤ R.frames) (hlo : (st.map fun v => v.category).sum + 13 ≤ R.locals) (hcl : cells ≤ R.cells) (hsl : slots ≤ R.slots) (hd : decode cc pc = .ok (.invokestatic i, 3))
    (kk : xV p l e R s m args below meth c D dA nL h0 sz0 mc ms Post cells slots (pc + 3) lv (.long (if 0 < x then x else -x) :: st) h sz) : xV p l e R s m args below meth c D dA nL h0 sz0 mc ms Post cells slots pc lv (.long x :: st) h sz := fun H locs ls hR hz hS hv =>
  va_mabs_long G.1 G.2.1 (G.2.2.1.trans hv.1.symm) G.2.2.2.1 (G.2.2.2.2.1 _ hl) (G.2.2.2.2.1 _ hst) (G.2.2.2.2.1 _ hini) (G.2.2.2.2.1 _ hco) hfr hlo hcl hsl hd (kk H locs ls hR hz hS hv)
end XC
end
section
theorem dX0_init_0 : decode cX0_init 0 = .ok (.aload_n 0, 1) := by decide +kernel
theorem dX0_init_1 : decode cX0_init 1 = .ok (.invokespecial 3, 3) := by decide +kernel
theorem dX0_init_4 : decode cX0_init 4 = .ok (.aload_n 0, 1) := by decide +kernel
theorem dX0_init_5 : decode cX0_init 5 = .ok (.bipush 20, 2) := by decide +kernel
theorem dX0_init_7 : decode cX0_init 7 = .ok (.anewarray 9, 3) := by decide +kernel
theorem dX0_init_10 : decode cX0_init 10 = .ok (.putfield 11, 3) := by decide +kernel
theorem dX0_init_13 : decode cX0_init 13 = .ok (.iconst 0, 1) := by decide +kernel
theorem dX0_init_14 : decode cX0_init 14 = .ok (.istore_n 1, 1) := by decide +kernel
theorem dX0_init_15 : decode cX0_init 15 = .ok (.iload_n 1, 1) := by decide +kernel
theorem dX0_init_16 : decode cX0_init 16 = .ok (.bipush 20, 2) := by decide +kernel
theorem dX0_init_18 : decode cX0_init 18 = .ok (.if_icmp .ge 22, 3) := by decide +kernel
theorem dX0_init_21 : decode cX0_init 21 = .ok (.aload_n 0, 1) := by decide +kernel
theorem dX0_init_22 : decode cX0_init 22 = .ok (.getfield 11, 3) := by decide +kernel
theorem dX0_init_25 : decode cX0_init 25 = .ok (.iload_n 1, 1) := by decide +kernel
theorem dX0_init_26 : decode cX0_init 26 = .ok (.new 9, 3) := by decide +kernel
theorem dX0_init_29 : decode cX0_init 29 = .ok (.dup, 1) := by decide +kernel
theorem dX0_init_30 : decode cX0_init 30 = .ok (.invokespecial 17, 3) := by decide +kernel
theorem dX0_init_33 : decode cX0_init 33 = .ok (.aastore, 1) := by decide +kernel
theorem dX0_init_34 : decode cX0_init 34 = .ok (.iinc 1 1, 3) := by decide +kernel
theorem dX0_init_37 : decode cX0_init 37 = .ok (.goto (-22), 3) := by decide +kernel
theorem dX0_init_40 : decode cX0_init 40 = .ok (.return_, 1) := by decide +kernel
set_option maxRecDepth 20000 in
theorem ggX0_note_X3_copyDeeds : GoodIn wsX0_note wsX3_copyDeeds := goodIn_r _ [8, 9, 10, 11, 12, 13, 14, 15, 16, 20, 21, 22, 23, 24, 25] (by decide +kernel) (by decide +kernel)
set_option maxRecDepth 20000 in
theorem gX0_note_X3_copyDeeds : GoodIn wsX0_note (wsV RX0 22 RX3 yX3_copyDeeds wsX3_copyDeeds) := goodIn_app (goodIn_of _ (by decide +kernel)) ggX0_note_X3_copyDeeds
theorem dX0_note_0 : decode cX0_note 0 = .ok (.aload_n 0, 1) := by decide +kernel
theorem dX0_note_1 : decode cX0_note 1 = .ok (.getfield 11, 3) := by decide +kernel
theorem dX0_note_4 : decode cX0_note 4 = .ok (.aload_n 0, 1) := by decide +kernel
theorem dX0_note_5 : decode cX0_note 5 = .ok (.getfield 18, 3) := by decide +kernel
theorem dX0_note_8 : decode cX0_note 8 = .ok (.aaload, 1) := by decide +kernel
theorem dX0_note_9 : decode cX0_note 9 = .ok (.aload_n 1, 1) := by decide +kernel
theorem dX0_note_10 : decode cX0_note 10 = .ok (.invokevirtual 22, 3) := by decide +kernel
theorem dX0_note_13 : decode cX0_note 13 = .ok (.aload_n 0, 1) := by decide +kernel
theorem dX0_note_14 : decode cX0_note 14 = .ok (.aload_n 0, 1) := by decide +kernel
theorem dX0_note_15 : decode cX0_note 15 = .ok (.getfield 18, 3) := by decide +kernel
theorem dX0_note_18 : decode cX0_note 18 = .ok (.iconst 1, 1) := by decide +kernel
theorem dX0_note_19 : decode cX0_note 19 = .ok (.iadd, 1) := by decide +kernel
theorem dX0_note_20 : decode cX0_note 20 = .ok (.bipush 20, 2) := by decide +kernel
theorem dX0_note_22 : decode cX0_note 22 = .ok (.irem, 1) := by decide +kernel
theorem dX0_note_23 : decode cX0_note 23 = .ok (.putfield 18, 3) := by decide +kernel
theorem dX0_note_26 : decode cX0_note 26 = .ok (.aload_n 0, 1) := by decide +kernel
theorem dX0_note_27 : decode cX0_note 27 = .ok (.getfield 26, 3) := by decide +kernel
theorem dX0_note_30 : decode cX0_note 30 = .ok (.bipush 20, 2) := by decide +kernel
theorem dX0_note_32 : decode cX0_note 32 = .ok (.if_icmp .ge 13, 3) := by decide +kernel
theorem dX0_note_35 : decode cX0_note 35 = .ok (.aload_n 0, 1) := by decide +kernel
theorem dX0_note_36 : decode cX0_note 36 = .ok (.dup, 1) := by decide +kernel
theorem dX0_note_37 : decode cX0_note 37 = .ok (.getfield 26, 3) := by decide +kernel
theorem dX0_note_40 : decode cX0_note 40 = .ok (.iconst 1, 1) := by decide +kernel
theorem dX0_note_41 : decode cX0_note 41 = .ok (.iadd, 1) := by decide +kernel
theorem dX0_note_42 : decode cX0_note 42 = .ok (.putfield 26, 3) := by decide +kernel
theorem dX0_note_45 : decode cX0_note 45 = .ok (.return_, 1) := by decide +kernel
set_option maxRecDepth 20000 in
theorem ggX0_restore_J9_floorMod_7cf53 : GoodIn wsX0_restore wsJ9_floorMod_7cf53 := goodIn_r _ [7] (by decide +kernel) (by decide +kernel)
set_option maxRecDepth 20000 in
theorem gX0_restore_J9_floorMod_7cf53 : GoodIn wsX0_restore (va_wsS RX0 29 yJ9_floorMod_7cf53 wsJ9_floorMod_7cf53) := goodIn_app (goodIn_of _ (by decide +kernel)) ggX0_restore_J9_floorMod_7cf53
set_option maxRecDepth 20000 in
theorem ggX0_restore_X3_copyDeeds : GoodIn wsX0_restore wsX3_copyDeeds := goodIn_r _ [12, 13, 14, 15, 16, 17, 18, 19, 20, 24, 25, 26, 27, 28, 29] (by decide +kernel) (by decide +kernel)
set_option maxRecDepth 20000 in
theorem gX0_restore_X3_copyDeeds : GoodIn wsX0_restore (wsV RX0 22 RX3 yX3_copyDeeds wsX3_copyDeeds) := goodIn_app (goodIn_of _ (by decide +kernel)) ggX0_restore_X3_copyDeeds
theorem dX0_restore_0 : decode cX0_restore 0 = .ok (.aload_n 0, 1) := by decide +kernel
theorem dX0_restore_1 : decode cX0_restore 1 = .ok (.aload_n 0, 1) := by decide +kernel
theorem dX0_restore_2 : decode cX0_restore 2 = .ok (.getfield 18, 3) := by decide +kernel
theorem dX0_restore_5 : decode cX0_restore 5 = .ok (.iload_n 1, 1) := by decide +kernel
theorem dX0_restore_6 : decode cX0_restore 6 = .ok (.isub, 1) := by decide +kernel
theorem dX0_restore_7 : decode cX0_restore 7 = .ok (.bipush 20, 2) := by decide +kernel
theorem dX0_restore_9 : decode cX0_restore 9 = .ok (.invokestatic 29, 3) := by decide +kernel
theorem dX0_restore_12 : decode cX0_restore 12 = .ok (.putfield 18, 3) := by decide +kernel
theorem dX0_restore_15 : decode cX0_restore 15 = .ok (.aload_n 0, 1) := by decide +kernel
theorem dX0_restore_16 : decode cX0_restore 16 = .ok (.dup, 1) := by decide +kernel
theorem dX0_restore_17 : decode cX0_restore 17 = .ok (.getfield 26, 3) := by decide +kernel
theorem dX0_restore_20 : decode cX0_restore 20 = .ok (.iload_n 1, 1) := by decide +kernel
theorem dX0_restore_21 : decode cX0_restore 21 = .ok (.isub, 1) := by decide +kernel
theorem dX0_restore_22 : decode cX0_restore 22 = .ok (.putfield 26, 3) := by decide +kernel
theorem dX0_restore_25 : decode cX0_restore 25 = .ok (.aload_n 2, 1) := by decide +kernel
theorem dX0_restore_26 : decode cX0_restore 26 = .ok (.aload_n 0, 1) := by decide +kernel
theorem dX0_restore_27 : decode cX0_restore 27 = .ok (.getfield 11, 3) := by decide +kernel
theorem dX0_restore_30 : decode cX0_restore 30 = .ok (.aload_n 0, 1) := by decide +kernel
theorem dX0_restore_31 : decode cX0_restore 31 = .ok (.getfield 18, 3) := by decide +kernel
theorem dX0_restore_34 : decode cX0_restore 34 = .ok (.aaload, 1) := by decide +kernel
theorem dX0_restore_35 : decode cX0_restore 35 = .ok (.invokevirtual 22, 3) := by decide +kernel
theorem dX0_restore_38 : decode cX0_restore 38 = .ok (.return_, 1) := by decide +kernel
theorem dX0_forget_0 : decode cX0_forget 0 = .ok (.aload_n 0, 1) := by decide +kernel
theorem dX0_forget_1 : decode cX0_forget 1 = .ok (.iconst 0, 1) := by decide +kernel
theorem dX0_forget_2 : decode cX0_forget 2 = .ok (.putfield 26, 3) := by decide +kernel
theorem dX0_forget_5 : decode cX0_forget 5 = .ok (.return_, 1) := by decide +kernel
theorem dX1_init_0 : decode cX1_init 0 = .ok (.aload_n 0, 1) := by decide +kernel
theorem dX1_init_1 : decode cX1_init 1 = .ok (.invokespecial 3, 3) := by decide +kernel
theorem dX1_init_4 : decode cX1_init 4 = .ok (.aload_n 0, 1) := by decide +kernel
theorem dX1_init_5 : decode cX1_init 5 = .ok (.bipush 7, 2) := by decide +kernel
theorem dX1_init_7 : decode cX1_init 7 = .ok (.bipush 10, 2) := by decide +kernel
theorem dX1_init_9 : decode cX1_init 9 = .ok (.multianewarray 11 2, 4) := by decide +kernel
theorem dX1_init_13 : decode cX1_init 13 = .ok (.putfield 13, 3) := by decide +kernel
theorem dX1_init_16 : decode cX1_init 16 = .ok (.aload_n 0, 1) := by decide +kernel
theorem dX1_init_17 : decode cX1_init 17 = .ok (.bipush 7, 2) := by decide +kernel
theorem dX1_init_19 : decode cX1_init 19 = .ok (.newarray .int, 2) := by decide +kernel
theorem dX1_init_21 : decode cX1_init 21 = .ok (.putfield 16, 3) := by decide +kernel
theorem dX1_init_24 : decode cX1_init 24 = .ok (.aload_n 0, 1) := by decide +kernel
theorem dX1_init_25 : decode cX1_init 25 = .ok (.bipush 10, 2) := by decide +kernel
theorem dX1_init_27 : decode cX1_init 27 = .ok (.newarray .long, 2) := by decide +kernel
theorem dX1_init_29 : decode cX1_init 29 = .ok (.putfield 20, 3) := by decide +kernel
theorem dX1_init_32 : decode cX1_init 32 = .ok (.aload_n 0, 1) := by decide +kernel
theorem dX1_init_33 : decode cX1_init 33 = .ok (.iconst (-1), 1) := by decide +kernel
theorem dX1_init_34 : decode cX1_init 34 = .ok (.putfield 24, 3) := by decide +kernel
theorem dX1_init_37 : decode cX1_init 37 = .ok (.return_, 1) := by decide +kernel
set_option maxRecDepth 20000 in
theorem ggX1_readAll_X1_start : GoodIn wsX1_readAll wsX1_start := goodIn_r _ [6, 7, 8, 9, 10, 11, 12, 5, 13, 14, 15, 16, 68, 69, 70, 71, 72, 73, 74, 75, 76] (by decide +kernel) (by decide +kernel)
set_option maxRecDepth 20000 in
theorem gX1_readAll_X1_start : GoodIn wsX1_readAll (wsV RX1 28 RX1 yX1_start wsX1_start) := goodIn_app (goodIn_of _ (by decide +kernel)) ggX1_readAll_X1_start
set_option maxRecDepth 20000 in
theorem ggX1_readAll_X1_take : GoodIn wsX1_readAll wsX1_take := goodIn_r _ [20, 16, 21, 22, 23, 24, 5, 25, 26, 27, 28, 29, 30, 7, 10, 11, 12, 13, 14, 15, 31, 32, 33, 34, 35, 36, 37, 38, 8, 9, 39, 40, 41, 42, 43, 44, 45, 46, 47, 48, 49, 50, 51, 52, 53, 54, 55, 56, 57, 58, 68, 69, 70, 71, 72, 73, 74, 75, 76] (by decide +kernel) (by decide +kernel)
set_option maxRecDepth 20000 in
theorem gX1_readAll_X1_take : GoodIn wsX1_readAll (wsV RX1 32 RX1 yX1_take wsX1_take) := goodIn_app (goodIn_of _ (by decide +kernel)) ggX1_readAll_X1_take
set_option maxRecDepth 20000 in
theorem ggX1_readAll_X1_end : GoodIn wsX1_readAll wsX1_end := goodIn_r _ [62, 16, 7, 9, 14, 63, 64, 65, 66, 67, 43, 44, 45, 5, 46, 15, 26, 68, 69, 70, 71, 72, 73, 74, 75, 76] (by decide +kernel) (by decide +kernel)
set_option maxRecDepth 20000 in
theorem gX1_readAll_X1_end : GoodIn wsX1_readAll (wsV RX1 36 RX1 yX1_end wsX1_end) := goodIn_app (goodIn_of _ (by decide +kernel)) ggX1_readAll_X1_end
theorem dX1_readAll_0 : decode cX1_readAll 0 = .ok (.aload_n 0, 1) := by decide +kernel
theorem dX1_readAll_1 : decode cX1_readAll 1 = .ok (.iload_n 3, 1) := by decide +kernel
theorem dX1_readAll_2 : decode cX1_readAll 2 = .ok (.invokevirtual 28, 3) := by decide +kernel
theorem dX1_readAll_5 : decode cX1_readAll 5 = .ok (.iconst 0, 1) := by decide +kernel
theorem dX1_readAll_6 : decode cX1_readAll 6 = .ok (.istore 4, 2) := by decide +kernel
theorem dX1_readAll_8 : decode cX1_readAll 8 = .ok (.iload 4, 2) := by decide +kernel
theorem dX1_readAll_10 : decode cX1_readAll 10 = .ok (.iload_n 2, 1) := by decide +kernel
theorem dX1_readAll_11 : decode cX1_readAll 11 = .ok (.if_icmp .ge 53, 3) := by decide +kernel
theorem dX1_readAll_14 : decode cX1_readAll 14 = .ok (.iload 4, 2) := by decide +kernel
theorem dX1_readAll_16 : decode cX1_readAll 16 = .ok (.aload_n 1, 1) := by decide +kernel
theorem dX1_readAll_17 : decode cX1_readAll 17 = .ok (.arraylength, 1) := by decide +kernel
theorem dX1_readAll_18 : decode cX1_readAll 18 = .ok (.if_icmp .ge 46, 3) := by decide +kernel
theorem dX1_readAll_21 : decode cX1_readAll 21 = .ok (.aload_n 1, 1) := by decide +kernel
theorem dX1_readAll_22 : decode cX1_readAll 22 = .ok (.iload 4, 2) := by decide +kernel
theorem dX1_readAll_24 : decode cX1_readAll 24 = .ok (.iaload, 1) := by decide +kernel
theorem dX1_readAll_25 : decode cX1_readAll 25 = .ok (.bipush 32, 2) := by decide +kernel
theorem dX1_readAll_27 : decode cX1_readAll 27 = .ok (.if_icmp .ne 7, 3) := by decide +kernel
theorem dX1_readAll_30 : decode cX1_readAll 30 = .ok (.iconst 0, 1) := by decide +kernel
theorem dX1_readAll_31 : decode cX1_readAll 31 = .ok (.goto 11, 3) := by decide +kernel
theorem dX1_readAll_34 : decode cX1_readAll 34 = .ok (.aload_n 0, 1) := by decide +kernel
theorem dX1_readAll_35 : decode cX1_readAll 35 = .ok (.aload_n 1, 1) := by decide +kernel
theorem dX1_readAll_36 : decode cX1_readAll 36 = .ok (.iload 4, 2) := by decide +kernel
theorem dX1_readAll_38 : decode cX1_readAll 38 = .ok (.iaload, 1) := by decide +kernel
theorem dX1_readAll_39 : decode cX1_readAll 39 = .ok (.invokevirtual 32, 3) := by decide +kernel
theorem dX1_readAll_42 : decode cX1_readAll 42 = .ok (.istore 5, 2) := by decide +kernel
theorem dX1_readAll_44 : decode cX1_readAll 44 = .ok (.iload 5, 2) := by decide +kernel
theorem dX1_readAll_46 : decode cX1_readAll 46 = .ok (.ifCond .eq 12, 3) := by decide +kernel
theorem dX1_readAll_49 : decode cX1_readAll 49 = .ok (.aload_n 0, 1) := by decide +kernel
theorem dX1_readAll_50 : decode cX1_readAll 50 = .ok (.iload 4, 2) := by decide +kernel
theorem dX1_readAll_52 : decode cX1_readAll 52 = .ok (.putfield 24, 3) := by decide +kernel
theorem dX1_readAll_55 : decode cX1_readAll 55 = .ok (.iload 5, 2) := by decide +kernel
theorem dX1_readAll_57 : decode cX1_readAll 57 = .ok (.ireturn, 1) := by decide +kernel
theorem dX1_readAll_58 : decode cX1_readAll 58 = .ok (.iinc 4 1, 3) := by decide +kernel
theorem dX1_readAll_61 : decode cX1_readAll 61 = .ok (.goto (-53), 3) := by decide +kernel
theorem dX1_readAll_64 : decode cX1_readAll 64 = .ok (.aload_n 0, 1) := by decide +kernel
theorem dX1_readAll_65 : decode cX1_readAll 65 = .ok (.invokevirtual 36, 3) := by decide +kernel
theorem dX1_readAll_68 : decode cX1_readAll 68 = .ok (.istore 4, 2) := by decide +kernel
theorem dX1_readAll_70 : decode cX1_readAll 70 = .ok (.aload_n 0, 1) := by decide +kernel
theorem dX1_readAll_71 : decode cX1_readAll 71 = .ok (.iload 4, 2) := by decide +kernel
theorem dX1_readAll_73 : decode cX1_readAll 73 = .ok (.ifCond .ne 7, 3) := by decide +kernel
theorem dX1_readAll_76 : decode cX1_readAll 76 = .ok (.iconst (-1), 1) := by decide +kernel
theorem dX1_readAll_77 : decode cX1_readAll 77 = .ok (.goto 4, 3) := by decide +kernel
theorem dX1_readAll_80 : decode cX1_readAll 80 = .ok (.iload_n 2, 1) := by decide +kernel
theorem dX1_readAll_81 : decode cX1_readAll 81 = .ok (.putfield 24, 3) := by decide +kernel
theorem dX1_readAll_84 : decode cX1_readAll 84 = .ok (.iload 4, 2) := by decide +kernel
theorem dX1_readAll_86 : decode cX1_readAll 86 = .ok (.ireturn, 1) := by decide +kernel
set_option maxRecDepth 20000 in
theorem ggX1_start_X1_startTotal : GoodIn wsX1_start wsX1_startTotal := goodIn_r _ [8, 9, 1, 10, 11, 12, 13, 14, 15, 16, 17, 18, 19, 20] (by decide +kernel) (by decide +kernel)
set_option maxRecDepth 20000 in
theorem gX1_start_X1_startTotal : GoodIn wsX1_start (wsV RX1 50 RX1 yX1_startTotal wsX1_startTotal) := goodIn_app (goodIn_of _ (by decide +kernel)) ggX1_start_X1_startTotal
theorem dX1_start_0 : decode cX1_start 0 = .ok (.aload_n 0, 1) := by decide +kernel
theorem dX1_start_1 : decode cX1_start 1 = .ok (.iconst 0, 1) := by decide +kernel
theorem dX1_start_2 : decode cX1_start 2 = .ok (.putfield 40, 3) := by decide +kernel
theorem dX1_start_5 : decode cX1_start 5 = .ok (.aload_n 0, 1) := by decide +kernel
theorem dX1_start_6 : decode cX1_start 6 = .ok (.iconst 1, 1) := by decide +kernel
theorem dX1_start_7 : decode cX1_start 7 = .ok (.putfield 43, 3) := by decide +kernel
theorem dX1_start_10 : decode cX1_start 10 = .ok (.aload_n 0, 1) := by decide +kernel
theorem dX1_start_11 : decode cX1_start 11 = .ok (.iload_n 1, 1) := by decide +kernel
theorem dX1_start_12 : decode cX1_start 12 = .ok (.putfield 46, 3) := by decide +kernel
theorem dX1_start_15 : decode cX1_start 15 = .ok (.aload_n 0, 1) := by decide +kernel
theorem dX1_start_16 : decode cX1_start 16 = .ok (.invokevirtual 50, 3) := by decide +kernel
theorem dX1_start_19 : decode cX1_start 19 = .ok (.return_, 1) := by decide +kernel
theorem dX1_startTotal_0 : decode cX1_startTotal 0 = .ok (.iconst 0, 1) := by decide +kernel
theorem dX1_startTotal_1 : decode cX1_startTotal 1 = .ok (.istore_n 1, 1) := by decide +kernel
theorem dX1_startTotal_2 : decode cX1_startTotal 2 = .ok (.iload_n 1, 1) := by decide +kernel
theorem dX1_startTotal_3 : decode cX1_startTotal 3 = .ok (.bipush 10, 2) := by decide +kernel
theorem dX1_startTotal_5 : decode cX1_startTotal 5 = .ok (.if_icmp .ge 21, 3) := by decide +kernel
theorem dX1_startTotal_8 : decode cX1_startTotal 8 = .ok (.aload_n 0, 1) := by decide +kernel
theorem dX1_startTotal_9 : decode cX1_startTotal 9 = .ok (.getfield 13, 3) := by decide +kernel
theorem dX1_startTotal_12 : decode cX1_startTotal 12 = .ok (.aload_n 0, 1) := by decide +kernel
theorem dX1_startTotal_13 : decode cX1_startTotal 13 = .ok (.getfield 40, 3) := by decide +kernel
theorem dX1_startTotal_16 : decode cX1_startTotal 16 = .ok (.aaload, 1) := by decide +kernel
theorem dX1_startTotal_17 : decode cX1_startTotal 17 = .ok (.iload_n 1, 1) := by decide +kernel
theorem dX1_startTotal_18 : decode cX1_startTotal 18 = .ok (.lconst 0, 1) := by decide +kernel
theorem dX1_startTotal_19 : decode cX1_startTotal 19 = .ok (.lastore, 1) := by decide +kernel
theorem dX1_startTotal_20 : decode cX1_startTotal 20 = .ok (.iinc 1 1, 3) := by decide +kernel
theorem dX1_startTotal_23 : decode cX1_startTotal 23 = .ok (.goto (-21), 3) := by decide +kernel
theorem dX1_startTotal_26 : decode cX1_startTotal 26 = .ok (.aload_n 0, 1) := by decide +kernel
theorem dX1_startTotal_27 : decode cX1_startTotal 27 = .ok (.getfield 16, 3) := by decide +kernel
theorem dX1_startTotal_30 : decode cX1_startTotal 30 = .ok (.aload_n 0, 1) := by decide +kernel
theorem dX1_startTotal_31 : decode cX1_startTotal 31 = .ok (.getfield 40, 3) := by decide +kernel
theorem dX1_startTotal_34 : decode cX1_startTotal 34 = .ok (.iconst 1, 1) := by decide +kernel
theorem dX1_startTotal_35 : decode cX1_startTotal 35 = .ok (.iastore, 1) := by decide +kernel
theorem dX1_startTotal_36 : decode cX1_startTotal 36 = .ok (.aload_n 0, 1) := by decide +kernel
theorem dX1_startTotal_37 : decode cX1_startTotal 37 = .ok (.iconst 0, 1) := by decide +kernel
theorem dX1_startTotal_38 : decode cX1_startTotal 38 = .ok (.putfield 53, 3) := by decide +kernel
theorem dX1_startTotal_41 : decode cX1_startTotal 41 = .ok (.return_, 1) := by decide +kernel
set_option maxRecDepth 20000 in
theorem ggX1_end_X1_putFactor : GoodIn wsX1_end wsX1_putFactor := goodIn_r _ [14, 4, 2, 15, 16, 17, 18, 19, 20, 21, 22, 23, 24, 25] (by decide +kernel) (by decide +kernel)
set_option maxRecDepth 20000 in
theorem gX1_end_X1_putFactor : GoodIn wsX1_end (wsV RX1 56 RX1 yX1_putFactor wsX1_putFactor) := goodIn_app (goodIn_of _ (by decide +kernel)) ggX1_end_X1_putFactor
theorem dX1_end_0 : decode cX1_end 0 = .ok (.aload_n 0, 1) := by decide +kernel
theorem dX1_end_1 : decode cX1_end 1 = .ok (.getfield 53, 3) := by decide +kernel
theorem dX1_end_4 : decode cX1_end 4 = .ok (.iconst 1, 1) := by decide +kernel
theorem dX1_end_5 : decode cX1_end 5 = .ok (.if_icmp .eq 11, 3) := by decide +kernel
theorem dX1_end_8 : decode cX1_end 8 = .ok (.aload_n 0, 1) := by decide +kernel
theorem dX1_end_9 : decode cX1_end 9 = .ok (.getfield 53, 3) := by decide +kernel
theorem dX1_end_12 : decode cX1_end 12 = .ok (.iconst 4, 1) := by decide +kernel
theorem dX1_end_13 : decode cX1_end 13 = .ok (.if_icmp .ne 7, 3) := by decide +kernel
theorem dX1_end_16 : decode cX1_end 16 = .ok (.iconst 1, 1) := by decide +kernel
theorem dX1_end_17 : decode cX1_end 17 = .ok (.goto 4, 3) := by decide +kernel
theorem dX1_end_20 : decode cX1_end 20 = .ok (.iconst 0, 1) := by decide +kernel
theorem dX1_end_21 : decode cX1_end 21 = .ok (.istore_n 1, 1) := by decide +kernel
theorem dX1_end_22 : decode cX1_end 22 = .ok (.iload_n 1, 1) := by decide +kernel
theorem dX1_end_23 : decode cX1_end 23 = .ok (.ifCond .eq 17, 3) := by decide +kernel
theorem dX1_end_26 : decode cX1_end 26 = .ok (.aload_n 0, 1) := by decide +kernel
theorem dX1_end_27 : decode cX1_end 27 = .ok (.getfield 40, 3) := by decide +kernel
theorem dX1_end_30 : decode cX1_end 30 = .ok (.ifCond .gt 10, 3) := by decide +kernel
theorem dX1_end_33 : decode cX1_end 33 = .ok (.aload_n 0, 1) := by decide +kernel
theorem dX1_end_34 : decode cX1_end 34 = .ok (.getfield 46, 3) := by decide +kernel
theorem dX1_end_37 : decode cX1_end 37 = .ok (.ifCond .eq 5, 3) := by decide +kernel
theorem dX1_end_40 : decode cX1_end 40 = .ok (.iconst 1, 1) := by decide +kernel
theorem dX1_end_41 : decode cX1_end 41 = .ok (.ireturn, 1) := by decide +kernel
theorem dX1_end_42 : decode cX1_end 42 = .ok (.aload_n 0, 1) := by decide +kernel
theorem dX1_end_43 : decode cX1_end 43 = .ok (.invokevirtual 56, 3) := by decide +kernel
theorem dX1_end_46 : decode cX1_end 46 = .ok (.iconst 0, 1) := by decide +kernel
theorem dX1_end_47 : decode cX1_end 47 = .ok (.istore_n 2, 1) := by decide +kernel
theorem dX1_end_48 : decode cX1_end 48 = .ok (.iload_n 2, 1) := by decide +kernel
theorem dX1_end_49 : decode cX1_end 49 = .ok (.bipush 10, 2) := by decide +kernel
theorem dX1_end_51 : decode cX1_end 51 = .ok (.if_icmp .ge 29, 3) := by decide +kernel
theorem dX1_end_54 : decode cX1_end 54 = .ok (.aload_n 0, 1) := by decide +kernel
theorem dX1_end_55 : decode cX1_end 55 = .ok (.getfield 13, 3) := by decide +kernel
theorem dX1_end_58 : decode cX1_end 58 = .ok (.iconst 0, 1) := by decide +kernel
theorem dX1_end_59 : decode cX1_end 59 = .ok (.aaload, 1) := by decide +kernel
theorem dX1_end_60 : decode cX1_end 60 = .ok (.iload_n 2, 1) := by decide +kernel
theorem dX1_end_61 : decode cX1_end 61 = .ok (.laload, 1) := by decide +kernel
theorem dX1_end_62 : decode cX1_end 62 = .ok (.invokestatic 59, 3) := by decide +kernel
theorem dX1_end_65 : decode cX1_end 65 = .ok (.ldc2_w 65, 3) := by decide +kernel
theorem dX1_end_68 : decode cX1_end 68 = .ok (.lcmp, 1) := by decide +kernel
theorem dX1_end_69 : decode cX1_end 69 = .ok (.ifCond .le 5, 3) := by decide +kernel
theorem dX1_end_72 : decode cX1_end 72 = .ok (.iconst 3, 1) := by decide +kernel
theorem dX1_end_73 : decode cX1_end 73 = .ok (.ireturn, 1) := by decide +kernel
theorem dX1_end_74 : decode cX1_end 74 = .ok (.iinc 2 1, 3) := by decide +kernel
theorem dX1_end_77 : decode cX1_end 77 = .ok (.goto (-29), 3) := by decide +kernel
theorem dX1_end_80 : decode cX1_end 80 = .ok (.iconst 0, 1) := by decide +kernel
theorem dX1_end_81 : decode cX1_end 81 = .ok (.ireturn, 1) := by decide +kernel
set_option maxRecDepth 20000 in
theorem ggX1_take_X1_takeAtom : GoodIn wsX1_take wsX1_takeAtom := goodIn_r _ [7, 8, 1, 9, 10, 11, 6, 12, 13, 14, 15, 16, 17, 18, 19, 20, 21, 22, 23, 50, 51, 52, 53, 54, 55, 56, 57, 58] (by decide +kernel) (by decide +kernel)
set_option maxRecDepth 20000 in
theorem gX1_take_X1_takeAtom : GoodIn wsX1_take (wsV RX1 67 RX1 yX1_takeAtom wsX1_takeAtom) := goodIn_app (goodIn_of _ (by decide +kernel)) ggX1_take_X1_takeAtom
set_option maxRecDepth 20000 in
theorem ggX1_take_X1_takeJoint : GoodIn wsX1_take wsX1_takeJoint := goodIn_r _ [27, 13, 28, 29, 30, 31, 32, 6, 33, 19, 1, 34, 35, 36, 37, 18, 8, 38, 39, 40, 41, 42, 43, 44, 45, 50, 51, 52, 53, 54, 55, 56, 57, 58] (by decide +kernel) (by decide +kernel)
set_option maxRecDepth 20000 in
theorem gX1_take_X1_takeJoint : GoodIn wsX1_take (wsV RX1 73 RX1 yX1_takeJoint wsX1_takeJoint) := goodIn_app (goodIn_of _ (by decide +kernel)) ggX1_take_X1_takeJoint
set_option maxRecDepth 20000 in
theorem ggX1_take_X1_takeFigure : GoodIn wsX1_take wsX1_takeFigure := goodIn_r _ [49, 8, 2, 1, 50, 51, 52, 53, 54, 55, 56, 57, 58] (by decide +kernel) (by decide +kernel)
set_option maxRecDepth 20000 in
theorem gX1_take_X1_takeFigure : GoodIn wsX1_take (wsV RX1 76 RX1 yX1_takeFigure wsX1_takeFigure) := goodIn_app (goodIn_of _ (by decide +kernel)) ggX1_take_X1_takeFigure
theorem dX1_take_0 : decode cX1_take 0 = .ok (.aload_n 0, 1) := by decide +kernel
theorem dX1_take_1 : decode cX1_take 1 = .ok (.getfield 53, 3) := by decide +kernel
theorem dX1_take_4 : decode cX1_take 4 = .ok (.tableswitch 92 0 3 #[32, 38, 62, 86], 32) := by decide +kernel
theorem dX1_take_36 : decode cX1_take 36 = .ok (.aload_n 0, 1) := by decide +kernel
theorem dX1_take_37 : decode cX1_take 37 = .ok (.iload_n 1, 1) := by decide +kernel
theorem dX1_take_38 : decode cX1_take 38 = .ok (.invokevirtual 67, 3) := by decide +kernel
theorem dX1_take_41 : decode cX1_take 41 = .ok (.ireturn, 1) := by decide +kernel
theorem dX1_take_42 : decode cX1_take 42 = .ok (.iload_n 1, 1) := by decide +kernel
theorem dX1_take_43 : decode cX1_take 43 = .ok (.bipush 94, 2) := by decide +kernel
theorem dX1_take_45 : decode cX1_take 45 = .ok (.if_icmp .ne 15, 3) := by decide +kernel
theorem dX1_take_48 : decode cX1_take 48 = .ok (.aload_n 0, 1) := by decide +kernel
theorem dX1_take_49 : decode cX1_take 49 = .ok (.iconst 2, 1) := by decide +kernel
theorem dX1_take_50 : decode cX1_take 50 = .ok (.putfield 53, 3) := by decide +kernel
theorem dX1_take_53 : decode cX1_take 53 = .ok (.aload_n 0, 1) := by decide +kernel
theorem dX1_take_54 : decode cX1_take 54 = .ok (.iconst 1, 1) := by decide +kernel
theorem dX1_take_55 : decode cX1_take 55 = .ok (.putfield 70, 3) := by decide +kernel
theorem dX1_take_58 : decode cX1_take 58 = .ok (.iconst 0, 1) := by decide +kernel
theorem dX1_take_59 : decode cX1_take 59 = .ok (.ireturn, 1) := by decide +kernel
theorem dX1_take_60 : decode cX1_take 60 = .ok (.aload_n 0, 1) := by decide +kernel
theorem dX1_take_61 : decode cX1_take 61 = .ok (.iload_n 1, 1) := by decide +kernel
theorem dX1_take_62 : decode cX1_take 62 = .ok (.invokevirtual 73, 3) := by decide +kernel
theorem dX1_take_65 : decode cX1_take 65 = .ok (.ireturn, 1) := by decide +kernel
theorem dX1_take_66 : decode cX1_take 66 = .ok (.iload_n 1, 1) := by decide +kernel
theorem dX1_take_67 : decode cX1_take 67 = .ok (.bipush 45, 2) := by decide +kernel
theorem dX1_take_69 : decode cX1_take 69 = .ok (.if_icmp .ne 15, 3) := by decide +kernel
theorem dX1_take_72 : decode cX1_take 72 = .ok (.aload_n 0, 1) := by decide +kernel
theorem dX1_take_73 : decode cX1_take 73 = .ok (.iconst 3, 1) := by decide +kernel
theorem dX1_take_74 : decode cX1_take 74 = .ok (.putfield 53, 3) := by decide +kernel
theorem dX1_take_77 : decode cX1_take 77 = .ok (.aload_n 0, 1) := by decide +kernel
theorem dX1_take_78 : decode cX1_take 78 = .ok (.iconst (-1), 1) := by decide +kernel
theorem dX1_take_79 : decode cX1_take 79 = .ok (.putfield 70, 3) := by decide +kernel
theorem dX1_take_82 : decode cX1_take 82 = .ok (.iconst 0, 1) := by decide +kernel
theorem dX1_take_83 : decode cX1_take 83 = .ok (.ireturn, 1) := by decide +kernel
theorem dX1_take_84 : decode cX1_take 84 = .ok (.aload_n 0, 1) := by decide +kernel
theorem dX1_take_85 : decode cX1_take 85 = .ok (.iload_n 1, 1) := by decide +kernel
theorem dX1_take_86 : decode cX1_take 86 = .ok (.invokevirtual 76, 3) := by decide +kernel
theorem dX1_take_89 : decode cX1_take 89 = .ok (.ireturn, 1) := by decide +kernel
theorem dX1_take_90 : decode cX1_take 90 = .ok (.aload_n 0, 1) := by decide +kernel
theorem dX1_take_91 : decode cX1_take 91 = .ok (.iload_n 1, 1) := by decide +kernel
theorem dX1_take_92 : decode cX1_take 92 = .ok (.invokevirtual 76, 3) := by decide +kernel
theorem dX1_take_95 : decode cX1_take 95 = .ok (.ireturn, 1) := by decide +kernel
theorem dX1_take_96 : decode cX1_take 96 = .ok (.aload_n 0, 1) := by decide +kernel
theorem dX1_take_97 : decode cX1_take 97 = .ok (.iload_n 1, 1) := by decide +kernel
theorem dX1_take_98 : decode cX1_take 98 = .ok (.invokevirtual 73, 3) := by decide +kernel
theorem dX1_take_101 : decode cX1_take 101 = .ok (.ireturn, 1) := by decide +kernel
set_option maxRecDepth 20000 in
theorem ggX1_takeAtom_X1_takeOpening : GoodIn wsX1_takeAtom wsX1_takeOpening := goodIn_r _ [7, 8, 9, 10, 11, 6, 12, 13, 14, 2, 19, 20, 21, 22, 23, 24, 25, 26, 27] (by decide +kernel) (by decide +kernel)
set_option maxRecDepth 20000 in
theorem gX1_takeAtom_X1_takeOpening : GoodIn wsX1_takeAtom (wsV RX1 79 RX1 yX1_takeOpening wsX1_takeOpening) := goodIn_app (goodIn_of _ (by decide +kernel)) ggX1_takeAtom_X1_takeOpening
set_option maxRecDepth 20000 in
theorem ggX1_takeAtom_J7_fill_d0a16 : GoodIn wsX1_takeAtom wsJ7_fill_d0a16 := goodIn_r _ [18] (by decide +kernel) (by decide +kernel)
set_option maxRecDepth 20000 in
theorem gX1_takeAtom_J7_fill_d0a16 : GoodIn wsX1_takeAtom (va_wsS RX1 82 yJ7_fill_d0a16 wsJ7_fill_d0a16) := goodIn_app (goodIn_of _ (by decide +kernel)) ggX1_takeAtom_J7_fill_d0a16
theorem dX1_takeAtom_0 : decode cX1_takeAtom 0 = .ok (.iload_n 1, 1) := by decide +kernel
theorem dX1_takeAtom_1 : decode cX1_takeAtom 1 = .ok (.bipush 40, 2) := by decide +kernel
theorem dX1_takeAtom_3 : decode cX1_takeAtom 3 = .ok (.if_icmp .ne 8, 3) := by decide +kernel
theorem dX1_takeAtom_6 : decode cX1_takeAtom 6 = .ok (.aload_n 0, 1) := by decide +kernel
theorem dX1_takeAtom_7 : decode cX1_takeAtom 7 = .ok (.invokevirtual 79, 3) := by decide +kernel
theorem dX1_takeAtom_10 : decode cX1_takeAtom 10 = .ok (.ireturn, 1) := by decide +kernel
theorem dX1_takeAtom_11 : decode cX1_takeAtom 11 = .ok (.aload_n 0, 1) := by decide +kernel
theorem dX1_takeAtom_12 : decode cX1_takeAtom 12 = .ok (.getfield 20, 3) := by decide +kernel
theorem dX1_takeAtom_15 : decode cX1_takeAtom 15 = .ok (.lconst 0, 1) := by decide +kernel
theorem dX1_takeAtom_16 : decode cX1_takeAtom 16 = .ok (.invokestatic 82, 3) := by decide +kernel
theorem dX1_takeAtom_19 : decode cX1_takeAtom 19 = .ok (.iload_n 1, 1) := by decide +kernel
theorem dX1_takeAtom_20 : decode cX1_takeAtom 20 = .ok (.bipush 117, 2) := by decide +kernel
theorem dX1_takeAtom_22 : decode cX1_takeAtom 22 = .ok (.if_icmp .lt 22, 3) := by decide +kernel
theorem dX1_takeAtom_25 : decode cX1_takeAtom 25 = .ok (.iload_n 1, 1) := by decide +kernel
theorem dX1_takeAtom_26 : decode cX1_takeAtom 26 = .ok (.bipush 122, 2) := by decide +kernel
theorem dX1_takeAtom_28 : decode cX1_takeAtom 28 = .ok (.if_icmp .gt 16, 3) := by decide +kernel
theorem dX1_takeAtom_31 : decode cX1_takeAtom 31 = .ok (.aload_n 0, 1) := by decide +kernel
theorem dX1_takeAtom_32 : decode cX1_takeAtom 32 = .ok (.getfield 20, 3) := by decide +kernel
theorem dX1_takeAtom_35 : decode cX1_takeAtom 35 = .ok (.iload_n 1, 1) := by decide +kernel
theorem dX1_takeAtom_36 : decode cX1_takeAtom 36 = .ok (.bipush 117, 2) := by decide +kernel
theorem dX1_takeAtom_38 : decode cX1_takeAtom 38 = .ok (.isub, 1) := by decide +kernel
theorem dX1_takeAtom_39 : decode cX1_takeAtom 39 = .ok (.lconst 1, 1) := by decide +kernel
theorem dX1_takeAtom_40 : decode cX1_takeAtom 40 = .ok (.lastore, 1) := by decide +kernel
theorem dX1_takeAtom_41 : decode cX1_takeAtom 41 = .ok (.goto 39, 3) := by decide +kernel
theorem dX1_takeAtom_44 : decode cX1_takeAtom 44 = .ok (.iload_n 1, 1) := by decide +kernel
theorem dX1_takeAtom_45 : decode cX1_takeAtom 45 = .ok (.bipush 97, 2) := by decide +kernel
theorem dX1_takeAtom_47 : decode cX1_takeAtom 47 = .ok (.if_icmp .lt 25, 3) := by decide +kernel
theorem dX1_takeAtom_50 : decode cX1_takeAtom 50 = .ok (.iload_n 1, 1) := by decide +kernel
theorem dX1_takeAtom_51 : decode cX1_takeAtom 51 = .ok (.bipush 100, 2) := by decide +kernel
theorem dX1_takeAtom_53 : decode cX1_takeAtom 53 = .ok (.if_icmp .gt 19, 3) := by decide +kernel
theorem dX1_takeAtom_56 : decode cX1_takeAtom 56 = .ok (.aload_n 0, 1) := by decide +kernel
theorem dX1_takeAtom_57 : decode cX1_takeAtom 57 = .ok (.getfield 20, 3) := by decide +kernel
theorem dX1_takeAtom_60 : decode cX1_takeAtom 60 = .ok (.bipush 6, 2) := by decide +kernel
theorem dX1_takeAtom_62 : decode cX1_takeAtom 62 = .ok (.iload_n 1, 1) := by decide +kernel
theorem dX1_takeAtom_63 : decode cX1_takeAtom 63 = .ok (.iadd, 1) := by decide +kernel
theorem dX1_takeAtom_64 : decode cX1_takeAtom 64 = .ok (.bipush 97, 2) := by decide +kernel
theorem dX1_takeAtom_66 : decode cX1_takeAtom 66 = .ok (.isub, 1) := by decide +kernel
theorem dX1_takeAtom_67 : decode cX1_takeAtom 67 = .ok (.lconst 1, 1) := by decide +kernel
theorem dX1_takeAtom_68 : decode cX1_takeAtom 68 = .ok (.lastore, 1) := by decide +kernel
theorem dX1_takeAtom_69 : decode cX1_takeAtom 69 = .ok (.goto 11, 3) := by decide +kernel
theorem dX1_takeAtom_72 : decode cX1_takeAtom 72 = .ok (.iload_n 1, 1) := by decide +kernel
theorem dX1_takeAtom_73 : decode cX1_takeAtom 73 = .ok (.bipush 49, 2) := by decide +kernel
theorem dX1_takeAtom_75 : decode cX1_takeAtom 75 = .ok (.if_icmp .eq 5, 3) := by decide +kernel
theorem dX1_takeAtom_78 : decode cX1_takeAtom 78 = .ok (.iconst 1, 1) := by decide +kernel
theorem dX1_takeAtom_79 : decode cX1_takeAtom 79 = .ok (.ireturn, 1) := by decide +kernel
theorem dX1_takeAtom_80 : decode cX1_takeAtom 80 = .ok (.aload_n 0, 1) := by decide +kernel
theorem dX1_takeAtom_81 : decode cX1_takeAtom 81 = .ok (.iconst 1, 1) := by decide +kernel
theorem dX1_takeAtom_82 : decode cX1_takeAtom 82 = .ok (.putfield 53, 3) := by decide +kernel
theorem dX1_takeAtom_85 : decode cX1_takeAtom 85 = .ok (.iconst 0, 1) := by decide +kernel
theorem dX1_takeAtom_86 : decode cX1_takeAtom 86 = .ok (.ireturn, 1) := by decide +kernel
set_option maxRecDepth 20000 in
theorem ggX1_takeOpening_X1_startTotal : GoodIn wsX1_takeOpening wsX1_startTotal := goodIn_r _ [6, 7, 1, 8, 9, 10, 11, 12, 13, 14, 15, 16, 17, 18] (by decide +kernel) (by decide +kernel)
set_option maxRecDepth 20000 in
theorem gX1_takeOpening_X1_startTotal : GoodIn wsX1_takeOpening (wsV RX1 50 RX1 yX1_startTotal wsX1_startTotal) := goodIn_app (goodIn_of _ (by decide +kernel)) ggX1_takeOpening_X1_startTotal
theorem dX1_takeOpening_0 : decode cX1_takeOpening 0 = .ok (.aload_n 0, 1) := by decide +kernel
theorem dX1_takeOpening_1 : decode cX1_takeOpening 1 = .ok (.getfield 40, 3) := by decide +kernel
theorem dX1_takeOpening_4 : decode cX1_takeOpening 4 = .ok (.bipush 6, 2) := by decide +kernel
theorem dX1_takeOpening_6 : decode cX1_takeOpening 6 = .ok (.if_icmp .lt 5, 3) := by decide +kernel
theorem dX1_takeOpening_9 : decode cX1_takeOpening 9 = .ok (.iconst 2, 1) := by decide +kernel
theorem dX1_takeOpening_10 : decode cX1_takeOpening 10 = .ok (.ireturn, 1) := by decide +kernel
theorem dX1_takeOpening_11 : decode cX1_takeOpening 11 = .ok (.aload_n 0, 1) := by decide +kernel
theorem dX1_takeOpening_12 : decode cX1_takeOpening 12 = .ok (.dup, 1) := by decide +kernel
theorem dX1_takeOpening_13 : decode cX1_takeOpening 13 = .ok (.getfield 40, 3) := by decide +kernel
theorem dX1_takeOpening_16 : decode cX1_takeOpening 16 = .ok (.iconst 1, 1) := by decide +kernel
theorem dX1_takeOpening_17 : decode cX1_takeOpening 17 = .ok (.iadd, 1) := by decide +kernel
theorem dX1_takeOpening_18 : decode cX1_takeOpening 18 = .ok (.putfield 40, 3) := by decide +kernel
theorem dX1_takeOpening_21 : decode cX1_takeOpening 21 = .ok (.aload_n 0, 1) := by decide +kernel
theorem dX1_takeOpening_22 : decode cX1_takeOpening 22 = .ok (.invokevirtual 50, 3) := by decide +kernel
theorem dX1_takeOpening_25 : decode cX1_takeOpening 25 = .ok (.iconst 0, 1) := by decide +kernel
theorem dX1_takeOpening_26 : decode cX1_takeOpening 26 = .ok (.ireturn, 1) := by decide +kernel
theorem dX1_takeFigure_0 : decode cX1_takeFigure 0 = .ok (.iload_n 1, 1) := by decide +kernel
theorem dX1_takeFigure_1 : decode cX1_takeFigure 1 = .ok (.bipush 48, 2) := by decide +kernel
theorem dX1_takeFigure_3 : decode cX1_takeFigure 3 = .ok (.if_icmp .lt 9, 3) := by decide +kernel
theorem dX1_takeFigure_6 : decode cX1_takeFigure 6 = .ok (.iload_n 1, 1) := by decide +kernel
theorem dX1_takeFigure_7 : decode cX1_takeFigure 7 = .ok (.bipush 57, 2) := by decide +kernel
theorem dX1_takeFigure_9 : decode cX1_takeFigure 9 = .ok (.if_icmp .le 5, 3) := by decide +kernel
theorem dX1_takeFigure_12 : decode cX1_takeFigure 12 = .ok (.iconst 1, 1) := by decide +kernel
theorem dX1_takeFigure_13 : decode cX1_takeFigure 13 = .ok (.ireturn, 1) := by decide +kernel
theorem dX1_takeFigure_14 : decode cX1_takeFigure 14 = .ok (.iconst 0, 1) := by decide +kernel
theorem dX1_takeFigure_15 : decode cX1_takeFigure 15 = .ok (.istore_n 2, 1) := by decide +kernel
theorem dX1_takeFigure_16 : decode cX1_takeFigure 16 = .ok (.iload_n 2, 1) := by decide +kernel
theorem dX1_takeFigure_17 : decode cX1_takeFigure 17 = .ok (.bipush 10, 2) := by decide +kernel
theorem dX1_takeFigure_19 : decode cX1_takeFigure 19 = .ok (.if_icmp .ge 28, 3) := by decide +kernel
theorem dX1_takeFigure_22 : decode cX1_takeFigure 22 = .ok (.aload_n 0, 1) := by decide +kernel
theorem dX1_takeFigure_23 : decode cX1_takeFigure 23 = .ok (.getfield 20, 3) := by decide +kernel
theorem dX1_takeFigure_26 : decode cX1_takeFigure 26 = .ok (.iload_n 2, 1) := by decide +kernel
theorem dX1_takeFigure_27 : decode cX1_takeFigure 27 = .ok (.dup2, 1) := by decide +kernel
theorem dX1_takeFigure_28 : decode cX1_takeFigure 28 = .ok (.laload, 1) := by decide +kernel
theorem dX1_takeFigure_29 : decode cX1_takeFigure 29 = .ok (.aload_n 0, 1) := by decide +kernel
theorem dX1_takeFigure_30 : decode cX1_takeFigure 30 = .ok (.getfield 70, 3) := by decide +kernel
theorem dX1_takeFigure_33 : decode cX1_takeFigure 33 = .ok (.iload_n 1, 1) := by decide +kernel
theorem dX1_takeFigure_34 : decode cX1_takeFigure 34 = .ok (.bipush 48, 2) := by decide +kernel
theorem dX1_takeFigure_36 : decode cX1_takeFigure 36 = .ok (.isub, 1) := by decide +kernel
theorem dX1_takeFigure_37 : decode cX1_takeFigure 37 = .ok (.imul, 1) := by decide +kernel
theorem dX1_takeFigure_38 : decode cX1_takeFigure 38 = .ok (.i2l, 1) := by decide +kernel
theorem dX1_takeFigure_39 : decode cX1_takeFigure 39 = .ok (.lmul, 1) := by decide +kernel
theorem dX1_takeFigure_40 : decode cX1_takeFigure 40 = .ok (.lastore, 1) := by decide +kernel
theorem dX1_takeFigure_41 : decode cX1_takeFigure 41 = .ok (.iinc 2 1, 3) := by decide +kernel
theorem dX1_takeFigure_44 : decode cX1_takeFigure 44 = .ok (.goto (-28), 3) := by decide +kernel
theorem dX1_takeFigure_47 : decode cX1_takeFigure 47 = .ok (.aload_n 0, 1) := by decide +kernel
theorem dX1_takeFigure_48 : decode cX1_takeFigure 48 = .ok (.iconst 4, 1) := by decide +kernel
theorem dX1_takeFigure_49 : decode cX1_takeFigure 49 = .ok (.putfield 53, 3) := by decide +kernel
theorem dX1_takeFigure_52 : decode cX1_takeFigure 52 = .ok (.iconst 0, 1) := by decide +kernel
theorem dX1_takeFigure_53 : decode cX1_takeFigure 53 = .ok (.ireturn, 1) := by decide +kernel
set_option maxRecDepth 20000 in
theorem ggX1_takeJoint_X1_joinNext : GoodIn wsX1_takeJoint wsX1_joinNext := goodIn_r _ [8, 9, 1, 10, 11, 12, 13, 7, 14, 15, 16, 25, 26, 27, 28, 29, 30, 31, 32, 33] (by decide +kernel) (by decide +kernel)
set_option maxRecDepth 20000 in
theorem gX1_takeJoint_X1_joinNext : GoodIn wsX1_takeJoint (wsV RX1 88 RX1 yX1_joinNext wsX1_joinNext) := goodIn_app (goodIn_of _ (by decide +kernel)) ggX1_takeJoint_X1_joinNext
set_option maxRecDepth 20000 in
theorem ggX1_takeJoint_X1_takeClosing : GoodIn wsX1_takeJoint wsX1_takeClosing := goodIn_r _ [20, 15, 1, 16, 21, 22, 23, 24, 10, 11, 12, 13, 7, 14, 9, 25, 26, 27, 28, 29, 30, 31, 32, 33] (by decide +kernel) (by decide +kernel)
set_option maxRecDepth 20000 in
theorem gX1_takeJoint_X1_takeClosing : GoodIn wsX1_takeJoint (wsV RX1 92 RX1 yX1_takeClosing wsX1_takeClosing) := goodIn_app (goodIn_of _ (by decide +kernel)) ggX1_takeJoint_X1_takeClosing
theorem dX1_takeJoint_0 : decode cX1_takeJoint 0 = .ok (.aload_n 0, 1) := by decide +kernel
theorem dX1_takeJoint_1 : decode cX1_takeJoint 1 = .ok (.getfield 40, 3) := by decide +kernel
theorem dX1_takeJoint_4 : decode cX1_takeJoint 4 = .ok (.ifCond .ne 10, 3) := by decide +kernel
theorem dX1_takeJoint_7 : decode cX1_takeJoint 7 = .ok (.aload_n 0, 1) := by decide +kernel
theorem dX1_takeJoint_8 : decode cX1_takeJoint 8 = .ok (.getfield 43, 3) := by decide +kernel
theorem dX1_takeJoint_11 : decode cX1_takeJoint 11 = .ok (.goto 4, 3) := by decide +kernel
theorem dX1_takeJoint_14 : decode cX1_takeJoint 14 = .ok (.iconst 1, 1) := by decide +kernel
theorem dX1_takeJoint_15 : decode cX1_takeJoint 15 = .ok (.istore_n 2, 1) := by decide +kernel
theorem dX1_takeJoint_16 : decode cX1_takeJoint 16 = .ok (.iload_n 1, 1) := by decide +kernel
theorem dX1_takeJoint_17 : decode cX1_takeJoint 17 = .ok (.bipush 42, 2) := by decide +kernel
theorem dX1_takeJoint_19 : decode cX1_takeJoint 19 = .ok (.if_icmp .ne 11, 3) := by decide +kernel
theorem dX1_takeJoint_22 : decode cX1_takeJoint 22 = .ok (.aload_n 0, 1) := by decide +kernel
theorem dX1_takeJoint_23 : decode cX1_takeJoint 23 = .ok (.iload_n 2, 1) := by decide +kernel
theorem dX1_takeJoint_24 : decode cX1_takeJoint 24 = .ok (.invokevirtual 88, 3) := by decide +kernel
theorem dX1_takeJoint_27 : decode cX1_takeJoint 27 = .ok (.goto 81, 3) := by decide +kernel
theorem dX1_takeJoint_30 : decode cX1_takeJoint 30 = .ok (.iload_n 1, 1) := by decide +kernel
theorem dX1_takeJoint_31 : decode cX1_takeJoint 31 = .ok (.bipush 47, 2) := by decide +kernel
theorem dX1_takeJoint_33 : decode cX1_takeJoint 33 = .ok (.if_icmp .ne 12, 3) := by decide +kernel
theorem dX1_takeJoint_36 : decode cX1_takeJoint 36 = .ok (.aload_n 0, 1) := by decide +kernel
theorem dX1_takeJoint_37 : decode cX1_takeJoint 37 = .ok (.iload_n 2, 1) := by decide +kernel
theorem dX1_takeJoint_38 : decode cX1_takeJoint 38 = .ok (.ineg, 1) := by decide +kernel
theorem dX1_takeJoint_39 : decode cX1_takeJoint 39 = .ok (.invokevirtual 88, 3) := by decide +kernel
theorem dX1_takeJoint_42 : decode cX1_takeJoint 42 = .ok (.goto 66, 3) := by decide +kernel
theorem dX1_takeJoint_45 : decode cX1_takeJoint 45 = .ok (.iload_n 1, 1) := by decide +kernel
theorem dX1_takeJoint_46 : decode cX1_takeJoint 46 = .ok (.bipush 41, 2) := by decide +kernel
theorem dX1_takeJoint_48 : decode cX1_takeJoint 48 = .ok (.if_icmp .ne 17, 3) := by decide +kernel
theorem dX1_takeJoint_51 : decode cX1_takeJoint 51 = .ok (.aload_n 0, 1) := by decide +kernel
theorem dX1_takeJoint_52 : decode cX1_takeJoint 52 = .ok (.getfield 40, 3) := by decide +kernel
theorem dX1_takeJoint_55 : decode cX1_takeJoint 55 = .ok (.ifCond .le 10, 3) := by decide +kernel
theorem dX1_takeJoint_58 : decode cX1_takeJoint 58 = .ok (.aload_n 0, 1) := by decide +kernel
theorem dX1_takeJoint_59 : decode cX1_takeJoint 59 = .ok (.invokevirtual 92, 3) := by decide +kernel
theorem dX1_takeJoint_62 : decode cX1_takeJoint 62 = .ok (.goto 46, 3) := by decide +kernel
theorem dX1_takeJoint_65 : decode cX1_takeJoint 65 = .ok (.iload_n 1, 1) := by decide +kernel
theorem dX1_takeJoint_66 : decode cX1_takeJoint 66 = .ok (.bipush 61, 2) := by decide +kernel
theorem dX1_takeJoint_68 : decode cX1_takeJoint 68 = .ok (.if_icmp .ne 38, 3) := by decide +kernel
theorem dX1_takeJoint_71 : decode cX1_takeJoint 71 = .ok (.aload_n 0, 1) := by decide +kernel
theorem dX1_takeJoint_72 : decode cX1_takeJoint 72 = .ok (.getfield 40, 3) := by decide +kernel
theorem dX1_takeJoint_75 : decode cX1_takeJoint 75 = .ok (.ifCond .ne 31, 3) := by decide +kernel
theorem dX1_takeJoint_78 : decode cX1_takeJoint 78 = .ok (.aload_n 0, 1) := by decide +kernel
theorem dX1_takeJoint_79 : decode cX1_takeJoint 79 = .ok (.getfield 46, 3) := by decide +kernel
theorem dX1_takeJoint_82 : decode cX1_takeJoint 82 = .ok (.ifCond .eq 24, 3) := by decide +kernel
theorem dX1_takeJoint_85 : decode cX1_takeJoint 85 = .ok (.aload_n 0, 1) := by decide +kernel
theorem dX1_takeJoint_86 : decode cX1_takeJoint 86 = .ok (.iconst 0, 1) := by decide +kernel
theorem dX1_takeJoint_87 : decode cX1_takeJoint 87 = .ok (.putfield 46, 3) := by decide +kernel
theorem dX1_takeJoint_90 : decode cX1_takeJoint 90 = .ok (.aload_n 0, 1) := by decide +kernel
theorem dX1_takeJoint_91 : decode cX1_takeJoint 91 = .ok (.iconst (-1), 1) := by decide +kernel
theorem dX1_takeJoint_92 : decode cX1_takeJoint 92 = .ok (.putfield 43, 3) := by decide +kernel
theorem dX1_takeJoint_95 : decode cX1_takeJoint 95 = .ok (.aload_n 0, 1) := by decide +kernel
theorem dX1_takeJoint_96 : decode cX1_takeJoint 96 = .ok (.aload_n 0, 1) := by decide +kernel
theorem dX1_takeJoint_97 : decode cX1_takeJoint 97 = .ok (.getfield 43, 3) := by decide +kernel
theorem dX1_takeJoint_100 : decode cX1_takeJoint 100 = .ok (.invokevirtual 88, 3) := by decide +kernel
theorem dX1_takeJoint_103 : decode cX1_takeJoint 103 = .ok (.goto 5, 3) := by decide +kernel
theorem dX1_takeJoint_106 : decode cX1_takeJoint 106 = .ok (.iconst 1, 1) := by decide +kernel
theorem dX1_takeJoint_107 : decode cX1_takeJoint 107 = .ok (.ireturn, 1) := by decide +kernel
theorem dX1_takeJoint_108 : decode cX1_takeJoint 108 = .ok (.iconst 0, 1) := by decide +kernel
theorem dX1_takeJoint_109 : decode cX1_takeJoint 109 = .ok (.ireturn, 1) := by decide +kernel
set_option maxRecDepth 20000 in
theorem ggX1_joinNext_X1_putFactor : GoodIn wsX1_joinNext wsX1_putFactor := goodIn_r _ [8, 9, 2, 1, 10, 11, 12, 13, 14, 15, 16, 17, 18, 19] (by decide +kernel) (by decide +kernel)
set_option maxRecDepth 20000 in
theorem gX1_joinNext_X1_putFactor : GoodIn wsX1_joinNext (wsV RX1 56 RX1 yX1_putFactor wsX1_putFactor) := goodIn_app (goodIn_of _ (by decide +kernel)) ggX1_joinNext_X1_putFactor
theorem dX1_joinNext_0 : decode cX1_joinNext 0 = .ok (.aload_n 0, 1) := by decide +kernel
theorem dX1_joinNext_1 : decode cX1_joinNext 1 = .ok (.invokevirtual 56, 3) := by decide +kernel
theorem dX1_joinNext_4 : decode cX1_joinNext 4 = .ok (.aload_n 0, 1) := by decide +kernel
theorem dX1_joinNext_5 : decode cX1_joinNext 5 = .ok (.getfield 16, 3) := by decide +kernel
theorem dX1_joinNext_8 : decode cX1_joinNext 8 = .ok (.aload_n 0, 1) := by decide +kernel
theorem dX1_joinNext_9 : decode cX1_joinNext 9 = .ok (.getfield 40, 3) := by decide +kernel
theorem dX1_joinNext_12 : decode cX1_joinNext 12 = .ok (.iload_n 1, 1) := by decide +kernel
theorem dX1_joinNext_13 : decode cX1_joinNext 13 = .ok (.iastore, 1) := by decide +kernel
theorem dX1_joinNext_14 : decode cX1_joinNext 14 = .ok (.aload_n 0, 1) := by decide +kernel
theorem dX1_joinNext_15 : decode cX1_joinNext 15 = .ok (.iconst 0, 1) := by decide +kernel
theorem dX1_joinNext_16 : decode cX1_joinNext 16 = .ok (.putfield 53, 3) := by decide +kernel
theorem dX1_joinNext_19 : decode cX1_joinNext 19 = .ok (.return_, 1) := by decide +kernel
set_option maxRecDepth 20000 in
theorem ggX1_takeClosing_X1_putFactor : GoodIn wsX1_takeClosing wsX1_putFactor := goodIn_r _ [13, 1, 2, 14, 3, 15, 16, 17, 18, 19, 20, 21, 22, 23] (by decide +kernel) (by decide +kernel)
set_option maxRecDepth 20000 in
theorem gX1_takeClosing_X1_putFactor : GoodIn wsX1_takeClosing (wsV RX1 56 RX1 yX1_putFactor wsX1_putFactor) := goodIn_app (goodIn_of _ (by decide +kernel)) ggX1_takeClosing_X1_putFactor
theorem dX1_takeClosing_0 : decode cX1_takeClosing 0 = .ok (.aload_n 0, 1) := by decide +kernel
theorem dX1_takeClosing_1 : decode cX1_takeClosing 1 = .ok (.invokevirtual 56, 3) := by decide +kernel
theorem dX1_takeClosing_4 : decode cX1_takeClosing 4 = .ok (.aload_n 0, 1) := by decide +kernel
theorem dX1_takeClosing_5 : decode cX1_takeClosing 5 = .ok (.getfield 13, 3) := by decide +kernel
theorem dX1_takeClosing_8 : decode cX1_takeClosing 8 = .ok (.aload_n 0, 1) := by decide +kernel
theorem dX1_takeClosing_9 : decode cX1_takeClosing 9 = .ok (.getfield 40, 3) := by decide +kernel
theorem dX1_takeClosing_12 : decode cX1_takeClosing 12 = .ok (.aaload, 1) := by decide +kernel
theorem dX1_takeClosing_13 : decode cX1_takeClosing 13 = .ok (.iconst 0, 1) := by decide +kernel
theorem dX1_takeClosing_14 : decode cX1_takeClosing 14 = .ok (.aload_n 0, 1) := by decide +kernel
theorem dX1_takeClosing_15 : decode cX1_takeClosing 15 = .ok (.getfield 20, 3) := by decide +kernel
theorem dX1_takeClosing_18 : decode cX1_takeClosing 18 = .ok (.iconst 0, 1) := by decide +kernel
theorem dX1_takeClosing_19 : decode cX1_takeClosing 19 = .ok (.bipush 10, 2) := by decide +kernel
theorem dX1_takeClosing_21 : decode cX1_takeClosing 21 = .ok (.invokestatic 95, 3) := by decide +kernel
theorem dX1_takeClosing_24 : decode cX1_takeClosing 24 = .ok (.aload_n 0, 1) := by decide +kernel
theorem dX1_takeClosing_25 : decode cX1_takeClosing 25 = .ok (.dup, 1) := by decide +kernel
theorem dX1_takeClosing_26 : decode cX1_takeClosing 26 = .ok (.getfield 40, 3) := by decide +kernel
theorem dX1_takeClosing_29 : decode cX1_takeClosing 29 = .ok (.iconst 1, 1) := by decide +kernel
theorem dX1_takeClosing_30 : decode cX1_takeClosing 30 = .ok (.isub, 1) := by decide +kernel
theorem dX1_takeClosing_31 : decode cX1_takeClosing 31 = .ok (.putfield 40, 3) := by decide +kernel
theorem dX1_takeClosing_34 : decode cX1_takeClosing 34 = .ok (.aload_n 0, 1) := by decide +kernel
theorem dX1_takeClosing_35 : decode cX1_takeClosing 35 = .ok (.iconst 1, 1) := by decide +kernel
theorem dX1_takeClosing_36 : decode cX1_takeClosing 36 = .ok (.putfield 53, 3) := by decide +kernel
theorem dX1_takeClosing_39 : decode cX1_takeClosing 39 = .ok (.return_, 1) := by decide +kernel
theorem dX1_putFactor_0 : decode cX1_putFactor 0 = .ok (.iconst 0, 1) := by decide +kernel
theorem dX1_putFactor_1 : decode cX1_putFactor 1 = .ok (.istore_n 1, 1) := by decide +kernel
theorem dX1_putFactor_2 : decode cX1_putFactor 2 = .ok (.iload_n 1, 1) := by decide +kernel
theorem dX1_putFactor_3 : decode cX1_putFactor 3 = .ok (.bipush 10, 2) := by decide +kernel
theorem dX1_putFactor_5 : decode cX1_putFactor 5 = .ok (.if_icmp .ge 40, 3) := by decide +kernel
theorem dX1_putFactor_8 : decode cX1_putFactor 8 = .ok (.aload_n 0, 1) := by decide +kernel
theorem dX1_putFactor_9 : decode cX1_putFactor 9 = .ok (.getfield 13, 3) := by decide +kernel
theorem dX1_putFactor_12 : decode cX1_putFactor 12 = .ok (.aload_n 0, 1) := by decide +kernel
theorem dX1_putFactor_13 : decode cX1_putFactor 13 = .ok (.getfield 40, 3) := by decide +kernel
theorem dX1_putFactor_16 : decode cX1_putFactor 16 = .ok (.aaload, 1) := by decide +kernel
theorem dX1_putFactor_17 : decode cX1_putFactor 17 = .ok (.iload_n 1, 1) := by decide +kernel
theorem dX1_putFactor_18 : decode cX1_putFactor 18 = .ok (.dup2, 1) := by decide +kernel
theorem dX1_putFactor_19 : decode cX1_putFactor 19 = .ok (.laload, 1) := by decide +kernel
theorem dX1_putFactor_20 : decode cX1_putFactor 20 = .ok (.aload_n 0, 1) := by decide +kernel
theorem dX1_putFactor_21 : decode cX1_putFactor 21 = .ok (.getfield 16, 3) := by decide +kernel
theorem dX1_putFactor_24 : decode cX1_putFactor 24 = .ok (.aload_n 0, 1) := by decide +kernel
theorem dX1_putFactor_25 : decode cX1_putFactor 25 = .ok (.getfield 40, 3) := by decide +kernel
theorem dX1_putFactor_28 : decode cX1_putFactor 28 = .ok (.iaload, 1) := by decide +kernel
theorem dX1_putFactor_29 : decode cX1_putFactor 29 = .ok (.i2l, 1) := by decide +kernel
theorem dX1_putFactor_30 : decode cX1_putFactor 30 = .ok (.aload_n 0, 1) := by decide +kernel
theorem dX1_putFactor_31 : decode cX1_putFactor 31 = .ok (.getfield 20, 3) := by decide +kernel
theorem dX1_putFactor_34 : decode cX1_putFactor 34 = .ok (.iload_n 1, 1) := by decide +kernel
theorem dX1_putFactor_35 : decode cX1_putFactor 35 = .ok (.laload, 1) := by decide +kernel
theorem dX1_putFactor_36 : decode cX1_putFactor 36 = .ok (.lmul, 1) := by decide +kernel
theorem dX1_putFactor_37 : decode cX1_putFactor 37 = .ok (.ladd, 1) := by decide +kernel
theorem dX1_putFactor_38 : decode cX1_putFactor 38 = .ok (.lastore, 1) := by decide +kernel
theorem dX1_putFactor_39 : decode cX1_putFactor 39 = .ok (.iinc 1 1, 3) := by decide +kernel
theorem dX1_putFactor_42 : decode cX1_putFactor 42 = .ok (.goto (-40), 3) := by decide +kernel
theorem dX1_putFactor_45 : decode cX1_putFactor 45 = .ok (.return_, 1) := by decide +kernel
set_option maxRecDepth 20000 in
theorem ggX2_init_X2_clear : GoodIn wsX2_init wsX2_clear := goodIn_r _ [15, 16, 6, 7, 17, 18, 19, 20, 21, 22, 23, 24, 25, 26, 27] (by decide +kernel) (by decide +kernel)
set_option maxRecDepth 20000 in
theorem gX2_init_X2_clear : GoodIn wsX2_init (wsV RX2 29 RX2 yX2_clear wsX2_clear) := goodIn_app (goodIn_of _ (by decide +kernel)) ggX2_init_X2_clear
theorem dX2_init_0 : decode cX2_init 0 = .ok (.aload_n 0, 1) := by decide +kernel
theorem dX2_init_1 : decode cX2_init 1 = .ok (.invokespecial 3, 3) := by decide +kernel
theorem dX2_init_4 : decode cX2_init 4 = .ok (.aload_n 0, 1) := by decide +kernel
theorem dX2_init_5 : decode cX2_init 5 = .ok (.bipush 6, 2) := by decide +kernel
theorem dX2_init_7 : decode cX2_init 7 = .ok (.bipush 6, 2) := by decide +kernel
theorem dX2_init_9 : decode cX2_init 9 = .ok (.multianewarray 9 2, 4) := by decide +kernel
theorem dX2_init_13 : decode cX2_init 13 = .ok (.putfield 11, 3) := by decide +kernel
theorem dX2_init_16 : decode cX2_init 16 = .ok (.aload_n 0, 1) := by decide +kernel
theorem dX2_init_17 : decode cX2_init 17 = .ok (.iconst 4, 1) := by decide +kernel
theorem dX2_init_18 : decode cX2_init 18 = .ok (.bipush 6, 2) := by decide +kernel
theorem dX2_init_20 : decode cX2_init 20 = .ok (.multianewarray 9 2, 4) := by decide +kernel
theorem dX2_init_24 : decode cX2_init 24 = .ok (.putfield 16, 3) := by decide +kernel
theorem dX2_init_27 : decode cX2_init 27 = .ok (.aload_n 0, 1) := by decide +kernel
theorem dX2_init_28 : decode cX2_init 28 = .ok (.bipush 6, 2) := by decide +kernel
theorem dX2_init_30 : decode cX2_init 30 = .ok (.newarray .long, 2) := by decide +kernel
theorem dX2_init_32 : decode cX2_init 32 = .ok (.putfield 19, 3) := by decide +kernel
theorem dX2_init_35 : decode cX2_init 35 = .ok (.aload_n 0, 1) := by decide +kernel
theorem dX2_init_36 : decode cX2_init 36 = .ok (.iconst 4, 1) := by decide +kernel
theorem dX2_init_37 : decode cX2_init 37 = .ok (.newarray .long, 2) := by decide +kernel
theorem dX2_init_39 : decode cX2_init 39 = .ok (.putfield 23, 3) := by decide +kernel
theorem dX2_init_42 : decode cX2_init 42 = .ok (.aload_n 0, 1) := by decide +kernel
theorem dX2_init_43 : decode cX2_init 43 = .ok (.bipush 6, 2) := by decide +kernel
theorem dX2_init_45 : decode cX2_init 45 = .ok (.newarray .long, 2) := by decide +kernel
theorem dX2_init_47 : decode cX2_init 47 = .ok (.putfield 26, 3) := by decide +kernel
theorem dX2_init_50 : decode cX2_init 50 = .ok (.aload_n 0, 1) := by decide +kernel
theorem dX2_init_51 : decode cX2_init 51 = .ok (.invokevirtual 29, 3) := by decide +kernel
theorem dX2_init_54 : decode cX2_init 54 = .ok (.return_, 1) := by decide +kernel
set_option maxRecDepth 20000 in
theorem ggX2_clear_J7_fill_d0a16 : GoodIn wsX2_clear wsJ7_fill_d0a16 := goodIn_r _ [7] (by decide +kernel) (by decide +kernel)
set_option maxRecDepth 20000 in
theorem gX2_clear_J7_fill_d0a16 : GoodIn wsX2_clear (va_wsS RX2 36 yJ7_fill_d0a16 wsJ7_fill_d0a16) := goodIn_app (goodIn_of _ (by decide +kernel)) ggX2_clear_J7_fill_d0a16
theorem dX2_clear_0 : decode cX2_clear 0 = .ok (.aload_n 0, 1) := by decide +kernel
theorem dX2_clear_1 : decode cX2_clear 1 = .ok (.bipush 6, 2) := by decide +kernel
theorem dX2_clear_3 : decode cX2_clear 3 = .ok (.putfield 32, 3) := by decide +kernel
theorem dX2_clear_6 : decode cX2_clear 6 = .ok (.iconst 0, 1) := by decide +kernel
theorem dX2_clear_7 : decode cX2_clear 7 = .ok (.istore_n 1, 1) := by decide +kernel
theorem dX2_clear_8 : decode cX2_clear 8 = .ok (.iload_n 1, 1) := by decide +kernel
theorem dX2_clear_9 : decode cX2_clear 9 = .ok (.bipush 6, 2) := by decide +kernel
theorem dX2_clear_11 : decode cX2_clear 11 = .ok (.if_icmp .ge 28, 3) := by decide +kernel
theorem dX2_clear_14 : decode cX2_clear 14 = .ok (.aload_n 0, 1) := by decide +kernel
theorem dX2_clear_15 : decode cX2_clear 15 = .ok (.getfield 11, 3) := by decide +kernel
theorem dX2_clear_18 : decode cX2_clear 18 = .ok (.iload_n 1, 1) := by decide +kernel
theorem dX2_clear_19 : decode cX2_clear 19 = .ok (.aaload, 1) := by decide +kernel
theorem dX2_clear_20 : decode cX2_clear 20 = .ok (.lconst 0, 1) := by decide +kernel
theorem dX2_clear_21 : decode cX2_clear 21 = .ok (.invokestatic 36, 3) := by decide +kernel
theorem dX2_clear_24 : decode cX2_clear 24 = .ok (.aload_n 0, 1) := by decide +kernel
theorem dX2_clear_25 : decode cX2_clear 25 = .ok (.getfield 11, 3) := by decide +kernel
theorem dX2_clear_28 : decode cX2_clear 28 = .ok (.iload_n 1, 1) := by decide +kernel
theorem dX2_clear_29 : decode cX2_clear 29 = .ok (.aaload, 1) := by decide +kernel
theorem dX2_clear_30 : decode cX2_clear 30 = .ok (.iload_n 1, 1) := by decide +kernel
theorem dX2_clear_31 : decode cX2_clear 31 = .ok (.lconst 1, 1) := by decide +kernel
theorem dX2_clear_32 : decode cX2_clear 32 = .ok (.lastore, 1) := by decide +kernel
theorem dX2_clear_33 : decode cX2_clear 33 = .ok (.iinc 1 1, 3) := by decide +kernel
theorem dX2_clear_36 : decode cX2_clear 36 = .ok (.goto (-28), 3) := by decide +kernel
theorem dX2_clear_39 : decode cX2_clear 39 = .ok (.iconst 0, 1) := by decide +kernel
theorem dX2_clear_40 : decode cX2_clear 40 = .ok (.istore_n 1, 1) := by decide +kernel
theorem dX2_clear_41 : decode cX2_clear 41 = .ok (.iload_n 1, 1) := by decide +kernel
theorem dX2_clear_42 : decode cX2_clear 42 = .ok (.iconst 4, 1) := by decide +kernel
theorem dX2_clear_43 : decode cX2_clear 43 = .ok (.if_icmp .ge 19, 3) := by decide +kernel
theorem dX2_clear_46 : decode cX2_clear 46 = .ok (.aload_n 0, 1) := by decide +kernel
theorem dX2_clear_47 : decode cX2_clear 47 = .ok (.getfield 16, 3) := by decide +kernel
theorem dX2_clear_50 : decode cX2_clear 50 = .ok (.iload_n 1, 1) := by decide +kernel
theorem dX2_clear_51 : decode cX2_clear 51 = .ok (.aaload, 1) := by decide +kernel
theorem dX2_clear_52 : decode cX2_clear 52 = .ok (.lconst 0, 1) := by decide +kernel
theorem dX2_clear_53 : decode cX2_clear 53 = .ok (.invokestatic 36, 3) := by decide +kernel
theorem dX2_clear_56 : decode cX2_clear 56 = .ok (.iinc 1 1, 3) := by decide +kernel
theorem dX2_clear_59 : decode cX2_clear 59 = .ok (.goto (-18), 3) := by decide +kernel
theorem dX2_clear_62 : decode cX2_clear 62 = .ok (.return_, 1) := by decide +kernel
theorem dX2_isFixed_0 : decode cX2_isFixed 0 = .ok (.iconst 0, 1) := by decide +kernel
theorem dX2_isFixed_1 : decode cX2_isFixed 1 = .ok (.istore_n 2, 1) := by decide +kernel
theorem dX2_isFixed_2 : decode cX2_isFixed 2 = .ok (.iload_n 2, 1) := by decide +kernel
theorem dX2_isFixed_3 : decode cX2_isFixed 3 = .ok (.aload_n 0, 1) := by decide +kernel
theorem dX2_isFixed_4 : decode cX2_isFixed 4 = .ok (.getfield 32, 3) := by decide +kernel
theorem dX2_isFixed_7 : decode cX2_isFixed 7 = .ok (.if_icmp .ge 24, 3) := by decide +kernel
theorem dX2_isFixed_10 : decode cX2_isFixed 10 = .ok (.aload_n 0, 1) := by decide +kernel
theorem dX2_isFixed_11 : decode cX2_isFixed 11 = .ok (.getfield 11, 3) := by decide +kernel
theorem dX2_isFixed_14 : decode cX2_isFixed 14 = .ok (.iload_n 2, 1) := by decide +kernel
theorem dX2_isFixed_15 : decode cX2_isFixed 15 = .ok (.aaload, 1) := by decide +kernel
theorem dX2_isFixed_16 : decode cX2_isFixed 16 = .ok (.iload_n 1, 1) := by decide +kernel
theorem dX2_isFixed_17 : decode cX2_isFixed 17 = .ok (.laload, 1) := by decide +kernel
theorem dX2_isFixed_18 : decode cX2_isFixed 18 = .ok (.lconst 0, 1) := by decide +kernel
theorem dX2_isFixed_19 : decode cX2_isFixed 19 = .ok (.lcmp, 1) := by decide +kernel
theorem dX2_isFixed_20 : decode cX2_isFixed 20 = .ok (.ifCond .eq 5, 3) := by decide +kernel
theorem dX2_isFixed_23 : decode cX2_isFixed 23 = .ok (.iconst 0, 1) := by decide +kernel
theorem dX2_isFixed_24 : decode cX2_isFixed 24 = .ok (.ireturn, 1) := by decide +kernel
theorem dX2_isFixed_25 : decode cX2_isFixed 25 = .ok (.iinc 2 1, 3) := by decide +kernel
theorem dX2_isFixed_28 : decode cX2_isFixed 28 = .ok (.goto (-26), 3) := by decide +kernel
theorem dX2_isFixed_31 : decode cX2_isFixed 31 = .ok (.iconst 1, 1) := by decide +kernel
theorem dX2_isFixed_32 : decode cX2_isFixed 32 = .ok (.ireturn, 1) := by decide +kernel
set_option maxRecDepth 20000 in
theorem ggX2_powerOf_X2_product : GoodIn wsX2_powerOf wsX2_product := goodIn_r _ [5] (by decide +kernel) (by decide +kernel)
set_option maxRecDepth 20000 in
theorem gX2_powerOf_X2_product : GoodIn wsX2_powerOf (va_wsS RX2 42 yX2_product wsX2_product) := goodIn_app (goodIn_of _ (by decide +kernel)) ggX2_powerOf_X2_product
theorem dX2_powerOf_0 : decode cX2_powerOf 0 = .ok (.aload_n 1, 1) := by decide +kernel
theorem dX2_powerOf_1 : decode cX2_powerOf 1 = .ok (.bipush 6, 2) := by decide +kernel
theorem dX2_powerOf_3 : decode cX2_powerOf 3 = .ok (.iload_n 2, 1) := by decide +kernel
theorem dX2_powerOf_4 : decode cX2_powerOf 4 = .ok (.iadd, 1) := by decide +kernel
theorem dX2_powerOf_5 : decode cX2_powerOf 5 = .ok (.iaload, 1) := by decide +kernel
theorem dX2_powerOf_6 : decode cX2_powerOf 6 = .ok (.i2l, 1) := by decide +kernel
theorem dX2_powerOf_7 : decode cX2_powerOf 7 = .ok (.aload_n 1, 1) := by decide +kernel
theorem dX2_powerOf_8 : decode cX2_powerOf 8 = .ok (.aload_n 0, 1) := by decide +kernel
theorem dX2_powerOf_9 : decode cX2_powerOf 9 = .ok (.getfield 16, 3) := by decide +kernel
theorem dX2_powerOf_12 : decode cX2_powerOf 12 = .ok (.iload_n 2, 1) := by decide +kernel
theorem dX2_powerOf_13 : decode cX2_powerOf 13 = .ok (.aaload, 1) := by decide +kernel
theorem dX2_powerOf_14 : decode cX2_powerOf 14 = .ok (.invokestatic 42, 3) := by decide +kernel
theorem dX2_powerOf_17 : decode cX2_powerOf 17 = .ok (.ladd, 1) := by decide +kernel
theorem dX2_powerOf_18 : decode cX2_powerOf 18 = .ok (.lreturn, 1) := by decide +kernel
set_option maxRecDepth 20000 in
theorem ggX2_rise_X2_product : GoodIn wsX2_rise wsX2_product := goodIn_r _ [6] (by decide +kernel) (by decide +kernel)
set_option maxRecDepth 20000 in
theorem gX2_rise_X2_product : GoodIn wsX2_rise (va_wsS RX2 42 yX2_product wsX2_product) := goodIn_app (goodIn_of _ (by decide +kernel)) ggX2_rise_X2_product
theorem dX2_rise_0 : decode cX2_rise 0 = .ok (.iload_n 2, 1) := by decide +kernel
theorem dX2_rise_1 : decode cX2_rise 1 = .ok (.aload_n 0, 1) := by decide +kernel
theorem dX2_rise_2 : decode cX2_rise 2 = .ok (.getfield 32, 3) := by decide +kernel
theorem dX2_rise_5 : decode cX2_rise 5 = .ok (.if_icmp .ge 16, 3) := by decide +kernel
theorem dX2_rise_8 : decode cX2_rise 8 = .ok (.aload_n 1, 1) := by decide +kernel
theorem dX2_rise_9 : decode cX2_rise 9 = .ok (.aload_n 0, 1) := by decide +kernel
theorem dX2_rise_10 : decode cX2_rise 10 = .ok (.getfield 11, 3) := by decide +kernel
theorem dX2_rise_13 : decode cX2_rise 13 = .ok (.iload_n 2, 1) := by decide +kernel
theorem dX2_rise_14 : decode cX2_rise 14 = .ok (.aaload, 1) := by decide +kernel
theorem dX2_rise_15 : decode cX2_rise 15 = .ok (.invokestatic 42, 3) := by decide +kernel
theorem dX2_rise_18 : decode cX2_rise 18 = .ok (.goto 4, 3) := by decide +kernel
theorem dX2_rise_21 : decode cX2_rise 21 = .ok (.lconst 0, 1) := by decide +kernel
theorem dX2_rise_22 : decode cX2_rise 22 = .ok (.lreturn, 1) := by decide +kernel
set_option maxRecDepth 20000 in
theorem ggX2_imply_X2_weigh : GoodIn wsX2_imply wsX2_weigh := goodIn_r _ [5, 6, 7, 8, 9, 10, 11, 4, 12, 13, 14, 15, 16, 17, 33, 34, 35, 36, 37, 38, 39] (by decide +kernel) (by decide +kernel)
set_option maxRecDepth 20000 in
theorem gX2_imply_X2_weigh : GoodIn wsX2_imply (wsV RX2 46 RX2 yX2_weigh wsX2_weigh) := goodIn_app (goodIn_of _ (by decide +kernel)) ggX2_imply_X2_weigh
set_option maxRecDepth 20000 in
theorem ggX2_imply_X2_commonGain : GoodIn wsX2_imply wsX2_commonGain := goodIn_r _ [21, 6, 7, 22, 23, 4, 24, 25, 26, 27, 28, 33, 34, 35, 36, 37, 38, 39] (by decide +kernel) (by decide +kernel)
set_option maxRecDepth 20000 in
theorem gX2_imply_X2_commonGain : GoodIn wsX2_imply (wsV RX2 50 RX2 yX2_commonGain wsX2_commonGain) := goodIn_app (goodIn_of _ (by decide +kernel)) ggX2_imply_X2_commonGain
set_option maxRecDepth 20000 in
theorem ggX2_imply_X2_lacksAreTimes : GoodIn wsX2_imply wsX2_lacksAreTimes := goodIn_r _ [32, 9, 33, 34, 35, 36, 37, 38, 39] (by decide +kernel) (by decide +kernel)
set_option maxRecDepth 20000 in
theorem gX2_imply_X2_lacksAreTimes : GoodIn wsX2_imply (wsV RX2 54 RX2 yX2_lacksAreTimes wsX2_lacksAreTimes) := goodIn_app (goodIn_of _ (by decide +kernel)) ggX2_imply_X2_lacksAreTimes
theorem dX2_imply_0 : decode cX2_imply 0 = .ok (.aload_n 0, 1) := by decide +kernel
theorem dX2_imply_1 : decode cX2_imply 1 = .ok (.aload_n 1, 1) := by decide +kernel
theorem dX2_imply_2 : decode cX2_imply 2 = .ok (.invokevirtual 46, 3) := by decide +kernel
theorem dX2_imply_5 : decode cX2_imply 5 = .ok (.aload_n 0, 1) := by decide +kernel
theorem dX2_imply_6 : decode cX2_imply 6 = .ok (.invokevirtual 50, 3) := by decide +kernel
theorem dX2_imply_9 : decode cX2_imply 9 = .ok (.lconst 0, 1) := by decide +kernel
theorem dX2_imply_10 : decode cX2_imply 10 = .ok (.lcmp, 1) := by decide +kernel
theorem dX2_imply_11 : decode cX2_imply 11 = .ok (.ifCond .ne 15, 3) := by decide +kernel
theorem dX2_imply_14 : decode cX2_imply 14 = .ok (.aload_n 0, 1) := by decide +kernel
theorem dX2_imply_15 : decode cX2_imply 15 = .ok (.lconst 0, 1) := by decide +kernel
theorem dX2_imply_16 : decode cX2_imply 16 = .ok (.invokevirtual 54, 3) := by decide +kernel
theorem dX2_imply_19 : decode cX2_imply 19 = .ok (.ifCond .eq 7, 3) := by decide +kernel
theorem dX2_imply_22 : decode cX2_imply 22 = .ok (.iconst 1, 1) := by decide +kernel
theorem dX2_imply_23 : decode cX2_imply 23 = .ok (.goto 4, 3) := by decide +kernel
theorem dX2_imply_26 : decode cX2_imply 26 = .ok (.iconst 0, 1) := by decide +kernel
theorem dX2_imply_27 : decode cX2_imply 27 = .ok (.ireturn, 1) := by decide +kernel
set_option maxRecDepth 20000 in
theorem ggX2_agrees_X2_weigh : GoodIn wsX2_agrees wsX2_weigh := goodIn_r _ [5, 6, 7, 8, 9, 10, 11, 4, 12, 13, 14, 15, 16, 17, 33, 34, 35, 36, 37, 38, 39] (by decide +kernel) (by decide +kernel)
set_option maxRecDepth 20000 in
theorem gX2_agrees_X2_weigh : GoodIn wsX2_agrees (wsV RX2 46 RX2 yX2_weigh wsX2_weigh) := goodIn_app (goodIn_of _ (by decide +kernel)) ggX2_agrees_X2_weigh
set_option maxRecDepth 20000 in
theorem ggX2_agrees_X2_commonGain : GoodIn wsX2_agrees wsX2_commonGain := goodIn_r _ [21, 6, 7, 22, 23, 4, 24, 25, 26, 27, 28, 33, 34, 35, 36, 37, 38, 39] (by decide +kernel) (by decide +kernel)
set_option maxRecDepth 20000 in
theorem gX2_agrees_X2_commonGain : GoodIn wsX2_agrees (wsV RX2 50 RX2 yX2_commonGain wsX2_commonGain) := goodIn_app (goodIn_of _ (by decide +kernel)) ggX2_agrees_X2_commonGain
set_option maxRecDepth 20000 in
theorem ggX2_agrees_X2_lacksAreTimes : GoodIn wsX2_agrees wsX2_lacksAreTimes := goodIn_r _ [32, 9, 33, 34, 35, 36, 37, 38, 39] (by decide +kernel) (by decide +kernel)
set_option maxRecDepth 20000 in
theorem gX2_agrees_X2_lacksAreTimes : GoodIn wsX2_agrees (wsV RX2 54 RX2 yX2_lacksAreTimes wsX2_lacksAreTimes) := goodIn_app (goodIn_of _ (by decide +kernel)) ggX2_agrees_X2_lacksAreTimes
theorem dX2_agrees_0 : decode cX2_agrees 0 = .ok (.aload_n 0, 1) := by decide +kernel
theorem dX2_agrees_1 : decode cX2_agrees 1 = .ok (.aload_n 1, 1) := by decide +kernel
theorem dX2_agrees_2 : decode cX2_agrees 2 = .ok (.invokevirtual 46, 3) := by decide +kernel
theorem dX2_agrees_5 : decode cX2_agrees 5 = .ok (.aload_n 0, 1) := by decide +kernel
theorem dX2_agrees_6 : decode cX2_agrees 6 = .ok (.aload_n 0, 1) := by decide +kernel
theorem dX2_agrees_7 : decode cX2_agrees 7 = .ok (.invokevirtual 50, 3) := by decide +kernel
theorem dX2_agrees_10 : decode cX2_agrees 10 = .ok (.invokevirtual 54, 3) := by decide +kernel
theorem dX2_agrees_13 : decode cX2_agrees 13 = .ok (.ireturn, 1) := by decide +kernel
set_option maxRecDepth 20000 in
theorem ggX2_put_X2_weigh : GoodIn wsX2_put wsX2_weigh := goodIn_r _ [14, 1, 4, 2, 15, 16, 17, 13, 18, 19, 20, 21, 22, 23, 53, 54, 55, 56, 57, 58, 59] (by decide +kernel) (by decide +kernel)
set_option maxRecDepth 20000 in
theorem gX2_put_X2_weigh : GoodIn wsX2_put (wsV RX2 46 RX2 yX2_weigh wsX2_weigh) := goodIn_app (goodIn_of _ (by decide +kernel)) ggX2_put_X2_weigh
set_option maxRecDepth 20000 in
theorem ggX2_put_X2_divideToAndFro : GoodIn wsX2_put wsX2_divideToAndFro := goodIn_r _ [27, 4, 9, 3, 2, 28, 29, 13, 30, 53, 54, 55, 56, 57, 58, 59] (by decide +kernel) (by decide +kernel)
set_option maxRecDepth 20000 in
theorem gX2_put_X2_divideToAndFro : GoodIn wsX2_put (wsV RX2 58 RX2 yX2_divideToAndFro wsX2_divideToAndFro) := goodIn_app (goodIn_of _ (by decide +kernel)) ggX2_put_X2_divideToAndFro
set_option maxRecDepth 20000 in
theorem ggX2_put_X2_makeHeadPositive : GoodIn wsX2_put wsX2_makeHeadPositive := goodIn_r _ [33, 34, 35, 13, 36] (by decide +kernel) (by decide +kernel)
set_option maxRecDepth 20000 in
theorem gX2_put_X2_makeHeadPositive : GoodIn wsX2_put (va_wsS RX2 62 yX2_makeHeadPositive wsX2_makeHeadPositive) := goodIn_app (goodIn_of _ (by decide +kernel)) ggX2_put_X2_makeHeadPositive
set_option maxRecDepth 20000 in
theorem ggX2_put_X2_reduce : GoodIn wsX2_put wsX2_reduce := goodIn_r _ [40, 1, 2, 34, 35, 13, 36, 41, 42, 43, 44, 28, 29, 30, 53, 54, 55, 56, 57, 58, 59] (by decide +kernel) (by decide +kernel)
set_option maxRecDepth 20000 in
theorem gX2_put_X2_reduce : GoodIn wsX2_put (wsV RX2 66 RX2 yX2_reduce wsX2_reduce) := goodIn_app (goodIn_of _ (by decide +kernel)) ggX2_put_X2_reduce
set_option maxRecDepth 20000 in
theorem ggX2_put_X2_moveLowest : GoodIn wsX2_put wsX2_moveLowest := goodIn_r _ [48, 9, 23, 3, 15, 28, 29, 13, 30, 37, 38, 39, 40, 1, 2, 34, 35, 36, 41, 42, 43, 44, 53, 54, 55, 56, 57, 58, 59] (by decide +kernel) (by decide +kernel)
set_option maxRecDepth 20000 in
theorem gX2_put_X2_moveLowest : GoodIn wsX2_put (wsV RX2 80 RX2 yX2_moveLowest wsX2_moveLowest) := goodIn_app (goodIn_of _ (by decide +kernel)) ggX2_put_X2_moveLowest
set_option maxRecDepth 20000 in
theorem ggX2_put_X2_leaveOut : GoodIn wsX2_put wsX2_leaveOut := goodIn_r _ [52, 2, 1, 53, 54, 55, 56, 57, 58, 59] (by decide +kernel) (by decide +kernel)
set_option maxRecDepth 20000 in
theorem gX2_put_X2_leaveOut : GoodIn wsX2_put (wsV RX2 83 RX2 yX2_leaveOut wsX2_leaveOut) := goodIn_app (goodIn_of _ (by decide +kernel)) ggX2_put_X2_leaveOut
theorem dX2_put_0 : decode cX2_put 0 = .ok (.aload_n 0, 1) := by decide +kernel
theorem dX2_put_1 : decode cX2_put 1 = .ok (.aload_n 1, 1) := by decide +kernel
theorem dX2_put_2 : decode cX2_put 2 = .ok (.invokevirtual 46, 3) := by decide +kernel
theorem dX2_put_5 : decode cX2_put 5 = .ok (.iconst (-1), 1) := by decide +kernel
theorem dX2_put_6 : decode cX2_put 6 = .ok (.istore_n 2, 1) := by decide +kernel
theorem dX2_put_7 : decode cX2_put 7 = .ok (.aload_n 0, 1) := by decide +kernel
theorem dX2_put_8 : decode cX2_put 8 = .ok (.getfield 32, 3) := by decide +kernel
theorem dX2_put_11 : decode cX2_put 11 = .ok (.iconst 1, 1) := by decide +kernel
theorem dX2_put_12 : decode cX2_put 12 = .ok (.isub, 1) := by decide +kernel
theorem dX2_put_13 : decode cX2_put 13 = .ok (.istore_n 3, 1) := by decide +kernel
theorem dX2_put_14 : decode cX2_put 14 = .ok (.iload_n 3, 1) := by decide +kernel
theorem dX2_put_15 : decode cX2_put 15 = .ok (.ifCond .lt 95, 3) := by decide +kernel
theorem dX2_put_18 : decode cX2_put 18 = .ok (.iload_n 2, 1) := by decide +kernel
theorem dX2_put_19 : decode cX2_put 19 = .ok (.iconst (-1), 1) := by decide +kernel
theorem dX2_put_20 : decode cX2_put 20 = .ok (.if_icmp .eq 44, 3) := by decide +kernel
theorem dX2_put_23 : decode cX2_put 23 = .ok (.aload_n 0, 1) := by decide +kernel
theorem dX2_put_24 : decode cX2_put 24 = .ok (.iload_n 3, 1) := by decide +kernel
theorem dX2_put_25 : decode cX2_put 25 = .ok (.invokevirtual 58, 3) := by decide +kernel
theorem dX2_put_28 : decode cX2_put 28 = .ok (.aload_n 0, 1) := by decide +kernel
theorem dX2_put_29 : decode cX2_put 29 = .ok (.getfield 11, 3) := by decide +kernel
theorem dX2_put_32 : decode cX2_put 32 = .ok (.iload_n 3, 1) := by decide +kernel
theorem dX2_put_33 : decode cX2_put 33 = .ok (.aaload, 1) := by decide +kernel
theorem dX2_put_34 : decode cX2_put 34 = .ok (.invokestatic 62, 3) := by decide +kernel
theorem dX2_put_37 : decode cX2_put 37 = .ok (.aload_n 0, 1) := by decide +kernel
theorem dX2_put_38 : decode cX2_put 38 = .ok (.aload_n 0, 1) := by decide +kernel
theorem dX2_put_39 : decode cX2_put 39 = .ok (.getfield 11, 3) := by decide +kernel
theorem dX2_put_42 : decode cX2_put 42 = .ok (.iload_n 3, 1) := by decide +kernel
theorem dX2_put_43 : decode cX2_put 43 = .ok (.aaload, 1) := by decide +kernel
theorem dX2_put_44 : decode cX2_put 44 = .ok (.iload_n 3, 1) := by decide +kernel
theorem dX2_put_45 : decode cX2_put 45 = .ok (.iconst 1, 1) := by decide +kernel
theorem dX2_put_46 : decode cX2_put 46 = .ok (.iadd, 1) := by decide +kernel
theorem dX2_put_47 : decode cX2_put 47 = .ok (.iload_n 2, 1) := by decide +kernel
theorem dX2_put_48 : decode cX2_put 48 = .ok (.invokevirtual 66, 3) := by decide +kernel
theorem dX2_put_51 : decode cX2_put 51 = .ok (.aload_n 0, 1) := by decide +kernel
theorem dX2_put_52 : decode cX2_put 52 = .ok (.aload_n 0, 1) := by decide +kernel
theorem dX2_put_53 : decode cX2_put 53 = .ok (.getfield 26, 3) := by decide +kernel
theorem dX2_put_56 : decode cX2_put 56 = .ok (.iload_n 3, 1) := by decide +kernel
theorem dX2_put_57 : decode cX2_put 57 = .ok (.iload_n 2, 1) := by decide +kernel
theorem dX2_put_58 : decode cX2_put 58 = .ok (.invokevirtual 66, 3) := by decide +kernel
theorem dX2_put_61 : decode cX2_put 61 = .ok (.goto 43, 3) := by decide +kernel
theorem dX2_put_64 : decode cX2_put 64 = .ok (.aload_n 0, 1) := by decide +kernel
theorem dX2_put_65 : decode cX2_put 65 = .ok (.getfield 19, 3) := by decide +kernel
theorem dX2_put_68 : decode cX2_put 68 = .ok (.iload_n 3, 1) := by decide +kernel
theorem dX2_put_69 : decode cX2_put 69 = .ok (.laload, 1) := by decide +kernel
theorem dX2_put_70 : decode cX2_put 70 = .ok (.lconst 0, 1) := by decide +kernel
theorem dX2_put_71 : decode cX2_put 71 = .ok (.lcmp, 1) := by decide +kernel
theorem dX2_put_72 : decode cX2_put 72 = .ok (.ifCond .eq 32, 3) := by decide +kernel
theorem dX2_put_75 : decode cX2_put 75 = .ok (.iload_n 3, 1) := by decide +kernel
theorem dX2_put_76 : decode cX2_put 76 = .ok (.istore_n 2, 1) := by decide +kernel
theorem dX2_put_77 : decode cX2_put 77 = .ok (.aload_n 0, 1) := by decide +kernel
theorem dX2_put_78 : decode cX2_put 78 = .ok (.getfield 11, 3) := by decide +kernel
theorem dX2_put_81 : decode cX2_put 81 = .ok (.iload_n 3, 1) := by decide +kernel
theorem dX2_put_82 : decode cX2_put 82 = .ok (.aaload, 1) := by decide +kernel
theorem dX2_put_83 : decode cX2_put 83 = .ok (.iconst 0, 1) := by decide +kernel
theorem dX2_put_84 : decode cX2_put 84 = .ok (.aload_n 0, 1) := by decide +kernel
theorem dX2_put_85 : decode cX2_put 85 = .ok (.getfield 26, 3) := by decide +kernel
theorem dX2_put_88 : decode cX2_put 88 = .ok (.iconst 0, 1) := by decide +kernel
theorem dX2_put_89 : decode cX2_put 89 = .ok (.bipush 6, 2) := by decide +kernel
theorem dX2_put_91 : decode cX2_put 91 = .ok (.invokestatic 70, 3) := by decide +kernel
theorem dX2_put_94 : decode cX2_put 94 = .ok (.aload_n 0, 1) := by decide +kernel
theorem dX2_put_95 : decode cX2_put 95 = .ok (.aload_n 0, 1) := by decide +kernel
theorem dX2_put_96 : decode cX2_put 96 = .ok (.getfield 19, 3) := by decide +kernel
theorem dX2_put_99 : decode cX2_put 99 = .ok (.iload_n 3, 1) := by decide +kernel
theorem dX2_put_100 : decode cX2_put 100 = .ok (.laload, 1) := by decide +kernel
theorem dX2_put_101 : decode cX2_put 101 = .ok (.putfield 76, 3) := by decide +kernel
theorem dX2_put_104 : decode cX2_put 104 = .ok (.iinc 3 (-1), 3) := by decide +kernel
theorem dX2_put_107 : decode cX2_put 107 = .ok (.goto (-93), 3) := by decide +kernel
theorem dX2_put_110 : decode cX2_put 110 = .ok (.iload_n 2, 1) := by decide +kernel
theorem dX2_put_111 : decode cX2_put 111 = .ok (.iconst (-1), 1) := by decide +kernel
theorem dX2_put_112 : decode cX2_put 112 = .ok (.if_icmp .eq 13, 3) := by decide +kernel
theorem dX2_put_115 : decode cX2_put 115 = .ok (.aload_n 0, 1) := by decide +kernel
theorem dX2_put_116 : decode cX2_put 116 = .ok (.iload_n 2, 1) := by decide +kernel
theorem dX2_put_117 : decode cX2_put 117 = .ok (.invokevirtual 80, 3) := by decide +kernel
theorem dX2_put_120 : decode cX2_put 120 = .ok (.aload_n 0, 1) := by decide +kernel
theorem dX2_put_121 : decode cX2_put 121 = .ok (.iload_n 2, 1) := by decide +kernel
theorem dX2_put_122 : decode cX2_put 122 = .ok (.invokevirtual 83, 3) := by decide +kernel
theorem dX2_put_125 : decode cX2_put 125 = .ok (.return_, 1) := by decide +kernel
set_option maxRecDepth 20000 in
theorem ggX2_weigh_X2_product : GoodIn wsX2_weigh wsX2_product := goodIn_r _ [8] (by decide +kernel) (by decide +kernel)
set_option maxRecDepth 20000 in
theorem gX2_weigh_X2_product : GoodIn wsX2_weigh (va_wsS RX2 42 yX2_product wsX2_product) := goodIn_app (goodIn_of _ (by decide +kernel)) ggX2_weigh_X2_product
set_option maxRecDepth 20000 in
theorem ggX2_weigh_X2_powerOf : GoodIn wsX2_weigh wsX2_powerOf := goodIn_r _ [12, 13, 5, 6, 7, 8, 14, 15, 16, 17, 18, 19, 20] (by decide +kernel) (by decide +kernel)
set_option maxRecDepth 20000 in
theorem gX2_weigh_X2_powerOf : GoodIn wsX2_weigh (wsV RX2 86 RX2 yX2_powerOf wsX2_powerOf) := goodIn_app (goodIn_of _ (by decide +kernel)) ggX2_weigh_X2_powerOf
theorem dX2_weigh_0 : decode cX2_weigh 0 = .ok (.iconst 0, 1) := by decide +kernel
theorem dX2_weigh_1 : decode cX2_weigh 1 = .ok (.istore_n 2, 1) := by decide +kernel
theorem dX2_weigh_2 : decode cX2_weigh 2 = .ok (.iload_n 2, 1) := by decide +kernel
theorem dX2_weigh_3 : decode cX2_weigh 3 = .ok (.aload_n 0, 1) := by decide +kernel
theorem dX2_weigh_4 : decode cX2_weigh 4 = .ok (.getfield 32, 3) := by decide +kernel
theorem dX2_weigh_7 : decode cX2_weigh 7 = .ok (.if_icmp .ge 25, 3) := by decide +kernel
theorem dX2_weigh_10 : decode cX2_weigh 10 = .ok (.aload_n 0, 1) := by decide +kernel
theorem dX2_weigh_11 : decode cX2_weigh 11 = .ok (.getfield 19, 3) := by decide +kernel
theorem dX2_weigh_14 : decode cX2_weigh 14 = .ok (.iload_n 2, 1) := by decide +kernel
theorem dX2_weigh_15 : decode cX2_weigh 15 = .ok (.aload_n 1, 1) := by decide +kernel
theorem dX2_weigh_16 : decode cX2_weigh 16 = .ok (.aload_n 0, 1) := by decide +kernel
theorem dX2_weigh_17 : decode cX2_weigh 17 = .ok (.getfield 11, 3) := by decide +kernel
theorem dX2_weigh_20 : decode cX2_weigh 20 = .ok (.iload_n 2, 1) := by decide +kernel
theorem dX2_weigh_21 : decode cX2_weigh 21 = .ok (.aaload, 1) := by decide +kernel
theorem dX2_weigh_22 : decode cX2_weigh 22 = .ok (.invokestatic 42, 3) := by decide +kernel
theorem dX2_weigh_25 : decode cX2_weigh 25 = .ok (.lastore, 1) := by decide +kernel
theorem dX2_weigh_26 : decode cX2_weigh 26 = .ok (.iinc 2 1, 3) := by decide +kernel
theorem dX2_weigh_29 : decode cX2_weigh 29 = .ok (.goto (-27), 3) := by decide +kernel
theorem dX2_weigh_32 : decode cX2_weigh 32 = .ok (.iconst 0, 1) := by decide +kernel
theorem dX2_weigh_33 : decode cX2_weigh 33 = .ok (.istore_n 2, 1) := by decide +kernel
theorem dX2_weigh_34 : decode cX2_weigh 34 = .ok (.iload_n 2, 1) := by decide +kernel
theorem dX2_weigh_35 : decode cX2_weigh 35 = .ok (.iconst 4, 1) := by decide +kernel
theorem dX2_weigh_36 : decode cX2_weigh 36 = .ok (.if_icmp .ge 22, 3) := by decide +kernel
theorem dX2_weigh_39 : decode cX2_weigh 39 = .ok (.aload_n 0, 1) := by decide +kernel
theorem dX2_weigh_40 : decode cX2_weigh 40 = .ok (.getfield 23, 3) := by decide +kernel
theorem dX2_weigh_43 : decode cX2_weigh 43 = .ok (.iload_n 2, 1) := by decide +kernel
theorem dX2_weigh_44 : decode cX2_weigh 44 = .ok (.aload_n 0, 1) := by decide +kernel
theorem dX2_weigh_45 : decode cX2_weigh 45 = .ok (.aload_n 1, 1) := by decide +kernel
theorem dX2_weigh_46 : decode cX2_weigh 46 = .ok (.iload_n 2, 1) := by decide +kernel
theorem dX2_weigh_47 : decode cX2_weigh 47 = .ok (.invokevirtual 86, 3) := by decide +kernel
theorem dX2_weigh_50 : decode cX2_weigh 50 = .ok (.lneg, 1) := by decide +kernel
theorem dX2_weigh_51 : decode cX2_weigh 51 = .ok (.lastore, 1) := by decide +kernel
theorem dX2_weigh_52 : decode cX2_weigh 52 = .ok (.iinc 2 1, 3) := by decide +kernel
theorem dX2_weigh_55 : decode cX2_weigh 55 = .ok (.goto (-21), 3) := by decide +kernel
theorem dX2_weigh_58 : decode cX2_weigh 58 = .ok (.return_, 1) := by decide +kernel
set_option maxRecDepth 20000 in
theorem ggX2_commonGain_X2_commonDivisor : GoodIn wsX2_commonGain wsX2_commonDivisor := goodIn_r _ [6, 7, 8, 9, 10] (by decide +kernel) (by decide +kernel)
set_option maxRecDepth 20000 in
theorem gX2_commonGain_X2_commonDivisor : GoodIn wsX2_commonGain (va_wsS RX2 90 yX2_commonDivisor wsX2_commonDivisor) := goodIn_app (goodIn_of _ (by decide +kernel)) ggX2_commonGain_X2_commonDivisor
theorem dX2_commonGain_0 : decode cX2_commonGain 0 = .ok (.lconst 0, 1) := by decide +kernel
theorem dX2_commonGain_1 : decode cX2_commonGain 1 = .ok (.lstore_n 1, 1) := by decide +kernel
theorem dX2_commonGain_2 : decode cX2_commonGain 2 = .ok (.iconst 0, 1) := by decide +kernel
theorem dX2_commonGain_3 : decode cX2_commonGain 3 = .ok (.istore_n 3, 1) := by decide +kernel
theorem dX2_commonGain_4 : decode cX2_commonGain 4 = .ok (.iload_n 3, 1) := by decide +kernel
theorem dX2_commonGain_5 : decode cX2_commonGain 5 = .ok (.aload_n 0, 1) := by decide +kernel
theorem dX2_commonGain_6 : decode cX2_commonGain 6 = .ok (.getfield 32, 3) := by decide +kernel
theorem dX2_commonGain_9 : decode cX2_commonGain 9 = .ok (.if_icmp .ge 20, 3) := by decide +kernel
theorem dX2_commonGain_12 : decode cX2_commonGain 12 = .ok (.lload_n 1, 1) := by decide +kernel
theorem dX2_commonGain_13 : decode cX2_commonGain 13 = .ok (.aload_n 0, 1) := by decide +kernel
theorem dX2_commonGain_14 : decode cX2_commonGain 14 = .ok (.getfield 19, 3) := by decide +kernel
theorem dX2_commonGain_17 : decode cX2_commonGain 17 = .ok (.iload_n 3, 1) := by decide +kernel
theorem dX2_commonGain_18 : decode cX2_commonGain 18 = .ok (.laload, 1) := by decide +kernel
theorem dX2_commonGain_19 : decode cX2_commonGain 19 = .ok (.invokestatic 90, 3) := by decide +kernel
theorem dX2_commonGain_22 : decode cX2_commonGain 22 = .ok (.lstore_n 1, 1) := by decide +kernel
theorem dX2_commonGain_23 : decode cX2_commonGain 23 = .ok (.iinc 3 1, 3) := by decide +kernel
theorem dX2_commonGain_26 : decode cX2_commonGain 26 = .ok (.goto (-22), 3) := by decide +kernel
theorem dX2_commonGain_29 : decode cX2_commonGain 29 = .ok (.lload_n 1, 1) := by decide +kernel
theorem dX2_commonGain_30 : decode cX2_commonGain 30 = .ok (.lreturn, 1) := by decide +kernel
theorem dX2_lacksAreTimes_0 : decode cX2_lacksAreTimes 0 = .ok (.iconst 0, 1) := by decide +kernel
theorem dX2_lacksAreTimes_1 : decode cX2_lacksAreTimes 1 = .ok (.istore_n 3, 1) := by decide +kernel
theorem dX2_lacksAreTimes_2 : decode cX2_lacksAreTimes 2 = .ok (.iload_n 3, 1) := by decide +kernel
theorem dX2_lacksAreTimes_3 : decode cX2_lacksAreTimes 3 = .ok (.iconst 4, 1) := by decide +kernel
theorem dX2_lacksAreTimes_4 : decode cX2_lacksAreTimes 4 = .ok (.if_icmp .ge 43, 3) := by decide +kernel
theorem dX2_lacksAreTimes_7 : decode cX2_lacksAreTimes 7 = .ok (.lload_n 1, 1) := by decide +kernel
theorem dX2_lacksAreTimes_8 : decode cX2_lacksAreTimes 8 = .ok (.lconst 0, 1) := by decide +kernel
theorem dX2_lacksAreTimes_9 : decode cX2_lacksAreTimes 9 = .ok (.lcmp, 1) := by decide +kernel
theorem dX2_lacksAreTimes_10 : decode cX2_lacksAreTimes 10 = .ok (.ifCond .ne 12, 3) := by decide +kernel
theorem dX2_lacksAreTimes_13 : decode cX2_lacksAreTimes 13 = .ok (.aload_n 0, 1) := by decide +kernel
theorem dX2_lacksAreTimes_14 : decode cX2_lacksAreTimes 14 = .ok (.getfield 23, 3) := by decide +kernel
theorem dX2_lacksAreTimes_17 : decode cX2_lacksAreTimes 17 = .ok (.iload_n 3, 1) := by decide +kernel
theorem dX2_lacksAreTimes_18 : decode cX2_lacksAreTimes 18 = .ok (.laload, 1) := by decide +kernel
theorem dX2_lacksAreTimes_19 : decode cX2_lacksAreTimes 19 = .ok (.goto 11, 3) := by decide +kernel
theorem dX2_lacksAreTimes_22 : decode cX2_lacksAreTimes 22 = .ok (.aload_n 0, 1) := by decide +kernel
theorem dX2_lacksAreTimes_23 : decode cX2_lacksAreTimes 23 = .ok (.getfield 23, 3) := by decide +kernel
theorem dX2_lacksAreTimes_26 : decode cX2_lacksAreTimes 26 = .ok (.iload_n 3, 1) := by decide +kernel
theorem dX2_lacksAreTimes_27 : decode cX2_lacksAreTimes 27 = .ok (.laload, 1) := by decide +kernel
theorem dX2_lacksAreTimes_28 : decode cX2_lacksAreTimes 28 = .ok (.lload_n 1, 1) := by decide +kernel
theorem dX2_lacksAreTimes_29 : decode cX2_lacksAreTimes 29 = .ok (.lrem, 1) := by decide +kernel
theorem dX2_lacksAreTimes_30 : decode cX2_lacksAreTimes 30 = .ok (.lstore 4, 2) := by decide +kernel
theorem dX2_lacksAreTimes_32 : decode cX2_lacksAreTimes 32 = .ok (.lload 4, 2) := by decide +kernel
theorem dX2_lacksAreTimes_34 : decode cX2_lacksAreTimes 34 = .ok (.lconst 0, 1) := by decide +kernel
theorem dX2_lacksAreTimes_35 : decode cX2_lacksAreTimes 35 = .ok (.lcmp, 1) := by decide +kernel
theorem dX2_lacksAreTimes_36 : decode cX2_lacksAreTimes 36 = .ok (.ifCond .eq 5, 3) := by decide +kernel
theorem dX2_lacksAreTimes_39 : decode cX2_lacksAreTimes 39 = .ok (.iconst 0, 1) := by decide +kernel
theorem dX2_lacksAreTimes_40 : decode cX2_lacksAreTimes 40 = .ok (.ireturn, 1) := by decide +kernel
theorem dX2_lacksAreTimes_41 : decode cX2_lacksAreTimes 41 = .ok (.iinc 3 1, 3) := by decide +kernel
theorem dX2_lacksAreTimes_44 : decode cX2_lacksAreTimes 44 = .ok (.goto (-42), 3) := by decide +kernel
theorem dX2_lacksAreTimes_47 : decode cX2_lacksAreTimes 47 = .ok (.iconst 1, 1) := by decide +kernel
theorem dX2_lacksAreTimes_48 : decode cX2_lacksAreTimes 48 = .ok (.ireturn, 1) := by decide +kernel
set_option maxRecDepth 20000 in
theorem ggX2_divideToAndFro_X2_addTimes : GoodIn wsX2_divideToAndFro wsX2_addTimes := goodIn_r _ [8] (by decide +kernel) (by decide +kernel)
set_option maxRecDepth 20000 in
theorem gX2_divideToAndFro_X2_addTimes : GoodIn wsX2_divideToAndFro (va_wsS RX2 94 yX2_addTimes wsX2_addTimes) := goodIn_app (goodIn_of _ (by decide +kernel)) ggX2_divideToAndFro_X2_addTimes
theorem dX2_divideToAndFro_0 : decode cX2_divideToAndFro 0 = .ok (.aload_n 0, 1) := by decide +kernel
theorem dX2_divideToAndFro_1 : decode cX2_divideToAndFro 1 = .ok (.getfield 19, 3) := by decide +kernel
theorem dX2_divideToAndFro_4 : decode cX2_divideToAndFro 4 = .ok (.iload_n 1, 1) := by decide +kernel
theorem dX2_divideToAndFro_5 : decode cX2_divideToAndFro 5 = .ok (.laload, 1) := by decide +kernel
theorem dX2_divideToAndFro_6 : decode cX2_divideToAndFro 6 = .ok (.lstore_n 2, 1) := by decide +kernel
theorem dX2_divideToAndFro_7 : decode cX2_divideToAndFro 7 = .ok (.iconst 0, 1) := by decide +kernel
theorem dX2_divideToAndFro_8 : decode cX2_divideToAndFro 8 = .ok (.istore 4, 2) := by decide +kernel
theorem dX2_divideToAndFro_10 : decode cX2_divideToAndFro 10 = .ok (.iload 4, 2) := by decide +kernel
theorem dX2_divideToAndFro_12 : decode cX2_divideToAndFro 12 = .ok (.sipush 200, 3) := by decide +kernel
theorem dX2_divideToAndFro_15 : decode cX2_divideToAndFro 15 = .ok (.if_icmp .ge 82, 3) := by decide +kernel
theorem dX2_divideToAndFro_18 : decode cX2_divideToAndFro 18 = .ok (.lload_n 2, 1) := by decide +kernel
theorem dX2_divideToAndFro_19 : decode cX2_divideToAndFro 19 = .ok (.lconst 0, 1) := by decide +kernel
theorem dX2_divideToAndFro_20 : decode cX2_divideToAndFro 20 = .ok (.lcmp, 1) := by decide +kernel
theorem dX2_divideToAndFro_21 : decode cX2_divideToAndFro 21 = .ok (.ifCond .eq 76, 3) := by decide +kernel
theorem dX2_divideToAndFro_24 : decode cX2_divideToAndFro 24 = .ok (.aload_n 0, 1) := by decide +kernel
theorem dX2_divideToAndFro_25 : decode cX2_divideToAndFro 25 = .ok (.getfield 76, 3) := by decide +kernel
theorem dX2_divideToAndFro_28 : decode cX2_divideToAndFro 28 = .ok (.lload_n 2, 1) := by decide +kernel
theorem dX2_divideToAndFro_29 : decode cX2_divideToAndFro 29 = .ok (.ldiv, 1) := by decide +kernel
theorem dX2_divideToAndFro_30 : decode cX2_divideToAndFro 30 = .ok (.lstore 5, 2) := by decide +kernel
theorem dX2_divideToAndFro_32 : decode cX2_divideToAndFro 32 = .ok (.aload_n 0, 1) := by decide +kernel
theorem dX2_divideToAndFro_33 : decode cX2_divideToAndFro 33 = .ok (.getfield 26, 3) := by decide +kernel
theorem dX2_divideToAndFro_36 : decode cX2_divideToAndFro 36 = .ok (.aload_n 0, 1) := by decide +kernel
theorem dX2_divideToAndFro_37 : decode cX2_divideToAndFro 37 = .ok (.getfield 11, 3) := by decide +kernel
theorem dX2_divideToAndFro_40 : decode cX2_divideToAndFro 40 = .ok (.iload_n 1, 1) := by decide +kernel
theorem dX2_divideToAndFro_41 : decode cX2_divideToAndFro 41 = .ok (.aaload, 1) := by decide +kernel
theorem dX2_divideToAndFro_42 : decode cX2_divideToAndFro 42 = .ok (.lload 5, 2) := by decide +kernel
theorem dX2_divideToAndFro_44 : decode cX2_divideToAndFro 44 = .ok (.lneg, 1) := by decide +kernel
theorem dX2_divideToAndFro_45 : decode cX2_divideToAndFro 45 = .ok (.invokestatic 94, 3) := by decide +kernel
theorem dX2_divideToAndFro_48 : decode cX2_divideToAndFro 48 = .ok (.aload_n 0, 1) := by decide +kernel
theorem dX2_divideToAndFro_49 : decode cX2_divideToAndFro 49 = .ok (.getfield 76, 3) := by decide +kernel
theorem dX2_divideToAndFro_52 : decode cX2_divideToAndFro 52 = .ok (.lload 5, 2) := by decide +kernel
theorem dX2_divideToAndFro_54 : decode cX2_divideToAndFro 54 = .ok (.lload_n 2, 1) := by decide +kernel
theorem dX2_divideToAndFro_55 : decode cX2_divideToAndFro 55 = .ok (.lmul, 1) := by decide +kernel
theorem dX2_divideToAndFro_56 : decode cX2_divideToAndFro 56 = .ok (.lsub, 1) := by decide +kernel
theorem dX2_divideToAndFro_57 : decode cX2_divideToAndFro 57 = .ok (.lstore 7, 2) := by decide +kernel
theorem dX2_divideToAndFro_59 : decode cX2_divideToAndFro 59 = .ok (.aload_n 0, 1) := by decide +kernel
theorem dX2_divideToAndFro_60 : decode cX2_divideToAndFro 60 = .ok (.getfield 26, 3) := by decide +kernel
theorem dX2_divideToAndFro_63 : decode cX2_divideToAndFro 63 = .ok (.astore 9, 2) := by decide +kernel
theorem dX2_divideToAndFro_65 : decode cX2_divideToAndFro 65 = .ok (.aload_n 0, 1) := by decide +kernel
theorem dX2_divideToAndFro_66 : decode cX2_divideToAndFro 66 = .ok (.aload_n 0, 1) := by decide +kernel
theorem dX2_divideToAndFro_67 : decode cX2_divideToAndFro 67 = .ok (.getfield 11, 3) := by decide +kernel
theorem dX2_divideToAndFro_70 : decode cX2_divideToAndFro 70 = .ok (.iload_n 1, 1) := by decide +kernel
theorem dX2_divideToAndFro_71 : decode cX2_divideToAndFro 71 = .ok (.aaload, 1) := by decide +kernel
theorem dX2_divideToAndFro_72 : decode cX2_divideToAndFro 72 = .ok (.putfield 26, 3) := by decide +kernel
theorem dX2_divideToAndFro_75 : decode cX2_divideToAndFro 75 = .ok (.aload_n 0, 1) := by decide +kernel
theorem dX2_divideToAndFro_76 : decode cX2_divideToAndFro 76 = .ok (.getfield 11, 3) := by decide +kernel
theorem dX2_divideToAndFro_79 : decode cX2_divideToAndFro 79 = .ok (.iload_n 1, 1) := by decide +kernel
theorem dX2_divideToAndFro_80 : decode cX2_divideToAndFro 80 = .ok (.aload 9, 2) := by decide +kernel
theorem dX2_divideToAndFro_82 : decode cX2_divideToAndFro 82 = .ok (.aastore, 1) := by decide +kernel
theorem dX2_divideToAndFro_83 : decode cX2_divideToAndFro 83 = .ok (.aload_n 0, 1) := by decide +kernel
theorem dX2_divideToAndFro_84 : decode cX2_divideToAndFro 84 = .ok (.lload_n 2, 1) := by decide +kernel
theorem dX2_divideToAndFro_85 : decode cX2_divideToAndFro 85 = .ok (.putfield 76, 3) := by decide +kernel
theorem dX2_divideToAndFro_88 : decode cX2_divideToAndFro 88 = .ok (.lload 7, 2) := by decide +kernel
theorem dX2_divideToAndFro_90 : decode cX2_divideToAndFro 90 = .ok (.lstore_n 2, 1) := by decide +kernel
theorem dX2_divideToAndFro_91 : decode cX2_divideToAndFro 91 = .ok (.iinc 4 1, 3) := by decide +kernel
theorem dX2_divideToAndFro_94 : decode cX2_divideToAndFro 94 = .ok (.goto (-84), 3) := by decide +kernel
theorem dX2_divideToAndFro_97 : decode cX2_divideToAndFro 97 = .ok (.return_, 1) := by decide +kernel
set_option maxRecDepth 20000 in
theorem ggX2_reduce_X2_headOf : GoodIn wsX2_reduce wsX2_headOf := goodIn_r _ [6] (by decide +kernel) (by decide +kernel)
set_option maxRecDepth 20000 in
theorem gX2_reduce_X2_headOf : GoodIn wsX2_reduce (va_wsS RX2 98 yX2_headOf wsX2_headOf) := goodIn_app (goodIn_of _ (by decide +kernel)) ggX2_reduce_X2_headOf
set_option maxRecDepth 20000 in
theorem ggX2_reduce_J9_floorDiv_f86c9 : GoodIn wsX2_reduce wsJ9_floorDiv_f86c9 := goodIn_r _ [10] (by decide +kernel) (by decide +kernel)
set_option maxRecDepth 20000 in
theorem gX2_reduce_J9_floorDiv_f86c9 : GoodIn wsX2_reduce (va_wsS RX2 102 yJ9_floorDiv_f86c9 wsJ9_floorDiv_f86c9) := goodIn_app (goodIn_of _ (by decide +kernel)) ggX2_reduce_J9_floorDiv_f86c9
set_option maxRecDepth 20000 in
theorem ggX2_reduce_X2_addTimes : GoodIn wsX2_reduce wsX2_addTimes := goodIn_r _ [13] (by decide +kernel) (by decide +kernel)
set_option maxRecDepth 20000 in
theorem gX2_reduce_X2_addTimes : GoodIn wsX2_reduce (va_wsS RX2 94 yX2_addTimes wsX2_addTimes) := goodIn_app (goodIn_of _ (by decide +kernel)) ggX2_reduce_X2_addTimes
theorem dX2_reduce_0 : decode cX2_reduce 0 = .ok (.iload_n 2, 1) := by decide +kernel
theorem dX2_reduce_1 : decode cX2_reduce 1 = .ok (.istore 4, 2) := by decide +kernel
theorem dX2_reduce_3 : decode cX2_reduce 3 = .ok (.iload 4, 2) := by decide +kernel
theorem dX2_reduce_5 : decode cX2_reduce 5 = .ok (.aload_n 0, 1) := by decide +kernel
theorem dX2_reduce_6 : decode cX2_reduce 6 = .ok (.getfield 32, 3) := by decide +kernel
theorem dX2_reduce_9 : decode cX2_reduce 9 = .ok (.if_icmp .ge 77, 3) := by decide +kernel
theorem dX2_reduce_12 : decode cX2_reduce 12 = .ok (.aload_n 0, 1) := by decide +kernel
theorem dX2_reduce_13 : decode cX2_reduce 13 = .ok (.getfield 11, 3) := by decide +kernel
theorem dX2_reduce_16 : decode cX2_reduce 16 = .ok (.iload 4, 2) := by decide +kernel
theorem dX2_reduce_18 : decode cX2_reduce 18 = .ok (.aaload, 1) := by decide +kernel
theorem dX2_reduce_19 : decode cX2_reduce 19 = .ok (.invokestatic 98, 3) := by decide +kernel
theorem dX2_reduce_22 : decode cX2_reduce 22 = .ok (.istore 5, 2) := by decide +kernel
theorem dX2_reduce_24 : decode cX2_reduce 24 = .ok (.iload 4, 2) := by decide +kernel
theorem dX2_reduce_26 : decode cX2_reduce 26 = .ok (.iload_n 3, 1) := by decide +kernel
theorem dX2_reduce_27 : decode cX2_reduce 27 = .ok (.if_icmp .eq 53, 3) := by decide +kernel
theorem dX2_reduce_30 : decode cX2_reduce 30 = .ok (.iload 5, 2) := by decide +kernel
theorem dX2_reduce_32 : decode cX2_reduce 32 = .ok (.iconst (-1), 1) := by decide +kernel
theorem dX2_reduce_33 : decode cX2_reduce 33 = .ok (.if_icmp .eq 47, 3) := by decide +kernel
theorem dX2_reduce_36 : decode cX2_reduce 36 = .ok (.aload_n 0, 1) := by decide +kernel
theorem dX2_reduce_37 : decode cX2_reduce 37 = .ok (.getfield 11, 3) := by decide +kernel
theorem dX2_reduce_40 : decode cX2_reduce 40 = .ok (.iload 4, 2) := by decide +kernel
theorem dX2_reduce_42 : decode cX2_reduce 42 = .ok (.aaload, 1) := by decide +kernel
theorem dX2_reduce_43 : decode cX2_reduce 43 = .ok (.iload 5, 2) := by decide +kernel
theorem dX2_reduce_45 : decode cX2_reduce 45 = .ok (.laload, 1) := by decide +kernel
theorem dX2_reduce_46 : decode cX2_reduce 46 = .ok (.lconst 0, 1) := by decide +kernel
theorem dX2_reduce_47 : decode cX2_reduce 47 = .ok (.lcmp, 1) := by decide +kernel
theorem dX2_reduce_48 : decode cX2_reduce 48 = .ok (.ifCond .eq 32, 3) := by decide +kernel
theorem dX2_reduce_51 : decode cX2_reduce 51 = .ok (.aload_n 1, 1) := by decide +kernel
theorem dX2_reduce_52 : decode cX2_reduce 52 = .ok (.aload_n 0, 1) := by decide +kernel
theorem dX2_reduce_53 : decode cX2_reduce 53 = .ok (.getfield 11, 3) := by decide +kernel
theorem dX2_reduce_56 : decode cX2_reduce 56 = .ok (.iload 4, 2) := by decide +kernel
theorem dX2_reduce_58 : decode cX2_reduce 58 = .ok (.aaload, 1) := by decide +kernel
theorem dX2_reduce_59 : decode cX2_reduce 59 = .ok (.aload_n 1, 1) := by decide +kernel
theorem dX2_reduce_60 : decode cX2_reduce 60 = .ok (.iload 5, 2) := by decide +kernel
theorem dX2_reduce_62 : decode cX2_reduce 62 = .ok (.laload, 1) := by decide +kernel
theorem dX2_reduce_63 : decode cX2_reduce 63 = .ok (.aload_n 0, 1) := by decide +kernel
theorem dX2_reduce_64 : decode cX2_reduce 64 = .ok (.getfield 11, 3) := by decide +kernel
theorem dX2_reduce_67 : decode cX2_reduce 67 = .ok (.iload 4, 2) := by decide +kernel
theorem dX2_reduce_69 : decode cX2_reduce 69 = .ok (.aaload, 1) := by decide +kernel
theorem dX2_reduce_70 : decode cX2_reduce 70 = .ok (.iload 5, 2) := by decide +kernel
theorem dX2_reduce_72 : decode cX2_reduce 72 = .ok (.laload, 1) := by decide +kernel
theorem dX2_reduce_73 : decode cX2_reduce 73 = .ok (.invokestatic 102, 3) := by decide +kernel
theorem dX2_reduce_76 : decode cX2_reduce 76 = .ok (.lneg, 1) := by decide +kernel
theorem dX2_reduce_77 : decode cX2_reduce 77 = .ok (.invokestatic 94, 3) := by decide +kernel
theorem dX2_reduce_80 : decode cX2_reduce 80 = .ok (.iinc 4 1, 3) := by decide +kernel
theorem dX2_reduce_83 : decode cX2_reduce 83 = .ok (.goto (-80), 3) := by decide +kernel
theorem dX2_reduce_86 : decode cX2_reduce 86 = .ok (.return_, 1) := by decide +kernel
set_option maxRecDepth 20000 in
theorem ggX2_moveLowest_X2_addTimes : GoodIn wsX2_moveLowest wsX2_addTimes := goodIn_r _ [8] (by decide +kernel) (by decide +kernel)
set_option maxRecDepth 20000 in
theorem gX2_moveLowest_X2_addTimes : GoodIn wsX2_moveLowest (va_wsS RX2 94 yX2_addTimes wsX2_addTimes) := goodIn_app (goodIn_of _ (by decide +kernel)) ggX2_moveLowest_X2_addTimes
set_option maxRecDepth 20000 in
theorem ggX2_moveLowest_X2_reduce : GoodIn wsX2_moveLowest wsX2_reduce := goodIn_r _ [12, 13, 14, 15, 16, 7, 17, 18, 19, 20, 21, 5, 6, 8, 22, 23, 24, 25, 26, 27, 28] (by decide +kernel) (by decide +kernel)
set_option maxRecDepth 20000 in
theorem gX2_moveLowest_X2_reduce : GoodIn wsX2_moveLowest (wsV RX2 66 RX2 yX2_reduce wsX2_reduce) := goodIn_app (goodIn_of _ (by decide +kernel)) ggX2_moveLowest_X2_reduce
theorem dX2_moveLowest_0 : decode cX2_moveLowest 0 = .ok (.iconst 0, 1) := by decide +kernel
theorem dX2_moveLowest_1 : decode cX2_moveLowest 1 = .ok (.istore_n 2, 1) := by decide +kernel
theorem dX2_moveLowest_2 : decode cX2_moveLowest 2 = .ok (.iload_n 2, 1) := by decide +kernel
theorem dX2_moveLowest_3 : decode cX2_moveLowest 3 = .ok (.iconst 4, 1) := by decide +kernel
theorem dX2_moveLowest_4 : decode cX2_moveLowest 4 = .ok (.if_icmp .ge 54, 3) := by decide +kernel
theorem dX2_moveLowest_7 : decode cX2_moveLowest 7 = .ok (.aload_n 0, 1) := by decide +kernel
theorem dX2_moveLowest_8 : decode cX2_moveLowest 8 = .ok (.getfield 76, 3) := by decide +kernel
theorem dX2_moveLowest_11 : decode cX2_moveLowest 11 = .ok (.lconst 0, 1) := by decide +kernel
theorem dX2_moveLowest_12 : decode cX2_moveLowest 12 = .ok (.lcmp, 1) := by decide +kernel
theorem dX2_moveLowest_13 : decode cX2_moveLowest 13 = .ok (.ifCond .eq 27, 3) := by decide +kernel
theorem dX2_moveLowest_16 : decode cX2_moveLowest 16 = .ok (.aload_n 0, 1) := by decide +kernel
theorem dX2_moveLowest_17 : decode cX2_moveLowest 17 = .ok (.getfield 16, 3) := by decide +kernel
theorem dX2_moveLowest_20 : decode cX2_moveLowest 20 = .ok (.iload_n 2, 1) := by decide +kernel
theorem dX2_moveLowest_21 : decode cX2_moveLowest 21 = .ok (.aaload, 1) := by decide +kernel
theorem dX2_moveLowest_22 : decode cX2_moveLowest 22 = .ok (.aload_n 0, 1) := by decide +kernel
theorem dX2_moveLowest_23 : decode cX2_moveLowest 23 = .ok (.getfield 26, 3) := by decide +kernel
theorem dX2_moveLowest_26 : decode cX2_moveLowest 26 = .ok (.aload_n 0, 1) := by decide +kernel
theorem dX2_moveLowest_27 : decode cX2_moveLowest 27 = .ok (.getfield 23, 3) := by decide +kernel
theorem dX2_moveLowest_30 : decode cX2_moveLowest 30 = .ok (.iload_n 2, 1) := by decide +kernel
theorem dX2_moveLowest_31 : decode cX2_moveLowest 31 = .ok (.laload, 1) := by decide +kernel
theorem dX2_moveLowest_32 : decode cX2_moveLowest 32 = .ok (.aload_n 0, 1) := by decide +kernel
theorem dX2_moveLowest_33 : decode cX2_moveLowest 33 = .ok (.getfield 76, 3) := by decide +kernel
theorem dX2_moveLowest_36 : decode cX2_moveLowest 36 = .ok (.ldiv, 1) := by decide +kernel
theorem dX2_moveLowest_37 : decode cX2_moveLowest 37 = .ok (.invokestatic 94, 3) := by decide +kernel
theorem dX2_moveLowest_40 : decode cX2_moveLowest 40 = .ok (.aload_n 0, 1) := by decide +kernel
theorem dX2_moveLowest_41 : decode cX2_moveLowest 41 = .ok (.aload_n 0, 1) := by decide +kernel
theorem dX2_moveLowest_42 : decode cX2_moveLowest 42 = .ok (.getfield 16, 3) := by decide +kernel
theorem dX2_moveLowest_45 : decode cX2_moveLowest 45 = .ok (.iload_n 2, 1) := by decide +kernel
theorem dX2_moveLowest_46 : decode cX2_moveLowest 46 = .ok (.aaload, 1) := by decide +kernel
theorem dX2_moveLowest_47 : decode cX2_moveLowest 47 = .ok (.iconst 0, 1) := by decide +kernel
theorem dX2_moveLowest_48 : decode cX2_moveLowest 48 = .ok (.iload_n 1, 1) := by decide +kernel
theorem dX2_moveLowest_49 : decode cX2_moveLowest 49 = .ok (.invokevirtual 66, 3) := by decide +kernel
theorem dX2_moveLowest_52 : decode cX2_moveLowest 52 = .ok (.iinc 2 1, 3) := by decide +kernel
theorem dX2_moveLowest_55 : decode cX2_moveLowest 55 = .ok (.goto (-53), 3) := by decide +kernel
theorem dX2_moveLowest_58 : decode cX2_moveLowest 58 = .ok (.return_, 1) := by decide +kernel
theorem dX2_leaveOut_0 : decode cX2_leaveOut 0 = .ok (.aload_n 0, 1) := by decide +kernel
theorem dX2_leaveOut_1 : decode cX2_leaveOut 1 = .ok (.getfield 11, 3) := by decide +kernel
theorem dX2_leaveOut_4 : decode cX2_leaveOut 4 = .ok (.iload_n 1, 1) := by decide +kernel
theorem dX2_leaveOut_5 : decode cX2_leaveOut 5 = .ok (.aaload, 1) := by decide +kernel
theorem dX2_leaveOut_6 : decode cX2_leaveOut 6 = .ok (.astore_n 2, 1) := by decide +kernel
theorem dX2_leaveOut_7 : decode cX2_leaveOut 7 = .ok (.iload_n 1, 1) := by decide +kernel
theorem dX2_leaveOut_8 : decode cX2_leaveOut 8 = .ok (.istore_n 3, 1) := by decide +kernel
theorem dX2_leaveOut_9 : decode cX2_leaveOut 9 = .ok (.iload_n 3, 1) := by decide +kernel
theorem dX2_leaveOut_10 : decode cX2_leaveOut 10 = .ok (.aload_n 0, 1) := by decide +kernel
theorem dX2_leaveOut_11 : decode cX2_leaveOut 11 = .ok (.getfield 32, 3) := by decide +kernel
theorem dX2_leaveOut_14 : decode cX2_leaveOut 14 = .ok (.iconst 1, 1) := by decide +kernel
theorem dX2_leaveOut_15 : decode cX2_leaveOut 15 = .ok (.isub, 1) := by decide +kernel
theorem dX2_leaveOut_16 : decode cX2_leaveOut 16 = .ok (.if_icmp .ge 23, 3) := by decide +kernel
theorem dX2_leaveOut_19 : decode cX2_leaveOut 19 = .ok (.aload_n 0, 1) := by decide +kernel
theorem dX2_leaveOut_20 : decode cX2_leaveOut 20 = .ok (.getfield 11, 3) := by decide +kernel
theorem dX2_leaveOut_23 : decode cX2_leaveOut 23 = .ok (.iload_n 3, 1) := by decide +kernel
theorem dX2_leaveOut_24 : decode cX2_leaveOut 24 = .ok (.aload_n 0, 1) := by decide +kernel
theorem dX2_leaveOut_25 : decode cX2_leaveOut 25 = .ok (.getfield 11, 3) := by decide +kernel
theorem dX2_leaveOut_28 : decode cX2_leaveOut 28 = .ok (.iload_n 3, 1) := by decide +kernel
theorem dX2_leaveOut_29 : decode cX2_leaveOut 29 = .ok (.iconst 1, 1) := by decide +kernel
theorem dX2_leaveOut_30 : decode cX2_leaveOut 30 = .ok (.iadd, 1) := by decide +kernel
theorem dX2_leaveOut_31 : decode cX2_leaveOut 31 = .ok (.aaload, 1) := by decide +kernel
theorem dX2_leaveOut_32 : decode cX2_leaveOut 32 = .ok (.aastore, 1) := by decide +kernel
theorem dX2_leaveOut_33 : decode cX2_leaveOut 33 = .ok (.iinc 3 1, 3) := by decide +kernel
theorem dX2_leaveOut_36 : decode cX2_leaveOut 36 = .ok (.goto (-27), 3) := by decide +kernel
theorem dX2_leaveOut_39 : decode cX2_leaveOut 39 = .ok (.aload_n 0, 1) := by decide +kernel
theorem dX2_leaveOut_40 : decode cX2_leaveOut 40 = .ok (.getfield 11, 3) := by decide +kernel
theorem dX2_leaveOut_43 : decode cX2_leaveOut 43 = .ok (.aload_n 0, 1) := by decide +kernel
theorem dX2_leaveOut_44 : decode cX2_leaveOut 44 = .ok (.getfield 32, 3) := by decide +kernel
theorem dX2_leaveOut_47 : decode cX2_leaveOut 47 = .ok (.iconst 1, 1) := by decide +kernel
theorem dX2_leaveOut_48 : decode cX2_leaveOut 48 = .ok (.isub, 1) := by decide +kernel
theorem dX2_leaveOut_49 : decode cX2_leaveOut 49 = .ok (.aload_n 2, 1) := by decide +kernel
theorem dX2_leaveOut_50 : decode cX2_leaveOut 50 = .ok (.aastore, 1) := by decide +kernel
theorem dX2_leaveOut_51 : decode cX2_leaveOut 51 = .ok (.aload_n 0, 1) := by decide +kernel
theorem dX2_leaveOut_52 : decode cX2_leaveOut 52 = .ok (.dup, 1) := by decide +kernel
theorem dX2_leaveOut_53 : decode cX2_leaveOut 53 = .ok (.getfield 32, 3) := by decide +kernel
theorem dX2_leaveOut_56 : decode cX2_leaveOut 56 = .ok (.iconst 1, 1) := by decide +kernel
theorem dX2_leaveOut_57 : decode cX2_leaveOut 57 = .ok (.isub, 1) := by decide +kernel
theorem dX2_leaveOut_58 : decode cX2_leaveOut 58 = .ok (.putfield 32, 3) := by decide +kernel
theorem dX2_leaveOut_61 : decode cX2_leaveOut 61 = .ok (.return_, 1) := by decide +kernel
set_option maxRecDepth 20000 in
theorem ggX2_makeHeadPositive_X2_headOf : GoodIn wsX2_makeHeadPositive wsX2_headOf := goodIn_r _ [4] (by decide +kernel) (by decide +kernel)
set_option maxRecDepth 20000 in
theorem gX2_makeHeadPositive_X2_headOf : GoodIn wsX2_makeHeadPositive (va_wsS RX2 98 yX2_headOf wsX2_headOf) := goodIn_app (goodIn_of _ (by decide +kernel)) ggX2_makeHeadPositive_X2_headOf
theorem dX2_makeHeadPositive_0 : decode cX2_makeHeadPositive 0 = .ok (.aload_n 0, 1) := by decide +kernel
theorem dX2_makeHeadPositive_1 : decode cX2_makeHeadPositive 1 = .ok (.invokestatic 98, 3) := by decide +kernel
theorem dX2_makeHeadPositive_4 : decode cX2_makeHeadPositive 4 = .ok (.istore_n 1, 1) := by decide +kernel
theorem dX2_makeHeadPositive_5 : decode cX2_makeHeadPositive 5 = .ok (.iload_n 1, 1) := by decide +kernel
theorem dX2_makeHeadPositive_6 : decode cX2_makeHeadPositive 6 = .ok (.iconst (-1), 1) := by decide +kernel
theorem dX2_makeHeadPositive_7 : decode cX2_makeHeadPositive 7 = .ok (.if_icmp .eq 32, 3) := by decide +kernel
theorem dX2_makeHeadPositive_10 : decode cX2_makeHeadPositive 10 = .ok (.aload_n 0, 1) := by decide +kernel
theorem dX2_makeHeadPositive_11 : decode cX2_makeHeadPositive 11 = .ok (.iload_n 1, 1) := by decide +kernel
theorem dX2_makeHeadPositive_12 : decode cX2_makeHeadPositive 12 = .ok (.laload, 1) := by decide +kernel
theorem dX2_makeHeadPositive_13 : decode cX2_makeHeadPositive 13 = .ok (.lconst 0, 1) := by decide +kernel
theorem dX2_makeHeadPositive_14 : decode cX2_makeHeadPositive 14 = .ok (.lcmp, 1) := by decide +kernel
theorem dX2_makeHeadPositive_15 : decode cX2_makeHeadPositive 15 = .ok (.ifCond .ge 24, 3) := by decide +kernel
theorem dX2_makeHeadPositive_18 : decode cX2_makeHeadPositive 18 = .ok (.iload_n 1, 1) := by decide +kernel
theorem dX2_makeHeadPositive_19 : decode cX2_makeHeadPositive 19 = .ok (.istore_n 2, 1) := by decide +kernel
theorem dX2_makeHeadPositive_20 : decode cX2_makeHeadPositive 20 = .ok (.iload_n 2, 1) := by decide +kernel
theorem dX2_makeHeadPositive_21 : decode cX2_makeHeadPositive 21 = .ok (.bipush 6, 2) := by decide +kernel
theorem dX2_makeHeadPositive_23 : decode cX2_makeHeadPositive 23 = .ok (.if_icmp .ge 16, 3) := by decide +kernel
theorem dX2_makeHeadPositive_26 : decode cX2_makeHeadPositive 26 = .ok (.aload_n 0, 1) := by decide +kernel
theorem dX2_makeHeadPositive_27 : decode cX2_makeHeadPositive 27 = .ok (.iload_n 2, 1) := by decide +kernel
theorem dX2_makeHeadPositive_28 : decode cX2_makeHeadPositive 28 = .ok (.aload_n 0, 1) := by decide +kernel
theorem dX2_makeHeadPositive_29 : decode cX2_makeHeadPositive 29 = .ok (.iload_n 2, 1) := by decide +kernel
theorem dX2_makeHeadPositive_30 : decode cX2_makeHeadPositive 30 = .ok (.laload, 1) := by decide +kernel
theorem dX2_makeHeadPositive_31 : decode cX2_makeHeadPositive 31 = .ok (.lneg, 1) := by decide +kernel
theorem dX2_makeHeadPositive_32 : decode cX2_makeHeadPositive 32 = .ok (.lastore, 1) := by decide +kernel
theorem dX2_makeHeadPositive_33 : decode cX2_makeHeadPositive 33 = .ok (.iinc 2 1, 3) := by decide +kernel
theorem dX2_makeHeadPositive_36 : decode cX2_makeHeadPositive 36 = .ok (.goto (-16), 3) := by decide +kernel
theorem dX2_makeHeadPositive_39 : decode cX2_makeHeadPositive 39 = .ok (.return_, 1) := by decide +kernel
theorem dX2_headOf_0 : decode cX2_headOf 0 = .ok (.iconst 0, 1) := by decide +kernel
theorem dX2_headOf_1 : decode cX2_headOf 1 = .ok (.istore_n 1, 1) := by decide +kernel
theorem dX2_headOf_2 : decode cX2_headOf 2 = .ok (.iload_n 1, 1) := by decide +kernel
theorem dX2_headOf_3 : decode cX2_headOf 3 = .ok (.bipush 6, 2) := by decide +kernel
theorem dX2_headOf_5 : decode cX2_headOf 5 = .ok (.if_icmp .ge 19, 3) := by decide +kernel
theorem dX2_headOf_8 : decode cX2_headOf 8 = .ok (.aload_n 0, 1) := by decide +kernel
theorem dX2_headOf_9 : decode cX2_headOf 9 = .ok (.iload_n 1, 1) := by decide +kernel
theorem dX2_headOf_10 : decode cX2_headOf 10 = .ok (.laload, 1) := by decide +kernel
theorem dX2_headOf_11 : decode cX2_headOf 11 = .ok (.lconst 0, 1) := by decide +kernel
theorem dX2_headOf_12 : decode cX2_headOf 12 = .ok (.lcmp, 1) := by decide +kernel
theorem dX2_headOf_13 : decode cX2_headOf 13 = .ok (.ifCond .eq 5, 3) := by decide +kernel
theorem dX2_headOf_16 : decode cX2_headOf 16 = .ok (.iload_n 1, 1) := by decide +kernel
theorem dX2_headOf_17 : decode cX2_headOf 17 = .ok (.ireturn, 1) := by decide +kernel
theorem dX2_headOf_18 : decode cX2_headOf 18 = .ok (.iinc 1 1, 3) := by decide +kernel
theorem dX2_headOf_21 : decode cX2_headOf 21 = .ok (.goto (-19), 3) := by decide +kernel
theorem dX2_headOf_24 : decode cX2_headOf 24 = .ok (.iconst (-1), 1) := by decide +kernel
theorem dX2_headOf_25 : decode cX2_headOf 25 = .ok (.ireturn, 1) := by decide +kernel
theorem dX2_addTimes_0 : decode cX2_addTimes 0 = .ok (.iconst 0, 1) := by decide +kernel
theorem dX2_addTimes_1 : decode cX2_addTimes 1 = .ok (.istore 4, 2) := by decide +kernel
theorem dX2_addTimes_3 : decode cX2_addTimes 3 = .ok (.iload 4, 2) := by decide +kernel
theorem dX2_addTimes_5 : decode cX2_addTimes 5 = .ok (.bipush 6, 2) := by decide +kernel
theorem dX2_addTimes_7 : decode cX2_addTimes 7 = .ok (.if_icmp .ge 28, 3) := by decide +kernel
theorem dX2_addTimes_10 : decode cX2_addTimes 10 = .ok (.lload_n 2, 1) := by decide +kernel
theorem dX2_addTimes_11 : decode cX2_addTimes 11 = .ok (.lconst 0, 1) := by decide +kernel
theorem dX2_addTimes_12 : decode cX2_addTimes 12 = .ok (.lcmp, 1) := by decide +kernel
theorem dX2_addTimes_13 : decode cX2_addTimes 13 = .ok (.ifCond .eq 22, 3) := by decide +kernel
theorem dX2_addTimes_16 : decode cX2_addTimes 16 = .ok (.aload_n 0, 1) := by decide +kernel
theorem dX2_addTimes_17 : decode cX2_addTimes 17 = .ok (.iload 4, 2) := by decide +kernel
theorem dX2_addTimes_19 : decode cX2_addTimes 19 = .ok (.dup2, 1) := by decide +kernel
theorem dX2_addTimes_20 : decode cX2_addTimes 20 = .ok (.laload, 1) := by decide +kernel
theorem dX2_addTimes_21 : decode cX2_addTimes 21 = .ok (.lload_n 2, 1) := by decide +kernel
theorem dX2_addTimes_22 : decode cX2_addTimes 22 = .ok (.aload_n 1, 1) := by decide +kernel
theorem dX2_addTimes_23 : decode cX2_addTimes 23 = .ok (.iload 4, 2) := by decide +kernel
theorem dX2_addTimes_25 : decode cX2_addTimes 25 = .ok (.laload, 1) := by decide +kernel
theorem dX2_addTimes_26 : decode cX2_addTimes 26 = .ok (.lmul, 1) := by decide +kernel
theorem dX2_addTimes_27 : decode cX2_addTimes 27 = .ok (.ladd, 1) := by decide +kernel
theorem dX2_addTimes_28 : decode cX2_addTimes 28 = .ok (.lastore, 1) := by decide +kernel
theorem dX2_addTimes_29 : decode cX2_addTimes 29 = .ok (.iinc 4 1, 3) := by decide +kernel
theorem dX2_addTimes_32 : decode cX2_addTimes 32 = .ok (.goto (-29), 3) := by decide +kernel
theorem dX2_addTimes_35 : decode cX2_addTimes 35 = .ok (.return_, 1) := by decide +kernel
theorem dX2_product_0 : decode cX2_product 0 = .ok (.lconst 0, 1) := by decide +kernel
theorem dX2_product_1 : decode cX2_product 1 = .ok (.lstore_n 2, 1) := by decide +kernel
theorem dX2_product_2 : decode cX2_product 2 = .ok (.iconst 0, 1) := by decide +kernel
theorem dX2_product_3 : decode cX2_product 3 = .ok (.istore 4, 2) := by decide +kernel
theorem dX2_product_5 : decode cX2_product 5 = .ok (.iload 4, 2) := by decide +kernel
theorem dX2_product_7 : decode cX2_product 7 = .ok (.bipush 6, 2) := by decide +kernel
theorem dX2_product_9 : decode cX2_product 9 = .ok (.if_icmp .ge 22, 3) := by decide +kernel
theorem dX2_product_12 : decode cX2_product 12 = .ok (.lload_n 2, 1) := by decide +kernel
theorem dX2_product_13 : decode cX2_product 13 = .ok (.aload_n 0, 1) := by decide +kernel
theorem dX2_product_14 : decode cX2_product 14 = .ok (.iload 4, 2) := by decide +kernel
theorem dX2_product_16 : decode cX2_product 16 = .ok (.iaload, 1) := by decide +kernel
theorem dX2_product_17 : decode cX2_product 17 = .ok (.i2l, 1) := by decide +kernel
theorem dX2_product_18 : decode cX2_product 18 = .ok (.aload_n 1, 1) := by decide +kernel
theorem dX2_product_19 : decode cX2_product 19 = .ok (.iload 4, 2) := by decide +kernel
theorem dX2_product_21 : decode cX2_product 21 = .ok (.laload, 1) := by decide +kernel
theorem dX2_product_22 : decode cX2_product 22 = .ok (.lmul, 1) := by decide +kernel
theorem dX2_product_23 : decode cX2_product 23 = .ok (.ladd, 1) := by decide +kernel
theorem dX2_product_24 : decode cX2_product 24 = .ok (.lstore_n 2, 1) := by decide +kernel
theorem dX2_product_25 : decode cX2_product 25 = .ok (.iinc 4 1, 3) := by decide +kernel
theorem dX2_product_28 : decode cX2_product 28 = .ok (.goto (-23), 3) := by decide +kernel
theorem dX2_product_31 : decode cX2_product 31 = .ok (.lload_n 2, 1) := by decide +kernel
theorem dX2_product_32 : decode cX2_product 32 = .ok (.lreturn, 1) := by decide +kernel
theorem dX2_commonDivisor_0 : decode cX2_commonDivisor 0 = .ok (.lload_n 0, 1) := by decide +kernel
theorem dX2_commonDivisor_1 : decode cX2_commonDivisor 1 = .ok (.invokestatic 107, 3) := by decide +kernel
theorem dX2_commonDivisor_4 : decode cX2_commonDivisor 4 = .ok (.lstore 4, 2) := by decide +kernel
theorem dX2_commonDivisor_6 : decode cX2_commonDivisor 6 = .ok (.lload_n 2, 1) := by decide +kernel
theorem dX2_commonDivisor_7 : decode cX2_commonDivisor 7 = .ok (.invokestatic 107, 3) := by decide +kernel
theorem dX2_commonDivisor_10 : decode cX2_commonDivisor 10 = .ok (.lstore 6, 2) := by decide +kernel
theorem dX2_commonDivisor_12 : decode cX2_commonDivisor 12 = .ok (.iconst 0, 1) := by decide +kernel
theorem dX2_commonDivisor_13 : decode cX2_commonDivisor 13 = .ok (.istore 8, 2) := by decide +kernel
theorem dX2_commonDivisor_15 : decode cX2_commonDivisor 15 = .ok (.iload 8, 2) := by decide +kernel
theorem dX2_commonDivisor_17 : decode cX2_commonDivisor 17 = .ok (.sipush 200, 3) := by decide +kernel
theorem dX2_commonDivisor_20 : decode cX2_commonDivisor 20 = .ok (.if_icmp .ge 31, 3) := by decide +kernel
theorem dX2_commonDivisor_23 : decode cX2_commonDivisor 23 = .ok (.lload 6, 2) := by decide +kernel
theorem dX2_commonDivisor_25 : decode cX2_commonDivisor 25 = .ok (.lconst 0, 1) := by decide +kernel
theorem dX2_commonDivisor_26 : decode cX2_commonDivisor 26 = .ok (.lcmp, 1) := by decide +kernel
theorem dX2_commonDivisor_27 : decode cX2_commonDivisor 27 = .ok (.ifCond .eq 24, 3) := by decide +kernel
theorem dX2_commonDivisor_30 : decode cX2_commonDivisor 30 = .ok (.lload 4, 2) := by decide +kernel
theorem dX2_commonDivisor_32 : decode cX2_commonDivisor 32 = .ok (.lload 6, 2) := by decide +kernel
theorem dX2_commonDivisor_34 : decode cX2_commonDivisor 34 = .ok (.lrem, 1) := by decide +kernel
theorem dX2_commonDivisor_35 : decode cX2_commonDivisor 35 = .ok (.lstore 9, 2) := by decide +kernel
theorem dX2_commonDivisor_37 : decode cX2_commonDivisor 37 = .ok (.lload 6, 2) := by decide +kernel
theorem dX2_commonDivisor_39 : decode cX2_commonDivisor 39 = .ok (.lstore 4, 2) := by decide +kernel
theorem dX2_commonDivisor_41 : decode cX2_commonDivisor 41 = .ok (.lload 9, 2) := by decide +kernel
theorem dX2_commonDivisor_43 : decode cX2_commonDivisor 43 = .ok (.lstore 6, 2) := by decide +kernel
theorem dX2_commonDivisor_45 : decode cX2_commonDivisor 45 = .ok (.iinc 8 1, 3) := by decide +kernel
theorem dX2_commonDivisor_48 : decode cX2_commonDivisor 48 = .ok (.goto (-33), 3) := by decide +kernel
theorem dX2_commonDivisor_51 : decode cX2_commonDivisor 51 = .ok (.lload 4, 2) := by decide +kernel
theorem dX2_commonDivisor_53 : decode cX2_commonDivisor 53 = .ok (.lreturn, 1) := by decide +kernel
set_option maxRecDepth 20000 in
theorem ggX3_init_J7_fill_53178 : GoodIn wsX3_init wsJ7_fill_53178 := goodIn_r _ [12] (by decide +kernel) (by decide +kernel)
set_option maxRecDepth 20000 in
theorem gX3_init_J7_fill_53178 : GoodIn wsX3_init (va_wsS RX3 23 yJ7_fill_53178 wsJ7_fill_53178) := goodIn_app (goodIn_of _ (by decide +kernel)) ggX3_init_J7_fill_53178
theorem dX3_init_0 : decode cX3_init 0 = .ok (.aload_n 0, 1) := by decide +kernel
theorem dX3_init_1 : decode cX3_init 1 = .ok (.invokespecial 3, 3) := by decide +kernel
theorem dX3_init_4 : decode cX3_init 4 = .ok (.aload_n 0, 1) := by decide +kernel
theorem dX3_init_5 : decode cX3_init 5 = .ok (.bipush 6, 2) := by decide +kernel
theorem dX3_init_7 : decode cX3_init 7 = .ok (.bipush 10, 2) := by decide +kernel
theorem dX3_init_9 : decode cX3_init 9 = .ok (.multianewarray 9 2, 4) := by decide +kernel
theorem dX3_init_13 : decode cX3_init 13 = .ok (.putfield 11, 3) := by decide +kernel
theorem dX3_init_16 : decode cX3_init 16 = .ok (.aload_n 0, 1) := by decide +kernel
theorem dX3_init_17 : decode cX3_init 17 = .ok (.iconst 4, 1) := by decide +kernel
theorem dX3_init_18 : decode cX3_init 18 = .ok (.newarray .int, 2) := by decide +kernel
theorem dX3_init_20 : decode cX3_init 20 = .ok (.putfield 16, 3) := by decide +kernel
theorem dX3_init_23 : decode cX3_init 23 = .ok (.aload_n 0, 1) := by decide +kernel
theorem dX3_init_24 : decode cX3_init 24 = .ok (.iconst 4, 1) := by decide +kernel
theorem dX3_init_25 : decode cX3_init 25 = .ok (.newarray .int, 2) := by decide +kernel
theorem dX3_init_27 : decode cX3_init 27 = .ok (.putfield 20, 3) := by decide +kernel
theorem dX3_init_30 : decode cX3_init 30 = .ok (.aload_n 0, 1) := by decide +kernel
theorem dX3_init_31 : decode cX3_init 31 = .ok (.getfield 16, 3) := by decide +kernel
theorem dX3_init_34 : decode cX3_init 34 = .ok (.iconst 1, 1) := by decide +kernel
theorem dX3_init_35 : decode cX3_init 35 = .ok (.invokestatic 23, 3) := by decide +kernel
theorem dX3_init_38 : decode cX3_init 38 = .ok (.aload_n 0, 1) := by decide +kernel
theorem dX3_init_39 : decode cX3_init 39 = .ok (.getfield 20, 3) := by decide +kernel
theorem dX3_init_42 : decode cX3_init 42 = .ok (.iconst 1, 1) := by decide +kernel
theorem dX3_init_43 : decode cX3_init 43 = .ok (.invokestatic 23, 3) := by decide +kernel
theorem dX3_init_46 : decode cX3_init 46 = .ok (.return_, 1) := by decide +kernel
theorem dX3_copyDeeds_0 : decode cX3_copyDeeds 0 = .ok (.aload_n 0, 1) := by decide +kernel
theorem dX3_copyDeeds_1 : decode cX3_copyDeeds 1 = .ok (.aload_n 1, 1) := by decide +kernel
theorem dX3_copyDeeds_2 : decode cX3_copyDeeds 2 = .ok (.getfield 29, 3) := by decide +kernel
theorem dX3_copyDeeds_5 : decode cX3_copyDeeds 5 = .ok (.putfield 29, 3) := by decide +kernel
theorem dX3_copyDeeds_8 : decode cX3_copyDeeds 8 = .ok (.iconst 0, 1) := by decide +kernel
theorem dX3_copyDeeds_9 : decode cX3_copyDeeds 9 = .ok (.istore_n 2, 1) := by decide +kernel
theorem dX3_copyDeeds_10 : decode cX3_copyDeeds 10 = .ok (.iload_n 2, 1) := by decide +kernel
theorem dX3_copyDeeds_11 : decode cX3_copyDeeds 11 = .ok (.bipush 6, 2) := by decide +kernel
theorem dX3_copyDeeds_13 : decode cX3_copyDeeds 13 = .ok (.if_icmp .ge 28, 3) := by decide +kernel
theorem dX3_copyDeeds_16 : decode cX3_copyDeeds 16 = .ok (.aload_n 1, 1) := by decide +kernel
theorem dX3_copyDeeds_17 : decode cX3_copyDeeds 17 = .ok (.getfield 11, 3) := by decide +kernel
theorem dX3_copyDeeds_20 : decode cX3_copyDeeds 20 = .ok (.iload_n 2, 1) := by decide +kernel
theorem dX3_copyDeeds_21 : decode cX3_copyDeeds 21 = .ok (.aaload, 1) := by decide +kernel
theorem dX3_copyDeeds_22 : decode cX3_copyDeeds 22 = .ok (.iconst 0, 1) := by decide +kernel
theorem dX3_copyDeeds_23 : decode cX3_copyDeeds 23 = .ok (.aload_n 0, 1) := by decide +kernel
theorem dX3_copyDeeds_24 : decode cX3_copyDeeds 24 = .ok (.getfield 11, 3) := by decide +kernel
theorem dX3_copyDeeds_27 : decode cX3_copyDeeds 27 = .ok (.iload_n 2, 1) := by decide +kernel
theorem dX3_copyDeeds_28 : decode cX3_copyDeeds 28 = .ok (.aaload, 1) := by decide +kernel
theorem dX3_copyDeeds_29 : decode cX3_copyDeeds 29 = .ok (.iconst 0, 1) := by decide +kernel
theorem dX3_copyDeeds_30 : decode cX3_copyDeeds 30 = .ok (.bipush 10, 2) := by decide +kernel
theorem dX3_copyDeeds_32 : decode cX3_copyDeeds 32 = .ok (.invokestatic 33, 3) := by decide +kernel
theorem dX3_copyDeeds_35 : decode cX3_copyDeeds 35 = .ok (.iinc 2 1, 3) := by decide +kernel
theorem dX3_copyDeeds_38 : decode cX3_copyDeeds 38 = .ok (.goto (-28), 3) := by decide +kernel
theorem dX3_copyDeeds_41 : decode cX3_copyDeeds 41 = .ok (.aload_n 1, 1) := by decide +kernel
theorem dX3_copyDeeds_42 : decode cX3_copyDeeds 42 = .ok (.getfield 16, 3) := by decide +kernel
theorem dX3_copyDeeds_45 : decode cX3_copyDeeds 45 = .ok (.iconst 0, 1) := by decide +kernel
theorem dX3_copyDeeds_46 : decode cX3_copyDeeds 46 = .ok (.aload_n 0, 1) := by decide +kernel
theorem dX3_copyDeeds_47 : decode cX3_copyDeeds 47 = .ok (.getfield 16, 3) := by decide +kernel
theorem dX3_copyDeeds_50 : decode cX3_copyDeeds 50 = .ok (.iconst 0, 1) := by decide +kernel
theorem dX3_copyDeeds_51 : decode cX3_copyDeeds 51 = .ok (.iconst 4, 1) := by decide +kernel
theorem dX3_copyDeeds_52 : decode cX3_copyDeeds 52 = .ok (.invokestatic 33, 3) := by decide +kernel
theorem dX3_copyDeeds_55 : decode cX3_copyDeeds 55 = .ok (.aload_n 1, 1) := by decide +kernel
theorem dX3_copyDeeds_56 : decode cX3_copyDeeds 56 = .ok (.getfield 20, 3) := by decide +kernel
theorem dX3_copyDeeds_59 : decode cX3_copyDeeds 59 = .ok (.iconst 0, 1) := by decide +kernel
theorem dX3_copyDeeds_60 : decode cX3_copyDeeds 60 = .ok (.aload_n 0, 1) := by decide +kernel
theorem dX3_copyDeeds_61 : decode cX3_copyDeeds 61 = .ok (.getfield 20, 3) := by decide +kernel
theorem dX3_copyDeeds_64 : decode cX3_copyDeeds 64 = .ok (.iconst 0, 1) := by decide +kernel
theorem dX3_copyDeeds_65 : decode cX3_copyDeeds 65 = .ok (.iconst 4, 1) := by decide +kernel
theorem dX3_copyDeeds_66 : decode cX3_copyDeeds 66 = .ok (.invokestatic 33, 3) := by decide +kernel
theorem dX3_copyDeeds_69 : decode cX3_copyDeeds 69 = .ok (.return_, 1) := by decide +kernel
theorem dX3_put_0 : decode cX3_put 0 = .ok (.aload_n 0, 1) := by decide +kernel
theorem dX3_put_1 : decode cX3_put 1 = .ok (.getfield 29, 3) := by decide +kernel
theorem dX3_put_4 : decode cX3_put 4 = .ok (.bipush 6, 2) := by decide +kernel
theorem dX3_put_6 : decode cX3_put 6 = .ok (.if_icmp .ge 30, 3) := by decide +kernel
theorem dX3_put_9 : decode cX3_put 9 = .ok (.aload_n 1, 1) := by decide +kernel
theorem dX3_put_10 : decode cX3_put 10 = .ok (.iconst 0, 1) := by decide +kernel
theorem dX3_put_11 : decode cX3_put 11 = .ok (.aload_n 0, 1) := by decide +kernel
theorem dX3_put_12 : decode cX3_put 12 = .ok (.getfield 11, 3) := by decide +kernel
theorem dX3_put_15 : decode cX3_put 15 = .ok (.aload_n 0, 1) := by decide +kernel
theorem dX3_put_16 : decode cX3_put 16 = .ok (.getfield 29, 3) := by decide +kernel
theorem dX3_put_19 : decode cX3_put 19 = .ok (.aaload, 1) := by decide +kernel
theorem dX3_put_20 : decode cX3_put 20 = .ok (.iconst 0, 1) := by decide +kernel
theorem dX3_put_21 : decode cX3_put 21 = .ok (.bipush 10, 2) := by decide +kernel
theorem dX3_put_23 : decode cX3_put 23 = .ok (.invokestatic 33, 3) := by decide +kernel
theorem dX3_put_26 : decode cX3_put 26 = .ok (.aload_n 0, 1) := by decide +kernel
theorem dX3_put_27 : decode cX3_put 27 = .ok (.dup, 1) := by decide +kernel
theorem dX3_put_28 : decode cX3_put 28 = .ok (.getfield 29, 3) := by decide +kernel
theorem dX3_put_31 : decode cX3_put 31 = .ok (.iconst 1, 1) := by decide +kernel
theorem dX3_put_32 : decode cX3_put 32 = .ok (.iadd, 1) := by decide +kernel
theorem dX3_put_33 : decode cX3_put 33 = .ok (.putfield 29, 3) := by decide +kernel
theorem dX3_put_36 : decode cX3_put 36 = .ok (.return_, 1) := by decide +kernel
theorem dX3_remove_0 : decode cX3_remove 0 = .ok (.iload_n 1, 1) := by decide +kernel
theorem dX3_remove_1 : decode cX3_remove 1 = .ok (.istore_n 2, 1) := by decide +kernel
theorem dX3_remove_2 : decode cX3_remove 2 = .ok (.iload_n 2, 1) := by decide +kernel
theorem dX3_remove_3 : decode cX3_remove 3 = .ok (.aload_n 0, 1) := by decide +kernel
theorem dX3_remove_4 : decode cX3_remove 4 = .ok (.getfield 29, 3) := by decide +kernel
theorem dX3_remove_7 : decode cX3_remove 7 = .ok (.iconst 1, 1) := by decide +kernel
theorem dX3_remove_8 : decode cX3_remove 8 = .ok (.isub, 1) := by decide +kernel
theorem dX3_remove_9 : decode cX3_remove 9 = .ok (.if_icmp .ge 30, 3) := by decide +kernel
theorem dX3_remove_12 : decode cX3_remove 12 = .ok (.aload_n 0, 1) := by decide +kernel
theorem dX3_remove_13 : decode cX3_remove 13 = .ok (.getfield 11, 3) := by decide +kernel
theorem dX3_remove_16 : decode cX3_remove 16 = .ok (.iload_n 2, 1) := by decide +kernel
theorem dX3_remove_17 : decode cX3_remove 17 = .ok (.iconst 1, 1) := by decide +kernel
theorem dX3_remove_18 : decode cX3_remove 18 = .ok (.iadd, 1) := by decide +kernel
theorem dX3_remove_19 : decode cX3_remove 19 = .ok (.aaload, 1) := by decide +kernel
theorem dX3_remove_20 : decode cX3_remove 20 = .ok (.iconst 0, 1) := by decide +kernel
theorem dX3_remove_21 : decode cX3_remove 21 = .ok (.aload_n 0, 1) := by decide +kernel
theorem dX3_remove_22 : decode cX3_remove 22 = .ok (.getfield 11, 3) := by decide +kernel
theorem dX3_remove_25 : decode cX3_remove 25 = .ok (.iload_n 2, 1) := by decide +kernel
theorem dX3_remove_26 : decode cX3_remove 26 = .ok (.aaload, 1) := by decide +kernel
theorem dX3_remove_27 : decode cX3_remove 27 = .ok (.iconst 0, 1) := by decide +kernel
theorem dX3_remove_28 : decode cX3_remove 28 = .ok (.bipush 10, 2) := by decide +kernel
theorem dX3_remove_30 : decode cX3_remove 30 = .ok (.invokestatic 33, 3) := by decide +kernel
theorem dX3_remove_33 : decode cX3_remove 33 = .ok (.iinc 2 1, 3) := by decide +kernel
theorem dX3_remove_36 : decode cX3_remove 36 = .ok (.goto (-34), 3) := by decide +kernel
theorem dX3_remove_39 : decode cX3_remove 39 = .ok (.aload_n 0, 1) := by decide +kernel
theorem dX3_remove_40 : decode cX3_remove 40 = .ok (.dup, 1) := by decide +kernel
theorem dX3_remove_41 : decode cX3_remove 41 = .ok (.getfield 29, 3) := by decide +kernel
theorem dX3_remove_44 : decode cX3_remove 44 = .ok (.iconst 1, 1) := by decide +kernel
theorem dX3_remove_45 : decode cX3_remove 45 = .ok (.isub, 1) := by decide +kernel
theorem dX3_remove_46 : decode cX3_remove 46 = .ok (.putfield 29, 3) := by decide +kernel
theorem dX3_remove_49 : decode cX3_remove 49 = .ok (.return_, 1) := by decide +kernel
theorem dX3_countScaled_0 : decode cX3_countScaled 0 = .ok (.iconst 0, 1) := by decide +kernel
theorem dX3_countScaled_1 : decode cX3_countScaled 1 = .ok (.istore_n 1, 1) := by decide +kernel
theorem dX3_countScaled_2 : decode cX3_countScaled 2 = .ok (.iconst 0, 1) := by decide +kernel
theorem dX3_countScaled_3 : decode cX3_countScaled 3 = .ok (.istore_n 2, 1) := by decide +kernel
theorem dX3_countScaled_4 : decode cX3_countScaled 4 = .ok (.iload_n 2, 1) := by decide +kernel
theorem dX3_countScaled_5 : decode cX3_countScaled 5 = .ok (.iconst 4, 1) := by decide +kernel
theorem dX3_countScaled_6 : decode cX3_countScaled 6 = .ok (.if_icmp .ge 27, 3) := by decide +kernel
theorem dX3_countScaled_9 : decode cX3_countScaled 9 = .ok (.aload_n 0, 1) := by decide +kernel
theorem dX3_countScaled_10 : decode cX3_countScaled 10 = .ok (.getfield 16, 3) := by decide +kernel
theorem dX3_countScaled_13 : decode cX3_countScaled 13 = .ok (.iload_n 2, 1) := by decide +kernel
theorem dX3_countScaled_14 : decode cX3_countScaled 14 = .ok (.iaload, 1) := by decide +kernel
theorem dX3_countScaled_15 : decode cX3_countScaled 15 = .ok (.aload_n 0, 1) := by decide +kernel
theorem dX3_countScaled_16 : decode cX3_countScaled 16 = .ok (.getfield 20, 3) := by decide +kernel
theorem dX3_countScaled_19 : decode cX3_countScaled 19 = .ok (.iload_n 2, 1) := by decide +kernel
theorem dX3_countScaled_20 : decode cX3_countScaled 20 = .ok (.iaload, 1) := by decide +kernel
theorem dX3_countScaled_21 : decode cX3_countScaled 21 = .ok (.if_icmp .eq 6, 3) := by decide +kernel
theorem dX3_countScaled_24 : decode cX3_countScaled 24 = .ok (.iinc 1 1, 3) := by decide +kernel
theorem dX3_countScaled_27 : decode cX3_countScaled 27 = .ok (.iinc 2 1, 3) := by decide +kernel
theorem dX3_countScaled_30 : decode cX3_countScaled 30 = .ok (.goto (-26), 3) := by decide +kernel
theorem dX3_countScaled_33 : decode cX3_countScaled 33 = .ok (.iload_n 1, 1) := by decide +kernel
theorem dX3_countScaled_34 : decode cX3_countScaled 34 = .ok (.ireturn, 1) := by decide +kernel
theorem dX3_draw_0 : decode cX3_draw 0 = .ok (.aload_n 0, 1) := by decide +kernel
theorem dX3_draw_1 : decode cX3_draw 1 = .ok (.aload_n 0, 1) := by decide +kernel
theorem dX3_draw_2 : decode cX3_draw 2 = .ok (.getfield 39, 3) := by decide +kernel
theorem dX3_draw_5 : decode cX3_draw 5 = .ok (.i2l, 1) := by decide +kernel
theorem dX3_draw_6 : decode cX3_draw 6 = .ok (.ldc2_w 42, 3) := by decide +kernel
theorem dX3_draw_9 : decode cX3_draw 9 = .ok (.lmul, 1) := by decide +kernel
theorem dX3_draw_10 : decode cX3_draw 10 = .ok (.ldc2_w 44, 3) := by decide +kernel
theorem dX3_draw_13 : decode cX3_draw 13 = .ok (.ladd, 1) := by decide +kernel
theorem dX3_draw_14 : decode cX3_draw 14 = .ok (.ldc2_w 46, 3) := by decide +kernel
theorem dX3_draw_17 : decode cX3_draw 17 = .ok (.land, 1) := by decide +kernel
theorem dX3_draw_18 : decode cX3_draw 18 = .ok (.l2i, 1) := by decide +kernel
theorem dX3_draw_19 : decode cX3_draw 19 = .ok (.putfield 39, 3) := by decide +kernel
theorem dX3_draw_22 : decode cX3_draw 22 = .ok (.iload_n 1, 1) := by decide +kernel
theorem dX3_draw_23 : decode cX3_draw 23 = .ok (.ifCond .le 15, 3) := by decide +kernel
theorem dX3_draw_26 : decode cX3_draw 26 = .ok (.aload_n 0, 1) := by decide +kernel
theorem dX3_draw_27 : decode cX3_draw 27 = .ok (.getfield 39, 3) := by decide +kernel
theorem dX3_draw_30 : decode cX3_draw 30 = .ok (.ldc 48, 2) := by decide +kernel
theorem dX3_draw_32 : decode cX3_draw 32 = .ok (.idiv, 1) := by decide +kernel
theorem dX3_draw_33 : decode cX3_draw 33 = .ok (.iload_n 1, 1) := by decide +kernel
theorem dX3_draw_34 : decode cX3_draw 34 = .ok (.irem, 1) := by decide +kernel
theorem dX3_draw_35 : decode cX3_draw 35 = .ok (.goto 4, 3) := by decide +kernel
theorem dX3_draw_38 : decode cX3_draw 38 = .ok (.iconst 0, 1) := by decide +kernel
theorem dX3_draw_39 : decode cX3_draw 39 = .ok (.ireturn, 1) := by decide +kernel
set_option maxRecDepth 20000 in
theorem ggX4_init_X1_init : GoodIn wsX4_init wsX1_init := goodIn_r _ [27, 28, 2, 3, 29, 30, 31, 4, 32, 33, 34, 82, 83, 84, 85, 86, 87, 88, 89, 90] (by decide +kernel) (by decide +kernel)
set_option maxRecDepth 20000 in
theorem gX4_init_X1_init_n19 : GoodIn wsX4_init (wsX1_init) := ggX4_init_X1_init
set_option maxRecDepth 20000 in
theorem ggX4_init_X3_init : GoodIn wsX4_init wsX3_init := goodIn_r _ [37, 38, 2, 3, 39, 4, 40, 41, 42, 43, 44, 45, 46, 91, 92, 93, 94, 95, 96] (by decide +kernel) (by decide +kernel)
set_option maxRecDepth 20000 in
theorem gX4_init_X3_init : GoodIn wsX4_init (wsX3_init) := ggX4_init_X3_init
set_option maxRecDepth 20000 in
theorem ggX4_init_X0_init : GoodIn wsX4_init wsX0_init := goodIn_r _ [49, 50, 2, 3, 51, 52, 13, 14, 53, 36, 37, 38, 39, 4, 40, 41, 42, 43, 44, 45, 46, 97, 98, 99, 91, 92, 93, 94, 95, 96] (by decide +kernel) (by decide +kernel)
set_option maxRecDepth 20000 in
theorem gX4_init_X0_init : GoodIn wsX4_init (wsX0_init) := ggX4_init_X0_init
set_option maxRecDepth 20000 in
theorem ggX4_init_X2_init : GoodIn wsX4_init wsX2_init := goodIn_r _ [56, 57, 2, 3, 58, 30, 59, 60, 61, 62, 63, 64, 65, 66, 23, 67, 68, 69, 70, 45, 71, 100, 101, 102, 103, 104, 105, 106] (by decide +kernel) (by decide +kernel)
set_option maxRecDepth 20000 in
theorem gX4_init_X2_init : GoodIn wsX4_init (wsX2_init) := ggX4_init_X2_init
theorem dX4_init_0 : decode cX4_init 0 = .ok (.aload_n 0, 1) := by decide +kernel
theorem dX4_init_1 : decode cX4_init 1 = .ok (.invokespecial 3, 3) := by decide +kernel
theorem dX4_init_4 : decode cX4_init 4 = .ok (.aload_n 0, 1) := by decide +kernel
theorem dX4_init_5 : decode cX4_init 5 = .ok (.bipush 60, 2) := by decide +kernel
theorem dX4_init_7 : decode cX4_init 7 = .ok (.newarray .int, 2) := by decide +kernel
theorem dX4_init_9 : decode cX4_init 9 = .ok (.putfield 9, 3) := by decide +kernel
theorem dX4_init_12 : decode cX4_init 12 = .ok (.aload_n 0, 1) := by decide +kernel
theorem dX4_init_13 : decode cX4_init 13 = .ok (.iconst (-1), 1) := by decide +kernel
theorem dX4_init_14 : decode cX4_init 14 = .ok (.putfield 13, 3) := by decide +kernel
theorem dX4_init_17 : decode cX4_init 17 = .ok (.aload_n 0, 1) := by decide +kernel
theorem dX4_init_18 : decode cX4_init 18 = .ok (.new 17, 3) := by decide +kernel
theorem dX4_init_21 : decode cX4_init 21 = .ok (.dup, 1) := by decide +kernel
theorem dX4_init_22 : decode cX4_init 22 = .ok (.invokespecial 19, 3) := by decide +kernel
theorem dX4_init_25 : decode cX4_init 25 = .ok (.putfield 20, 3) := by decide +kernel
theorem dX4_init_28 : decode cX4_init 28 = .ok (.aload_n 0, 1) := by decide +kernel
theorem dX4_init_29 : decode cX4_init 29 = .ok (.bipush 10, 2) := by decide +kernel
theorem dX4_init_31 : decode cX4_init 31 = .ok (.newarray .int, 2) := by decide +kernel
theorem dX4_init_33 : decode cX4_init 33 = .ok (.putfield 24, 3) := by decide +kernel
theorem dX4_init_36 : decode cX4_init 36 = .ok (.aload_n 0, 1) := by decide +kernel
theorem dX4_init_37 : decode cX4_init 37 = .ok (.new 27, 3) := by decide +kernel
theorem dX4_init_40 : decode cX4_init 40 = .ok (.dup, 1) := by decide +kernel
theorem dX4_init_41 : decode cX4_init 41 = .ok (.invokespecial 29, 3) := by decide +kernel
theorem dX4_init_44 : decode cX4_init 44 = .ok (.putfield 30, 3) := by decide +kernel
theorem dX4_init_47 : decode cX4_init 47 = .ok (.aload_n 0, 1) := by decide +kernel
theorem dX4_init_48 : decode cX4_init 48 = .ok (.iconst 2, 1) := by decide +kernel
theorem dX4_init_49 : decode cX4_init 49 = .ok (.anewarray 27, 3) := by decide +kernel
theorem dX4_init_52 : decode cX4_init 52 = .ok (.putfield 34, 3) := by decide +kernel
theorem dX4_init_55 : decode cX4_init 55 = .ok (.aload_n 0, 1) := by decide +kernel
theorem dX4_init_56 : decode cX4_init 56 = .ok (.new 38, 3) := by decide +kernel
theorem dX4_init_59 : decode cX4_init 59 = .ok (.dup, 1) := by decide +kernel
theorem dX4_init_60 : decode cX4_init 60 = .ok (.invokespecial 40, 3) := by decide +kernel
theorem dX4_init_63 : decode cX4_init 63 = .ok (.putfield 41, 3) := by decide +kernel
theorem dX4_init_66 : decode cX4_init 66 = .ok (.aload_n 0, 1) := by decide +kernel
theorem dX4_init_67 : decode cX4_init 67 = .ok (.new 45, 3) := by decide +kernel
theorem dX4_init_70 : decode cX4_init 70 = .ok (.dup, 1) := by decide +kernel
theorem dX4_init_71 : decode cX4_init 71 = .ok (.invokespecial 47, 3) := by decide +kernel
theorem dX4_init_74 : decode cX4_init 74 = .ok (.putfield 48, 3) := by decide +kernel
theorem dX4_init_77 : decode cX4_init 77 = .ok (.aload_n 0, 1) := by decide +kernel
theorem dX4_init_78 : decode cX4_init 78 = .ok (.new 45, 3) := by decide +kernel
theorem dX4_init_81 : decode cX4_init 81 = .ok (.dup, 1) := by decide +kernel
theorem dX4_init_82 : decode cX4_init 82 = .ok (.invokespecial 47, 3) := by decide +kernel
theorem dX4_init_85 : decode cX4_init 85 = .ok (.putfield 52, 3) := by decide +kernel
theorem dX4_init_88 : decode cX4_init 88 = .ok (.iconst 0, 1) := by decide +kernel
theorem dX4_init_89 : decode cX4_init 89 = .ok (.istore_n 1, 1) := by decide +kernel
theorem dX4_init_90 : decode cX4_init 90 = .ok (.iload_n 1, 1) := by decide +kernel
theorem dX4_init_91 : decode cX4_init 91 = .ok (.iconst 2, 1) := by decide +kernel
theorem dX4_init_92 : decode cX4_init 92 = .ok (.if_icmp .ge 22, 3) := by decide +kernel
theorem dX4_init_95 : decode cX4_init 95 = .ok (.aload_n 0, 1) := by decide +kernel
theorem dX4_init_96 : decode cX4_init 96 = .ok (.getfield 34, 3) := by decide +kernel
theorem dX4_init_99 : decode cX4_init 99 = .ok (.iload_n 1, 1) := by decide +kernel
theorem dX4_init_100 : decode cX4_init 100 = .ok (.new 27, 3) := by decide +kernel
theorem dX4_init_103 : decode cX4_init 103 = .ok (.dup, 1) := by decide +kernel
theorem dX4_init_104 : decode cX4_init 104 = .ok (.invokespecial 29, 3) := by decide +kernel
theorem dX4_init_107 : decode cX4_init 107 = .ok (.aastore, 1) := by decide +kernel
theorem dX4_init_108 : decode cX4_init 108 = .ok (.iinc 1 1, 3) := by decide +kernel
theorem dX4_init_111 : decode cX4_init 111 = .ok (.goto (-21), 3) := by decide +kernel
theorem dX4_init_114 : decode cX4_init 114 = .ok (.return_, 1) := by decide +kernel
theorem dX4_feed_0 : decode cX4_feed 0 = .ok (.iload_n 1, 1) := by decide +kernel
theorem dX4_feed_1 : decode cX4_feed 1 = .ok (.ifCond .lt 10, 3) := by decide +kernel
theorem dX4_feed_4 : decode cX4_feed 4 = .ok (.iload_n 1, 1) := by decide +kernel
theorem dX4_feed_5 : decode cX4_feed 5 = .ok (.sipush 255, 3) := by decide +kernel
theorem dX4_feed_8 : decode cX4_feed 8 = .ok (.if_icmp .le 6, 3) := by decide +kernel
theorem dX4_feed_11 : decode cX4_feed 11 = .ok (.ldc 55, 2) := by decide +kernel
theorem dX4_feed_13 : decode cX4_feed 13 = .ok (.ireturn, 1) := by decide +kernel
theorem dX4_feed_14 : decode cX4_feed 14 = .ok (.aload_n 0, 1) := by decide +kernel
theorem dX4_feed_15 : decode cX4_feed 15 = .ok (.getfield 56, 3) := by decide +kernel
theorem dX4_feed_18 : decode cX4_feed 18 = .ok (.bipush 60, 2) := by decide +kernel
theorem dX4_feed_20 : decode cX4_feed 20 = .ok (.if_icmp .lt 6, 3) := by decide +kernel
theorem dX4_feed_23 : decode cX4_feed 23 = .ok (.ldc 59, 2) := by decide +kernel
theorem dX4_feed_25 : decode cX4_feed 25 = .ok (.ireturn, 1) := by decide +kernel
theorem dX4_feed_26 : decode cX4_feed 26 = .ok (.aload_n 0, 1) := by decide +kernel
theorem dX4_feed_27 : decode cX4_feed 27 = .ok (.getfield 9, 3) := by decide +kernel
theorem dX4_feed_30 : decode cX4_feed 30 = .ok (.aload_n 0, 1) := by decide +kernel
theorem dX4_feed_31 : decode cX4_feed 31 = .ok (.getfield 56, 3) := by decide +kernel
theorem dX4_feed_34 : decode cX4_feed 34 = .ok (.iload_n 1, 1) := by decide +kernel
theorem dX4_feed_35 : decode cX4_feed 35 = .ok (.iastore, 1) := by decide +kernel
theorem dX4_feed_36 : decode cX4_feed 36 = .ok (.aload_n 0, 1) := by decide +kernel
theorem dX4_feed_37 : decode cX4_feed 37 = .ok (.dup, 1) := by decide +kernel
theorem dX4_feed_38 : decode cX4_feed 38 = .ok (.getfield 56, 3) := by decide +kernel
theorem dX4_feed_41 : decode cX4_feed 41 = .ok (.iconst 1, 1) := by decide +kernel
theorem dX4_feed_42 : decode cX4_feed 42 = .ok (.iadd, 1) := by decide +kernel
theorem dX4_feed_43 : decode cX4_feed 43 = .ok (.putfield 56, 3) := by decide +kernel
theorem dX4_feed_46 : decode cX4_feed 46 = .ok (.aload_n 0, 1) := by decide +kernel
theorem dX4_feed_47 : decode cX4_feed 47 = .ok (.getfield 56, 3) := by decide +kernel
theorem dX4_feed_50 : decode cX4_feed 50 = .ok (.ireturn, 1) := by decide +kernel
theorem dX4_wipe_0 : decode cX4_wipe 0 = .ok (.aload_n 0, 1) := by decide +kernel
theorem dX4_wipe_1 : decode cX4_wipe 1 = .ok (.getfield 56, 3) := by decide +kernel
theorem dX4_wipe_4 : decode cX4_wipe 4 = .ok (.istore_n 1, 1) := by decide +kernel
theorem dX4_wipe_5 : decode cX4_wipe 5 = .ok (.aload_n 0, 1) := by decide +kernel
theorem dX4_wipe_6 : decode cX4_wipe 6 = .ok (.iconst 0, 1) := by decide +kernel
theorem dX4_wipe_7 : decode cX4_wipe 7 = .ok (.putfield 56, 3) := by decide +kernel
theorem dX4_wipe_10 : decode cX4_wipe 10 = .ok (.iload_n 1, 1) := by decide +kernel
theorem dX4_wipe_11 : decode cX4_wipe 11 = .ok (.ireturn, 1) := by decide +kernel
theorem dX4_fault_0 : decode cX4_fault 0 = .ok (.aload_n 0, 1) := by decide +kernel
theorem dX4_fault_1 : decode cX4_fault 1 = .ok (.getfield 13, 3) := by decide +kernel
theorem dX4_fault_4 : decode cX4_fault 4 = .ok (.ireturn, 1) := by decide +kernel
set_option maxRecDepth 20000 in
theorem ggX4_told_X4_countFixed : GoodIn wsX4_told wsX4_countFixed := goodIn_r _ [10, 3, 11, 12, 13, 14, 15, 16, 17, 118, 119, 120, 121, 122, 123, 124, 125, 126, 127, 134, 135, 136, 137, 138, 139, 140] (by decide +kernel) (by decide +kernel)
set_option maxRecDepth 20000 in
theorem gX4_told_X4_countFixed : GoodIn wsX4_told (wsV RX4 64 RX4 yX4_countFixed wsX4_countFixed) := goodIn_app (goodIn_of _ (by decide +kernel)) ggX4_told_X4_countFixed
set_option maxRecDepth 20000 in
theorem ggX4_told_X4_countSpare : GoodIn wsX4_told wsX4_countSpare := goodIn_r _ [21, 2, 22, 23, 24, 9, 25, 26, 27, 28, 29, 14, 30, 16, 17, 31, 32, 33, 34, 35, 36, 37, 38, 39, 40, 41, 42, 43, 44, 45, 46, 47, 48, 49, 50, 51, 52, 53, 54, 55, 56, 57, 58, 59, 60, 61, 62, 63, 64, 65, 66, 67, 68, 69, 70, 71, 72, 73, 74, 75, 76, 77, 78, 79, 80, 81, 82, 83, 84, 85, 86, 87, 88, 89, 90, 91, 92, 93, 94, 95, 96, 97, 98, 99, 100, 101, 102, 103, 104, 105, 106, 118, 119, 120, 121, 122, 123, 124, 125, 126, 127, 128, 129, 130, 131, 132, 133, 134, 135, 136, 137, 138, 139, 140] (by decide +kernel) (by decide +kernel)
set_option maxRecDepth 20000 in
theorem gX4_told_X4_countSpare : GoodIn wsX4_told (wsV RX4 68 RX4 yX4_countSpare wsX4_countSpare) := goodIn_app (goodIn_of _ (by decide +kernel)) ggX4_told_X4_countSpare
set_option maxRecDepth 20000 in
theorem ggX4_told_X4_neededSet : GoodIn wsX4_told wsX4_neededSet := goodIn_r _ [110, 26, 2, 27, 28, 29, 14, 30, 16, 17, 31, 32, 33, 34, 35, 88, 89, 90, 91, 47, 48, 49, 50, 41, 51, 52, 53, 54, 55, 56, 57, 58, 92, 93, 94, 95, 96, 97, 98, 99, 100, 101, 102, 103, 104, 105, 106, 36, 37, 38, 39, 40, 42, 43, 44, 45, 46, 59, 60, 61, 62, 63, 64, 65, 66, 67, 68, 69, 70, 71, 72, 73, 74, 75, 76, 77, 78, 79, 80, 81, 82, 83, 84, 85, 86, 87, 118, 119, 120, 121, 122, 123, 124, 125, 126, 127, 128, 129, 130, 131, 132, 133, 134, 135, 136, 137, 138, 139, 140] (by decide +kernel) (by decide +kernel)
set_option maxRecDepth 20000 in
theorem gX4_told_X4_neededSet : GoodIn wsX4_told (wsV RX4 71 RX4 yX4_neededSet wsX4_neededSet) := goodIn_app (goodIn_of _ (by decide +kernel)) ggX4_told_X4_neededSet
set_option maxRecDepth 20000 in
theorem ggX4_told_J6_bitCount_0f7a4 : GoodIn wsX4_told wsJ6_bitCount_0f7a4 := goodIn_r _ [114, 115, 116, 117] (by decide +kernel) (by decide +kernel)
set_option maxRecDepth 20000 in
theorem gX4_told_J6_bitCount_0f7a4 : GoodIn wsX4_told (va_wsS RX4 74 yJ6_bitCount_0f7a4 wsJ6_bitCount_0f7a4) := goodIn_app (goodIn_of _ (by decide +kernel)) ggX4_told_J6_bitCount_0f7a4
theorem dX4_told_0 : decode cX4_told 0 = .ok (.iload_n 1, 1) := by decide +kernel
theorem dX4_told_1 : decode cX4_told 1 = .ok (.ifCond .lt 9, 3) := by decide +kernel
theorem dX4_told_4 : decode cX4_told 4 = .ok (.iload_n 1, 1) := by decide +kernel
theorem dX4_told_5 : decode cX4_told 5 = .ok (.bipush 9, 2) := by decide +kernel
end
section
theorem dX4_told_7 : decode cX4_told 7 = .ok (.if_icmp .lt 6, 3) := by decide +kernel
theorem dX4_told_10 : decode cX4_told 10 = .ok (.ldc 55, 2) := by decide +kernel
theorem dX4_told_12 : decode cX4_told 12 = .ok (.ireturn, 1) := by decide +kernel
theorem dX4_told_13 : decode cX4_told 13 = .ok (.iload_n 1, 1) := by decide +kernel
theorem dX4_told_14 : decode cX4_told 14 = .ok (.tableswitch 101 0 7 #[46, 54, 65, 73, 78, 83, 88, 96], 46) := by decide +kernel
theorem dX4_told_60 : decode cX4_told 60 = .ok (.aload_n 0, 1) := by decide +kernel
theorem dX4_told_61 : decode cX4_told 61 = .ok (.getfield 30, 3) := by decide +kernel
theorem dX4_told_64 : decode cX4_told 64 = .ok (.getfield 60, 3) := by decide +kernel
theorem dX4_told_67 : decode cX4_told 67 = .ok (.ireturn, 1) := by decide +kernel
theorem dX4_told_68 : decode cX4_told 68 = .ok (.bipush 6, 2) := by decide +kernel
theorem dX4_told_70 : decode cX4_told 70 = .ok (.aload_n 0, 1) := by decide +kernel
theorem dX4_told_71 : decode cX4_told 71 = .ok (.getfield 48, 3) := by decide +kernel
theorem dX4_told_74 : decode cX4_told 74 = .ok (.getfield 63, 3) := by decide +kernel
theorem dX4_told_77 : decode cX4_told 77 = .ok (.isub, 1) := by decide +kernel
theorem dX4_told_78 : decode cX4_told 78 = .ok (.ireturn, 1) := by decide +kernel
theorem dX4_told_79 : decode cX4_told 79 = .ok (.aload_n 0, 1) := by decide +kernel
theorem dX4_told_80 : decode cX4_told 80 = .ok (.getfield 48, 3) := by decide +kernel
theorem dX4_told_83 : decode cX4_told 83 = .ok (.getfield 63, 3) := by decide +kernel
theorem dX4_told_86 : decode cX4_told 86 = .ok (.ireturn, 1) := by decide +kernel
theorem dX4_told_87 : decode cX4_told 87 = .ok (.aload_n 0, 1) := by decide +kernel
theorem dX4_told_88 : decode cX4_told 88 = .ok (.invokevirtual 64, 3) := by decide +kernel
theorem dX4_told_91 : decode cX4_told 91 = .ok (.ireturn, 1) := by decide +kernel
theorem dX4_told_92 : decode cX4_told 92 = .ok (.aload_n 0, 1) := by decide +kernel
theorem dX4_told_93 : decode cX4_told 93 = .ok (.getfield 56, 3) := by decide +kernel
theorem dX4_told_96 : decode cX4_told 96 = .ok (.ireturn, 1) := by decide +kernel
theorem dX4_told_97 : decode cX4_told 97 = .ok (.aload_n 0, 1) := by decide +kernel
theorem dX4_told_98 : decode cX4_told 98 = .ok (.invokevirtual 68, 3) := by decide +kernel
theorem dX4_told_101 : decode cX4_told 101 = .ok (.ireturn, 1) := by decide +kernel
theorem dX4_told_102 : decode cX4_told 102 = .ok (.aload_n 0, 1) := by decide +kernel
theorem dX4_told_103 : decode cX4_told 103 = .ok (.invokevirtual 71, 3) := by decide +kernel
theorem dX4_told_106 : decode cX4_told 106 = .ok (.invokestatic 74, 3) := by decide +kernel
theorem dX4_told_109 : decode cX4_told 109 = .ok (.ireturn, 1) := by decide +kernel
theorem dX4_told_110 : decode cX4_told 110 = .ok (.aload_n 0, 1) := by decide +kernel
theorem dX4_told_111 : decode cX4_told 111 = .ok (.invokevirtual 71, 3) := by decide +kernel
theorem dX4_told_114 : decode cX4_told 114 = .ok (.ireturn, 1) := by decide +kernel
theorem dX4_told_115 : decode cX4_told 115 = .ok (.aload_n 0, 1) := by decide +kernel
theorem dX4_told_116 : decode cX4_told 116 = .ok (.getfield 41, 3) := by decide +kernel
theorem dX4_told_119 : decode cX4_told 119 = .ok (.getfield 80, 3) := by decide +kernel
theorem dX4_told_122 : decode cX4_told 122 = .ok (.ireturn, 1) := by decide +kernel
set_option maxRecDepth 20000 in
theorem ggX4_say_X4_readText : GoodIn wsX4_say wsX4_readText := goodIn_r _ [11, 12, 13, 14, 15, 4, 16, 17, 18, 19, 20, 21, 22, 23, 24, 25, 26, 27, 28, 29, 30, 31, 32, 33, 34, 35, 36, 37, 38, 39, 40, 41, 42, 43, 44, 45, 46, 47, 48, 49, 50, 51, 52, 53, 54, 55, 56, 57, 58, 59, 60, 61, 62, 63, 64, 65, 66, 67, 68, 69, 70, 71, 72, 73, 74, 75, 76, 77, 78, 79, 80, 81, 82, 83, 84, 85, 86, 182, 183, 184, 185, 186, 187, 188, 189, 190, 191, 198, 199, 200, 201, 202, 203, 204, 205, 206] (by decide +kernel) (by decide +kernel)
set_option maxRecDepth 20000 in
theorem gX4_say_X4_readText : GoodIn wsX4_say (wsV RX4 81 RX4 yX4_readText wsX4_readText) := goodIn_app (goodIn_of _ (by decide +kernel)) ggX4_say_X4_readText
set_option maxRecDepth 20000 in
theorem ggX4_say_X2_agrees : GoodIn wsX4_say wsX2_agrees := goodIn_r _ [91, 92, 93, 94, 90, 95, 96, 97, 98, 99, 100, 101, 102, 103, 104, 105, 106, 107, 108, 109, 110, 111, 112, 113, 114, 115, 83, 84, 85, 116, 117, 118, 119, 207, 208, 209, 210, 211, 212, 213] (by decide +kernel) (by decide +kernel)
set_option maxRecDepth 20000 in
theorem gX4_say_X2_agrees : GoodIn wsX4_say (wsV RX4 85 RX2 yX2_agrees wsX2_agrees) := goodIn_app (goodIn_of _ (by decide +kernel)) ggX4_say_X2_agrees
set_option maxRecDepth 20000 in
theorem ggX4_say_X0_note : GoodIn wsX4_say wsX0_note := goodIn_r _ [124, 125, 126, 127, 128, 129, 130, 131, 132, 133, 134, 135, 71, 72, 73, 136, 137, 214, 215, 216, 192, 193, 194, 195, 196, 197] (by decide +kernel) (by decide +kernel)
set_option maxRecDepth 20000 in
theorem gX4_say_X0_note : GoodIn wsX4_say (wsV RX4 90 RX0 yX0_note wsX0_note) := goodIn_app (goodIn_of _ (by decide +kernel)) ggX4_say_X0_note
set_option maxRecDepth 20000 in
theorem ggX4_say_X4_putSaying : GoodIn wsX4_say wsX4_putSaying := goodIn_r _ [141, 1, 4, 3, 142, 143, 144, 131, 145, 133, 134, 135, 71, 72, 73, 146, 147, 148, 90, 149, 96, 98, 150, 97, 151, 152, 92, 93, 94, 95, 99, 100, 101, 102, 103, 104, 105, 106, 107, 153, 154, 155, 156, 157, 158, 159, 160, 161, 162, 163, 164, 165, 166, 167, 168, 169, 170, 171, 172, 173, 174, 175, 176, 177, 178, 179, 180, 181, 182, 183, 184, 185, 186, 187, 188, 189, 190, 191, 192, 193, 194, 195, 196, 197, 207, 208, 209, 210, 211, 212, 213] (by decide +kernel) (by decide +kernel)
set_option maxRecDepth 20000 in
theorem gX4_say_X4_putSaying : GoodIn wsX4_say (wsV RX4 94 RX4 yX4_putSaying wsX4_putSaying) := goodIn_app (goodIn_of _ (by decide +kernel)) ggX4_say_X4_putSaying
theorem dX4_say_0 : decode cX4_say 0 = .ok (.aload_n 0, 1) := by decide +kernel
theorem dX4_say_1 : decode cX4_say 1 = .ok (.iconst 1, 1) := by decide +kernel
theorem dX4_say_2 : decode cX4_say 2 = .ok (.invokevirtual 81, 3) := by decide +kernel
theorem dX4_say_5 : decode cX4_say 5 = .ok (.istore_n 1, 1) := by decide +kernel
theorem dX4_say_6 : decode cX4_say 6 = .ok (.iload_n 1, 1) := by decide +kernel
theorem dX4_say_7 : decode cX4_say 7 = .ok (.ifCond .eq 5, 3) := by decide +kernel
theorem dX4_say_10 : decode cX4_say 10 = .ok (.iload_n 1, 1) := by decide +kernel
theorem dX4_say_11 : decode cX4_say 11 = .ok (.ireturn, 1) := by decide +kernel
theorem dX4_say_12 : decode cX4_say 12 = .ok (.aload_n 0, 1) := by decide +kernel
theorem dX4_say_13 : decode cX4_say 13 = .ok (.getfield 30, 3) := by decide +kernel
theorem dX4_say_16 : decode cX4_say 16 = .ok (.getfield 60, 3) := by decide +kernel
theorem dX4_say_19 : decode cX4_say 19 = .ok (.bipush 6, 2) := by decide +kernel
theorem dX4_say_21 : decode cX4_say 21 = .ok (.if_icmp .lt 6, 3) := by decide +kernel
theorem dX4_say_24 : decode cX4_say 24 = .ok (.ldc 59, 2) := by decide +kernel
theorem dX4_say_26 : decode cX4_say 26 = .ok (.ireturn, 1) := by decide +kernel
theorem dX4_say_27 : decode cX4_say 27 = .ok (.aload_n 0, 1) := by decide +kernel
theorem dX4_say_28 : decode cX4_say 28 = .ok (.getfield 48, 3) := by decide +kernel
theorem dX4_say_31 : decode cX4_say 31 = .ok (.aload_n 0, 1) := by decide +kernel
theorem dX4_say_32 : decode cX4_say 32 = .ok (.getfield 24, 3) := by decide +kernel
theorem dX4_say_35 : decode cX4_say 35 = .ok (.invokevirtual 85, 3) := by decide +kernel
theorem dX4_say_38 : decode cX4_say 38 = .ok (.ifCond .ne 6, 3) := by decide +kernel
theorem dX4_say_41 : decode cX4_say 41 = .ok (.ldc 89, 2) := by decide +kernel
theorem dX4_say_43 : decode cX4_say 43 = .ok (.ireturn, 1) := by decide +kernel
theorem dX4_say_44 : decode cX4_say 44 = .ok (.aload_n 0, 1) := by decide +kernel
theorem dX4_say_45 : decode cX4_say 45 = .ok (.getfield 41, 3) := by decide +kernel
theorem dX4_say_48 : decode cX4_say 48 = .ok (.aload_n 0, 1) := by decide +kernel
theorem dX4_say_49 : decode cX4_say 49 = .ok (.getfield 30, 3) := by decide +kernel
theorem dX4_say_52 : decode cX4_say 52 = .ok (.invokevirtual 90, 3) := by decide +kernel
theorem dX4_say_55 : decode cX4_say 55 = .ok (.aload_n 0, 1) := by decide +kernel
theorem dX4_say_56 : decode cX4_say 56 = .ok (.invokevirtual 94, 3) := by decide +kernel
theorem dX4_say_59 : decode cX4_say 59 = .ok (.aload_n 0, 1) := by decide +kernel
theorem dX4_say_60 : decode cX4_say 60 = .ok (.getfield 30, 3) := by decide +kernel
theorem dX4_say_63 : decode cX4_say 63 = .ok (.getfield 60, 3) := by decide +kernel
theorem dX4_say_66 : decode cX4_say 66 = .ok (.ireturn, 1) := by decide +kernel
set_option maxRecDepth 20000 in
theorem ggX4_back_X0_note : GoodIn wsX4_back wsX0_note := goodIn_r _ [8, 9, 10, 11, 12, 13, 14, 15, 16, 17, 18, 19, 20, 21, 22, 23, 24, 112, 113, 114, 106, 107, 108, 109, 110, 111] (by decide +kernel) (by decide +kernel)
set_option maxRecDepth 20000 in
theorem gX4_back_X0_note : GoodIn wsX4_back (wsV RX4 90 RX0 yX0_note wsX0_note) := goodIn_app (goodIn_of _ (by decide +kernel)) ggX4_back_X0_note
set_option maxRecDepth 20000 in
theorem ggX4_back_X3_remove : GoodIn wsX4_back wsX3_remove := goodIn_r _ [28, 17, 18, 19, 20, 21, 22, 106, 107, 108, 109, 110, 111] (by decide +kernel) (by decide +kernel)
set_option maxRecDepth 20000 in
theorem gX4_back_X3_remove : GoodIn wsX4_back (wsV RX4 98 RX3 yX3_remove wsX3_remove) := goodIn_app (goodIn_of _ (by decide +kernel)) ggX4_back_X3_remove
set_option maxRecDepth 20000 in
theorem ggX4_back_X4_solveAnew : GoodIn wsX4_back wsX4_solveAnew := goodIn_r _ [33, 34, 1, 35, 36, 37, 38, 39, 40, 41, 42, 43, 44, 45, 46, 47, 48, 49, 50, 51, 52, 53, 20, 21, 22, 54, 55, 56, 57, 58, 59, 60, 61, 62, 63, 64, 65, 66, 67, 68, 69, 70, 71, 72, 73, 74, 75, 76, 77, 78, 79, 80, 81, 82, 83, 84, 85, 86, 87, 88, 89, 90, 91, 92, 93, 94, 95, 96, 97, 98, 99, 100, 101, 102, 103, 104, 105, 106, 107, 108, 109, 110, 111, 115, 116, 117, 118, 119, 120, 121] (by decide +kernel) (by decide +kernel)
set_option maxRecDepth 20000 in
theorem gX4_back_X4_solveAnew : GoodIn wsX4_back (wsV RX4 102 RX4 yX4_solveAnew wsX4_solveAnew) := goodIn_app (goodIn_of _ (by decide +kernel)) ggX4_back_X4_solveAnew
theorem dX4_back_0 : decode cX4_back 0 = .ok (.iload_n 1, 1) := by decide +kernel
theorem dX4_back_1 : decode cX4_back 1 = .ok (.ifCond .lt 14, 3) := by decide +kernel
theorem dX4_back_4 : decode cX4_back 4 = .ok (.iload_n 1, 1) := by decide +kernel
theorem dX4_back_5 : decode cX4_back 5 = .ok (.aload_n 0, 1) := by decide +kernel
theorem dX4_back_6 : decode cX4_back 6 = .ok (.getfield 30, 3) := by decide +kernel
theorem dX4_back_9 : decode cX4_back 9 = .ok (.getfield 60, 3) := by decide +kernel
theorem dX4_back_12 : decode cX4_back 12 = .ok (.if_icmp .lt 6, 3) := by decide +kernel
theorem dX4_back_15 : decode cX4_back 15 = .ok (.ldc 97, 2) := by decide +kernel
theorem dX4_back_17 : decode cX4_back 17 = .ok (.ireturn, 1) := by decide +kernel
theorem dX4_back_18 : decode cX4_back 18 = .ok (.aload_n 0, 1) := by decide +kernel
theorem dX4_back_19 : decode cX4_back 19 = .ok (.getfield 41, 3) := by decide +kernel
theorem dX4_back_22 : decode cX4_back 22 = .ok (.aload_n 0, 1) := by decide +kernel
theorem dX4_back_23 : decode cX4_back 23 = .ok (.getfield 30, 3) := by decide +kernel
theorem dX4_back_26 : decode cX4_back 26 = .ok (.invokevirtual 90, 3) := by decide +kernel
theorem dX4_back_29 : decode cX4_back 29 = .ok (.aload_n 0, 1) := by decide +kernel
theorem dX4_back_30 : decode cX4_back 30 = .ok (.getfield 30, 3) := by decide +kernel
theorem dX4_back_33 : decode cX4_back 33 = .ok (.iload_n 1, 1) := by decide +kernel
theorem dX4_back_34 : decode cX4_back 34 = .ok (.invokevirtual 98, 3) := by decide +kernel
theorem dX4_back_37 : decode cX4_back 37 = .ok (.aload_n 0, 1) := by decide +kernel
theorem dX4_back_38 : decode cX4_back 38 = .ok (.invokevirtual 102, 3) := by decide +kernel
theorem dX4_back_41 : decode cX4_back 41 = .ok (.aload_n 0, 1) := by decide +kernel
theorem dX4_back_42 : decode cX4_back 42 = .ok (.getfield 30, 3) := by decide +kernel
theorem dX4_back_45 : decode cX4_back 45 = .ok (.getfield 60, 3) := by decide +kernel
theorem dX4_back_48 : decode cX4_back 48 = .ok (.ireturn, 1) := by decide +kernel
set_option maxRecDepth 20000 in
theorem ggX4_scale_X0_note : GoodIn wsX4_scale wsX0_note := goodIn_r _ [9, 10, 11, 12, 13, 14, 15, 16, 17, 18, 19, 20, 21, 22, 23, 24, 25, 46, 47, 48, 40, 41, 42, 43, 44, 45] (by decide +kernel) (by decide +kernel)
set_option maxRecDepth 20000 in
theorem gX4_scale_X0_note : GoodIn wsX4_scale (wsV RX4 90 RX0 yX0_note wsX0_note) := goodIn_app (goodIn_of _ (by decide +kernel)) ggX4_scale_X0_note
set_option maxRecDepth 20000 in
theorem ggX4_scale_X3_countScaled : GoodIn wsX4_scale wsX3_countScaled := goodIn_r _ [29, 24, 25, 40, 41, 42, 43, 44, 45] (by decide +kernel) (by decide +kernel)
set_option maxRecDepth 20000 in
theorem gX4_scale_X3_countScaled : GoodIn wsX4_scale (wsV RX4 111 RX3 yX3_countScaled wsX3_countScaled) := goodIn_app (goodIn_of _ (by decide +kernel)) ggX4_scale_X3_countScaled
theorem dX4_scale_0 : decode cX4_scale 0 = .ok (.iload_n 1, 1) := by decide +kernel
theorem dX4_scale_1 : decode cX4_scale 1 = .ok (.ifCond .lt 8, 3) := by decide +kernel
theorem dX4_scale_4 : decode cX4_scale 4 = .ok (.iload_n 1, 1) := by decide +kernel
theorem dX4_scale_5 : decode cX4_scale 5 = .ok (.iconst 4, 1) := by decide +kernel
theorem dX4_scale_6 : decode cX4_scale 6 = .ok (.if_icmp .lt 6, 3) := by decide +kernel
theorem dX4_scale_9 : decode cX4_scale 9 = .ok (.ldc 97, 2) := by decide +kernel
theorem dX4_scale_11 : decode cX4_scale 11 = .ok (.ireturn, 1) := by decide +kernel
theorem dX4_scale_12 : decode cX4_scale 12 = .ok (.iload_n 2, 1) := by decide +kernel
theorem dX4_scale_13 : decode cX4_scale 13 = .ok (.iconst 1, 1) := by decide +kernel
theorem dX4_scale_14 : decode cX4_scale 14 = .ok (.if_icmp .lt 20, 3) := by decide +kernel
theorem dX4_scale_17 : decode cX4_scale 17 = .ok (.iload_n 2, 1) := by decide +kernel
theorem dX4_scale_18 : decode cX4_scale 18 = .ok (.bipush 12, 2) := by decide +kernel
theorem dX4_scale_20 : decode cX4_scale 20 = .ok (.if_icmp .gt 14, 3) := by decide +kernel
theorem dX4_scale_23 : decode cX4_scale 23 = .ok (.iload_n 3, 1) := by decide +kernel
theorem dX4_scale_24 : decode cX4_scale 24 = .ok (.iconst 1, 1) := by decide +kernel
theorem dX4_scale_25 : decode cX4_scale 25 = .ok (.if_icmp .lt 9, 3) := by decide +kernel
theorem dX4_scale_28 : decode cX4_scale 28 = .ok (.iload_n 3, 1) := by decide +kernel
theorem dX4_scale_29 : decode cX4_scale 29 = .ok (.bipush 12, 2) := by decide +kernel
theorem dX4_scale_31 : decode cX4_scale 31 = .ok (.if_icmp .le 6, 3) := by decide +kernel
theorem dX4_scale_34 : decode cX4_scale 34 = .ok (.ldc 55, 2) := by decide +kernel
theorem dX4_scale_36 : decode cX4_scale 36 = .ok (.ireturn, 1) := by decide +kernel
theorem dX4_scale_37 : decode cX4_scale 37 = .ok (.aload_n 0, 1) := by decide +kernel
theorem dX4_scale_38 : decode cX4_scale 38 = .ok (.getfield 41, 3) := by decide +kernel
theorem dX4_scale_41 : decode cX4_scale 41 = .ok (.aload_n 0, 1) := by decide +kernel
theorem dX4_scale_42 : decode cX4_scale 42 = .ok (.getfield 30, 3) := by decide +kernel
theorem dX4_scale_45 : decode cX4_scale 45 = .ok (.invokevirtual 90, 3) := by decide +kernel
theorem dX4_scale_48 : decode cX4_scale 48 = .ok (.aload_n 0, 1) := by decide +kernel
theorem dX4_scale_49 : decode cX4_scale 49 = .ok (.getfield 30, 3) := by decide +kernel
theorem dX4_scale_52 : decode cX4_scale 52 = .ok (.getfield 105, 3) := by decide +kernel
theorem dX4_scale_55 : decode cX4_scale 55 = .ok (.iload_n 1, 1) := by decide +kernel
theorem dX4_scale_56 : decode cX4_scale 56 = .ok (.iload_n 2, 1) := by decide +kernel
theorem dX4_scale_57 : decode cX4_scale 57 = .ok (.iastore, 1) := by decide +kernel
theorem dX4_scale_58 : decode cX4_scale 58 = .ok (.aload_n 0, 1) := by decide +kernel
theorem dX4_scale_59 : decode cX4_scale 59 = .ok (.getfield 30, 3) := by decide +kernel
theorem dX4_scale_62 : decode cX4_scale 62 = .ok (.getfield 108, 3) := by decide +kernel
theorem dX4_scale_65 : decode cX4_scale 65 = .ok (.iload_n 1, 1) := by decide +kernel
theorem dX4_scale_66 : decode cX4_scale 66 = .ok (.iload_n 3, 1) := by decide +kernel
theorem dX4_scale_67 : decode cX4_scale 67 = .ok (.iastore, 1) := by decide +kernel
theorem dX4_scale_68 : decode cX4_scale 68 = .ok (.aload_n 0, 1) := by decide +kernel
theorem dX4_scale_69 : decode cX4_scale 69 = .ok (.getfield 30, 3) := by decide +kernel
theorem dX4_scale_72 : decode cX4_scale 72 = .ok (.invokevirtual 111, 3) := by decide +kernel
theorem dX4_scale_75 : decode cX4_scale 75 = .ok (.ireturn, 1) := by decide +kernel
set_option maxRecDepth 20000 in
theorem ggX4_drift_X4_driftOnce : GoodIn wsX4_drift wsX4_driftOnce := goodIn_r _ [7, 8, 2, 9, 10, 11, 12, 13, 14, 15, 16, 17, 18, 19, 20, 21, 22, 23, 24, 25, 26, 27, 28, 29, 30, 31, 32, 33, 34, 35, 36, 37, 38, 39, 40, 41, 42, 43, 44, 45, 46, 47, 48, 49, 50, 51, 52, 53, 54, 55, 56, 57, 58, 59, 60, 61, 62, 63, 64, 65, 66, 67, 68, 69, 70, 71, 72, 73, 74, 75, 76, 77, 78, 79, 80, 81, 82, 83, 6, 84, 85, 86, 87, 88, 89, 90, 91, 92, 93, 94, 95, 96, 97, 98, 99, 100, 101, 102, 103, 104, 105, 106, 107, 108, 109, 110, 111, 112, 113, 114, 115, 116, 117, 118, 119, 120, 121, 122, 123, 124, 125, 126, 127, 128, 129, 130, 131, 132, 133, 134, 135, 136, 137, 138, 139, 140, 141, 142, 143, 144, 145, 146, 147, 148, 149, 150] (by decide +kernel) (by decide +kernel)
set_option maxRecDepth 20000 in
theorem gX4_drift_X4_driftOnce : GoodIn wsX4_drift (wsV RX4 114 RX4 yX4_driftOnce wsX4_driftOnce) := goodIn_app (goodIn_of _ (by decide +kernel)) ggX4_drift_X4_driftOnce
theorem dX4_drift_0 : decode cX4_drift 0 = .ok (.iload_n 1, 1) := by decide +kernel
theorem dX4_drift_1 : decode cX4_drift 1 = .ok (.iconst 1, 1) := by decide +kernel
theorem dX4_drift_2 : decode cX4_drift 2 = .ok (.if_icmp .lt 9, 3) := by decide +kernel
theorem dX4_drift_5 : decode cX4_drift 5 = .ok (.iload_n 1, 1) := by decide +kernel
theorem dX4_drift_6 : decode cX4_drift 6 = .ok (.bipush 20, 2) := by decide +kernel
theorem dX4_drift_8 : decode cX4_drift 8 = .ok (.if_icmp .le 6, 3) := by decide +kernel
theorem dX4_drift_11 : decode cX4_drift 11 = .ok (.ldc 55, 2) := by decide +kernel
theorem dX4_drift_13 : decode cX4_drift 13 = .ok (.ireturn, 1) := by decide +kernel
theorem dX4_drift_14 : decode cX4_drift 14 = .ok (.iconst 0, 1) := by decide +kernel
theorem dX4_drift_15 : decode cX4_drift 15 = .ok (.istore_n 2, 1) := by decide +kernel
theorem dX4_drift_16 : decode cX4_drift 16 = .ok (.iload_n 2, 1) := by decide +kernel
theorem dX4_drift_17 : decode cX4_drift 17 = .ok (.iload_n 1, 1) := by decide +kernel
theorem dX4_drift_18 : decode cX4_drift 18 = .ok (.if_icmp .ge 13, 3) := by decide +kernel
theorem dX4_drift_21 : decode cX4_drift 21 = .ok (.aload_n 0, 1) := by decide +kernel
theorem dX4_drift_22 : decode cX4_drift 22 = .ok (.invokevirtual 114, 3) := by decide +kernel
theorem dX4_drift_25 : decode cX4_drift 25 = .ok (.iinc 2 1, 3) := by decide +kernel
theorem dX4_drift_28 : decode cX4_drift 28 = .ok (.goto (-12), 3) := by decide +kernel
theorem dX4_drift_31 : decode cX4_drift 31 = .ok (.aload_n 0, 1) := by decide +kernel
theorem dX4_drift_32 : decode cX4_drift 32 = .ok (.getfield 30, 3) := by decide +kernel
theorem dX4_drift_35 : decode cX4_drift 35 = .ok (.getfield 60, 3) := by decide +kernel
theorem dX4_drift_38 : decode cX4_drift 38 = .ok (.ireturn, 1) := by decide +kernel
set_option maxRecDepth 20000 in
theorem ggX4_undo_X0_restore : GoodIn wsX4_undo wsX0_restore := goodIn_r _ [9, 10, 11, 12, 13, 14, 15, 16, 17, 18, 19, 20, 21, 22, 23, 24, 25, 26, 27, 28, 29, 106, 107, 108, 109, 110, 111, 112, 113, 114] (by decide +kernel) (by decide +kernel)
set_option maxRecDepth 20000 in
theorem gX4_undo_X0_restore : GoodIn wsX4_undo (wsV RX4 117 RX0 yX0_restore wsX0_restore) := goodIn_app (goodIn_of _ (by decide +kernel)) ggX4_undo_X0_restore
set_option maxRecDepth 20000 in
theorem ggX4_undo_X4_solveAnew : GoodIn wsX4_undo wsX4_solveAnew := goodIn_r _ [34, 35, 4, 36, 37, 38, 39, 40, 41, 42, 43, 44, 45, 46, 47, 48, 49, 50, 51, 52, 53, 54, 25, 26, 27, 55, 56, 57, 58, 59, 60, 61, 62, 63, 64, 65, 66, 67, 68, 69, 70, 71, 72, 73, 74, 75, 76, 77, 78, 79, 80, 81, 82, 83, 84, 85, 86, 15, 87, 88, 89, 90, 91, 92, 93, 94, 95, 96, 97, 98, 99, 100, 101, 102, 103, 104, 105, 109, 110, 111, 112, 113, 114, 115, 116, 117, 118, 119, 120, 121] (by decide +kernel) (by decide +kernel)
set_option maxRecDepth 20000 in
theorem gX4_undo_X4_solveAnew : GoodIn wsX4_undo (wsV RX4 102 RX4 yX4_solveAnew wsX4_solveAnew) := goodIn_app (goodIn_of _ (by decide +kernel)) ggX4_undo_X4_solveAnew
theorem dX4_undo_0 : decode cX4_undo 0 = .ok (.iload_n 1, 1) := by decide +kernel
theorem dX4_undo_1 : decode cX4_undo 1 = .ok (.iconst 1, 1) := by decide +kernel
theorem dX4_undo_2 : decode cX4_undo 2 = .ok (.if_icmp .lt 9, 3) := by decide +kernel
theorem dX4_undo_5 : decode cX4_undo 5 = .ok (.iload_n 1, 1) := by decide +kernel
theorem dX4_undo_6 : decode cX4_undo 6 = .ok (.bipush 20, 2) := by decide +kernel
theorem dX4_undo_8 : decode cX4_undo 8 = .ok (.if_icmp .le 6, 3) := by decide +kernel
theorem dX4_undo_11 : decode cX4_undo 11 = .ok (.ldc 55, 2) := by decide +kernel
theorem dX4_undo_13 : decode cX4_undo 13 = .ok (.ireturn, 1) := by decide +kernel
theorem dX4_undo_14 : decode cX4_undo 14 = .ok (.iload_n 1, 1) := by decide +kernel
theorem dX4_undo_15 : decode cX4_undo 15 = .ok (.aload_n 0, 1) := by decide +kernel
theorem dX4_undo_16 : decode cX4_undo 16 = .ok (.getfield 41, 3) := by decide +kernel
theorem dX4_undo_19 : decode cX4_undo 19 = .ok (.getfield 80, 3) := by decide +kernel
theorem dX4_undo_22 : decode cX4_undo 22 = .ok (.if_icmp .le 6, 3) := by decide +kernel
theorem dX4_undo_25 : decode cX4_undo 25 = .ok (.ldc 89, 2) := by decide +kernel
theorem dX4_undo_27 : decode cX4_undo 27 = .ok (.ireturn, 1) := by decide +kernel
theorem dX4_undo_28 : decode cX4_undo 28 = .ok (.aload_n 0, 1) := by decide +kernel
theorem dX4_undo_29 : decode cX4_undo 29 = .ok (.getfield 41, 3) := by decide +kernel
theorem dX4_undo_32 : decode cX4_undo 32 = .ok (.iload_n 1, 1) := by decide +kernel
theorem dX4_undo_33 : decode cX4_undo 33 = .ok (.aload_n 0, 1) := by decide +kernel
theorem dX4_undo_34 : decode cX4_undo 34 = .ok (.getfield 30, 3) := by decide +kernel
theorem dX4_undo_37 : decode cX4_undo 37 = .ok (.invokevirtual 117, 3) := by decide +kernel
theorem dX4_undo_40 : decode cX4_undo 40 = .ok (.aload_n 0, 1) := by decide +kernel
theorem dX4_undo_41 : decode cX4_undo 41 = .ok (.invokevirtual 102, 3) := by decide +kernel
theorem dX4_undo_44 : decode cX4_undo 44 = .ok (.aload_n 0, 1) := by decide +kernel
theorem dX4_undo_45 : decode cX4_undo 45 = .ok (.getfield 30, 3) := by decide +kernel
theorem dX4_undo_48 : decode cX4_undo 48 = .ok (.getfield 60, 3) := by decide +kernel
theorem dX4_undo_51 : decode cX4_undo 51 = .ok (.ireturn, 1) := by decide +kernel
set_option maxRecDepth 20000 in
theorem ggX4_saying_X4_isSpare : GoodIn wsX4_saying wsX4_isSpare := goodIn_r _ [8, 9, 1, 10, 11, 12, 13, 14, 15, 16, 17, 18, 19, 20, 21, 22, 23, 24, 25, 26, 27, 28, 29, 30, 31, 32, 33, 34, 35, 36, 37, 38, 39, 40, 41, 42, 43, 44, 45, 46, 47, 48, 49, 50, 51, 52, 53, 54, 55, 56, 57, 58, 59, 60, 61, 62, 63, 64, 65, 66, 67, 68, 69, 70, 71, 72, 73, 74, 75, 76, 77, 78, 79, 80, 81, 82, 83, 84, 85, 86, 87, 88, 89, 90, 91, 92, 93, 94, 95, 96, 97, 98, 99, 100, 101, 102, 103, 104, 105, 106, 107, 108, 109, 110, 111, 112, 113, 114, 115] (by decide +kernel) (by decide +kernel)
set_option maxRecDepth 20000 in
theorem gX4_saying_X4_isSpare : GoodIn wsX4_saying (wsV RX4 121 RX4 yX4_isSpare wsX4_isSpare) := goodIn_app (goodIn_of _ (by decide +kernel)) ggX4_saying_X4_isSpare
theorem dX4_saying_0 : decode cX4_saying 0 = .ok (.iload_n 1, 1) := by decide +kernel
theorem dX4_saying_1 : decode cX4_saying 1 = .ok (.ifCond .lt 14, 3) := by decide +kernel
theorem dX4_saying_4 : decode cX4_saying 4 = .ok (.iload_n 1, 1) := by decide +kernel
theorem dX4_saying_5 : decode cX4_saying 5 = .ok (.aload_n 0, 1) := by decide +kernel
theorem dX4_saying_6 : decode cX4_saying 6 = .ok (.getfield 30, 3) := by decide +kernel
theorem dX4_saying_9 : decode cX4_saying 9 = .ok (.getfield 60, 3) := by decide +kernel
theorem dX4_saying_12 : decode cX4_saying 12 = .ok (.if_icmp .lt 6, 3) := by decide +kernel
theorem dX4_saying_15 : decode cX4_saying 15 = .ok (.ldc 97, 2) := by decide +kernel
theorem dX4_saying_17 : decode cX4_saying 17 = .ok (.ireturn, 1) := by decide +kernel
theorem dX4_saying_18 : decode cX4_saying 18 = .ok (.iload_n 2, 1) := by decide +kernel
theorem dX4_saying_19 : decode cX4_saying 19 = .ok (.ifCond .lt 9, 3) := by decide +kernel
theorem dX4_saying_22 : decode cX4_saying 22 = .ok (.iload_n 2, 1) := by decide +kernel
theorem dX4_saying_23 : decode cX4_saying 23 = .ok (.bipush 10, 2) := by decide +kernel
theorem dX4_saying_25 : decode cX4_saying 25 = .ok (.if_icmp .le 6, 3) := by decide +kernel
theorem dX4_saying_28 : decode cX4_saying 28 = .ok (.ldc 55, 2) := by decide +kernel
theorem dX4_saying_30 : decode cX4_saying 30 = .ok (.ireturn, 1) := by decide +kernel
theorem dX4_saying_31 : decode cX4_saying 31 = .ok (.iload_n 2, 1) := by decide +kernel
theorem dX4_saying_32 : decode cX4_saying 32 = .ok (.bipush 10, 2) := by decide +kernel
theorem dX4_saying_34 : decode cX4_saying 34 = .ok (.if_icmp .ne 17, 3) := by decide +kernel
theorem dX4_saying_37 : decode cX4_saying 37 = .ok (.aload_n 0, 1) := by decide +kernel
theorem dX4_saying_38 : decode cX4_saying 38 = .ok (.iload_n 1, 1) := by decide +kernel
theorem dX4_saying_39 : decode cX4_saying 39 = .ok (.invokevirtual 121, 3) := by decide +kernel
theorem dX4_saying_42 : decode cX4_saying 42 = .ok (.ifCond .eq 7, 3) := by decide +kernel
theorem dX4_saying_45 : decode cX4_saying 45 = .ok (.iconst 1, 1) := by decide +kernel
theorem dX4_saying_46 : decode cX4_saying 46 = .ok (.goto 4, 3) := by decide +kernel
theorem dX4_saying_49 : decode cX4_saying 49 = .ok (.iconst 0, 1) := by decide +kernel
theorem dX4_saying_50 : decode cX4_saying 50 = .ok (.ireturn, 1) := by decide +kernel
theorem dX4_saying_51 : decode cX4_saying 51 = .ok (.aload_n 0, 1) := by decide +kernel
theorem dX4_saying_52 : decode cX4_saying 52 = .ok (.getfield 30, 3) := by decide +kernel
theorem dX4_saying_55 : decode cX4_saying 55 = .ok (.getfield 125, 3) := by decide +kernel
theorem dX4_saying_58 : decode cX4_saying 58 = .ok (.iload_n 1, 1) := by decide +kernel
theorem dX4_saying_59 : decode cX4_saying 59 = .ok (.aaload, 1) := by decide +kernel
theorem dX4_saying_60 : decode cX4_saying 60 = .ok (.iload_n 2, 1) := by decide +kernel
theorem dX4_saying_61 : decode cX4_saying 61 = .ok (.iaload, 1) := by decide +kernel
theorem dX4_saying_62 : decode cX4_saying 62 = .ok (.bipush 100, 2) := by decide +kernel
theorem dX4_saying_64 : decode cX4_saying 64 = .ok (.iadd, 1) := by decide +kernel
theorem dX4_saying_65 : decode cX4_saying 65 = .ok (.ireturn, 1) := by decide +kernel
theorem dX4_free_0 : decode cX4_free 0 = .ok (.iload_n 1, 1) := by decide +kernel
theorem dX4_free_1 : decode cX4_free 1 = .ok (.ifCond .lt 14, 3) := by decide +kernel
theorem dX4_free_4 : decode cX4_free 4 = .ok (.iload_n 1, 1) := by decide +kernel
theorem dX4_free_5 : decode cX4_free 5 = .ok (.aload_n 0, 1) := by decide +kernel
theorem dX4_free_6 : decode cX4_free 6 = .ok (.getfield 48, 3) := by decide +kernel
theorem dX4_free_9 : decode cX4_free 9 = .ok (.getfield 63, 3) := by decide +kernel
theorem dX4_free_12 : decode cX4_free 12 = .ok (.if_icmp .lt 7, 3) := by decide +kernel
theorem dX4_free_15 : decode cX4_free 15 = .ok (.ldc2_w 129, 3) := by decide +kernel
theorem dX4_free_18 : decode cX4_free 18 = .ok (.lreturn, 1) := by decide +kernel
theorem dX4_free_19 : decode cX4_free 19 = .ok (.iload_n 2, 1) := by decide +kernel
theorem dX4_free_20 : decode cX4_free 20 = .ok (.ifCond .lt 9, 3) := by decide +kernel
theorem dX4_free_23 : decode cX4_free 23 = .ok (.iload_n 2, 1) := by decide +kernel
theorem dX4_free_24 : decode cX4_free 24 = .ok (.bipush 6, 2) := by decide +kernel
theorem dX4_free_26 : decode cX4_free 26 = .ok (.if_icmp .lt 7, 3) := by decide +kernel
theorem dX4_free_29 : decode cX4_free 29 = .ok (.ldc2_w 131, 3) := by decide +kernel
theorem dX4_free_32 : decode cX4_free 32 = .ok (.lreturn, 1) := by decide +kernel
theorem dX4_free_33 : decode cX4_free 33 = .ok (.aload_n 0, 1) := by decide +kernel
theorem dX4_free_34 : decode cX4_free 34 = .ok (.getfield 48, 3) := by decide +kernel
theorem dX4_free_37 : decode cX4_free 37 = .ok (.getfield 133, 3) := by decide +kernel
theorem dX4_free_40 : decode cX4_free 40 = .ok (.iload_n 1, 1) := by decide +kernel
theorem dX4_free_41 : decode cX4_free 41 = .ok (.aaload, 1) := by decide +kernel
theorem dX4_free_42 : decode cX4_free 42 = .ok (.iload_n 2, 1) := by decide +kernel
theorem dX4_free_43 : decode cX4_free 43 = .ok (.laload, 1) := by decide +kernel
theorem dX4_free_44 : decode cX4_free 44 = .ok (.ldc2_w 137, 3) := by decide +kernel
theorem dX4_free_47 : decode cX4_free 47 = .ok (.ladd, 1) := by decide +kernel
theorem dX4_free_48 : decode cX4_free 48 = .ok (.lreturn, 1) := by decide +kernel
theorem dX4_least_0 : decode cX4_least 0 = .ok (.iload_n 1, 1) := by decide +kernel
theorem dX4_least_1 : decode cX4_least 1 = .ok (.ifCond .lt 18, 3) := by decide +kernel
theorem dX4_least_4 : decode cX4_least 4 = .ok (.iload_n 1, 1) := by decide +kernel
theorem dX4_least_5 : decode cX4_least 5 = .ok (.bipush 6, 2) := by decide +kernel
theorem dX4_least_7 : decode cX4_least 7 = .ok (.if_icmp .ge 12, 3) := by decide +kernel
theorem dX4_least_10 : decode cX4_least 10 = .ok (.iload_n 2, 1) := by decide +kernel
theorem dX4_least_11 : decode cX4_least 11 = .ok (.ifCond .lt 8, 3) := by decide +kernel
theorem dX4_least_14 : decode cX4_least 14 = .ok (.iload_n 2, 1) := by decide +kernel
theorem dX4_least_15 : decode cX4_least 15 = .ok (.iconst 4, 1) := by decide +kernel
theorem dX4_least_16 : decode cX4_least 16 = .ok (.if_icmp .lt 7, 3) := by decide +kernel
theorem dX4_least_19 : decode cX4_least 19 = .ok (.ldc2_w 129, 3) := by decide +kernel
theorem dX4_least_22 : decode cX4_least 22 = .ok (.lreturn, 1) := by decide +kernel
theorem dX4_least_23 : decode cX4_least 23 = .ok (.aload_n 0, 1) := by decide +kernel
theorem dX4_least_24 : decode cX4_least 24 = .ok (.getfield 48, 3) := by decide +kernel
theorem dX4_least_27 : decode cX4_least 27 = .ok (.getfield 139, 3) := by decide +kernel
theorem dX4_least_30 : decode cX4_least 30 = .ok (.iload_n 2, 1) := by decide +kernel
theorem dX4_least_31 : decode cX4_least 31 = .ok (.aaload, 1) := by decide +kernel
theorem dX4_least_32 : decode cX4_least 32 = .ok (.iload_n 1, 1) := by decide +kernel
theorem dX4_least_33 : decode cX4_least 33 = .ok (.laload, 1) := by decide +kernel
theorem dX4_least_34 : decode cX4_least 34 = .ok (.ldc2_w 137, 3) := by decide +kernel
theorem dX4_least_37 : decode cX4_least 37 = .ok (.ladd, 1) := by decide +kernel
theorem dX4_least_38 : decode cX4_least 38 = .ok (.lreturn, 1) := by decide +kernel
set_option maxRecDepth 20000 in
theorem ggX4_isTold_X2_isFixed : GoodIn wsX4_isTold wsX2_isFixed := goodIn_r _ [7, 8, 9, 20, 21, 22, 23, 24, 25, 26] (by decide +kernel) (by decide +kernel)
set_option maxRecDepth 20000 in
theorem gX4_isTold_X2_isFixed : GoodIn wsX4_isTold (wsV RX4 142 RX2 yX2_isFixed wsX2_isFixed) := goodIn_app (goodIn_of _ (by decide +kernel)) ggX4_isTold_X2_isFixed
theorem dX4_isTold_0 : decode cX4_isTold 0 = .ok (.iload_n 1, 1) := by decide +kernel
theorem dX4_isTold_1 : decode cX4_isTold 1 = .ok (.ifCond .lt 9, 3) := by decide +kernel
theorem dX4_isTold_4 : decode cX4_isTold 4 = .ok (.iload_n 1, 1) := by decide +kernel
theorem dX4_isTold_5 : decode cX4_isTold 5 = .ok (.bipush 6, 2) := by decide +kernel
theorem dX4_isTold_7 : decode cX4_isTold 7 = .ok (.if_icmp .lt 6, 3) := by decide +kernel
theorem dX4_isTold_10 : decode cX4_isTold 10 = .ok (.ldc 97, 2) := by decide +kernel
theorem dX4_isTold_12 : decode cX4_isTold 12 = .ok (.ireturn, 1) := by decide +kernel
theorem dX4_isTold_13 : decode cX4_isTold 13 = .ok (.aload_n 0, 1) := by decide +kernel
theorem dX4_isTold_14 : decode cX4_isTold 14 = .ok (.getfield 48, 3) := by decide +kernel
theorem dX4_isTold_17 : decode cX4_isTold 17 = .ok (.iload_n 1, 1) := by decide +kernel
theorem dX4_isTold_18 : decode cX4_isTold 18 = .ok (.invokevirtual 142, 3) := by decide +kernel
theorem dX4_isTold_21 : decode cX4_isTold 21 = .ok (.ifCond .eq 7, 3) := by decide +kernel
theorem dX4_isTold_24 : decode cX4_isTold 24 = .ok (.iconst 1, 1) := by decide +kernel
theorem dX4_isTold_25 : decode cX4_isTold 25 = .ok (.goto 4, 3) := by decide +kernel
theorem dX4_isTold_28 : decode cX4_isTold 28 = .ok (.iconst 0, 1) := by decide +kernel
theorem dX4_isTold_29 : decode cX4_isTold 29 = .ok (.ireturn, 1) := by decide +kernel
set_option maxRecDepth 20000 in
theorem ggX4_follows_X4_readText : GoodIn wsX4_follows wsX4_readText := goodIn_r _ [7, 8, 9, 10, 11, 2, 12, 13, 14, 15, 16, 17, 18, 19, 20, 21, 22, 23, 24, 25, 26, 27, 28, 29, 30, 31, 32, 33, 34, 35, 36, 37, 38, 39, 40, 41, 42, 43, 44, 45, 46, 47, 48, 49, 50, 51, 52, 53, 54, 55, 56, 57, 58, 59, 60, 61, 62, 63, 64, 65, 66, 67, 68, 69, 70, 71, 72, 73, 74, 75, 76, 77, 78, 79, 80, 81, 82, 116, 117, 118, 119, 120, 121, 122, 123, 124, 125, 126, 127, 128, 129, 130, 131, 132, 133, 134] (by decide +kernel) (by decide +kernel)
set_option maxRecDepth 20000 in
theorem gX4_follows_X4_readText : GoodIn wsX4_follows (wsV RX4 81 RX4 yX4_readText wsX4_readText) := goodIn_app (goodIn_of _ (by decide +kernel)) ggX4_follows_X4_readText
set_option maxRecDepth 20000 in
theorem ggX4_follows_X2_imply : GoodIn wsX4_follows wsX2_imply := goodIn_r _ [87, 88, 89, 90, 86, 91, 92, 93, 94, 95, 96, 97, 98, 99, 100, 101, 102, 103, 104, 105, 106, 107, 108, 109, 110, 111, 79, 80, 81, 112, 113, 114, 115, 135, 136, 137, 138, 139, 140, 141] (by decide +kernel) (by decide +kernel)
set_option maxRecDepth 20000 in
theorem gX4_follows_X2_imply : GoodIn wsX4_follows (wsV RX4 145 RX2 yX2_imply wsX2_imply) := goodIn_app (goodIn_of _ (by decide +kernel)) ggX4_follows_X2_imply
theorem dX4_follows_0 : decode cX4_follows 0 = .ok (.aload_n 0, 1) := by decide +kernel
theorem dX4_follows_1 : decode cX4_follows 1 = .ok (.iconst 1, 1) := by decide +kernel
theorem dX4_follows_2 : decode cX4_follows 2 = .ok (.invokevirtual 81, 3) := by decide +kernel
theorem dX4_follows_5 : decode cX4_follows 5 = .ok (.istore_n 1, 1) := by decide +kernel
theorem dX4_follows_6 : decode cX4_follows 6 = .ok (.iload_n 1, 1) := by decide +kernel
theorem dX4_follows_7 : decode cX4_follows 7 = .ok (.ifCond .eq 5, 3) := by decide +kernel
theorem dX4_follows_10 : decode cX4_follows 10 = .ok (.iload_n 1, 1) := by decide +kernel
theorem dX4_follows_11 : decode cX4_follows 11 = .ok (.ireturn, 1) := by decide +kernel
theorem dX4_follows_12 : decode cX4_follows 12 = .ok (.aload_n 0, 1) := by decide +kernel
theorem dX4_follows_13 : decode cX4_follows 13 = .ok (.getfield 48, 3) := by decide +kernel
theorem dX4_follows_16 : decode cX4_follows 16 = .ok (.aload_n 0, 1) := by decide +kernel
theorem dX4_follows_17 : decode cX4_follows 17 = .ok (.getfield 24, 3) := by decide +kernel
theorem dX4_follows_20 : decode cX4_follows 20 = .ok (.invokevirtual 145, 3) := by decide +kernel
theorem dX4_follows_23 : decode cX4_follows 23 = .ok (.ifCond .eq 7, 3) := by decide +kernel
theorem dX4_follows_26 : decode cX4_follows 26 = .ok (.iconst 1, 1) := by decide +kernel
theorem dX4_follows_27 : decode cX4_follows 27 = .ok (.goto 4, 3) := by decide +kernel
theorem dX4_follows_30 : decode cX4_follows 30 = .ok (.iconst 0, 1) := by decide +kernel
theorem dX4_follows_31 : decode cX4_follows 31 = .ok (.ireturn, 1) := by decide +kernel
set_option maxRecDepth 20000 in
theorem ggX4_couldBe_X4_readText : GoodIn wsX4_couldBe wsX4_readText := goodIn_r _ [7, 8, 9, 10, 11, 2, 12, 13, 14, 15, 16, 17, 18, 19, 20, 21, 22, 23, 24, 25, 26, 27, 28, 29, 30, 31, 32, 33, 34, 35, 36, 37, 38, 39, 40, 41, 42, 43, 44, 45, 46, 47, 48, 49, 50, 51, 52, 53, 54, 55, 56, 57, 58, 59, 60, 61, 62, 63, 64, 65, 66, 67, 68, 69, 70, 71, 72, 73, 74, 75, 76, 77, 78, 79, 80, 81, 82, 116, 117, 118, 119, 120, 121, 122, 123, 124, 125, 126, 127, 128, 129, 130, 131, 132, 133, 134] (by decide +kernel) (by decide +kernel)
set_option maxRecDepth 20000 in
theorem gX4_couldBe_X4_readText : GoodIn wsX4_couldBe (wsV RX4 81 RX4 yX4_readText wsX4_readText) := goodIn_app (goodIn_of _ (by decide +kernel)) ggX4_couldBe_X4_readText
set_option maxRecDepth 20000 in
theorem ggX4_couldBe_X2_agrees : GoodIn wsX4_couldBe wsX2_agrees := goodIn_r _ [87, 88, 89, 90, 86, 91, 92, 93, 94, 95, 96, 97, 98, 99, 100, 101, 102, 103, 104, 105, 106, 107, 108, 109, 110, 111, 79, 80, 81, 112, 113, 114, 115, 135, 136, 137, 138, 139, 140, 141] (by decide +kernel) (by decide +kernel)
set_option maxRecDepth 20000 in
theorem gX4_couldBe_X2_agrees : GoodIn wsX4_couldBe (wsV RX4 85 RX2 yX2_agrees wsX2_agrees) := goodIn_app (goodIn_of _ (by decide +kernel)) ggX4_couldBe_X2_agrees
theorem dX4_couldBe_0 : decode cX4_couldBe 0 = .ok (.aload_n 0, 1) := by decide +kernel
theorem dX4_couldBe_1 : decode cX4_couldBe 1 = .ok (.iconst 1, 1) := by decide +kernel
theorem dX4_couldBe_2 : decode cX4_couldBe 2 = .ok (.invokevirtual 81, 3) := by decide +kernel
theorem dX4_couldBe_5 : decode cX4_couldBe 5 = .ok (.istore_n 1, 1) := by decide +kernel
theorem dX4_couldBe_6 : decode cX4_couldBe 6 = .ok (.iload_n 1, 1) := by decide +kernel
theorem dX4_couldBe_7 : decode cX4_couldBe 7 = .ok (.ifCond .eq 5, 3) := by decide +kernel
theorem dX4_couldBe_10 : decode cX4_couldBe 10 = .ok (.iload_n 1, 1) := by decide +kernel
theorem dX4_couldBe_11 : decode cX4_couldBe 11 = .ok (.ireturn, 1) := by decide +kernel
theorem dX4_couldBe_12 : decode cX4_couldBe 12 = .ok (.aload_n 0, 1) := by decide +kernel
theorem dX4_couldBe_13 : decode cX4_couldBe 13 = .ok (.getfield 48, 3) := by decide +kernel
theorem dX4_couldBe_16 : decode cX4_couldBe 16 = .ok (.aload_n 0, 1) := by decide +kernel
theorem dX4_couldBe_17 : decode cX4_couldBe 17 = .ok (.getfield 24, 3) := by decide +kernel
theorem dX4_couldBe_20 : decode cX4_couldBe 20 = .ok (.invokevirtual 85, 3) := by decide +kernel
theorem dX4_couldBe_23 : decode cX4_couldBe 23 = .ok (.ifCond .eq 7, 3) := by decide +kernel
theorem dX4_couldBe_26 : decode cX4_couldBe 26 = .ok (.iconst 1, 1) := by decide +kernel
theorem dX4_couldBe_27 : decode cX4_couldBe 27 = .ok (.goto 4, 3) := by decide +kernel
theorem dX4_couldBe_30 : decode cX4_couldBe 30 = .ok (.iconst 0, 1) := by decide +kernel
theorem dX4_couldBe_31 : decode cX4_couldBe 31 = .ok (.ireturn, 1) := by decide +kernel
set_option maxRecDepth 20000 in
theorem ggX4_measured_X4_readText : GoodIn wsX4_measured wsX4_readText := goodIn_r _ [9, 10, 11, 12, 13, 3, 14, 15, 16, 17, 18, 19, 20, 21, 22, 23, 24, 25, 26, 27, 28, 29, 30, 31, 32, 33, 34, 35, 36, 37, 38, 39, 40, 41, 42, 43, 44, 45, 46, 47, 48, 49, 50, 51, 52, 53, 54, 55, 56, 57, 58, 59, 60, 61, 62, 63, 64, 65, 66, 67, 68, 69, 70, 71, 72, 73, 74, 75, 76, 77, 78, 79, 80, 81, 82, 83, 84, 100, 101, 102, 103, 104, 105, 106, 107, 108, 109, 110, 111, 112, 113, 114, 115, 116, 117, 118] (by decide +kernel) (by decide +kernel)
set_option maxRecDepth 20000 in
theorem gX4_measured_X4_readText : GoodIn wsX4_measured (wsV RX4 81 RX4 yX4_readText wsX4_readText) := goodIn_app (goodIn_of _ (by decide +kernel)) ggX4_measured_X4_readText
set_option maxRecDepth 20000 in
theorem ggX4_measured_X2_powerOf : GoodIn wsX4_measured wsX2_powerOf := goodIn_r _ [89, 90, 91, 92, 88, 93, 119, 120, 121, 122, 123, 124, 125] (by decide +kernel) (by decide +kernel)
set_option maxRecDepth 20000 in
theorem gX4_measured_X2_powerOf : GoodIn wsX4_measured (wsV RX4 148 RX2 yX2_powerOf wsX2_powerOf) := goodIn_app (goodIn_of _ (by decide +kernel)) ggX4_measured_X2_powerOf
set_option maxRecDepth 20000 in
theorem ggX4_measured_X2_rise : GoodIn wsX4_measured wsX2_rise := goodIn_r _ [97, 98, 99, 91, 92, 88, 93, 119, 120, 121, 122, 123, 124, 125] (by decide +kernel) (by decide +kernel)
set_option maxRecDepth 20000 in
theorem gX4_measured_X2_rise : GoodIn wsX4_measured (wsV RX4 152 RX2 yX2_rise wsX2_rise) := goodIn_app (goodIn_of _ (by decide +kernel)) ggX4_measured_X2_rise
theorem dX4_measured_0 : decode cX4_measured 0 = .ok (.iload_n 1, 1) := by decide +kernel
theorem dX4_measured_1 : decode cX4_measured 1 = .ok (.ifCond .lt 9, 3) := by decide +kernel
theorem dX4_measured_4 : decode cX4_measured 4 = .ok (.iload_n 1, 1) := by decide +kernel
theorem dX4_measured_5 : decode cX4_measured 5 = .ok (.bipush 10, 2) := by decide +kernel
theorem dX4_measured_7 : decode cX4_measured 7 = .ok (.if_icmp .lt 7, 3) := by decide +kernel
theorem dX4_measured_10 : decode cX4_measured 10 = .ok (.ldc2_w 131, 3) := by decide +kernel
theorem dX4_measured_13 : decode cX4_measured 13 = .ok (.lreturn, 1) := by decide +kernel
theorem dX4_measured_14 : decode cX4_measured 14 = .ok (.aload_n 0, 1) := by decide +kernel
theorem dX4_measured_15 : decode cX4_measured 15 = .ok (.iconst 0, 1) := by decide +kernel
theorem dX4_measured_16 : decode cX4_measured 16 = .ok (.invokevirtual 81, 3) := by decide +kernel
theorem dX4_measured_19 : decode cX4_measured 19 = .ok (.istore_n 2, 1) := by decide +kernel
theorem dX4_measured_20 : decode cX4_measured 20 = .ok (.iload_n 2, 1) := by decide +kernel
theorem dX4_measured_21 : decode cX4_measured 21 = .ok (.ifCond .eq 6, 3) := by decide +kernel
theorem dX4_measured_24 : decode cX4_measured 24 = .ok (.iload_n 2, 1) := by decide +kernel
theorem dX4_measured_25 : decode cX4_measured 25 = .ok (.i2l, 1) := by decide +kernel
theorem dX4_measured_26 : decode cX4_measured 26 = .ok (.lreturn, 1) := by decide +kernel
theorem dX4_measured_27 : decode cX4_measured 27 = .ok (.iload_n 1, 1) := by decide +kernel
theorem dX4_measured_28 : decode cX4_measured 28 = .ok (.iconst 4, 1) := by decide +kernel
theorem dX4_measured_29 : decode cX4_measured 29 = .ok (.if_icmp .ge 20, 3) := by decide +kernel
theorem dX4_measured_32 : decode cX4_measured 32 = .ok (.aload_n 0, 1) := by decide +kernel
theorem dX4_measured_33 : decode cX4_measured 33 = .ok (.getfield 48, 3) := by decide +kernel
theorem dX4_measured_36 : decode cX4_measured 36 = .ok (.aload_n 0, 1) := by decide +kernel
theorem dX4_measured_37 : decode cX4_measured 37 = .ok (.getfield 24, 3) := by decide +kernel
theorem dX4_measured_40 : decode cX4_measured 40 = .ok (.iload_n 1, 1) := by decide +kernel
theorem dX4_measured_41 : decode cX4_measured 41 = .ok (.invokevirtual 148, 3) := by decide +kernel
theorem dX4_measured_44 : decode cX4_measured 44 = .ok (.ldc2_w 137, 3) := by decide +kernel
theorem dX4_measured_47 : decode cX4_measured 47 = .ok (.ladd, 1) := by decide +kernel
theorem dX4_measured_48 : decode cX4_measured 48 = .ok (.lreturn, 1) := by decide +kernel
theorem dX4_measured_49 : decode cX4_measured 49 = .ok (.aload_n 0, 1) := by decide +kernel
theorem dX4_measured_50 : decode cX4_measured 50 = .ok (.getfield 48, 3) := by decide +kernel
theorem dX4_measured_53 : decode cX4_measured 53 = .ok (.aload_n 0, 1) := by decide +kernel
theorem dX4_measured_54 : decode cX4_measured 54 = .ok (.getfield 24, 3) := by decide +kernel
theorem dX4_measured_57 : decode cX4_measured 57 = .ok (.iload_n 1, 1) := by decide +kernel
theorem dX4_measured_58 : decode cX4_measured 58 = .ok (.iconst 4, 1) := by decide +kernel
theorem dX4_measured_59 : decode cX4_measured 59 = .ok (.isub, 1) := by decide +kernel
theorem dX4_measured_60 : decode cX4_measured 60 = .ok (.invokevirtual 152, 3) := by decide +kernel
theorem dX4_measured_63 : decode cX4_measured 63 = .ok (.ldc2_w 137, 3) := by decide +kernel
theorem dX4_measured_66 : decode cX4_measured 66 = .ok (.ladd, 1) := by decide +kernel
theorem dX4_measured_67 : decode cX4_measured 67 = .ok (.lreturn, 1) := by decide +kernel
set_option maxRecDepth 20000 in
theorem ggX4_converted_X4_readText : GoodIn wsX4_converted wsX4_readText := goodIn_r _ [8, 9, 10, 11, 12, 13, 14, 15, 16, 17, 18, 19, 20, 21, 22, 23, 24, 25, 26, 27, 28, 29, 30, 31, 32, 33, 34, 35, 36, 37, 38, 39, 40, 41, 42, 43, 44, 45, 46, 47, 48, 49, 50, 51, 52, 53, 54, 55, 56, 57, 58, 59, 60, 61, 62, 63, 64, 65, 66, 67, 68, 69, 70, 71, 72, 73, 74, 75, 76, 77, 78, 79, 80, 81, 82, 83, 84, 101, 102, 103, 104, 105, 106, 107, 108, 109, 110, 111, 112, 113, 114, 115, 116, 117, 118, 119] (by decide +kernel) (by decide +kernel)
set_option maxRecDepth 20000 in
theorem gX4_converted_X4_readText : GoodIn wsX4_converted (wsV RX4 81 RX4 yX4_readText wsX4_readText) := goodIn_app (goodIn_of _ (by decide +kernel)) ggX4_converted_X4_readText
set_option maxRecDepth 20000 in
theorem ggX4_converted_X4_canConvert : GoodIn wsX4_converted wsX4_canConvert := goodIn_r _ [88, 13, 101, 102, 103, 104, 105, 106, 107, 108, 109, 110] (by decide +kernel) (by decide +kernel)
set_option maxRecDepth 20000 in
theorem gX4_converted_X4_canConvert : GoodIn wsX4_converted (wsV RX4 156 RX4 yX4_canConvert wsX4_canConvert) := goodIn_app (goodIn_of _ (by decide +kernel)) ggX4_converted_X4_canConvert
set_option maxRecDepth 20000 in
theorem ggX4_converted_X4_scaleProduct : GoodIn wsX4_converted wsX4_scaleProduct := goodIn_r _ [92, 13, 93, 94, 95, 82, 96, 101, 102, 103, 104, 105, 106, 107, 108, 109, 110, 120, 121, 122, 123, 124, 125] (by decide +kernel) (by decide +kernel)
set_option maxRecDepth 20000 in
theorem gX4_converted_X4_scaleProduct : GoodIn wsX4_converted (wsV RX4 162 RX4 yX4_scaleProduct wsX4_scaleProduct) := goodIn_app (goodIn_of _ (by decide +kernel)) ggX4_converted_X4_scaleProduct
set_option maxRecDepth 20000 in
theorem ggX4_converted_X4_whole : GoodIn wsX4_converted wsX4_whole := goodIn_r _ [99, 3, 100] (by decide +kernel) (by decide +kernel)
set_option maxRecDepth 20000 in
theorem gX4_converted_X4_whole : GoodIn wsX4_converted (va_wsS RX4 166 yX4_whole wsX4_whole) := goodIn_app (goodIn_of _ (by decide +kernel)) ggX4_converted_X4_whole
theorem dX4_converted_0 : decode cX4_converted 0 = .ok (.iload_n 1, 1) := by decide +kernel
theorem dX4_converted_1 : decode cX4_converted 1 = .ok (.ifCond .lt 18, 3) := by decide +kernel
theorem dX4_converted_4 : decode cX4_converted 4 = .ok (.iload_n 1, 1) := by decide +kernel
theorem dX4_converted_5 : decode cX4_converted 5 = .ok (.ldc 155, 2) := by decide +kernel
theorem dX4_converted_7 : decode cX4_converted 7 = .ok (.if_icmp .gt 12, 3) := by decide +kernel
theorem dX4_converted_10 : decode cX4_converted 10 = .ok (.iload_n 2, 1) := by decide +kernel
theorem dX4_converted_11 : decode cX4_converted 11 = .ok (.ifCond .lt 8, 3) := by decide +kernel
theorem dX4_converted_14 : decode cX4_converted 14 = .ok (.iload_n 2, 1) := by decide +kernel
theorem dX4_converted_15 : decode cX4_converted 15 = .ok (.iconst 4, 1) := by decide +kernel
theorem dX4_converted_16 : decode cX4_converted 16 = .ok (.if_icmp .lt 7, 3) := by decide +kernel
theorem dX4_converted_19 : decode cX4_converted 19 = .ok (.ldc2_w 131, 3) := by decide +kernel
theorem dX4_converted_22 : decode cX4_converted 22 = .ok (.lreturn, 1) := by decide +kernel
theorem dX4_converted_23 : decode cX4_converted 23 = .ok (.aload_n 0, 1) := by decide +kernel
theorem dX4_converted_24 : decode cX4_converted 24 = .ok (.iconst 0, 1) := by decide +kernel
theorem dX4_converted_25 : decode cX4_converted 25 = .ok (.invokevirtual 81, 3) := by decide +kernel
theorem dX4_converted_28 : decode cX4_converted 28 = .ok (.istore_n 3, 1) := by decide +kernel
theorem dX4_converted_29 : decode cX4_converted 29 = .ok (.iload_n 3, 1) := by decide +kernel
theorem dX4_converted_30 : decode cX4_converted 30 = .ok (.ifCond .eq 6, 3) := by decide +kernel
theorem dX4_converted_33 : decode cX4_converted 33 = .ok (.iload_n 3, 1) := by decide +kernel
theorem dX4_converted_34 : decode cX4_converted 34 = .ok (.i2l, 1) := by decide +kernel
theorem dX4_converted_35 : decode cX4_converted 35 = .ok (.lreturn, 1) := by decide +kernel
theorem dX4_converted_36 : decode cX4_converted 36 = .ok (.aload_n 0, 1) := by decide +kernel
theorem dX4_converted_37 : decode cX4_converted 37 = .ok (.invokevirtual 156, 3) := by decide +kernel
theorem dX4_converted_40 : decode cX4_converted 40 = .ok (.ifCond .ne 7, 3) := by decide +kernel
theorem dX4_converted_43 : decode cX4_converted 43 = .ok (.ldc2_w 160, 3) := by decide +kernel
theorem dX4_converted_46 : decode cX4_converted 46 = .ok (.lreturn, 1) := by decide +kernel
theorem dX4_converted_47 : decode cX4_converted 47 = .ok (.iload_n 1, 1) := by decide +kernel
theorem dX4_converted_48 : decode cX4_converted 48 = .ok (.i2l, 1) := by decide +kernel
theorem dX4_converted_49 : decode cX4_converted 49 = .ok (.aload_n 0, 1) := by decide +kernel
theorem dX4_converted_50 : decode cX4_converted 50 = .ok (.iconst 1, 1) := by decide +kernel
theorem dX4_converted_51 : decode cX4_converted 51 = .ok (.invokevirtual 162, 3) := by decide +kernel
theorem dX4_converted_54 : decode cX4_converted 54 = .ok (.lmul, 1) := by decide +kernel
theorem dX4_converted_55 : decode cX4_converted 55 = .ok (.aload_n 0, 1) := by decide +kernel
theorem dX4_converted_56 : decode cX4_converted 56 = .ok (.iconst 0, 1) := by decide +kernel
theorem dX4_converted_57 : decode cX4_converted 57 = .ok (.invokevirtual 162, 3) := by decide +kernel
theorem dX4_converted_60 : decode cX4_converted 60 = .ok (.iload_n 2, 1) := by decide +kernel
theorem dX4_converted_61 : decode cX4_converted 61 = .ok (.invokestatic 166, 3) := by decide +kernel
theorem dX4_converted_64 : decode cX4_converted 64 = .ok (.lreturn, 1) := by decide +kernel
theorem dX4_seed_0 : decode cX4_seed 0 = .ok (.iload_n 1, 1) := by decide +kernel
theorem dX4_seed_1 : decode cX4_seed 1 = .ok (.ifCond .ge 6, 3) := by decide +kernel
theorem dX4_seed_4 : decode cX4_seed 4 = .ok (.ldc 55, 2) := by decide +kernel
theorem dX4_seed_6 : decode cX4_seed 6 = .ok (.ireturn, 1) := by decide +kernel
theorem dX4_seed_7 : decode cX4_seed 7 = .ok (.aload_n 0, 1) := by decide +kernel
theorem dX4_seed_8 : decode cX4_seed 8 = .ok (.getfield 30, 3) := by decide +kernel
theorem dX4_seed_11 : decode cX4_seed 11 = .ok (.getfield 170, 3) := by decide +kernel
theorem dX4_seed_14 : decode cX4_seed 14 = .ok (.istore_n 2, 1) := by decide +kernel
theorem dX4_seed_15 : decode cX4_seed 15 = .ok (.aload_n 0, 1) := by decide +kernel
theorem dX4_seed_16 : decode cX4_seed 16 = .ok (.getfield 30, 3) := by decide +kernel
theorem dX4_seed_19 : decode cX4_seed 19 = .ok (.iload_n 1, 1) := by decide +kernel
theorem dX4_seed_20 : decode cX4_seed 20 = .ok (.putfield 170, 3) := by decide +kernel
theorem dX4_seed_23 : decode cX4_seed 23 = .ok (.iload_n 2, 1) := by decide +kernel
theorem dX4_seed_24 : decode cX4_seed 24 = .ok (.ireturn, 1) := by decide +kernel
set_option maxRecDepth 20000 in
theorem ggX4_keep_X3_copyDeeds : GoodIn wsX4_keep wsX3_copyDeeds := goodIn_r _ [9, 10, 11, 12, 13, 14, 15, 16, 17, 34, 35, 36, 37, 38, 39] (by decide +kernel) (by decide +kernel)
set_option maxRecDepth 20000 in
theorem gX4_keep_X3_copyDeeds : GoodIn wsX4_keep (wsV RX4 173 RX3 yX3_copyDeeds wsX3_copyDeeds) := goodIn_app (goodIn_of _ (by decide +kernel)) ggX4_keep_X3_copyDeeds
set_option maxRecDepth 20000 in
theorem ggX4_keep_X0_forget : GoodIn wsX4_keep wsX0_forget := goodIn_r _ [22, 23, 40, 41, 42] (by decide +kernel) (by decide +kernel)
set_option maxRecDepth 20000 in
theorem gX4_keep_X0_forget : GoodIn wsX4_keep (wsV RX4 180 RX0 yX0_forget wsX0_forget) := goodIn_app (goodIn_of _ (by decide +kernel)) ggX4_keep_X0_forget
theorem dX4_keep_0 : decode cX4_keep 0 = .ok (.iload_n 1, 1) := by decide +kernel
theorem dX4_keep_1 : decode cX4_keep 1 = .ok (.ifCond .lt 8, 3) := by decide +kernel
theorem dX4_keep_4 : decode cX4_keep 4 = .ok (.iload_n 1, 1) := by decide +kernel
theorem dX4_keep_5 : decode cX4_keep 5 = .ok (.iconst 2, 1) := by decide +kernel
theorem dX4_keep_6 : decode cX4_keep 6 = .ok (.if_icmp .lt 6, 3) := by decide +kernel
theorem dX4_keep_9 : decode cX4_keep 9 = .ok (.ldc 97, 2) := by decide +kernel
theorem dX4_keep_11 : decode cX4_keep 11 = .ok (.ireturn, 1) := by decide +kernel
theorem dX4_keep_12 : decode cX4_keep 12 = .ok (.aload_n 0, 1) := by decide +kernel
theorem dX4_keep_13 : decode cX4_keep 13 = .ok (.getfield 34, 3) := by decide +kernel
theorem dX4_keep_16 : decode cX4_keep 16 = .ok (.iload_n 1, 1) := by decide +kernel
theorem dX4_keep_17 : decode cX4_keep 17 = .ok (.aaload, 1) := by decide +kernel
theorem dX4_keep_18 : decode cX4_keep 18 = .ok (.astore_n 2, 1) := by decide +kernel
theorem dX4_keep_19 : decode cX4_keep 19 = .ok (.aload_n 2, 1) := by decide +kernel
theorem dX4_keep_20 : decode cX4_keep 20 = .ok (.aload_n 0, 1) := by decide +kernel
theorem dX4_keep_21 : decode cX4_keep 21 = .ok (.getfield 30, 3) := by decide +kernel
theorem dX4_keep_24 : decode cX4_keep 24 = .ok (.invokevirtual 173, 3) := by decide +kernel
theorem dX4_keep_27 : decode cX4_keep 27 = .ok (.aload_n 2, 1) := by decide +kernel
theorem dX4_keep_28 : decode cX4_keep 28 = .ok (.aload_n 0, 1) := by decide +kernel
theorem dX4_keep_29 : decode cX4_keep 29 = .ok (.getfield 30, 3) := by decide +kernel
theorem dX4_keep_32 : decode cX4_keep 32 = .ok (.getfield 170, 3) := by decide +kernel
theorem dX4_keep_35 : decode cX4_keep 35 = .ok (.putfield 170, 3) := by decide +kernel
theorem dX4_keep_38 : decode cX4_keep 38 = .ok (.aload_n 2, 1) := by decide +kernel
theorem dX4_keep_39 : decode cX4_keep 39 = .ok (.iconst 1, 1) := by decide +kernel
theorem dX4_keep_40 : decode cX4_keep 40 = .ok (.putfield 176, 3) := by decide +kernel
theorem dX4_keep_43 : decode cX4_keep 43 = .ok (.aload_n 0, 1) := by decide +kernel
theorem dX4_keep_44 : decode cX4_keep 44 = .ok (.getfield 41, 3) := by decide +kernel
theorem dX4_keep_47 : decode cX4_keep 47 = .ok (.invokevirtual 180, 3) := by decide +kernel
theorem dX4_keep_50 : decode cX4_keep 50 = .ok (.iconst 1, 1) := by decide +kernel
theorem dX4_keep_51 : decode cX4_keep 51 = .ok (.ireturn, 1) := by decide +kernel
set_option maxRecDepth 20000 in
theorem ggX4_goBack_X3_copyDeeds : GoodIn wsX4_goBack wsX3_copyDeeds := goodIn_r _ [10, 11, 12, 13, 14, 15, 16, 17, 18, 102, 103, 104, 105, 106, 107] (by decide +kernel) (by decide +kernel)
set_option maxRecDepth 20000 in
theorem gX4_goBack_X3_copyDeeds : GoodIn wsX4_goBack (wsV RX4 173 RX3 yX3_copyDeeds wsX3_copyDeeds) := goodIn_app (goodIn_of _ (by decide +kernel)) ggX4_goBack_X3_copyDeeds
set_option maxRecDepth 20000 in
theorem ggX4_goBack_X0_forget : GoodIn wsX4_goBack wsX0_forget := goodIn_r _ [23, 24, 108, 109, 110] (by decide +kernel) (by decide +kernel)
set_option maxRecDepth 20000 in
theorem gX4_goBack_X0_forget : GoodIn wsX4_goBack (wsV RX4 180 RX0 yX0_forget wsX0_forget) := goodIn_app (goodIn_of _ (by decide +kernel)) ggX4_goBack_X0_forget
set_option maxRecDepth 20000 in
theorem ggX4_goBack_X4_solveAnew : GoodIn wsX4_goBack wsX4_solveAnew := goodIn_r _ [29, 30, 4, 31, 32, 33, 34, 35, 36, 37, 38, 39, 40, 41, 42, 43, 44, 45, 46, 47, 48, 49, 14, 15, 16, 50, 51, 52, 53, 54, 55, 56, 57, 58, 59, 60, 61, 62, 63, 64, 65, 66, 67, 68, 69, 70, 71, 72, 73, 74, 75, 76, 77, 78, 79, 80, 81, 82, 83, 84, 85, 86, 87, 88, 89, 90, 91, 92, 93, 94, 95, 96, 97, 98, 99, 100, 101, 102, 103, 104, 105, 106, 107, 111, 112, 113, 114, 115, 116, 117] (by decide +kernel) (by decide +kernel)
set_option maxRecDepth 20000 in
theorem gX4_goBack_X4_solveAnew : GoodIn wsX4_goBack (wsV RX4 102 RX4 yX4_solveAnew wsX4_solveAnew) := goodIn_app (goodIn_of _ (by decide +kernel)) ggX4_goBack_X4_solveAnew
theorem dX4_goBack_0 : decode cX4_goBack 0 = .ok (.iload_n 1, 1) := by decide +kernel
theorem dX4_goBack_1 : decode cX4_goBack 1 = .ok (.ifCond .lt 8, 3) := by decide +kernel
theorem dX4_goBack_4 : decode cX4_goBack 4 = .ok (.iload_n 1, 1) := by decide +kernel
theorem dX4_goBack_5 : decode cX4_goBack 5 = .ok (.iconst 2, 1) := by decide +kernel
theorem dX4_goBack_6 : decode cX4_goBack 6 = .ok (.if_icmp .lt 6, 3) := by decide +kernel
theorem dX4_goBack_9 : decode cX4_goBack 9 = .ok (.ldc 97, 2) := by decide +kernel
theorem dX4_goBack_11 : decode cX4_goBack 11 = .ok (.ireturn, 1) := by decide +kernel
theorem dX4_goBack_12 : decode cX4_goBack 12 = .ok (.aload_n 0, 1) := by decide +kernel
theorem dX4_goBack_13 : decode cX4_goBack 13 = .ok (.getfield 34, 3) := by decide +kernel
theorem dX4_goBack_16 : decode cX4_goBack 16 = .ok (.iload_n 1, 1) := by decide +kernel
theorem dX4_goBack_17 : decode cX4_goBack 17 = .ok (.aaload, 1) := by decide +kernel
theorem dX4_goBack_18 : decode cX4_goBack 18 = .ok (.astore_n 2, 1) := by decide +kernel
theorem dX4_goBack_19 : decode cX4_goBack 19 = .ok (.aload_n 2, 1) := by decide +kernel
theorem dX4_goBack_20 : decode cX4_goBack 20 = .ok (.getfield 176, 3) := by decide +kernel
theorem dX4_goBack_23 : decode cX4_goBack 23 = .ok (.ifCond .ne 6, 3) := by decide +kernel
theorem dX4_goBack_26 : decode cX4_goBack 26 = .ok (.ldc 89, 2) := by decide +kernel
theorem dX4_goBack_28 : decode cX4_goBack 28 = .ok (.ireturn, 1) := by decide +kernel
theorem dX4_goBack_29 : decode cX4_goBack 29 = .ok (.aload_n 0, 1) := by decide +kernel
theorem dX4_goBack_30 : decode cX4_goBack 30 = .ok (.getfield 30, 3) := by decide +kernel
theorem dX4_goBack_33 : decode cX4_goBack 33 = .ok (.aload_n 2, 1) := by decide +kernel
theorem dX4_goBack_34 : decode cX4_goBack 34 = .ok (.invokevirtual 173, 3) := by decide +kernel
theorem dX4_goBack_37 : decode cX4_goBack 37 = .ok (.aload_n 0, 1) := by decide +kernel
theorem dX4_goBack_38 : decode cX4_goBack 38 = .ok (.getfield 30, 3) := by decide +kernel
theorem dX4_goBack_41 : decode cX4_goBack 41 = .ok (.aload_n 2, 1) := by decide +kernel
theorem dX4_goBack_42 : decode cX4_goBack 42 = .ok (.getfield 170, 3) := by decide +kernel
theorem dX4_goBack_45 : decode cX4_goBack 45 = .ok (.putfield 170, 3) := by decide +kernel
theorem dX4_goBack_48 : decode cX4_goBack 48 = .ok (.aload_n 0, 1) := by decide +kernel
theorem dX4_goBack_49 : decode cX4_goBack 49 = .ok (.getfield 41, 3) := by decide +kernel
theorem dX4_goBack_52 : decode cX4_goBack 52 = .ok (.invokevirtual 180, 3) := by decide +kernel
theorem dX4_goBack_55 : decode cX4_goBack 55 = .ok (.aload_n 0, 1) := by decide +kernel
theorem dX4_goBack_56 : decode cX4_goBack 56 = .ok (.invokevirtual 102, 3) := by decide +kernel
theorem dX4_goBack_59 : decode cX4_goBack 59 = .ok (.iconst 1, 1) := by decide +kernel
theorem dX4_goBack_60 : decode cX4_goBack 60 = .ok (.ireturn, 1) := by decide +kernel
set_option maxRecDepth 20000 in
theorem ggX4_readText_X1_readAll : GoodIn wsX4_readText wsX1_readAll := goodIn_r _ [10, 11, 12, 13, 14, 9, 15, 16, 17, 18, 19, 20, 21, 22, 23, 24, 25, 26, 27, 28, 29, 30, 31, 32, 33, 34, 35, 36, 37, 38, 39, 40, 41, 42, 43, 44, 45, 46, 47, 48, 49, 50, 51, 52, 53, 54, 55, 56, 57, 58, 59, 60, 61, 62, 63, 64, 65, 66, 67, 68, 69, 70, 71, 72, 73, 74, 75, 76, 87, 88, 89, 90, 91, 92, 93, 94, 95] (by decide +kernel) (by decide +kernel)
set_option maxRecDepth 20000 in
theorem gX4_readText_X1_readAll : GoodIn wsX4_readText (wsV RX4 183 RX1 yX1_readAll wsX1_readAll) := goodIn_app (goodIn_of _ (by decide +kernel)) ggX4_readText_X1_readAll
theorem dX4_readText_0 : decode cX4_readText 0 = .ok (.aload_n 0, 1) := by decide +kernel
theorem dX4_readText_1 : decode cX4_readText 1 = .ok (.getfield 20, 3) := by decide +kernel
theorem dX4_readText_4 : decode cX4_readText 4 = .ok (.aload_n 0, 1) := by decide +kernel
theorem dX4_readText_5 : decode cX4_readText 5 = .ok (.getfield 9, 3) := by decide +kernel
theorem dX4_readText_8 : decode cX4_readText 8 = .ok (.aload_n 0, 1) := by decide +kernel
theorem dX4_readText_9 : decode cX4_readText 9 = .ok (.getfield 56, 3) := by decide +kernel
theorem dX4_readText_12 : decode cX4_readText 12 = .ok (.iload_n 1, 1) := by decide +kernel
theorem dX4_readText_13 : decode cX4_readText 13 = .ok (.invokevirtual 183, 3) := by decide +kernel
theorem dX4_readText_16 : decode cX4_readText 16 = .ok (.istore_n 2, 1) := by decide +kernel
theorem dX4_readText_17 : decode cX4_readText 17 = .ok (.aload_n 0, 1) := by decide +kernel
theorem dX4_readText_18 : decode cX4_readText 18 = .ok (.aload_n 0, 1) := by decide +kernel
theorem dX4_readText_19 : decode cX4_readText 19 = .ok (.getfield 20, 3) := by decide +kernel
theorem dX4_readText_22 : decode cX4_readText 22 = .ok (.getfield 187, 3) := by decide +kernel
theorem dX4_readText_25 : decode cX4_readText 25 = .ok (.putfield 13, 3) := by decide +kernel
theorem dX4_readText_28 : decode cX4_readText 28 = .ok (.aload_n 0, 1) := by decide +kernel
theorem dX4_readText_29 : decode cX4_readText 29 = .ok (.iconst 0, 1) := by decide +kernel
theorem dX4_readText_30 : decode cX4_readText 30 = .ok (.putfield 56, 3) := by decide +kernel
theorem dX4_readText_33 : decode cX4_readText 33 = .ok (.iload_n 2, 1) := by decide +kernel
theorem dX4_readText_34 : decode cX4_readText 34 = .ok (.ifCond .eq 8, 3) := by decide +kernel
theorem dX4_readText_37 : decode cX4_readText 37 = .ok (.bipush (-10), 2) := by decide +kernel
theorem dX4_readText_39 : decode cX4_readText 39 = .ok (.iload_n 2, 1) := by decide +kernel
theorem dX4_readText_40 : decode cX4_readText 40 = .ok (.isub, 1) := by decide +kernel
theorem dX4_readText_41 : decode cX4_readText 41 = .ok (.ireturn, 1) := by decide +kernel
theorem dX4_readText_42 : decode cX4_readText 42 = .ok (.iconst 0, 1) := by decide +kernel
theorem dX4_readText_43 : decode cX4_readText 43 = .ok (.istore_n 3, 1) := by decide +kernel
theorem dX4_readText_44 : decode cX4_readText 44 = .ok (.iload_n 3, 1) := by decide +kernel
theorem dX4_readText_45 : decode cX4_readText 45 = .ok (.bipush 10, 2) := by decide +kernel
theorem dX4_readText_47 : decode cX4_readText 47 = .ok (.if_icmp .ge 27, 3) := by decide +kernel
theorem dX4_readText_50 : decode cX4_readText 50 = .ok (.aload_n 0, 1) := by decide +kernel
theorem dX4_readText_51 : decode cX4_readText 51 = .ok (.getfield 24, 3) := by decide +kernel
theorem dX4_readText_54 : decode cX4_readText 54 = .ok (.iload_n 3, 1) := by decide +kernel
theorem dX4_readText_55 : decode cX4_readText 55 = .ok (.aload_n 0, 1) := by decide +kernel
theorem dX4_readText_56 : decode cX4_readText 56 = .ok (.getfield 20, 3) := by decide +kernel
theorem dX4_readText_59 : decode cX4_readText 59 = .ok (.getfield 190, 3) := by decide +kernel
theorem dX4_readText_62 : decode cX4_readText 62 = .ok (.iconst 0, 1) := by decide +kernel
theorem dX4_readText_63 : decode cX4_readText 63 = .ok (.aaload, 1) := by decide +kernel
theorem dX4_readText_64 : decode cX4_readText 64 = .ok (.iload_n 3, 1) := by decide +kernel
theorem dX4_readText_65 : decode cX4_readText 65 = .ok (.laload, 1) := by decide +kernel
theorem dX4_readText_66 : decode cX4_readText 66 = .ok (.l2i, 1) := by decide +kernel
theorem dX4_readText_67 : decode cX4_readText 67 = .ok (.iastore, 1) := by decide +kernel
theorem dX4_readText_68 : decode cX4_readText 68 = .ok (.iinc 3 1, 3) := by decide +kernel
theorem dX4_readText_71 : decode cX4_readText 71 = .ok (.goto (-27), 3) := by decide +kernel
theorem dX4_readText_74 : decode cX4_readText 74 = .ok (.iconst 0, 1) := by decide +kernel
theorem dX4_readText_75 : decode cX4_readText 75 = .ok (.ireturn, 1) := by decide +kernel
set_option maxRecDepth 20000 in
theorem ggX4_putSaying_X3_put : GoodIn wsX4_putSaying wsX3_put := goodIn_r _ [8, 9, 10, 11, 12, 13, 14, 78, 79, 80, 81, 82, 83] (by decide +kernel) (by decide +kernel)
set_option maxRecDepth 20000 in
theorem gX4_putSaying_X3_put : GoodIn wsX4_putSaying (wsV RX4 193 RX3 yX3_put wsX3_put) := goodIn_app (goodIn_of _ (by decide +kernel)) ggX4_putSaying_X3_put
set_option maxRecDepth 20000 in
theorem ggX4_putSaying_X2_put : GoodIn wsX4_putSaying wsX2_put := goodIn_r _ [19, 20, 21, 22, 23, 24, 12, 13, 14, 25, 26, 27, 28, 18, 29, 30, 31, 32, 33, 34, 35, 36, 37, 38, 39, 40, 41, 42, 43, 44, 45, 46, 47, 48, 49, 50, 51, 52, 53, 54, 55, 56, 57, 58, 59, 60, 61, 62, 63, 64, 65, 66, 67, 84, 85, 86, 87, 88, 89, 90] (by decide +kernel) (by decide +kernel)
set_option maxRecDepth 20000 in
theorem gX4_putSaying_X2_put : GoodIn wsX4_putSaying (wsV RX4 197 RX2 yX2_put wsX2_put) := goodIn_app (goodIn_of _ (by decide +kernel)) ggX4_putSaying_X2_put
theorem dX4_putSaying_0 : decode cX4_putSaying 0 = .ok (.aload_n 0, 1) := by decide +kernel
theorem dX4_putSaying_1 : decode cX4_putSaying 1 = .ok (.getfield 30, 3) := by decide +kernel
theorem dX4_putSaying_4 : decode cX4_putSaying 4 = .ok (.aload_n 0, 1) := by decide +kernel
theorem dX4_putSaying_5 : decode cX4_putSaying 5 = .ok (.getfield 24, 3) := by decide +kernel
theorem dX4_putSaying_8 : decode cX4_putSaying 8 = .ok (.invokevirtual 193, 3) := by decide +kernel
theorem dX4_putSaying_11 : decode cX4_putSaying 11 = .ok (.aload_n 0, 1) := by decide +kernel
theorem dX4_putSaying_12 : decode cX4_putSaying 12 = .ok (.getfield 48, 3) := by decide +kernel
theorem dX4_putSaying_15 : decode cX4_putSaying 15 = .ok (.aload_n 0, 1) := by decide +kernel
theorem dX4_putSaying_16 : decode cX4_putSaying 16 = .ok (.getfield 24, 3) := by decide +kernel
theorem dX4_putSaying_19 : decode cX4_putSaying 19 = .ok (.invokevirtual 197, 3) := by decide +kernel
theorem dX4_putSaying_22 : decode cX4_putSaying 22 = .ok (.return_, 1) := by decide +kernel
set_option maxRecDepth 20000 in
theorem ggX4_solveAnew_X2_clear : GoodIn wsX4_solveAnew wsX2_clear := goodIn_r _ [7, 8, 9, 10, 11, 12, 13, 14, 83, 84, 85, 86, 87, 88, 89] (by decide +kernel) (by decide +kernel)
set_option maxRecDepth 20000 in
theorem gX4_solveAnew_X2_clear : GoodIn wsX4_solveAnew (wsV RX4 198 RX2 yX2_clear wsX2_clear) := goodIn_app (goodIn_of _ (by decide +kernel)) ggX4_solveAnew_X2_clear
set_option maxRecDepth 20000 in
theorem ggX4_solveAnew_X2_put : GoodIn wsX4_solveAnew wsX2_put := goodIn_r _ [18, 8, 9, 19, 20, 21, 22, 23, 24, 25, 26, 27, 28, 6, 29, 30, 31, 32, 33, 34, 35, 36, 37, 10, 38, 39, 40, 41, 42, 43, 44, 45, 46, 47, 48, 49, 50, 51, 52, 53, 54, 55, 56, 57, 58, 59, 60, 61, 62, 63, 64, 65, 66, 83, 84, 85, 86, 87, 88, 89] (by decide +kernel) (by decide +kernel)
set_option maxRecDepth 20000 in
theorem gX4_solveAnew_X2_put : GoodIn wsX4_solveAnew (wsV RX4 197 RX2 yX2_put wsX2_put) := goodIn_app (goodIn_of _ (by decide +kernel)) ggX4_solveAnew_X2_put
theorem dX4_solveAnew_0 : decode cX4_solveAnew 0 = .ok (.aload_n 0, 1) := by decide +kernel
theorem dX4_solveAnew_1 : decode cX4_solveAnew 1 = .ok (.getfield 48, 3) := by decide +kernel
theorem dX4_solveAnew_4 : decode cX4_solveAnew 4 = .ok (.invokevirtual 198, 3) := by decide +kernel
theorem dX4_solveAnew_7 : decode cX4_solveAnew 7 = .ok (.iconst 0, 1) := by decide +kernel
theorem dX4_solveAnew_8 : decode cX4_solveAnew 8 = .ok (.istore_n 1, 1) := by decide +kernel
theorem dX4_solveAnew_9 : decode cX4_solveAnew 9 = .ok (.iload_n 1, 1) := by decide +kernel
theorem dX4_solveAnew_10 : decode cX4_solveAnew 10 = .ok (.aload_n 0, 1) := by decide +kernel
theorem dX4_solveAnew_11 : decode cX4_solveAnew 11 = .ok (.getfield 30, 3) := by decide +kernel
theorem dX4_solveAnew_14 : decode cX4_solveAnew 14 = .ok (.getfield 60, 3) := by decide +kernel
theorem dX4_solveAnew_17 : decode cX4_solveAnew 17 = .ok (.if_icmp .ge 25, 3) := by decide +kernel
theorem dX4_solveAnew_20 : decode cX4_solveAnew 20 = .ok (.aload_n 0, 1) := by decide +kernel
theorem dX4_solveAnew_21 : decode cX4_solveAnew 21 = .ok (.getfield 48, 3) := by decide +kernel
theorem dX4_solveAnew_24 : decode cX4_solveAnew 24 = .ok (.aload_n 0, 1) := by decide +kernel
theorem dX4_solveAnew_25 : decode cX4_solveAnew 25 = .ok (.getfield 30, 3) := by decide +kernel
theorem dX4_solveAnew_28 : decode cX4_solveAnew 28 = .ok (.getfield 125, 3) := by decide +kernel
theorem dX4_solveAnew_31 : decode cX4_solveAnew 31 = .ok (.iload_n 1, 1) := by decide +kernel
theorem dX4_solveAnew_32 : decode cX4_solveAnew 32 = .ok (.aaload, 1) := by decide +kernel
theorem dX4_solveAnew_33 : decode cX4_solveAnew 33 = .ok (.invokevirtual 197, 3) := by decide +kernel
theorem dX4_solveAnew_36 : decode cX4_solveAnew 36 = .ok (.iinc 1 1, 3) := by decide +kernel
theorem dX4_solveAnew_39 : decode cX4_solveAnew 39 = .ok (.goto (-30), 3) := by decide +kernel
theorem dX4_solveAnew_42 : decode cX4_solveAnew 42 = .ok (.return_, 1) := by decide +kernel
set_option maxRecDepth 20000 in
theorem ggX4_driftOnce_X0_note : GoodIn wsX4_driftOnce wsX0_note := goodIn_r _ [9, 10, 11, 12, 13, 14, 15, 16, 17, 18, 19, 20, 21, 22, 23, 24, 25, 136, 137, 138, 130, 131, 132, 133, 134, 135] (by decide +kernel) (by decide +kernel)
set_option maxRecDepth 20000 in
theorem gX4_driftOnce_X0_note : GoodIn wsX4_driftOnce (wsV RX4 90 RX0 yX0_note wsX0_note) := goodIn_app (goodIn_of _ (by decide +kernel)) ggX4_driftOnce_X0_note
set_option maxRecDepth 20000 in
theorem ggX4_driftOnce_X3_draw : GoodIn wsX4_driftOnce wsX3_draw := goodIn_r _ [29, 30, 31, 32, 33, 34, 130, 131, 132, 133, 134, 135] (by decide +kernel) (by decide +kernel)
set_option maxRecDepth 20000 in
theorem gX4_driftOnce_X3_draw : GoodIn wsX4_driftOnce (wsV RX4 201 RX3 yX3_draw wsX3_draw) := goodIn_app (goodIn_of _ (by decide +kernel)) ggX4_driftOnce_X3_draw
set_option maxRecDepth 20000 in
theorem ggX4_driftOnce_J7_fill_53178 : GoodIn wsX4_driftOnce wsJ7_fill_53178 := goodIn_r _ [38] (by decide +kernel) (by decide +kernel)
set_option maxRecDepth 20000 in
theorem gX4_driftOnce_J7_fill_53178 : GoodIn wsX4_driftOnce (va_wsS RX4 204 yJ7_fill_53178 wsJ7_fill_53178) := goodIn_app (goodIn_of _ (by decide +kernel)) ggX4_driftOnce_J7_fill_53178
set_option maxRecDepth 20000 in
theorem ggX4_driftOnce_X2_agrees : GoodIn wsX4_driftOnce wsX2_agrees := goodIn_r _ [43, 44, 45, 46, 42, 47, 48, 49, 50, 51, 52, 53, 54, 55, 56, 57, 58, 59, 60, 61, 62, 63, 64, 65, 66, 67, 68, 69, 70, 71, 72, 73, 74, 139, 140, 141, 142, 143, 144, 145] (by decide +kernel) (by decide +kernel)
set_option maxRecDepth 20000 in
theorem gX4_driftOnce_X2_agrees : GoodIn wsX4_driftOnce (wsV RX4 85 RX2 yX2_agrees wsX2_agrees) := goodIn_app (goodIn_of _ (by decide +kernel)) ggX4_driftOnce_X2_agrees
set_option maxRecDepth 20000 in
theorem ggX4_driftOnce_X4_putSaying : GoodIn wsX4_driftOnce wsX4_putSaying := goodIn_r _ [79, 2, 3, 4, 80, 81, 82, 16, 83, 18, 19, 20, 21, 22, 23, 84, 85, 86, 42, 87, 48, 50, 88, 49, 89, 90, 44, 45, 46, 47, 51, 52, 53, 54, 55, 56, 57, 58, 59, 91, 92, 93, 94, 95, 96, 97, 98, 99, 100, 101, 102, 103, 104, 105, 106, 107, 108, 109, 110, 111, 112, 113, 114, 115, 116, 117, 118, 119, 120, 121, 122, 123, 124, 125, 126, 127, 128, 129, 130, 131, 132, 133, 134, 135, 139, 140, 141, 142, 143, 144, 145] (by decide +kernel) (by decide +kernel)
set_option maxRecDepth 20000 in
theorem gX4_driftOnce_X4_putSaying : GoodIn wsX4_driftOnce (wsV RX4 94 RX4 yX4_putSaying wsX4_putSaying) := goodIn_app (goodIn_of _ (by decide +kernel)) ggX4_driftOnce_X4_putSaying
theorem dX4_driftOnce_0 : decode cX4_driftOnce 0 = .ok (.aload_n 0, 1) := by decide +kernel
theorem dX4_driftOnce_1 : decode cX4_driftOnce 1 = .ok (.getfield 41, 3) := by decide +kernel
theorem dX4_driftOnce_4 : decode cX4_driftOnce 4 = .ok (.aload_n 0, 1) := by decide +kernel
theorem dX4_driftOnce_5 : decode cX4_driftOnce 5 = .ok (.getfield 30, 3) := by decide +kernel
theorem dX4_driftOnce_8 : decode cX4_driftOnce 8 = .ok (.invokevirtual 90, 3) := by decide +kernel
theorem dX4_driftOnce_11 : decode cX4_driftOnce 11 = .ok (.aload_n 0, 1) := by decide +kernel
theorem dX4_driftOnce_12 : decode cX4_driftOnce 12 = .ok (.getfield 30, 3) := by decide +kernel
theorem dX4_driftOnce_15 : decode cX4_driftOnce 15 = .ok (.bipush 6, 2) := by decide +kernel
theorem dX4_driftOnce_17 : decode cX4_driftOnce 17 = .ok (.invokevirtual 201, 3) := by decide +kernel
theorem dX4_driftOnce_20 : decode cX4_driftOnce 20 = .ok (.istore_n 1, 1) := by decide +kernel
theorem dX4_driftOnce_21 : decode cX4_driftOnce 21 = .ok (.aload_n 0, 1) := by decide +kernel
theorem dX4_driftOnce_22 : decode cX4_driftOnce 22 = .ok (.getfield 30, 3) := by decide +kernel
theorem dX4_driftOnce_25 : decode cX4_driftOnce 25 = .ok (.bipush 6, 2) := by decide +kernel
theorem dX4_driftOnce_27 : decode cX4_driftOnce 27 = .ok (.invokevirtual 201, 3) := by decide +kernel
theorem dX4_driftOnce_30 : decode cX4_driftOnce 30 = .ok (.istore_n 2, 1) := by decide +kernel
theorem dX4_driftOnce_31 : decode cX4_driftOnce 31 = .ok (.aload_n 0, 1) := by decide +kernel
theorem dX4_driftOnce_32 : decode cX4_driftOnce 32 = .ok (.getfield 30, 3) := by decide +kernel
theorem dX4_driftOnce_35 : decode cX4_driftOnce 35 = .ok (.iconst 5, 1) := by decide +kernel
theorem dX4_driftOnce_36 : decode cX4_driftOnce 36 = .ok (.invokevirtual 201, 3) := by decide +kernel
theorem dX4_driftOnce_39 : decode cX4_driftOnce 39 = .ok (.iconst 2, 1) := by decide +kernel
theorem dX4_driftOnce_40 : decode cX4_driftOnce 40 = .ok (.isub, 1) := by decide +kernel
theorem dX4_driftOnce_41 : decode cX4_driftOnce 41 = .ok (.istore_n 3, 1) := by decide +kernel
theorem dX4_driftOnce_42 : decode cX4_driftOnce 42 = .ok (.aload_n 0, 1) := by decide +kernel
theorem dX4_driftOnce_43 : decode cX4_driftOnce 43 = .ok (.getfield 30, 3) := by decide +kernel
theorem dX4_driftOnce_46 : decode cX4_driftOnce 46 = .ok (.iconst 4, 1) := by decide +kernel
theorem dX4_driftOnce_47 : decode cX4_driftOnce 47 = .ok (.invokevirtual 201, 3) := by decide +kernel
theorem dX4_driftOnce_50 : decode cX4_driftOnce 50 = .ok (.istore 4, 2) := by decide +kernel
theorem dX4_driftOnce_52 : decode cX4_driftOnce 52 = .ok (.aload_n 0, 1) := by decide +kernel
theorem dX4_driftOnce_53 : decode cX4_driftOnce 53 = .ok (.getfield 24, 3) := by decide +kernel
theorem dX4_driftOnce_56 : decode cX4_driftOnce 56 = .ok (.iconst 0, 1) := by decide +kernel
theorem dX4_driftOnce_57 : decode cX4_driftOnce 57 = .ok (.invokestatic 204, 3) := by decide +kernel
theorem dX4_driftOnce_60 : decode cX4_driftOnce 60 = .ok (.aload_n 0, 1) := by decide +kernel
theorem dX4_driftOnce_61 : decode cX4_driftOnce 61 = .ok (.getfield 24, 3) := by decide +kernel
theorem dX4_driftOnce_64 : decode cX4_driftOnce 64 = .ok (.iload_n 1, 1) := by decide +kernel
theorem dX4_driftOnce_65 : decode cX4_driftOnce 65 = .ok (.dup2, 1) := by decide +kernel
theorem dX4_driftOnce_66 : decode cX4_driftOnce 66 = .ok (.iaload, 1) := by decide +kernel
theorem dX4_driftOnce_67 : decode cX4_driftOnce 67 = .ok (.iconst 1, 1) := by decide +kernel
theorem dX4_driftOnce_68 : decode cX4_driftOnce 68 = .ok (.iadd, 1) := by decide +kernel
theorem dX4_driftOnce_69 : decode cX4_driftOnce 69 = .ok (.iastore, 1) := by decide +kernel
theorem dX4_driftOnce_70 : decode cX4_driftOnce 70 = .ok (.aload_n 0, 1) := by decide +kernel
theorem dX4_driftOnce_71 : decode cX4_driftOnce 71 = .ok (.getfield 24, 3) := by decide +kernel
theorem dX4_driftOnce_74 : decode cX4_driftOnce 74 = .ok (.iload_n 2, 1) := by decide +kernel
theorem dX4_driftOnce_75 : decode cX4_driftOnce 75 = .ok (.dup2, 1) := by decide +kernel
theorem dX4_driftOnce_76 : decode cX4_driftOnce 76 = .ok (.iaload, 1) := by decide +kernel
theorem dX4_driftOnce_77 : decode cX4_driftOnce 77 = .ok (.iload_n 3, 1) := by decide +kernel
theorem dX4_driftOnce_78 : decode cX4_driftOnce 78 = .ok (.iadd, 1) := by decide +kernel
theorem dX4_driftOnce_79 : decode cX4_driftOnce 79 = .ok (.iastore, 1) := by decide +kernel
theorem dX4_driftOnce_80 : decode cX4_driftOnce 80 = .ok (.aload_n 0, 1) := by decide +kernel
theorem dX4_driftOnce_81 : decode cX4_driftOnce 81 = .ok (.getfield 24, 3) := by decide +kernel
theorem dX4_driftOnce_84 : decode cX4_driftOnce 84 = .ok (.bipush 6, 2) := by decide +kernel
theorem dX4_driftOnce_86 : decode cX4_driftOnce 86 = .ok (.iload 4, 2) := by decide +kernel
theorem dX4_driftOnce_88 : decode cX4_driftOnce 88 = .ok (.iadd, 1) := by decide +kernel
theorem dX4_driftOnce_89 : decode cX4_driftOnce 89 = .ok (.dup2, 1) := by decide +kernel
theorem dX4_driftOnce_90 : decode cX4_driftOnce 90 = .ok (.iaload, 1) := by decide +kernel
theorem dX4_driftOnce_91 : decode cX4_driftOnce 91 = .ok (.iconst 1, 1) := by decide +kernel
theorem dX4_driftOnce_92 : decode cX4_driftOnce 92 = .ok (.isub, 1) := by decide +kernel
theorem dX4_driftOnce_93 : decode cX4_driftOnce 93 = .ok (.iastore, 1) := by decide +kernel
theorem dX4_driftOnce_94 : decode cX4_driftOnce 94 = .ok (.aload_n 0, 1) := by decide +kernel
theorem dX4_driftOnce_95 : decode cX4_driftOnce 95 = .ok (.getfield 24, 3) := by decide +kernel
theorem dX4_driftOnce_98 : decode cX4_driftOnce 98 = .ok (.iload_n 1, 1) := by decide +kernel
theorem dX4_driftOnce_99 : decode cX4_driftOnce 99 = .ok (.iaload, 1) := by decide +kernel
theorem dX4_driftOnce_100 : decode cX4_driftOnce 100 = .ok (.ifCond .ne 12, 3) := by decide +kernel
theorem dX4_driftOnce_103 : decode cX4_driftOnce 103 = .ok (.aload_n 0, 1) := by decide +kernel
theorem dX4_driftOnce_104 : decode cX4_driftOnce 104 = .ok (.getfield 24, 3) := by decide +kernel
theorem dX4_driftOnce_107 : decode cX4_driftOnce 107 = .ok (.iload_n 2, 1) := by decide +kernel
theorem dX4_driftOnce_108 : decode cX4_driftOnce 108 = .ok (.iaload, 1) := by decide +kernel
theorem dX4_driftOnce_109 : decode cX4_driftOnce 109 = .ok (.ifCond .eq 7, 3) := by decide +kernel
theorem dX4_driftOnce_112 : decode cX4_driftOnce 112 = .ok (.iconst 1, 1) := by decide +kernel
theorem dX4_driftOnce_113 : decode cX4_driftOnce 113 = .ok (.goto 4, 3) := by decide +kernel
theorem dX4_driftOnce_116 : decode cX4_driftOnce 116 = .ok (.iconst 0, 1) := by decide +kernel
theorem dX4_driftOnce_117 : decode cX4_driftOnce 117 = .ok (.istore 5, 2) := by decide +kernel
theorem dX4_driftOnce_119 : decode cX4_driftOnce 119 = .ok (.iload 5, 2) := by decide +kernel
theorem dX4_driftOnce_121 : decode cX4_driftOnce 121 = .ok (.ifCond .eq 33, 3) := by decide +kernel
theorem dX4_driftOnce_124 : decode cX4_driftOnce 124 = .ok (.aload_n 0, 1) := by decide +kernel
theorem dX4_driftOnce_125 : decode cX4_driftOnce 125 = .ok (.getfield 30, 3) := by decide +kernel
theorem dX4_driftOnce_128 : decode cX4_driftOnce 128 = .ok (.getfield 60, 3) := by decide +kernel
theorem dX4_driftOnce_131 : decode cX4_driftOnce 131 = .ok (.bipush 6, 2) := by decide +kernel
theorem dX4_driftOnce_133 : decode cX4_driftOnce 133 = .ok (.if_icmp .ge 21, 3) := by decide +kernel
theorem dX4_driftOnce_136 : decode cX4_driftOnce 136 = .ok (.aload_n 0, 1) := by decide +kernel
theorem dX4_driftOnce_137 : decode cX4_driftOnce 137 = .ok (.getfield 48, 3) := by decide +kernel
theorem dX4_driftOnce_140 : decode cX4_driftOnce 140 = .ok (.aload_n 0, 1) := by decide +kernel
theorem dX4_driftOnce_141 : decode cX4_driftOnce 141 = .ok (.getfield 24, 3) := by decide +kernel
theorem dX4_driftOnce_144 : decode cX4_driftOnce 144 = .ok (.invokevirtual 85, 3) := by decide +kernel
theorem dX4_driftOnce_147 : decode cX4_driftOnce 147 = .ok (.ifCond .eq 7, 3) := by decide +kernel
theorem dX4_driftOnce_150 : decode cX4_driftOnce 150 = .ok (.aload_n 0, 1) := by decide +kernel
theorem dX4_driftOnce_151 : decode cX4_driftOnce 151 = .ok (.invokevirtual 94, 3) := by decide +kernel
theorem dX4_driftOnce_154 : decode cX4_driftOnce 154 = .ok (.return_, 1) := by decide +kernel
set_option maxRecDepth 20000 in
theorem ggX4_countFixed_X2_isFixed : GoodIn wsX4_countFixed wsX2_isFixed := goodIn_r _ [6, 7, 8, 19, 20, 21, 22, 23, 24, 25] (by decide +kernel) (by decide +kernel)
set_option maxRecDepth 20000 in
theorem gX4_countFixed_X2_isFixed : GoodIn wsX4_countFixed (wsV RX4 142 RX2 yX2_isFixed wsX2_isFixed) := goodIn_app (goodIn_of _ (by decide +kernel)) ggX4_countFixed_X2_isFixed
theorem dX4_countFixed_0 : decode cX4_countFixed 0 = .ok (.iconst 0, 1) := by decide +kernel
theorem dX4_countFixed_1 : decode cX4_countFixed 1 = .ok (.istore_n 1, 1) := by decide +kernel
theorem dX4_countFixed_2 : decode cX4_countFixed 2 = .ok (.iconst 0, 1) := by decide +kernel
theorem dX4_countFixed_3 : decode cX4_countFixed 3 = .ok (.istore_n 2, 1) := by decide +kernel
theorem dX4_countFixed_4 : decode cX4_countFixed 4 = .ok (.iload_n 2, 1) := by decide +kernel
theorem dX4_countFixed_5 : decode cX4_countFixed 5 = .ok (.bipush 6, 2) := by decide +kernel
theorem dX4_countFixed_7 : decode cX4_countFixed 7 = .ok (.if_icmp .ge 23, 3) := by decide +kernel
theorem dX4_countFixed_10 : decode cX4_countFixed 10 = .ok (.aload_n 0, 1) := by decide +kernel
theorem dX4_countFixed_11 : decode cX4_countFixed 11 = .ok (.getfield 48, 3) := by decide +kernel
theorem dX4_countFixed_14 : decode cX4_countFixed 14 = .ok (.iload_n 2, 1) := by decide +kernel
theorem dX4_countFixed_15 : decode cX4_countFixed 15 = .ok (.invokevirtual 142, 3) := by decide +kernel
theorem dX4_countFixed_18 : decode cX4_countFixed 18 = .ok (.ifCond .eq 6, 3) := by decide +kernel
theorem dX4_countFixed_21 : decode cX4_countFixed 21 = .ok (.iinc 1 1, 3) := by decide +kernel
theorem dX4_countFixed_24 : decode cX4_countFixed 24 = .ok (.iinc 2 1, 3) := by decide +kernel
theorem dX4_countFixed_27 : decode cX4_countFixed 27 = .ok (.goto (-23), 3) := by decide +kernel
theorem dX4_countFixed_30 : decode cX4_countFixed 30 = .ok (.iload_n 1, 1) := by decide +kernel
theorem dX4_countFixed_31 : decode cX4_countFixed 31 = .ok (.ireturn, 1) := by decide +kernel
set_option maxRecDepth 20000 in
theorem ggX4_countSpare_X4_isSpare : GoodIn wsX4_countSpare wsX4_isSpare := goodIn_r _ [6, 7, 1, 8, 9, 10, 11, 12, 13, 14, 15, 16, 17, 18, 19, 20, 21, 22, 23, 24, 25, 26, 27, 28, 29, 30, 31, 32, 33, 34, 35, 36, 37, 38, 39, 40, 41, 42, 43, 44, 45, 46, 47, 48, 49, 50, 51, 52, 53, 54, 55, 56, 57, 58, 59, 60, 61, 62, 63, 64, 65, 66, 67, 68, 69, 70, 71, 72, 73, 74, 75, 76, 77, 78, 79, 80, 81, 82, 83, 84, 85, 86, 87, 88, 89, 90, 91, 92, 93, 94, 95, 96, 97, 98, 99, 100, 101, 102, 103, 104, 105, 106, 107, 108, 109, 110, 111, 112, 113] (by decide +kernel) (by decide +kernel)
set_option maxRecDepth 20000 in
theorem gX4_countSpare_X4_isSpare : GoodIn wsX4_countSpare (wsV RX4 121 RX4 yX4_isSpare wsX4_isSpare) := goodIn_app (goodIn_of _ (by decide +kernel)) ggX4_countSpare_X4_isSpare
theorem dX4_countSpare_0 : decode cX4_countSpare 0 = .ok (.iconst 0, 1) := by decide +kernel
theorem dX4_countSpare_1 : decode cX4_countSpare 1 = .ok (.istore_n 1, 1) := by decide +kernel
theorem dX4_countSpare_2 : decode cX4_countSpare 2 = .ok (.iconst 0, 1) := by decide +kernel
theorem dX4_countSpare_3 : decode cX4_countSpare 3 = .ok (.istore_n 2, 1) := by decide +kernel
theorem dX4_countSpare_4 : decode cX4_countSpare 4 = .ok (.iload_n 2, 1) := by decide +kernel
theorem dX4_countSpare_5 : decode cX4_countSpare 5 = .ok (.aload_n 0, 1) := by decide +kernel
theorem dX4_countSpare_6 : decode cX4_countSpare 6 = .ok (.getfield 30, 3) := by decide +kernel
theorem dX4_countSpare_9 : decode cX4_countSpare 9 = .ok (.getfield 60, 3) := by decide +kernel
theorem dX4_countSpare_12 : decode cX4_countSpare 12 = .ok (.if_icmp .ge 20, 3) := by decide +kernel
theorem dX4_countSpare_15 : decode cX4_countSpare 15 = .ok (.aload_n 0, 1) := by decide +kernel
theorem dX4_countSpare_16 : decode cX4_countSpare 16 = .ok (.iload_n 2, 1) := by decide +kernel
theorem dX4_countSpare_17 : decode cX4_countSpare 17 = .ok (.invokevirtual 121, 3) := by decide +kernel
theorem dX4_countSpare_20 : decode cX4_countSpare 20 = .ok (.ifCond .eq 6, 3) := by decide +kernel
theorem dX4_countSpare_23 : decode cX4_countSpare 23 = .ok (.iinc 1 1, 3) := by decide +kernel
theorem dX4_countSpare_26 : decode cX4_countSpare 26 = .ok (.iinc 2 1, 3) := by decide +kernel
theorem dX4_countSpare_29 : decode cX4_countSpare 29 = .ok (.goto (-25), 3) := by decide +kernel
theorem dX4_countSpare_32 : decode cX4_countSpare 32 = .ok (.iload_n 1, 1) := by decide +kernel
theorem dX4_countSpare_33 : decode cX4_countSpare 33 = .ok (.ireturn, 1) := by decide +kernel
set_option maxRecDepth 20000 in
theorem ggX4_isSpare_X2_clear : GoodIn wsX4_isSpare wsX2_clear := goodIn_r _ [7, 8, 9, 10, 11, 12, 13, 14, 102, 103, 104, 105, 106, 107, 108] (by decide +kernel) (by decide +kernel)
set_option maxRecDepth 20000 in
theorem gX4_isSpare_X2_clear : GoodIn wsX4_isSpare (wsV RX4 198 RX2 yX2_clear wsX2_clear) := goodIn_app (goodIn_of _ (by decide +kernel)) ggX4_isSpare_X2_clear
set_option maxRecDepth 20000 in
theorem ggX4_isSpare_X2_put : GoodIn wsX4_isSpare wsX2_put := goodIn_r _ [18, 8, 9, 19, 20, 21, 22, 23, 24, 25, 26, 27, 28, 6, 29, 30, 31, 32, 33, 34, 35, 36, 37, 10, 38, 39, 40, 41, 42, 43, 44, 45, 46, 47, 48, 49, 50, 51, 52, 53, 54, 55, 56, 57, 58, 59, 60, 61, 62, 63, 64, 65, 66, 102, 103, 104, 105, 106, 107, 108] (by decide +kernel) (by decide +kernel)
set_option maxRecDepth 20000 in
theorem gX4_isSpare_X2_put : GoodIn wsX4_isSpare (wsV RX4 197 RX2 yX2_put wsX2_put) := goodIn_app (goodIn_of _ (by decide +kernel)) ggX4_isSpare_X2_put
set_option maxRecDepth 20000 in
theorem ggX4_isSpare_X2_imply : GoodIn wsX4_isSpare wsX2_imply := goodIn_r _ [70, 26, 27, 28, 6, 29, 8, 20, 9, 30, 31, 32, 33, 34, 35, 36, 37, 10, 71, 72, 73, 74, 75, 76, 77, 78, 79, 80, 81, 82, 83, 84, 85, 102, 103, 104, 105, 106, 107, 108] (by decide +kernel) (by decide +kernel)
set_option maxRecDepth 20000 in
theorem gX4_isSpare_X2_imply : GoodIn wsX4_isSpare (wsV RX4 145 RX2 yX2_imply wsX2_imply) := goodIn_app (goodIn_of _ (by decide +kernel)) ggX4_isSpare_X2_imply
theorem dX4_isSpare_0 : decode cX4_isSpare 0 = .ok (.aload_n 0, 1) := by decide +kernel
theorem dX4_isSpare_1 : decode cX4_isSpare 1 = .ok (.getfield 52, 3) := by decide +kernel
theorem dX4_isSpare_4 : decode cX4_isSpare 4 = .ok (.invokevirtual 198, 3) := by decide +kernel
theorem dX4_isSpare_7 : decode cX4_isSpare 7 = .ok (.iconst 0, 1) := by decide +kernel
theorem dX4_isSpare_8 : decode cX4_isSpare 8 = .ok (.istore_n 2, 1) := by decide +kernel
theorem dX4_isSpare_9 : decode cX4_isSpare 9 = .ok (.iload_n 2, 1) := by decide +kernel
theorem dX4_isSpare_10 : decode cX4_isSpare 10 = .ok (.aload_n 0, 1) := by decide +kernel
theorem dX4_isSpare_11 : decode cX4_isSpare 11 = .ok (.getfield 30, 3) := by decide +kernel
theorem dX4_isSpare_14 : decode cX4_isSpare 14 = .ok (.getfield 60, 3) := by decide +kernel
theorem dX4_isSpare_17 : decode cX4_isSpare 17 = .ok (.if_icmp .ge 30, 3) := by decide +kernel
theorem dX4_isSpare_20 : decode cX4_isSpare 20 = .ok (.iload_n 2, 1) := by decide +kernel
theorem dX4_isSpare_21 : decode cX4_isSpare 21 = .ok (.iload_n 1, 1) := by decide +kernel
theorem dX4_isSpare_22 : decode cX4_isSpare 22 = .ok (.if_icmp .eq 19, 3) := by decide +kernel
theorem dX4_isSpare_25 : decode cX4_isSpare 25 = .ok (.aload_n 0, 1) := by decide +kernel
theorem dX4_isSpare_26 : decode cX4_isSpare 26 = .ok (.getfield 52, 3) := by decide +kernel
theorem dX4_isSpare_29 : decode cX4_isSpare 29 = .ok (.aload_n 0, 1) := by decide +kernel
theorem dX4_isSpare_30 : decode cX4_isSpare 30 = .ok (.getfield 30, 3) := by decide +kernel
theorem dX4_isSpare_33 : decode cX4_isSpare 33 = .ok (.getfield 125, 3) := by decide +kernel
theorem dX4_isSpare_36 : decode cX4_isSpare 36 = .ok (.iload_n 2, 1) := by decide +kernel
theorem dX4_isSpare_37 : decode cX4_isSpare 37 = .ok (.aaload, 1) := by decide +kernel
theorem dX4_isSpare_38 : decode cX4_isSpare 38 = .ok (.invokevirtual 197, 3) := by decide +kernel
theorem dX4_isSpare_41 : decode cX4_isSpare 41 = .ok (.iinc 2 1, 3) := by decide +kernel
theorem dX4_isSpare_44 : decode cX4_isSpare 44 = .ok (.goto (-35), 3) := by decide +kernel
theorem dX4_isSpare_47 : decode cX4_isSpare 47 = .ok (.aload_n 0, 1) := by decide +kernel
theorem dX4_isSpare_48 : decode cX4_isSpare 48 = .ok (.getfield 52, 3) := by decide +kernel
theorem dX4_isSpare_51 : decode cX4_isSpare 51 = .ok (.aload_n 0, 1) := by decide +kernel
theorem dX4_isSpare_52 : decode cX4_isSpare 52 = .ok (.getfield 30, 3) := by decide +kernel
theorem dX4_isSpare_55 : decode cX4_isSpare 55 = .ok (.getfield 125, 3) := by decide +kernel
theorem dX4_isSpare_58 : decode cX4_isSpare 58 = .ok (.iload_n 1, 1) := by decide +kernel
theorem dX4_isSpare_59 : decode cX4_isSpare 59 = .ok (.aaload, 1) := by decide +kernel
theorem dX4_isSpare_60 : decode cX4_isSpare 60 = .ok (.invokevirtual 145, 3) := by decide +kernel
theorem dX4_isSpare_63 : decode cX4_isSpare 63 = .ok (.ireturn, 1) := by decide +kernel
set_option maxRecDepth 20000 in
theorem ggX4_neededSet_X2_clear : GoodIn wsX4_neededSet wsX2_clear := goodIn_r _ [7, 8, 9, 10, 11, 12, 13, 14, 102, 103, 104, 105, 106, 107, 108] (by decide +kernel) (by decide +kernel)
set_option maxRecDepth 20000 in
theorem gX4_neededSet_X2_clear : GoodIn wsX4_neededSet (wsV RX4 198 RX2 yX2_clear wsX2_clear) := goodIn_app (goodIn_of _ (by decide +kernel)) ggX4_neededSet_X2_clear
set_option maxRecDepth 20000 in
theorem ggX4_neededSet_X2_imply : GoodIn wsX4_neededSet wsX2_imply := goodIn_r _ [18, 19, 20, 21, 6, 22, 8, 23, 9, 24, 25, 26, 27, 28, 29, 30, 31, 10, 32, 33, 34, 35, 36, 37, 38, 39, 40, 41, 42, 43, 44, 45, 46, 102, 103, 104, 105, 106, 107, 108] (by decide +kernel) (by decide +kernel)
set_option maxRecDepth 20000 in
theorem gX4_neededSet_X2_imply : GoodIn wsX4_neededSet (wsV RX4 145 RX2 yX2_imply wsX2_imply) := goodIn_app (goodIn_of _ (by decide +kernel)) ggX4_neededSet_X2_imply
set_option maxRecDepth 20000 in
theorem ggX4_neededSet_X2_put : GoodIn wsX4_neededSet wsX2_put := goodIn_r _ [50, 8, 9, 51, 23, 52, 53, 54, 55, 56, 19, 20, 21, 6, 22, 24, 25, 26, 27, 28, 29, 30, 31, 10, 57, 58, 59, 60, 61, 62, 63, 64, 65, 66, 67, 68, 69, 70, 71, 72, 73, 74, 75, 76, 77, 78, 79, 80, 81, 82, 83, 84, 85, 102, 103, 104, 105, 106, 107, 108] (by decide +kernel) (by decide +kernel)
set_option maxRecDepth 20000 in
theorem gX4_neededSet_X2_put : GoodIn wsX4_neededSet (wsV RX4 197 RX2 yX2_put wsX2_put) := goodIn_app (goodIn_of _ (by decide +kernel)) ggX4_neededSet_X2_put
theorem dX4_neededSet_0 : decode cX4_neededSet 0 = .ok (.iconst 0, 1) := by decide +kernel
theorem dX4_neededSet_1 : decode cX4_neededSet 1 = .ok (.istore_n 1, 1) := by decide +kernel
theorem dX4_neededSet_2 : decode cX4_neededSet 2 = .ok (.aload_n 0, 1) := by decide +kernel
theorem dX4_neededSet_3 : decode cX4_neededSet 3 = .ok (.getfield 52, 3) := by decide +kernel
theorem dX4_neededSet_6 : decode cX4_neededSet 6 = .ok (.invokevirtual 198, 3) := by decide +kernel
theorem dX4_neededSet_9 : decode cX4_neededSet 9 = .ok (.iconst 0, 1) := by decide +kernel
theorem dX4_neededSet_10 : decode cX4_neededSet 10 = .ok (.istore_n 2, 1) := by decide +kernel
theorem dX4_neededSet_11 : decode cX4_neededSet 11 = .ok (.iload_n 2, 1) := by decide +kernel
theorem dX4_neededSet_12 : decode cX4_neededSet 12 = .ok (.aload_n 0, 1) := by decide +kernel
theorem dX4_neededSet_13 : decode cX4_neededSet 13 = .ok (.getfield 30, 3) := by decide +kernel
theorem dX4_neededSet_16 : decode cX4_neededSet 16 = .ok (.getfield 60, 3) := by decide +kernel
theorem dX4_neededSet_19 : decode cX4_neededSet 19 = .ok (.if_icmp .ge 50, 3) := by decide +kernel
theorem dX4_neededSet_22 : decode cX4_neededSet 22 = .ok (.aload_n 0, 1) := by decide +kernel
theorem dX4_neededSet_23 : decode cX4_neededSet 23 = .ok (.getfield 52, 3) := by decide +kernel
theorem dX4_neededSet_26 : decode cX4_neededSet 26 = .ok (.aload_n 0, 1) := by decide +kernel
theorem dX4_neededSet_27 : decode cX4_neededSet 27 = .ok (.getfield 30, 3) := by decide +kernel
theorem dX4_neededSet_30 : decode cX4_neededSet 30 = .ok (.getfield 125, 3) := by decide +kernel
theorem dX4_neededSet_33 : decode cX4_neededSet 33 = .ok (.iload_n 2, 1) := by decide +kernel
theorem dX4_neededSet_34 : decode cX4_neededSet 34 = .ok (.aaload, 1) := by decide +kernel
theorem dX4_neededSet_35 : decode cX4_neededSet 35 = .ok (.invokevirtual 145, 3) := by decide +kernel
theorem dX4_neededSet_38 : decode cX4_neededSet 38 = .ok (.ifCond .ne 25, 3) := by decide +kernel
theorem dX4_neededSet_41 : decode cX4_neededSet 41 = .ok (.aload_n 0, 1) := by decide +kernel
theorem dX4_neededSet_42 : decode cX4_neededSet 42 = .ok (.getfield 52, 3) := by decide +kernel
theorem dX4_neededSet_45 : decode cX4_neededSet 45 = .ok (.aload_n 0, 1) := by decide +kernel
theorem dX4_neededSet_46 : decode cX4_neededSet 46 = .ok (.getfield 30, 3) := by decide +kernel
theorem dX4_neededSet_49 : decode cX4_neededSet 49 = .ok (.getfield 125, 3) := by decide +kernel
theorem dX4_neededSet_52 : decode cX4_neededSet 52 = .ok (.iload_n 2, 1) := by decide +kernel
theorem dX4_neededSet_53 : decode cX4_neededSet 53 = .ok (.aaload, 1) := by decide +kernel
theorem dX4_neededSet_54 : decode cX4_neededSet 54 = .ok (.invokevirtual 197, 3) := by decide +kernel
theorem dX4_neededSet_57 : decode cX4_neededSet 57 = .ok (.iload_n 1, 1) := by decide +kernel
theorem dX4_neededSet_58 : decode cX4_neededSet 58 = .ok (.iconst 1, 1) := by decide +kernel
theorem dX4_neededSet_59 : decode cX4_neededSet 59 = .ok (.iload_n 2, 1) := by decide +kernel
theorem dX4_neededSet_60 : decode cX4_neededSet 60 = .ok (.ishl, 1) := by decide +kernel
theorem dX4_neededSet_61 : decode cX4_neededSet 61 = .ok (.ior, 1) := by decide +kernel
theorem dX4_neededSet_62 : decode cX4_neededSet 62 = .ok (.istore_n 1, 1) := by decide +kernel
theorem dX4_neededSet_63 : decode cX4_neededSet 63 = .ok (.iinc 2 1, 3) := by decide +kernel
theorem dX4_neededSet_66 : decode cX4_neededSet 66 = .ok (.goto (-55), 3) := by decide +kernel
theorem dX4_neededSet_69 : decode cX4_neededSet 69 = .ok (.iload_n 1, 1) := by decide +kernel
theorem dX4_neededSet_70 : decode cX4_neededSet 70 = .ok (.ireturn, 1) := by decide +kernel
theorem dX4_canConvert_0 : decode cX4_canConvert 0 = .ok (.iconst 0, 1) := by decide +kernel
theorem dX4_canConvert_1 : decode cX4_canConvert 1 = .ok (.istore_n 1, 1) := by decide +kernel
theorem dX4_canConvert_2 : decode cX4_canConvert 2 = .ok (.iload_n 1, 1) := by decide +kernel
theorem dX4_canConvert_3 : decode cX4_canConvert 3 = .ok (.bipush 6, 2) := by decide +kernel
theorem dX4_canConvert_5 : decode cX4_canConvert 5 = .ok (.if_icmp .ge 20, 3) := by decide +kernel
theorem dX4_canConvert_8 : decode cX4_canConvert 8 = .ok (.aload_n 0, 1) := by decide +kernel
theorem dX4_canConvert_9 : decode cX4_canConvert 9 = .ok (.getfield 24, 3) := by decide +kernel
theorem dX4_canConvert_12 : decode cX4_canConvert 12 = .ok (.iload_n 1, 1) := by decide +kernel
theorem dX4_canConvert_13 : decode cX4_canConvert 13 = .ok (.iaload, 1) := by decide +kernel
theorem dX4_canConvert_14 : decode cX4_canConvert 14 = .ok (.ifCond .eq 5, 3) := by decide +kernel
theorem dX4_canConvert_17 : decode cX4_canConvert 17 = .ok (.iconst 0, 1) := by decide +kernel
theorem dX4_canConvert_18 : decode cX4_canConvert 18 = .ok (.ireturn, 1) := by decide +kernel
theorem dX4_canConvert_19 : decode cX4_canConvert 19 = .ok (.iinc 1 1, 3) := by decide +kernel
theorem dX4_canConvert_22 : decode cX4_canConvert 22 = .ok (.goto (-20), 3) := by decide +kernel
theorem dX4_canConvert_25 : decode cX4_canConvert 25 = .ok (.bipush 6, 2) := by decide +kernel
theorem dX4_canConvert_27 : decode cX4_canConvert 27 = .ok (.istore_n 1, 1) := by decide +kernel
theorem dX4_canConvert_28 : decode cX4_canConvert 28 = .ok (.iload_n 1, 1) := by decide +kernel
theorem dX4_canConvert_29 : decode cX4_canConvert 29 = .ok (.bipush 10, 2) := by decide +kernel
theorem dX4_canConvert_31 : decode cX4_canConvert 31 = .ok (.if_icmp .ge 32, 3) := by decide +kernel
theorem dX4_canConvert_34 : decode cX4_canConvert 34 = .ok (.aload_n 0, 1) := by decide +kernel
theorem dX4_canConvert_35 : decode cX4_canConvert 35 = .ok (.getfield 24, 3) := by decide +kernel
theorem dX4_canConvert_38 : decode cX4_canConvert 38 = .ok (.iload_n 1, 1) := by decide +kernel
theorem dX4_canConvert_39 : decode cX4_canConvert 39 = .ok (.iaload, 1) := by decide +kernel
theorem dX4_canConvert_40 : decode cX4_canConvert 40 = .ok (.iconst 3, 1) := by decide +kernel
theorem dX4_canConvert_41 : decode cX4_canConvert 41 = .ok (.if_icmp .gt 14, 3) := by decide +kernel
theorem dX4_canConvert_44 : decode cX4_canConvert 44 = .ok (.aload_n 0, 1) := by decide +kernel
theorem dX4_canConvert_45 : decode cX4_canConvert 45 = .ok (.getfield 24, 3) := by decide +kernel
theorem dX4_canConvert_48 : decode cX4_canConvert 48 = .ok (.iload_n 1, 1) := by decide +kernel
theorem dX4_canConvert_49 : decode cX4_canConvert 49 = .ok (.iaload, 1) := by decide +kernel
theorem dX4_canConvert_50 : decode cX4_canConvert 50 = .ok (.bipush (-3), 2) := by decide +kernel
theorem dX4_canConvert_52 : decode cX4_canConvert 52 = .ok (.if_icmp .ge 5, 3) := by decide +kernel
theorem dX4_canConvert_55 : decode cX4_canConvert 55 = .ok (.iconst 0, 1) := by decide +kernel
theorem dX4_canConvert_56 : decode cX4_canConvert 56 = .ok (.ireturn, 1) := by decide +kernel
theorem dX4_canConvert_57 : decode cX4_canConvert 57 = .ok (.iinc 1 1, 3) := by decide +kernel
theorem dX4_canConvert_60 : decode cX4_canConvert 60 = .ok (.goto (-32), 3) := by decide +kernel
theorem dX4_canConvert_63 : decode cX4_canConvert 63 = .ok (.iconst 1, 1) := by decide +kernel
theorem dX4_canConvert_64 : decode cX4_canConvert 64 = .ok (.ireturn, 1) := by decide +kernel
theorem dX4_scaleProduct_0 : decode cX4_scaleProduct 0 = .ok (.lconst 1, 1) := by decide +kernel
theorem dX4_scaleProduct_1 : decode cX4_scaleProduct 1 = .ok (.lstore_n 2, 1) := by decide +kernel
theorem dX4_scaleProduct_2 : decode cX4_scaleProduct 2 = .ok (.iconst 0, 1) := by decide +kernel
theorem dX4_scaleProduct_3 : decode cX4_scaleProduct 3 = .ok (.istore 4, 2) := by decide +kernel
theorem dX4_scaleProduct_5 : decode cX4_scaleProduct 5 = .ok (.iload 4, 2) := by decide +kernel
theorem dX4_scaleProduct_7 : decode cX4_scaleProduct 7 = .ok (.iconst 4, 1) := by decide +kernel
theorem dX4_scaleProduct_8 : decode cX4_scaleProduct 8 = .ok (.if_icmp .ge 85, 3) := by decide +kernel
theorem dX4_scaleProduct_11 : decode cX4_scaleProduct 11 = .ok (.aload_n 0, 1) := by decide +kernel
theorem dX4_scaleProduct_12 : decode cX4_scaleProduct 12 = .ok (.getfield 24, 3) := by decide +kernel
theorem dX4_scaleProduct_15 : decode cX4_scaleProduct 15 = .ok (.bipush 6, 2) := by decide +kernel
theorem dX4_scaleProduct_17 : decode cX4_scaleProduct 17 = .ok (.iload 4, 2) := by decide +kernel
theorem dX4_scaleProduct_19 : decode cX4_scaleProduct 19 = .ok (.iadd, 1) := by decide +kernel
theorem dX4_scaleProduct_20 : decode cX4_scaleProduct 20 = .ok (.iaload, 1) := by decide +kernel
theorem dX4_scaleProduct_21 : decode cX4_scaleProduct 21 = .ok (.istore 5, 2) := by decide +kernel
theorem dX4_scaleProduct_23 : decode cX4_scaleProduct 23 = .ok (.iload 5, 2) := by decide +kernel
theorem dX4_scaleProduct_25 : decode cX4_scaleProduct 25 = .ok (.ifCond .le 7, 3) := by decide +kernel
theorem dX4_scaleProduct_28 : decode cX4_scaleProduct 28 = .ok (.iconst 1, 1) := by decide +kernel
theorem dX4_scaleProduct_29 : decode cX4_scaleProduct 29 = .ok (.goto 4, 3) := by decide +kernel
theorem dX4_scaleProduct_32 : decode cX4_scaleProduct 32 = .ok (.iconst 0, 1) := by decide +kernel
theorem dX4_scaleProduct_33 : decode cX4_scaleProduct 33 = .ok (.iload_n 1, 1) := by decide +kernel
theorem dX4_scaleProduct_34 : decode cX4_scaleProduct 34 = .ok (.if_icmp .ne 16, 3) := by decide +kernel
theorem dX4_scaleProduct_37 : decode cX4_scaleProduct 37 = .ok (.aload_n 0, 1) := by decide +kernel
theorem dX4_scaleProduct_38 : decode cX4_scaleProduct 38 = .ok (.getfield 30, 3) := by decide +kernel
theorem dX4_scaleProduct_41 : decode cX4_scaleProduct 41 = .ok (.getfield 105, 3) := by decide +kernel
theorem dX4_scaleProduct_44 : decode cX4_scaleProduct 44 = .ok (.iload 4, 2) := by decide +kernel
theorem dX4_scaleProduct_46 : decode cX4_scaleProduct 46 = .ok (.iaload, 1) := by decide +kernel
theorem dX4_scaleProduct_47 : decode cX4_scaleProduct 47 = .ok (.goto 13, 3) := by decide +kernel
theorem dX4_scaleProduct_50 : decode cX4_scaleProduct 50 = .ok (.aload_n 0, 1) := by decide +kernel
theorem dX4_scaleProduct_51 : decode cX4_scaleProduct 51 = .ok (.getfield 30, 3) := by decide +kernel
theorem dX4_scaleProduct_54 : decode cX4_scaleProduct 54 = .ok (.getfield 108, 3) := by decide +kernel
theorem dX4_scaleProduct_57 : decode cX4_scaleProduct 57 = .ok (.iload 4, 2) := by decide +kernel
theorem dX4_scaleProduct_59 : decode cX4_scaleProduct 59 = .ok (.iaload, 1) := by decide +kernel
theorem dX4_scaleProduct_60 : decode cX4_scaleProduct 60 = .ok (.istore 6, 2) := by decide +kernel
theorem dX4_scaleProduct_62 : decode cX4_scaleProduct 62 = .ok (.iconst 0, 1) := by decide +kernel
theorem dX4_scaleProduct_63 : decode cX4_scaleProduct 63 = .ok (.istore 7, 2) := by decide +kernel
theorem dX4_scaleProduct_65 : decode cX4_scaleProduct 65 = .ok (.iload 7, 2) := by decide +kernel
theorem dX4_scaleProduct_67 : decode cX4_scaleProduct 67 = .ok (.iload 5, 2) := by decide +kernel
theorem dX4_scaleProduct_69 : decode cX4_scaleProduct 69 = .ok (.invokestatic 210, 3) := by decide +kernel
theorem dX4_scaleProduct_72 : decode cX4_scaleProduct 72 = .ok (.if_icmp .ge 15, 3) := by decide +kernel
theorem dX4_scaleProduct_75 : decode cX4_scaleProduct 75 = .ok (.lload_n 2, 1) := by decide +kernel
theorem dX4_scaleProduct_76 : decode cX4_scaleProduct 76 = .ok (.iload 6, 2) := by decide +kernel
theorem dX4_scaleProduct_78 : decode cX4_scaleProduct 78 = .ok (.i2l, 1) := by decide +kernel
theorem dX4_scaleProduct_79 : decode cX4_scaleProduct 79 = .ok (.lmul, 1) := by decide +kernel
theorem dX4_scaleProduct_80 : decode cX4_scaleProduct 80 = .ok (.lstore_n 2, 1) := by decide +kernel
theorem dX4_scaleProduct_81 : decode cX4_scaleProduct 81 = .ok (.iinc 7 1, 3) := by decide +kernel
theorem dX4_scaleProduct_84 : decode cX4_scaleProduct 84 = .ok (.goto (-19), 3) := by decide +kernel
theorem dX4_scaleProduct_87 : decode cX4_scaleProduct 87 = .ok (.iinc 4 1, 3) := by decide +kernel
theorem dX4_scaleProduct_90 : decode cX4_scaleProduct 90 = .ok (.goto (-85), 3) := by decide +kernel
theorem dX4_scaleProduct_93 : decode cX4_scaleProduct 93 = .ok (.lload_n 2, 1) := by decide +kernel
theorem dX4_scaleProduct_94 : decode cX4_scaleProduct 94 = .ok (.lreturn, 1) := by decide +kernel
theorem dX4_whole_0 : decode cX4_whole 0 = .ok (.lload_n 2, 1) := by decide +kernel
theorem dX4_whole_1 : decode cX4_whole 1 = .ok (.lconst 0, 1) := by decide +kernel
theorem dX4_whole_2 : decode cX4_whole 2 = .ok (.lcmp, 1) := by decide +kernel
theorem dX4_whole_3 : decode cX4_whole 3 = .ok (.ifCond .gt 7, 3) := by decide +kernel
theorem dX4_whole_6 : decode cX4_whole 6 = .ok (.ldc2_w 160, 3) := by decide +kernel
theorem dX4_whole_9 : decode cX4_whole 9 = .ok (.lreturn, 1) := by decide +kernel
theorem dX4_whole_10 : decode cX4_whole 10 = .ok (.lload_n 0, 1) := by decide +kernel
theorem dX4_whole_11 : decode cX4_whole 11 = .ok (.lload_n 2, 1) := by decide +kernel
theorem dX4_whole_12 : decode cX4_whole 12 = .ok (.ldiv, 1) := by decide +kernel
theorem dX4_whole_13 : decode cX4_whole 13 = .ok (.lstore 5, 2) := by decide +kernel
theorem dX4_whole_15 : decode cX4_whole 15 = .ok (.ldc2_w 215, 3) := by decide +kernel
theorem dX4_whole_18 : decode cX4_whole 18 = .ok (.lload_n 0, 1) := by decide +kernel
theorem dX4_whole_19 : decode cX4_whole 19 = .ok (.lload_n 2, 1) := by decide +kernel
theorem dX4_whole_20 : decode cX4_whole 20 = .ok (.lrem, 1) := by decide +kernel
theorem dX4_whole_21 : decode cX4_whole 21 = .ok (.lmul, 1) := by decide +kernel
theorem dX4_whole_22 : decode cX4_whole 22 = .ok (.lstore 7, 2) := by decide +kernel
theorem dX4_whole_24 : decode cX4_whole 24 = .ok (.iload 4, 2) := by decide +kernel
theorem dX4_whole_26 : decode cX4_whole 26 = .ok (.tableswitch 66 0 2 #[26, 32, 49], 26) := by decide +kernel
theorem dX4_whole_52 : decode cX4_whole 52 = .ok (.iconst 0, 1) := by decide +kernel
theorem dX4_whole_53 : decode cX4_whole 53 = .ok (.istore 9, 2) := by decide +kernel
theorem dX4_whole_55 : decode cX4_whole 55 = .ok (.goto 69, 3) := by decide +kernel
theorem dX4_whole_58 : decode cX4_whole 58 = .ok (.lload 7, 2) := by decide +kernel
theorem dX4_whole_60 : decode cX4_whole 60 = .ok (.lconst 0, 1) := by decide +kernel
theorem dX4_whole_61 : decode cX4_whole 61 = .ok (.lcmp, 1) := by decide +kernel
theorem dX4_whole_62 : decode cX4_whole 62 = .ok (.ifCond .le 7, 3) := by decide +kernel
theorem dX4_whole_65 : decode cX4_whole 65 = .ok (.iconst 1, 1) := by decide +kernel
theorem dX4_whole_66 : decode cX4_whole 66 = .ok (.goto 4, 3) := by decide +kernel
theorem dX4_whole_69 : decode cX4_whole 69 = .ok (.iconst 0, 1) := by decide +kernel
theorem dX4_whole_70 : decode cX4_whole 70 = .ok (.istore 9, 2) := by decide +kernel
theorem dX4_whole_72 : decode cX4_whole 72 = .ok (.goto 52, 3) := by decide +kernel
theorem dX4_whole_75 : decode cX4_whole 75 = .ok (.lload 7, 2) := by decide +kernel
theorem dX4_whole_77 : decode cX4_whole 77 = .ok (.lload_n 2, 1) := by decide +kernel
theorem dX4_whole_78 : decode cX4_whole 78 = .ok (.lcmp, 1) := by decide +kernel
theorem dX4_whole_79 : decode cX4_whole 79 = .ok (.ifCond .lt 7, 3) := by decide +kernel
theorem dX4_whole_82 : decode cX4_whole 82 = .ok (.iconst 1, 1) := by decide +kernel
theorem dX4_whole_83 : decode cX4_whole 83 = .ok (.goto 4, 3) := by decide +kernel
theorem dX4_whole_86 : decode cX4_whole 86 = .ok (.iconst 0, 1) := by decide +kernel
theorem dX4_whole_87 : decode cX4_whole 87 = .ok (.istore 9, 2) := by decide +kernel
theorem dX4_whole_89 : decode cX4_whole 89 = .ok (.goto 35, 3) := by decide +kernel
theorem dX4_whole_92 : decode cX4_whole 92 = .ok (.lload 7, 2) := by decide +kernel
theorem dX4_whole_94 : decode cX4_whole 94 = .ok (.lload_n 2, 1) := by decide +kernel
theorem dX4_whole_95 : decode cX4_whole 95 = .ok (.lcmp, 1) := by decide +kernel
theorem dX4_whole_96 : decode cX4_whole 96 = .ok (.ifCond .gt 21, 3) := by decide +kernel
theorem dX4_whole_99 : decode cX4_whole 99 = .ok (.lload 7, 2) := by decide +kernel
theorem dX4_whole_101 : decode cX4_whole 101 = .ok (.lload_n 2, 1) := by decide +kernel
theorem dX4_whole_102 : decode cX4_whole 102 = .ok (.lcmp, 1) := by decide +kernel
theorem dX4_whole_103 : decode cX4_whole 103 = .ok (.ifCond .ne 18, 3) := by decide +kernel
theorem dX4_whole_106 : decode cX4_whole 106 = .ok (.lload 5, 2) := by decide +kernel
theorem dX4_whole_108 : decode cX4_whole 108 = .ok (.ldc2_w 215, 3) := by decide +kernel
theorem dX4_whole_111 : decode cX4_whole 111 = .ok (.lrem, 1) := by decide +kernel
theorem dX4_whole_112 : decode cX4_whole 112 = .ok (.lconst 0, 1) := by decide +kernel
theorem dX4_whole_113 : decode cX4_whole 113 = .ok (.lcmp, 1) := by decide +kernel
theorem dX4_whole_114 : decode cX4_whole 114 = .ok (.ifCond .eq 7, 3) := by decide +kernel
theorem dX4_whole_117 : decode cX4_whole 117 = .ok (.iconst 1, 1) := by decide +kernel
theorem dX4_whole_118 : decode cX4_whole 118 = .ok (.goto 4, 3) := by decide +kernel
theorem dX4_whole_121 : decode cX4_whole 121 = .ok (.iconst 0, 1) := by decide +kernel
theorem dX4_whole_122 : decode cX4_whole 122 = .ok (.istore 9, 2) := by decide +kernel
theorem dX4_whole_124 : decode cX4_whole 124 = .ok (.iload 9, 2) := by decide +kernel
theorem dX4_whole_126 : decode cX4_whole 126 = .ok (.ifCond .eq 10, 3) := by decide +kernel
theorem dX4_whole_129 : decode cX4_whole 129 = .ok (.lload 5, 2) := by decide +kernel
theorem dX4_whole_131 : decode cX4_whole 131 = .ok (.lconst 1, 1) := by decide +kernel
theorem dX4_whole_132 : decode cX4_whole 132 = .ok (.ladd, 1) := by decide +kernel
theorem dX4_whole_133 : decode cX4_whole 133 = .ok (.goto 5, 3) := by decide +kernel
theorem dX4_whole_136 : decode cX4_whole 136 = .ok (.lload 5, 2) := by decide +kernel
theorem dX4_whole_138 : decode cX4_whole 138 = .ok (.lreturn, 1) := by decide +kernel
theorem dX5_init_0 : decode cX5_init 0 = .ok (.aload_n 0, 1) := by decide +kernel
theorem dX5_init_1 : decode cX5_init 1 = .ok (.invokespecial 1, 3) := by decide +kernel
theorem dX5_init_4 : decode cX5_init 4 = .ok (.aload_n 0, 1) := by decide +kernel
theorem dX5_init_5 : decode cX5_init 5 = .ok (.bipush 60, 2) := by decide +kernel
theorem dX5_init_7 : decode cX5_init 7 = .ok (.newarray .int, 2) := by decide +kernel
theorem dX5_init_9 : decode cX5_init 9 = .ok (.putfield 7, 3) := by decide +kernel
theorem dX5_init_12 : decode cX5_init 12 = .ok (.aload_n 0, 1) := by decide +kernel
theorem dX5_init_13 : decode cX5_init 13 = .ok (.iconst (-1), 1) := by decide +kernel
theorem dX5_init_14 : decode cX5_init 14 = .ok (.putfield 13, 3) := by decide +kernel
theorem dX5_init_17 : decode cX5_init 17 = .ok (.aload_n 0, 1) := by decide +kernel
theorem dX5_init_18 : decode cX5_init 18 = .ok (.bipush 69, 2) := by decide +kernel
theorem dX5_init_20 : decode cX5_init 20 = .ok (.newarray .int, 2) := by decide +kernel
theorem dX5_init_22 : decode cX5_init 22 = .ok (.putfield 17, 3) := by decide +kernel
theorem dX5_init_25 : decode cX5_init 25 = .ok (.aload_n 0, 1) := by decide +kernel
theorem dX5_init_26 : decode cX5_init 26 = .ok (.sipush 1380, 3) := by decide +kernel
theorem dX5_init_29 : decode cX5_init 29 = .ok (.newarray .int, 2) := by decide +kernel
theorem dX5_init_31 : decode cX5_init 31 = .ok (.putfield 20, 3) := by decide +kernel
theorem dX5_init_34 : decode cX5_init 34 = .ok (.aload_n 0, 1) := by decide +kernel
theorem dX5_init_35 : decode cX5_init 35 = .ok (.sipush 138, 3) := by decide +kernel
theorem dX5_init_38 : decode cX5_init 38 = .ok (.newarray .int, 2) := by decide +kernel
theorem dX5_init_40 : decode cX5_init 40 = .ok (.putfield 23, 3) := by decide +kernel
theorem dX5_init_43 : decode cX5_init 43 = .ok (.aload_n 0, 1) := by decide +kernel
theorem dX5_init_44 : decode cX5_init 44 = .ok (.iconst 2, 1) := by decide +kernel
theorem dX5_init_45 : decode cX5_init 45 = .ok (.newarray .long, 2) := by decide +kernel
theorem dX5_init_47 : decode cX5_init 47 = .ok (.putfield 26, 3) := by decide +kernel
theorem dX5_init_50 : decode cX5_init 50 = .ok (.aload_n 0, 1) := by decide +kernel
theorem dX5_init_51 : decode cX5_init 51 = .ok (.iconst 2, 1) := by decide +kernel
theorem dX5_init_52 : decode cX5_init 52 = .ok (.newarray .boolean, 2) := by decide +kernel
theorem dX5_init_54 : decode cX5_init 54 = .ok (.putfield 30, 3) := by decide +kernel
theorem dX5_init_57 : decode cX5_init 57 = .ok (.aload_n 0, 1) := by decide +kernel
theorem dX5_init_58 : decode cX5_init 58 = .ok (.bipush 70, 2) := by decide +kernel
theorem dX5_init_60 : decode cX5_init 60 = .ok (.newarray .int, 2) := by decide +kernel
theorem dX5_init_62 : decode cX5_init 62 = .ok (.putfield 34, 3) := by decide +kernel
theorem dX5_init_65 : decode cX5_init 65 = .ok (.aload_n 0, 1) := by decide +kernel
theorem dX5_init_66 : decode cX5_init 66 = .ok (.bipush 7, 2) := by decide +kernel
theorem dX5_init_68 : decode cX5_init 68 = .ok (.newarray .int, 2) := by decide +kernel
theorem dX5_init_70 : decode cX5_init 70 = .ok (.putfield 37, 3) := by decide +kernel
theorem dX5_init_73 : decode cX5_init 73 = .ok (.aload_n 0, 1) := by decide +kernel
theorem dX5_init_74 : decode cX5_init 74 = .ok (.bipush 10, 2) := by decide +kernel
theorem dX5_init_76 : decode cX5_init 76 = .ok (.newarray .int, 2) := by decide +kernel
theorem dX5_init_78 : decode cX5_init 78 = .ok (.putfield 40, 3) := by decide +kernel
theorem dX5_init_81 : decode cX5_init 81 = .ok (.aload_n 0, 1) := by decide +kernel
theorem dX5_init_82 : decode cX5_init 82 = .ok (.bipush 10, 2) := by decide +kernel
theorem dX5_init_84 : decode cX5_init 84 = .ok (.newarray .int, 2) := by decide +kernel
theorem dX5_init_86 : decode cX5_init 86 = .ok (.putfield 43, 3) := by decide +kernel
theorem dX5_init_89 : decode cX5_init 89 = .ok (.aload_n 0, 1) := by decide +kernel
theorem dX5_init_90 : decode cX5_init 90 = .ok (.bipush 36, 2) := by decide +kernel
theorem dX5_init_92 : decode cX5_init 92 = .ok (.newarray .long, 2) := by decide +kernel
theorem dX5_init_94 : decode cX5_init 94 = .ok (.putfield 46, 3) := by decide +kernel
theorem dX5_init_97 : decode cX5_init 97 = .ok (.aload_n 0, 1) := by decide +kernel
theorem dX5_init_98 : decode cX5_init 98 = .ok (.bipush 24, 2) := by decide +kernel
theorem dX5_init_100 : decode cX5_init 100 = .ok (.newarray .long, 2) := by decide +kernel
theorem dX5_init_102 : decode cX5_init 102 = .ok (.putfield 49, 3) := by decide +kernel
theorem dX5_init_105 : decode cX5_init 105 = .ok (.aload_n 0, 1) := by decide +kernel
theorem dX5_init_106 : decode cX5_init 106 = .ok (.bipush 6, 2) := by decide +kernel
theorem dX5_init_108 : decode cX5_init 108 = .ok (.newarray .long, 2) := by decide +kernel
theorem dX5_init_110 : decode cX5_init 110 = .ok (.putfield 52, 3) := by decide +kernel
theorem dX5_init_113 : decode cX5_init 113 = .ok (.bipush 61, 2) := by decide +kernel
theorem dX5_init_115 : decode cX5_init 115 = .ok (.istore_n 1, 1) := by decide +kernel
theorem dX5_init_116 : decode cX5_init 116 = .ok (.iload_n 1, 1) := by decide +kernel
theorem dX5_init_117 : decode cX5_init 117 = .ok (.bipush 69, 2) := by decide +kernel
theorem dX5_init_119 : decode cX5_init 119 = .ok (.if_icmp .ge 16, 3) := by decide +kernel
theorem dX5_init_122 : decode cX5_init 122 = .ok (.aload_n 0, 1) := by decide +kernel
theorem dX5_init_123 : decode cX5_init 123 = .ok (.getfield 17, 3) := by decide +kernel
theorem dX5_init_126 : decode cX5_init 126 = .ok (.iload_n 1, 1) := by decide +kernel
theorem dX5_init_127 : decode cX5_init 127 = .ok (.iconst 1, 1) := by decide +kernel
theorem dX5_init_128 : decode cX5_init 128 = .ok (.iastore, 1) := by decide +kernel
theorem dX5_init_129 : decode cX5_init 129 = .ok (.iinc 1 1, 3) := by decide +kernel
theorem dX5_init_132 : decode cX5_init 132 = .ok (.goto (-16), 3) := by decide +kernel
theorem dX5_init_135 : decode cX5_init 135 = .ok (.return_, 1) := by decide +kernel
theorem dX5_in_0 : decode cX5_in 0 = .ok (.iload_n 0, 1) := by decide +kernel
theorem dX5_in_1 : decode cX5_in 1 = .ok (.iload_n 1, 1) := by decide +kernel
theorem dX5_in_2 : decode cX5_in 2 = .ok (.if_icmp .lt 12, 3) := by decide +kernel
theorem dX5_in_5 : decode cX5_in 5 = .ok (.iload_n 0, 1) := by decide +kernel
theorem dX5_in_6 : decode cX5_in 6 = .ok (.iload_n 2, 1) := by decide +kernel
theorem dX5_in_7 : decode cX5_in 7 = .ok (.if_icmp .gt 7, 3) := by decide +kernel
theorem dX5_in_10 : decode cX5_in 10 = .ok (.iconst 1, 1) := by decide +kernel
theorem dX5_in_11 : decode cX5_in 11 = .ok (.goto 4, 3) := by decide +kernel
theorem dX5_in_14 : decode cX5_in 14 = .ok (.iconst 0, 1) := by decide +kernel
theorem dX5_in_15 : decode cX5_in 15 = .ok (.ireturn, 1) := by decide +kernel
theorem dX5_has_0 : decode cX5_has 0 = .ok (.iload_n 0, 1) := by decide +kernel
theorem dX5_has_1 : decode cX5_has 1 = .ok (.iload_n 1, 1) := by decide +kernel
theorem dX5_has_2 : decode cX5_has 2 = .ok (.ishr, 1) := by decide +kernel
theorem dX5_has_3 : decode cX5_has 3 = .ok (.iconst 1, 1) := by decide +kernel
theorem dX5_has_4 : decode cX5_has 4 = .ok (.iand, 1) := by decide +kernel
theorem dX5_has_5 : decode cX5_has 5 = .ok (.iconst 1, 1) := by decide +kernel
theorem dX5_has_6 : decode cX5_has 6 = .ok (.if_icmp .ne 7, 3) := by decide +kernel
theorem dX5_has_9 : decode cX5_has 9 = .ok (.iconst 1, 1) := by decide +kernel
theorem dX5_has_10 : decode cX5_has 10 = .ok (.goto 4, 3) := by decide +kernel
theorem dX5_has_13 : decode cX5_has 13 = .ok (.iconst 0, 1) := by decide +kernel
theorem dX5_has_14 : decode cX5_has 14 = .ok (.ireturn, 1) := by decide +kernel
theorem dX5_bits_0 : decode cX5_bits 0 = .ok (.iconst 0, 1) := by decide +kernel
theorem dX5_bits_1 : decode cX5_bits 1 = .ok (.istore_n 1, 1) := by decide +kernel
theorem dX5_bits_2 : decode cX5_bits 2 = .ok (.iload_n 0, 1) := by decide +kernel
theorem dX5_bits_3 : decode cX5_bits 3 = .ok (.istore_n 2, 1) := by decide +kernel
theorem dX5_bits_4 : decode cX5_bits 4 = .ok (.iload_n 2, 1) := by decide +kernel
theorem dX5_bits_5 : decode cX5_bits 5 = .ok (.ifCond .eq 15, 3) := by decide +kernel
theorem dX5_bits_8 : decode cX5_bits 8 = .ok (.iinc 1 1, 3) := by decide +kernel
theorem dX5_bits_11 : decode cX5_bits 11 = .ok (.iload_n 2, 1) := by decide +kernel
theorem dX5_bits_12 : decode cX5_bits 12 = .ok (.iload_n 2, 1) := by decide +kernel
theorem dX5_bits_13 : decode cX5_bits 13 = .ok (.iconst 1, 1) := by decide +kernel
theorem dX5_bits_14 : decode cX5_bits 14 = .ok (.isub, 1) := by decide +kernel
theorem dX5_bits_15 : decode cX5_bits 15 = .ok (.iand, 1) := by decide +kernel
theorem dX5_bits_16 : decode cX5_bits 16 = .ok (.istore_n 2, 1) := by decide +kernel
theorem dX5_bits_17 : decode cX5_bits 17 = .ok (.goto (-13), 3) := by decide +kernel
theorem dX5_bits_20 : decode cX5_bits 20 = .ok (.iload_n 1, 1) := by decide +kernel
theorem dX5_bits_21 : decode cX5_bits 21 = .ok (.ireturn, 1) := by decide +kernel
theorem dX5_bring_0 : decode cX5_bring 0 = .ok (.iconst 0, 1) := by decide +kernel
theorem dX5_bring_1 : decode cX5_bring 1 = .ok (.istore 5, 2) := by decide +kernel
theorem dX5_bring_3 : decode cX5_bring 3 = .ok (.iload 5, 2) := by decide +kernel
theorem dX5_bring_5 : decode cX5_bring 5 = .ok (.iload 4, 2) := by decide +kernel
theorem dX5_bring_7 : decode cX5_bring 7 = .ok (.if_icmp .ge 21, 3) := by decide +kernel
theorem dX5_bring_10 : decode cX5_bring 10 = .ok (.aload_n 2, 1) := by decide +kernel
theorem dX5_bring_11 : decode cX5_bring 11 = .ok (.iload_n 3, 1) := by decide +kernel
theorem dX5_bring_12 : decode cX5_bring 12 = .ok (.iload 5, 2) := by decide +kernel
theorem dX5_bring_14 : decode cX5_bring 14 = .ok (.iadd, 1) := by decide +kernel
theorem dX5_bring_15 : decode cX5_bring 15 = .ok (.aload_n 0, 1) := by decide +kernel
theorem dX5_bring_16 : decode cX5_bring 16 = .ok (.iload_n 1, 1) := by decide +kernel
theorem dX5_bring_17 : decode cX5_bring 17 = .ok (.iload 5, 2) := by decide +kernel
theorem dX5_bring_19 : decode cX5_bring 19 = .ok (.iadd, 1) := by decide +kernel
theorem dX5_bring_20 : decode cX5_bring 20 = .ok (.iaload, 1) := by decide +kernel
theorem dX5_bring_21 : decode cX5_bring 21 = .ok (.iastore, 1) := by decide +kernel
theorem dX5_bring_22 : decode cX5_bring 22 = .ok (.iinc 5 1, 3) := by decide +kernel
theorem dX5_bring_25 : decode cX5_bring 25 = .ok (.goto (-22), 3) := by decide +kernel
theorem dX5_bring_28 : decode cX5_bring 28 = .ok (.return_, 1) := by decide +kernel
set_option maxRecDepth 20000 in
theorem ggX5_feed_X5_in : GoodIn wsX5_feed wsX5_in := goodIn_r _ [8] (by decide +kernel) (by decide +kernel)
set_option maxRecDepth 20000 in
theorem gX5_feed_X5_in : GoodIn wsX5_feed (va_wsS RX5 55 yX5_in wsX5_in) := goodIn_app (goodIn_of _ (by decide +kernel)) ggX5_feed_X5_in
theorem dX5_feed_0 : decode cX5_feed 0 = .ok (.iload_n 1, 1) := by decide +kernel
theorem dX5_feed_1 : decode cX5_feed 1 = .ok (.iconst 0, 1) := by decide +kernel
theorem dX5_feed_2 : decode cX5_feed 2 = .ok (.sipush 255, 3) := by decide +kernel
theorem dX5_feed_5 : decode cX5_feed 5 = .ok (.invokestatic 55, 3) := by decide +kernel
theorem dX5_feed_8 : decode cX5_feed 8 = .ok (.ifCond .ne 6, 3) := by decide +kernel
theorem dX5_feed_11 : decode cX5_feed 11 = .ok (.ldc 59, 2) := by decide +kernel
theorem dX5_feed_13 : decode cX5_feed 13 = .ok (.ireturn, 1) := by decide +kernel
theorem dX5_feed_14 : decode cX5_feed 14 = .ok (.aload_n 0, 1) := by decide +kernel
theorem dX5_feed_15 : decode cX5_feed 15 = .ok (.getfield 60, 3) := by decide +kernel
theorem dX5_feed_18 : decode cX5_feed 18 = .ok (.bipush 60, 2) := by decide +kernel
theorem dX5_feed_20 : decode cX5_feed 20 = .ok (.if_icmp .ne 6, 3) := by decide +kernel
theorem dX5_feed_23 : decode cX5_feed 23 = .ok (.ldc 63, 2) := by decide +kernel
theorem dX5_feed_25 : decode cX5_feed 25 = .ok (.ireturn, 1) := by decide +kernel
theorem dX5_feed_26 : decode cX5_feed 26 = .ok (.aload_n 0, 1) := by decide +kernel
theorem dX5_feed_27 : decode cX5_feed 27 = .ok (.getfield 7, 3) := by decide +kernel
theorem dX5_feed_30 : decode cX5_feed 30 = .ok (.aload_n 0, 1) := by decide +kernel
theorem dX5_feed_31 : decode cX5_feed 31 = .ok (.getfield 60, 3) := by decide +kernel
theorem dX5_feed_34 : decode cX5_feed 34 = .ok (.iload_n 1, 1) := by decide +kernel
theorem dX5_feed_35 : decode cX5_feed 35 = .ok (.iastore, 1) := by decide +kernel
theorem dX5_feed_36 : decode cX5_feed 36 = .ok (.aload_n 0, 1) := by decide +kernel
theorem dX5_feed_37 : decode cX5_feed 37 = .ok (.dup, 1) := by decide +kernel
theorem dX5_feed_38 : decode cX5_feed 38 = .ok (.getfield 60, 3) := by decide +kernel
theorem dX5_feed_41 : decode cX5_feed 41 = .ok (.iconst 1, 1) := by decide +kernel
theorem dX5_feed_42 : decode cX5_feed 42 = .ok (.iadd, 1) := by decide +kernel
theorem dX5_feed_43 : decode cX5_feed 43 = .ok (.putfield 60, 3) := by decide +kernel
theorem dX5_feed_46 : decode cX5_feed 46 = .ok (.aload_n 0, 1) := by decide +kernel
theorem dX5_feed_47 : decode cX5_feed 47 = .ok (.getfield 60, 3) := by decide +kernel
theorem dX5_feed_50 : decode cX5_feed 50 = .ok (.ireturn, 1) := by decide +kernel
theorem dX5_wipe_0 : decode cX5_wipe 0 = .ok (.aload_n 0, 1) := by decide +kernel
theorem dX5_wipe_1 : decode cX5_wipe 1 = .ok (.getfield 60, 3) := by decide +kernel
theorem dX5_wipe_4 : decode cX5_wipe 4 = .ok (.istore_n 1, 1) := by decide +kernel
theorem dX5_wipe_5 : decode cX5_wipe 5 = .ok (.aload_n 0, 1) := by decide +kernel
theorem dX5_wipe_6 : decode cX5_wipe 6 = .ok (.iconst 0, 1) := by decide +kernel
theorem dX5_wipe_7 : decode cX5_wipe 7 = .ok (.putfield 60, 3) := by decide +kernel
theorem dX5_wipe_10 : decode cX5_wipe 10 = .ok (.iload_n 1, 1) := by decide +kernel
theorem dX5_wipe_11 : decode cX5_wipe 11 = .ok (.ireturn, 1) := by decide +kernel
theorem dX5_fault_0 : decode cX5_fault 0 = .ok (.aload_n 0, 1) := by decide +kernel
theorem dX5_fault_1 : decode cX5_fault 1 = .ok (.getfield 13, 3) := by decide +kernel
theorem dX5_fault_4 : decode cX5_fault 4 = .ok (.ireturn, 1) := by decide +kernel
theorem dX5_here_0 : decode cX5_here 0 = .ok (.aload_n 0, 1) := by decide +kernel
theorem dX5_here_1 : decode cX5_here 1 = .ok (.getfield 64, 3) := by decide +kernel
theorem dX5_here_4 : decode cX5_here 4 = .ok (.aload_n 0, 1) := by decide +kernel
theorem dX5_here_5 : decode cX5_here 5 = .ok (.getfield 60, 3) := by decide +kernel
theorem dX5_here_8 : decode cX5_here 8 = .ok (.if_icmp .ge 30, 3) := by decide +kernel
theorem dX5_here_11 : decode cX5_here 11 = .ok (.aload_n 0, 1) := by decide +kernel
theorem dX5_here_12 : decode cX5_here 12 = .ok (.getfield 7, 3) := by decide +kernel
theorem dX5_here_15 : decode cX5_here 15 = .ok (.aload_n 0, 1) := by decide +kernel
theorem dX5_here_16 : decode cX5_here 16 = .ok (.getfield 64, 3) := by decide +kernel
theorem dX5_here_19 : decode cX5_here 19 = .ok (.iaload, 1) := by decide +kernel
theorem dX5_here_20 : decode cX5_here 20 = .ok (.bipush 32, 2) := by decide +kernel
theorem dX5_here_22 : decode cX5_here 22 = .ok (.if_icmp .ne 16, 3) := by decide +kernel
theorem dX5_here_25 : decode cX5_here 25 = .ok (.aload_n 0, 1) := by decide +kernel
theorem dX5_here_26 : decode cX5_here 26 = .ok (.dup, 1) := by decide +kernel
theorem dX5_here_27 : decode cX5_here 27 = .ok (.getfield 64, 3) := by decide +kernel
theorem dX5_here_30 : decode cX5_here 30 = .ok (.iconst 1, 1) := by decide +kernel
theorem dX5_here_31 : decode cX5_here 31 = .ok (.iadd, 1) := by decide +kernel
theorem dX5_here_32 : decode cX5_here 32 = .ok (.putfield 64, 3) := by decide +kernel
theorem dX5_here_35 : decode cX5_here 35 = .ok (.goto (-35), 3) := by decide +kernel
theorem dX5_here_38 : decode cX5_here 38 = .ok (.aload_n 0, 1) := by decide +kernel
theorem dX5_here_39 : decode cX5_here 39 = .ok (.getfield 64, 3) := by decide +kernel
theorem dX5_here_42 : decode cX5_here 42 = .ok (.aload_n 0, 1) := by decide +kernel
theorem dX5_here_43 : decode cX5_here 43 = .ok (.getfield 60, 3) := by decide +kernel
theorem dX5_here_46 : decode cX5_here 46 = .ok (.if_icmp .ge 15, 3) := by decide +kernel
theorem dX5_here_49 : decode cX5_here 49 = .ok (.aload_n 0, 1) := by decide +kernel
theorem dX5_here_50 : decode cX5_here 50 = .ok (.getfield 7, 3) := by decide +kernel
theorem dX5_here_53 : decode cX5_here 53 = .ok (.aload_n 0, 1) := by decide +kernel
theorem dX5_here_54 : decode cX5_here 54 = .ok (.getfield 64, 3) := by decide +kernel
theorem dX5_here_57 : decode cX5_here 57 = .ok (.iaload, 1) := by decide +kernel
theorem dX5_here_58 : decode cX5_here 58 = .ok (.goto 4, 3) := by decide +kernel
theorem dX5_here_61 : decode cX5_here 61 = .ok (.iconst (-1), 1) := by decide +kernel
theorem dX5_here_62 : decode cX5_here 62 = .ok (.ireturn, 1) := by decide +kernel
theorem dX5_fails_0 : decode cX5_fails 0 = .ok (.aload_n 0, 1) := by decide +kernel
theorem dX5_fails_1 : decode cX5_fails 1 = .ok (.aload_n 0, 1) := by decide +kernel
theorem dX5_fails_2 : decode cX5_fails 2 = .ok (.getfield 67, 3) := by decide +kernel
theorem dX5_fails_5 : decode cX5_fails 5 = .ok (.ifCond .ne 7, 3) := by decide +kernel
theorem dX5_fails_8 : decode cX5_fails 8 = .ok (.iload_n 1, 1) := by decide +kernel
theorem dX5_fails_9 : decode cX5_fails 9 = .ok (.goto 7, 3) := by decide +kernel
theorem dX5_fails_12 : decode cX5_fails 12 = .ok (.aload_n 0, 1) := by decide +kernel
theorem dX5_fails_13 : decode cX5_fails 13 = .ok (.getfield 67, 3) := by decide +kernel
theorem dX5_fails_16 : decode cX5_fails 16 = .ok (.putfield 67, 3) := by decide +kernel
theorem dX5_fails_19 : decode cX5_fails 19 = .ok (.return_, 1) := by decide +kernel
theorem dX5_opens_0 : decode cX5_opens 0 = .ok (.aload_n 0, 1) := by decide +kernel
theorem dX5_opens_1 : decode cX5_opens 1 = .ok (.iload_n 1, 1) := by decide +kernel
theorem dX5_opens_2 : decode cX5_opens 2 = .ok (.putfield 70, 3) := by decide +kernel
theorem dX5_opens_5 : decode cX5_opens 5 = .ok (.aload_n 0, 1) := by decide +kernel
theorem dX5_opens_6 : decode cX5_opens 6 = .ok (.getfield 37, 3) := by decide +kernel
theorem dX5_opens_9 : decode cX5_opens 9 = .ok (.iload_n 1, 1) := by decide +kernel
theorem dX5_opens_10 : decode cX5_opens 10 = .ok (.iconst 1, 1) := by decide +kernel
theorem dX5_opens_11 : decode cX5_opens 11 = .ok (.iastore, 1) := by decide +kernel
theorem dX5_opens_12 : decode cX5_opens 12 = .ok (.iconst 0, 1) := by decide +kernel
theorem dX5_opens_13 : decode cX5_opens 13 = .ok (.istore_n 2, 1) := by decide +kernel
theorem dX5_opens_14 : decode cX5_opens 14 = .ok (.iload_n 2, 1) := by decide +kernel
theorem dX5_opens_15 : decode cX5_opens 15 = .ok (.bipush 10, 2) := by decide +kernel
theorem dX5_opens_17 : decode cX5_opens 17 = .ok (.if_icmp .ge 21, 3) := by decide +kernel
theorem dX5_opens_20 : decode cX5_opens 20 = .ok (.aload_n 0, 1) := by decide +kernel
theorem dX5_opens_21 : decode cX5_opens 21 = .ok (.getfield 34, 3) := by decide +kernel
theorem dX5_opens_24 : decode cX5_opens 24 = .ok (.bipush 10, 2) := by decide +kernel
theorem dX5_opens_26 : decode cX5_opens 26 = .ok (.iload_n 1, 1) := by decide +kernel
theorem dX5_opens_27 : decode cX5_opens 27 = .ok (.imul, 1) := by decide +kernel
theorem dX5_opens_28 : decode cX5_opens 28 = .ok (.iload_n 2, 1) := by decide +kernel
theorem dX5_opens_29 : decode cX5_opens 29 = .ok (.iadd, 1) := by decide +kernel
theorem dX5_opens_30 : decode cX5_opens 30 = .ok (.iconst 0, 1) := by decide +kernel
theorem dX5_opens_31 : decode cX5_opens 31 = .ok (.iastore, 1) := by decide +kernel
theorem dX5_opens_32 : decode cX5_opens 32 = .ok (.iinc 2 1, 3) := by decide +kernel
theorem dX5_opens_35 : decode cX5_opens 35 = .ok (.goto (-21), 3) := by decide +kernel
theorem dX5_opens_38 : decode cX5_opens 38 = .ok (.return_, 1) := by decide +kernel
set_option maxRecDepth 20000 in
theorem ggX5_readsLetter_X5_here : GoodIn wsX5_readsLetter wsX5_here := goodIn_r _ [8, 3, 9, 10, 25, 26, 27, 28, 29, 30, 31, 32, 33, 34, 35, 36, 37, 38, 39, 40, 41, 42, 43, 44, 45] (by decide +kernel) (by decide +kernel)
set_option maxRecDepth 20000 in
theorem gX5_readsLetter_X5_here : GoodIn wsX5_readsLetter (wsV RX5 73 RX5 yX5_here wsX5_here) := goodIn_app (goodIn_of _ (by decide +kernel)) ggX5_readsLetter_X5_here
set_option maxRecDepth 20000 in
theorem ggX5_readsLetter_X5_in : GoodIn wsX5_readsLetter wsX5_in := goodIn_r _ [13] (by decide +kernel) (by decide +kernel)
set_option maxRecDepth 20000 in
theorem gX5_readsLetter_X5_in : GoodIn wsX5_readsLetter (va_wsS RX5 55 yX5_in wsX5_in) := goodIn_app (goodIn_of _ (by decide +kernel)) ggX5_readsLetter_X5_in
set_option maxRecDepth 20000 in
theorem ggX5_readsLetter_X5_fails : GoodIn wsX5_readsLetter wsX5_fails := goodIn_r _ [17, 18, 25, 26, 27, 28, 29, 30, 31, 32, 33, 34, 35, 36, 37, 38, 39, 40, 41, 42, 43, 44, 45] (by decide +kernel) (by decide +kernel)
set_option maxRecDepth 20000 in
theorem gX5_readsLetter_X5_fails : GoodIn wsX5_readsLetter (wsV RX5 77 RX5 yX5_fails wsX5_fails) := goodIn_app (goodIn_of _ (by decide +kernel)) ggX5_readsLetter_X5_fails
set_option maxRecDepth 20000 in
theorem ggX5_readsLetter_X5_opens : GoodIn wsX5_readsLetter wsX5_opens := goodIn_r _ [22, 2, 23, 24, 25, 26, 27, 28, 29, 30, 31, 32, 33, 34, 35, 36, 37, 38, 39, 40, 41, 42, 43, 44, 45] (by decide +kernel) (by decide +kernel)
set_option maxRecDepth 20000 in
theorem gX5_readsLetter_X5_opens : GoodIn wsX5_readsLetter (wsV RX5 81 RX5 yX5_opens wsX5_opens) := goodIn_app (goodIn_of _ (by decide +kernel)) ggX5_readsLetter_X5_opens
theorem dX5_readsLetter_0 : decode cX5_readsLetter 0 = .ok (.aload_n 0, 1) := by decide +kernel
theorem dX5_readsLetter_1 : decode cX5_readsLetter 1 = .ok (.invokevirtual 73, 3) := by decide +kernel
theorem dX5_readsLetter_4 : decode cX5_readsLetter 4 = .ok (.istore_n 1, 1) := by decide +kernel
theorem dX5_readsLetter_5 : decode cX5_readsLetter 5 = .ok (.iconst 0, 1) := by decide +kernel
theorem dX5_readsLetter_6 : decode cX5_readsLetter 6 = .ok (.istore_n 2, 1) := by decide +kernel
theorem dX5_readsLetter_7 : decode cX5_readsLetter 7 = .ok (.iload_n 2, 1) := by decide +kernel
theorem dX5_readsLetter_8 : decode cX5_readsLetter 8 = .ok (.bipush 10, 2) := by decide +kernel
theorem dX5_readsLetter_10 : decode cX5_readsLetter 10 = .ok (.if_icmp .ge 16, 3) := by decide +kernel
theorem dX5_readsLetter_13 : decode cX5_readsLetter 13 = .ok (.aload_n 0, 1) := by decide +kernel
theorem dX5_readsLetter_14 : decode cX5_readsLetter 14 = .ok (.getfield 40, 3) := by decide +kernel
theorem dX5_readsLetter_17 : decode cX5_readsLetter 17 = .ok (.iload_n 2, 1) := by decide +kernel
theorem dX5_readsLetter_18 : decode cX5_readsLetter 18 = .ok (.iconst 0, 1) := by decide +kernel
theorem dX5_readsLetter_19 : decode cX5_readsLetter 19 = .ok (.iastore, 1) := by decide +kernel
theorem dX5_readsLetter_20 : decode cX5_readsLetter 20 = .ok (.iinc 2 1, 3) := by decide +kernel
theorem dX5_readsLetter_23 : decode cX5_readsLetter 23 = .ok (.goto (-16), 3) := by decide +kernel
theorem dX5_readsLetter_26 : decode cX5_readsLetter 26 = .ok (.iload_n 1, 1) := by decide +kernel
theorem dX5_readsLetter_27 : decode cX5_readsLetter 27 = .ok (.bipush 97, 2) := by decide +kernel
theorem dX5_readsLetter_29 : decode cX5_readsLetter 29 = .ok (.bipush 100, 2) := by decide +kernel
theorem dX5_readsLetter_31 : decode cX5_readsLetter 31 = .ok (.invokestatic 55, 3) := by decide +kernel
theorem dX5_readsLetter_34 : decode cX5_readsLetter 34 = .ok (.ifCond .eq 19, 3) := by decide +kernel
theorem dX5_readsLetter_37 : decode cX5_readsLetter 37 = .ok (.aload_n 0, 1) := by decide +kernel
theorem dX5_readsLetter_38 : decode cX5_readsLetter 38 = .ok (.getfield 40, 3) := by decide +kernel
theorem dX5_readsLetter_41 : decode cX5_readsLetter 41 = .ok (.bipush 6, 2) := by decide +kernel
theorem dX5_readsLetter_43 : decode cX5_readsLetter 43 = .ok (.iload_n 1, 1) := by decide +kernel
theorem dX5_readsLetter_44 : decode cX5_readsLetter 44 = .ok (.iadd, 1) := by decide +kernel
theorem dX5_readsLetter_45 : decode cX5_readsLetter 45 = .ok (.bipush 97, 2) := by decide +kernel
theorem dX5_readsLetter_47 : decode cX5_readsLetter 47 = .ok (.isub, 1) := by decide +kernel
theorem dX5_readsLetter_48 : decode cX5_readsLetter 48 = .ok (.iconst 1, 1) := by decide +kernel
theorem dX5_readsLetter_49 : decode cX5_readsLetter 49 = .ok (.iastore, 1) := by decide +kernel
theorem dX5_readsLetter_50 : decode cX5_readsLetter 50 = .ok (.goto 84, 3) := by decide +kernel
theorem dX5_readsLetter_53 : decode cX5_readsLetter 53 = .ok (.iload_n 1, 1) := by decide +kernel
theorem dX5_readsLetter_54 : decode cX5_readsLetter 54 = .ok (.bipush 117, 2) := by decide +kernel
theorem dX5_readsLetter_56 : decode cX5_readsLetter 56 = .ok (.bipush 122, 2) := by decide +kernel
theorem dX5_readsLetter_58 : decode cX5_readsLetter 58 = .ok (.invokestatic 55, 3) := by decide +kernel
theorem dX5_readsLetter_61 : decode cX5_readsLetter 61 = .ok (.ifCond .eq 16, 3) := by decide +kernel
theorem dX5_readsLetter_64 : decode cX5_readsLetter 64 = .ok (.aload_n 0, 1) := by decide +kernel
theorem dX5_readsLetter_65 : decode cX5_readsLetter 65 = .ok (.getfield 40, 3) := by decide +kernel
theorem dX5_readsLetter_68 : decode cX5_readsLetter 68 = .ok (.iload_n 1, 1) := by decide +kernel
theorem dX5_readsLetter_69 : decode cX5_readsLetter 69 = .ok (.bipush 117, 2) := by decide +kernel
theorem dX5_readsLetter_71 : decode cX5_readsLetter 71 = .ok (.isub, 1) := by decide +kernel
theorem dX5_readsLetter_72 : decode cX5_readsLetter 72 = .ok (.iconst 1, 1) := by decide +kernel
theorem dX5_readsLetter_73 : decode cX5_readsLetter 73 = .ok (.iastore, 1) := by decide +kernel
theorem dX5_readsLetter_74 : decode cX5_readsLetter 74 = .ok (.goto 60, 3) := by decide +kernel
theorem dX5_readsLetter_77 : decode cX5_readsLetter 77 = .ok (.iload_n 1, 1) := by decide +kernel
theorem dX5_readsLetter_78 : decode cX5_readsLetter 78 = .ok (.bipush 40, 2) := by decide +kernel
theorem dX5_readsLetter_80 : decode cX5_readsLetter 80 = .ok (.if_icmp .ne 41, 3) := by decide +kernel
theorem dX5_readsLetter_83 : decode cX5_readsLetter 83 = .ok (.aload_n 0, 1) := by decide +kernel
theorem dX5_readsLetter_84 : decode cX5_readsLetter 84 = .ok (.getfield 70, 3) := by decide +kernel
theorem dX5_readsLetter_87 : decode cX5_readsLetter 87 = .ok (.bipush 6, 2) := by decide +kernel
theorem dX5_readsLetter_89 : decode cX5_readsLetter 89 = .ok (.if_icmp .ne 10, 3) := by decide +kernel
theorem dX5_readsLetter_92 : decode cX5_readsLetter 92 = .ok (.aload_n 0, 1) := by decide +kernel
theorem dX5_readsLetter_93 : decode cX5_readsLetter 93 = .ok (.iconst 2, 1) := by decide +kernel
theorem dX5_readsLetter_94 : decode cX5_readsLetter 94 = .ok (.invokevirtual 77, 3) := by decide +kernel
theorem dX5_readsLetter_97 : decode cX5_readsLetter 97 = .ok (.iconst 0, 1) := by decide +kernel
theorem dX5_readsLetter_98 : decode cX5_readsLetter 98 = .ok (.ireturn, 1) := by decide +kernel
theorem dX5_readsLetter_99 : decode cX5_readsLetter 99 = .ok (.aload_n 0, 1) := by decide +kernel
theorem dX5_readsLetter_100 : decode cX5_readsLetter 100 = .ok (.dup, 1) := by decide +kernel
theorem dX5_readsLetter_101 : decode cX5_readsLetter 101 = .ok (.getfield 64, 3) := by decide +kernel
theorem dX5_readsLetter_104 : decode cX5_readsLetter 104 = .ok (.iconst 1, 1) := by decide +kernel
theorem dX5_readsLetter_105 : decode cX5_readsLetter 105 = .ok (.iadd, 1) := by decide +kernel
theorem dX5_readsLetter_106 : decode cX5_readsLetter 106 = .ok (.putfield 64, 3) := by decide +kernel
theorem dX5_readsLetter_109 : decode cX5_readsLetter 109 = .ok (.aload_n 0, 1) := by decide +kernel
theorem dX5_readsLetter_110 : decode cX5_readsLetter 110 = .ok (.aload_n 0, 1) := by decide +kernel
theorem dX5_readsLetter_111 : decode cX5_readsLetter 111 = .ok (.getfield 70, 3) := by decide +kernel
theorem dX5_readsLetter_114 : decode cX5_readsLetter 114 = .ok (.iconst 1, 1) := by decide +kernel
theorem dX5_readsLetter_115 : decode cX5_readsLetter 115 = .ok (.iadd, 1) := by decide +kernel
theorem dX5_readsLetter_116 : decode cX5_readsLetter 116 = .ok (.invokevirtual 81, 3) := by decide +kernel
theorem dX5_readsLetter_119 : decode cX5_readsLetter 119 = .ok (.iconst 0, 1) := by decide +kernel
theorem dX5_readsLetter_120 : decode cX5_readsLetter 120 = .ok (.ireturn, 1) := by decide +kernel
theorem dX5_readsLetter_121 : decode cX5_readsLetter 121 = .ok (.iload_n 1, 1) := by decide +kernel
theorem dX5_readsLetter_122 : decode cX5_readsLetter 122 = .ok (.bipush 49, 2) := by decide +kernel
theorem dX5_readsLetter_124 : decode cX5_readsLetter 124 = .ok (.if_icmp .eq 10, 3) := by decide +kernel
theorem dX5_readsLetter_127 : decode cX5_readsLetter 127 = .ok (.aload_n 0, 1) := by decide +kernel
theorem dX5_readsLetter_128 : decode cX5_readsLetter 128 = .ok (.iconst 1, 1) := by decide +kernel
theorem dX5_readsLetter_129 : decode cX5_readsLetter 129 = .ok (.invokevirtual 77, 3) := by decide +kernel
theorem dX5_readsLetter_132 : decode cX5_readsLetter 132 = .ok (.iconst 0, 1) := by decide +kernel
theorem dX5_readsLetter_133 : decode cX5_readsLetter 133 = .ok (.ireturn, 1) := by decide +kernel
theorem dX5_readsLetter_134 : decode cX5_readsLetter 134 = .ok (.aload_n 0, 1) := by decide +kernel
theorem dX5_readsLetter_135 : decode cX5_readsLetter 135 = .ok (.dup, 1) := by decide +kernel
theorem dX5_readsLetter_136 : decode cX5_readsLetter 136 = .ok (.getfield 64, 3) := by decide +kernel
theorem dX5_readsLetter_139 : decode cX5_readsLetter 139 = .ok (.iconst 1, 1) := by decide +kernel
theorem dX5_readsLetter_140 : decode cX5_readsLetter 140 = .ok (.iadd, 1) := by decide +kernel
theorem dX5_readsLetter_141 : decode cX5_readsLetter 141 = .ok (.putfield 64, 3) := by decide +kernel
theorem dX5_readsLetter_144 : decode cX5_readsLetter 144 = .ok (.iconst 1, 1) := by decide +kernel
theorem dX5_readsLetter_145 : decode cX5_readsLetter 145 = .ok (.ireturn, 1) := by decide +kernel
set_option maxRecDepth 20000 in
theorem ggX5_readsPower_X5_here : GoodIn wsX5_readsPower wsX5_here := goodIn_r _ [7, 1, 8, 9, 18, 19, 20, 21, 22, 23, 24, 25, 26, 27, 28, 29, 30, 31, 32, 33, 34, 35, 36, 37, 38] (by decide +kernel) (by decide +kernel)
set_option maxRecDepth 20000 in
theorem gX5_readsPower_X5_here : GoodIn wsX5_readsPower (wsV RX5 73 RX5 yX5_here wsX5_here) := goodIn_app (goodIn_of _ (by decide +kernel)) ggX5_readsPower_X5_here
set_option maxRecDepth 20000 in
theorem ggX5_readsPower_X5_in : GoodIn wsX5_readsPower wsX5_in := goodIn_r _ [12] (by decide +kernel) (by decide +kernel)
set_option maxRecDepth 20000 in
theorem gX5_readsPower_X5_in : GoodIn wsX5_readsPower (va_wsS RX5 55 yX5_in wsX5_in) := goodIn_app (goodIn_of _ (by decide +kernel)) ggX5_readsPower_X5_in
set_option maxRecDepth 20000 in
theorem ggX5_readsPower_X5_fails : GoodIn wsX5_readsPower wsX5_fails := goodIn_r _ [16, 17, 18, 19, 20, 21, 22, 23, 24, 25, 26, 27, 28, 29, 30, 31, 32, 33, 34, 35, 36, 37, 38] (by decide +kernel) (by decide +kernel)
set_option maxRecDepth 20000 in
theorem gX5_readsPower_X5_fails : GoodIn wsX5_readsPower (wsV RX5 77 RX5 yX5_fails wsX5_fails) := goodIn_app (goodIn_of _ (by decide +kernel)) ggX5_readsPower_X5_fails
theorem dX5_readsPower_0 : decode cX5_readsPower 0 = .ok (.aload_n 0, 1) := by decide +kernel
theorem dX5_readsPower_1 : decode cX5_readsPower 1 = .ok (.invokevirtual 73, 3) := by decide +kernel
theorem dX5_readsPower_4 : decode cX5_readsPower 4 = .ok (.bipush 94, 2) := by decide +kernel
theorem dX5_readsPower_6 : decode cX5_readsPower 6 = .ok (.if_icmp .eq 4, 3) := by decide +kernel
theorem dX5_readsPower_9 : decode cX5_readsPower 9 = .ok (.return_, 1) := by decide +kernel
theorem dX5_readsPower_10 : decode cX5_readsPower 10 = .ok (.aload_n 0, 1) := by decide +kernel
theorem dX5_readsPower_11 : decode cX5_readsPower 11 = .ok (.dup, 1) := by decide +kernel
theorem dX5_readsPower_12 : decode cX5_readsPower 12 = .ok (.getfield 64, 3) := by decide +kernel
theorem dX5_readsPower_15 : decode cX5_readsPower 15 = .ok (.iconst 1, 1) := by decide +kernel
theorem dX5_readsPower_16 : decode cX5_readsPower 16 = .ok (.iadd, 1) := by decide +kernel
theorem dX5_readsPower_17 : decode cX5_readsPower 17 = .ok (.putfield 64, 3) := by decide +kernel
theorem dX5_readsPower_20 : decode cX5_readsPower 20 = .ok (.aload_n 0, 1) := by decide +kernel
theorem dX5_readsPower_21 : decode cX5_readsPower 21 = .ok (.invokevirtual 73, 3) := by decide +kernel
theorem dX5_readsPower_24 : decode cX5_readsPower 24 = .ok (.bipush 45, 2) := by decide +kernel
theorem dX5_readsPower_26 : decode cX5_readsPower 26 = .ok (.if_icmp .ne 7, 3) := by decide +kernel
theorem dX5_readsPower_29 : decode cX5_readsPower 29 = .ok (.iconst 1, 1) := by decide +kernel
theorem dX5_readsPower_30 : decode cX5_readsPower 30 = .ok (.goto 4, 3) := by decide +kernel
theorem dX5_readsPower_33 : decode cX5_readsPower 33 = .ok (.iconst 0, 1) := by decide +kernel
theorem dX5_readsPower_34 : decode cX5_readsPower 34 = .ok (.istore_n 1, 1) := by decide +kernel
theorem dX5_readsPower_35 : decode cX5_readsPower 35 = .ok (.aload_n 0, 1) := by decide +kernel
theorem dX5_readsPower_36 : decode cX5_readsPower 36 = .ok (.dup, 1) := by decide +kernel
theorem dX5_readsPower_37 : decode cX5_readsPower 37 = .ok (.getfield 64, 3) := by decide +kernel
theorem dX5_readsPower_40 : decode cX5_readsPower 40 = .ok (.iload_n 1, 1) := by decide +kernel
theorem dX5_readsPower_41 : decode cX5_readsPower 41 = .ok (.ifCond .eq 7, 3) := by decide +kernel
theorem dX5_readsPower_44 : decode cX5_readsPower 44 = .ok (.iconst 1, 1) := by decide +kernel
theorem dX5_readsPower_45 : decode cX5_readsPower 45 = .ok (.goto 4, 3) := by decide +kernel
theorem dX5_readsPower_48 : decode cX5_readsPower 48 = .ok (.iconst 0, 1) := by decide +kernel
theorem dX5_readsPower_49 : decode cX5_readsPower 49 = .ok (.iadd, 1) := by decide +kernel
theorem dX5_readsPower_50 : decode cX5_readsPower 50 = .ok (.putfield 64, 3) := by decide +kernel
theorem dX5_readsPower_53 : decode cX5_readsPower 53 = .ok (.aload_n 0, 1) := by decide +kernel
theorem dX5_readsPower_54 : decode cX5_readsPower 54 = .ok (.invokevirtual 73, 3) := by decide +kernel
theorem dX5_readsPower_57 : decode cX5_readsPower 57 = .ok (.istore_n 2, 1) := by decide +kernel
theorem dX5_readsPower_58 : decode cX5_readsPower 58 = .ok (.iload_n 2, 1) := by decide +kernel
theorem dX5_readsPower_59 : decode cX5_readsPower 59 = .ok (.bipush 48, 2) := by decide +kernel
theorem dX5_readsPower_61 : decode cX5_readsPower 61 = .ok (.bipush 57, 2) := by decide +kernel
theorem dX5_readsPower_63 : decode cX5_readsPower 63 = .ok (.invokestatic 55, 3) := by decide +kernel
theorem dX5_readsPower_66 : decode cX5_readsPower 66 = .ok (.ifCond .ne 9, 3) := by decide +kernel
theorem dX5_readsPower_69 : decode cX5_readsPower 69 = .ok (.aload_n 0, 1) := by decide +kernel
theorem dX5_readsPower_70 : decode cX5_readsPower 70 = .ok (.iconst 1, 1) := by decide +kernel
theorem dX5_readsPower_71 : decode cX5_readsPower 71 = .ok (.invokevirtual 77, 3) := by decide +kernel
theorem dX5_readsPower_74 : decode cX5_readsPower 74 = .ok (.return_, 1) := by decide +kernel
theorem dX5_readsPower_75 : decode cX5_readsPower 75 = .ok (.aload_n 0, 1) := by decide +kernel
theorem dX5_readsPower_76 : decode cX5_readsPower 76 = .ok (.dup, 1) := by decide +kernel
theorem dX5_readsPower_77 : decode cX5_readsPower 77 = .ok (.getfield 64, 3) := by decide +kernel
theorem dX5_readsPower_80 : decode cX5_readsPower 80 = .ok (.iconst 1, 1) := by decide +kernel
theorem dX5_readsPower_81 : decode cX5_readsPower 81 = .ok (.iadd, 1) := by decide +kernel
theorem dX5_readsPower_82 : decode cX5_readsPower 82 = .ok (.putfield 64, 3) := by decide +kernel
theorem dX5_readsPower_85 : decode cX5_readsPower 85 = .ok (.iconst 0, 1) := by decide +kernel
theorem dX5_readsPower_86 : decode cX5_readsPower 86 = .ok (.istore_n 3, 1) := by decide +kernel
theorem dX5_readsPower_87 : decode cX5_readsPower 87 = .ok (.iload_n 3, 1) := by decide +kernel
theorem dX5_readsPower_88 : decode cX5_readsPower 88 = .ok (.bipush 10, 2) := by decide +kernel
theorem dX5_readsPower_90 : decode cX5_readsPower 90 = .ok (.if_icmp .ge 33, 3) := by decide +kernel
theorem dX5_readsPower_93 : decode cX5_readsPower 93 = .ok (.aload_n 0, 1) := by decide +kernel
theorem dX5_readsPower_94 : decode cX5_readsPower 94 = .ok (.getfield 40, 3) := by decide +kernel
theorem dX5_readsPower_97 : decode cX5_readsPower 97 = .ok (.iload_n 3, 1) := by decide +kernel
theorem dX5_readsPower_98 : decode cX5_readsPower 98 = .ok (.dup2, 1) := by decide +kernel
theorem dX5_readsPower_99 : decode cX5_readsPower 99 = .ok (.iaload, 1) := by decide +kernel
theorem dX5_readsPower_100 : decode cX5_readsPower 100 = .ok (.iload_n 1, 1) := by decide +kernel
theorem dX5_readsPower_101 : decode cX5_readsPower 101 = .ok (.ifCond .eq 10, 3) := by decide +kernel
theorem dX5_readsPower_104 : decode cX5_readsPower 104 = .ok (.bipush 48, 2) := by decide +kernel
theorem dX5_readsPower_106 : decode cX5_readsPower 106 = .ok (.iload_n 2, 1) := by decide +kernel
theorem dX5_readsPower_107 : decode cX5_readsPower 107 = .ok (.isub, 1) := by decide +kernel
theorem dX5_readsPower_108 : decode cX5_readsPower 108 = .ok (.goto 7, 3) := by decide +kernel
theorem dX5_readsPower_111 : decode cX5_readsPower 111 = .ok (.iload_n 2, 1) := by decide +kernel
theorem dX5_readsPower_112 : decode cX5_readsPower 112 = .ok (.bipush 48, 2) := by decide +kernel
theorem dX5_readsPower_114 : decode cX5_readsPower 114 = .ok (.isub, 1) := by decide +kernel
theorem dX5_readsPower_115 : decode cX5_readsPower 115 = .ok (.imul, 1) := by decide +kernel
theorem dX5_readsPower_116 : decode cX5_readsPower 116 = .ok (.iastore, 1) := by decide +kernel
theorem dX5_readsPower_117 : decode cX5_readsPower 117 = .ok (.iinc 3 1, 3) := by decide +kernel
theorem dX5_readsPower_120 : decode cX5_readsPower 120 = .ok (.goto (-33), 3) := by decide +kernel
theorem dX5_readsPower_123 : decode cX5_readsPower 123 = .ok (.return_, 1) := by decide +kernel
theorem dX5_counts_0 : decode cX5_counts 0 = .ok (.iconst 0, 1) := by decide +kernel
theorem dX5_counts_1 : decode cX5_counts 1 = .ok (.istore_n 1, 1) := by decide +kernel
theorem dX5_counts_2 : decode cX5_counts 2 = .ok (.iload_n 1, 1) := by decide +kernel
theorem dX5_counts_3 : decode cX5_counts 3 = .ok (.bipush 10, 2) := by decide +kernel
theorem dX5_counts_5 : decode cX5_counts 5 = .ok (.if_icmp .ge 42, 3) := by decide +kernel
theorem dX5_counts_8 : decode cX5_counts 8 = .ok (.aload_n 0, 1) := by decide +kernel
theorem dX5_counts_9 : decode cX5_counts 9 = .ok (.getfield 34, 3) := by decide +kernel
theorem dX5_counts_12 : decode cX5_counts 12 = .ok (.bipush 10, 2) := by decide +kernel
theorem dX5_counts_14 : decode cX5_counts 14 = .ok (.aload_n 0, 1) := by decide +kernel
theorem dX5_counts_15 : decode cX5_counts 15 = .ok (.getfield 70, 3) := by decide +kernel
theorem dX5_counts_18 : decode cX5_counts 18 = .ok (.imul, 1) := by decide +kernel
theorem dX5_counts_19 : decode cX5_counts 19 = .ok (.iload_n 1, 1) := by decide +kernel
theorem dX5_counts_20 : decode cX5_counts 20 = .ok (.iadd, 1) := by decide +kernel
theorem dX5_counts_21 : decode cX5_counts 21 = .ok (.dup2, 1) := by decide +kernel
theorem dX5_counts_22 : decode cX5_counts 22 = .ok (.iaload, 1) := by decide +kernel
theorem dX5_counts_23 : decode cX5_counts 23 = .ok (.aload_n 0, 1) := by decide +kernel
theorem dX5_counts_24 : decode cX5_counts 24 = .ok (.getfield 37, 3) := by decide +kernel
theorem dX5_counts_27 : decode cX5_counts 27 = .ok (.aload_n 0, 1) := by decide +kernel
theorem dX5_counts_28 : decode cX5_counts 28 = .ok (.getfield 70, 3) := by decide +kernel
theorem dX5_counts_31 : decode cX5_counts 31 = .ok (.iaload, 1) := by decide +kernel
theorem dX5_counts_32 : decode cX5_counts 32 = .ok (.aload_n 0, 1) := by decide +kernel
theorem dX5_counts_33 : decode cX5_counts 33 = .ok (.getfield 40, 3) := by decide +kernel
theorem dX5_counts_36 : decode cX5_counts 36 = .ok (.iload_n 1, 1) := by decide +kernel
theorem dX5_counts_37 : decode cX5_counts 37 = .ok (.iaload, 1) := by decide +kernel
theorem dX5_counts_38 : decode cX5_counts 38 = .ok (.imul, 1) := by decide +kernel
theorem dX5_counts_39 : decode cX5_counts 39 = .ok (.iadd, 1) := by decide +kernel
theorem dX5_counts_40 : decode cX5_counts 40 = .ok (.iastore, 1) := by decide +kernel
theorem dX5_counts_41 : decode cX5_counts 41 = .ok (.iinc 1 1, 3) := by decide +kernel
theorem dX5_counts_44 : decode cX5_counts 44 = .ok (.goto (-42), 3) := by decide +kernel
theorem dX5_counts_47 : decode cX5_counts 47 = .ok (.return_, 1) := by decide +kernel
set_option maxRecDepth 20000 in
theorem ggX5_closes_X5_readsPower : GoodIn wsX5_closes wsX5_readsPower := goodIn_r _ [10, 3, 5, 11, 12, 13, 9, 14, 15, 16, 17, 18, 19, 20, 21, 22, 23, 1, 32, 33, 34, 35, 36, 37, 38, 39, 40, 41, 42, 43, 44, 45, 46, 47, 48, 49, 50, 51, 52] (by decide +kernel) (by decide +kernel)
set_option maxRecDepth 20000 in
theorem gX5_closes_X5_readsPower : GoodIn wsX5_closes (wsV RX5 84 RX5 yX5_readsPower wsX5_readsPower) := goodIn_app (goodIn_of _ (by decide +kernel)) ggX5_closes_X5_readsPower
set_option maxRecDepth 20000 in
theorem ggX5_closes_X5_here : GoodIn wsX5_closes wsX5_here := goodIn_r _ [14, 3, 15, 16, 32, 33, 34, 35, 36, 37, 38, 39, 40, 41, 42, 43, 44, 45, 46, 47, 48, 49, 50, 51, 52] (by decide +kernel) (by decide +kernel)
set_option maxRecDepth 20000 in
theorem gX5_closes_X5_here : GoodIn wsX5_closes (wsV RX5 73 RX5 yX5_here wsX5_here) := goodIn_app (goodIn_of _ (by decide +kernel)) ggX5_closes_X5_here
set_option maxRecDepth 20000 in
theorem ggX5_closes_X5_counts : GoodIn wsX5_closes wsX5_counts := goodIn_r _ [27, 4, 2, 28, 5, 32, 33, 34, 35, 36, 37, 38, 39, 40, 41, 42, 43, 44, 45, 46, 47, 48, 49, 50, 51, 52] (by decide +kernel) (by decide +kernel)
set_option maxRecDepth 20000 in
theorem gX5_closes_X5_counts : GoodIn wsX5_closes (wsV RX5 87 RX5 yX5_counts wsX5_counts) := goodIn_app (goodIn_of _ (by decide +kernel)) ggX5_closes_X5_counts
end
section
set_option maxRecDepth 20000 in
theorem ggX5_closes_X5_bring : GoodIn wsX5_closes wsX5_bring := goodIn_r _ [31] (by decide +kernel) (by decide +kernel)
set_option maxRecDepth 20000 in
theorem gX5_closes_X5_bring : GoodIn wsX5_closes (va_wsS RX5 90 yX5_bring wsX5_bring) := goodIn_app (goodIn_of _ (by decide +kernel)) ggX5_closes_X5_bring
theorem dX5_closes_0 : decode cX5_closes 0 = .ok (.aload_n 0, 1) := by decide +kernel
theorem dX5_closes_1 : decode cX5_closes 1 = .ok (.invokevirtual 84, 3) := by decide +kernel
theorem dX5_closes_4 : decode cX5_closes 4 = .ok (.aload_n 0, 1) := by decide +kernel
theorem dX5_closes_5 : decode cX5_closes 5 = .ok (.getfield 67, 3) := by decide +kernel
theorem dX5_closes_8 : decode cX5_closes 8 = .ok (.ifCond .ne 71, 3) := by decide +kernel
theorem dX5_closes_11 : decode cX5_closes 11 = .ok (.aload_n 0, 1) := by decide +kernel
theorem dX5_closes_12 : decode cX5_closes 12 = .ok (.getfield 70, 3) := by decide +kernel
theorem dX5_closes_15 : decode cX5_closes 15 = .ok (.ifCond .le 64, 3) := by decide +kernel
theorem dX5_closes_18 : decode cX5_closes 18 = .ok (.aload_n 0, 1) := by decide +kernel
theorem dX5_closes_19 : decode cX5_closes 19 = .ok (.invokevirtual 73, 3) := by decide +kernel
theorem dX5_closes_22 : decode cX5_closes 22 = .ok (.bipush 41, 2) := by decide +kernel
theorem dX5_closes_24 : decode cX5_closes 24 = .ok (.if_icmp .ne 55, 3) := by decide +kernel
theorem dX5_closes_27 : decode cX5_closes 27 = .ok (.aload_n 0, 1) := by decide +kernel
theorem dX5_closes_28 : decode cX5_closes 28 = .ok (.dup, 1) := by decide +kernel
theorem dX5_closes_29 : decode cX5_closes 29 = .ok (.getfield 64, 3) := by decide +kernel
theorem dX5_closes_32 : decode cX5_closes 32 = .ok (.iconst 1, 1) := by decide +kernel
theorem dX5_closes_33 : decode cX5_closes 33 = .ok (.iadd, 1) := by decide +kernel
theorem dX5_closes_34 : decode cX5_closes 34 = .ok (.putfield 64, 3) := by decide +kernel
theorem dX5_closes_37 : decode cX5_closes 37 = .ok (.aload_n 0, 1) := by decide +kernel
theorem dX5_closes_38 : decode cX5_closes 38 = .ok (.invokevirtual 87, 3) := by decide +kernel
theorem dX5_closes_41 : decode cX5_closes 41 = .ok (.aload_n 0, 1) := by decide +kernel
theorem dX5_closes_42 : decode cX5_closes 42 = .ok (.getfield 34, 3) := by decide +kernel
theorem dX5_closes_45 : decode cX5_closes 45 = .ok (.bipush 10, 2) := by decide +kernel
theorem dX5_closes_47 : decode cX5_closes 47 = .ok (.aload_n 0, 1) := by decide +kernel
theorem dX5_closes_48 : decode cX5_closes 48 = .ok (.getfield 70, 3) := by decide +kernel
theorem dX5_closes_51 : decode cX5_closes 51 = .ok (.imul, 1) := by decide +kernel
theorem dX5_closes_52 : decode cX5_closes 52 = .ok (.aload_n 0, 1) := by decide +kernel
theorem dX5_closes_53 : decode cX5_closes 53 = .ok (.getfield 40, 3) := by decide +kernel
theorem dX5_closes_56 : decode cX5_closes 56 = .ok (.iconst 0, 1) := by decide +kernel
theorem dX5_closes_57 : decode cX5_closes 57 = .ok (.bipush 10, 2) := by decide +kernel
theorem dX5_closes_59 : decode cX5_closes 59 = .ok (.invokestatic 90, 3) := by decide +kernel
theorem dX5_closes_62 : decode cX5_closes 62 = .ok (.aload_n 0, 1) := by decide +kernel
theorem dX5_closes_63 : decode cX5_closes 63 = .ok (.dup, 1) := by decide +kernel
theorem dX5_closes_64 : decode cX5_closes 64 = .ok (.getfield 70, 3) := by decide +kernel
theorem dX5_closes_67 : decode cX5_closes 67 = .ok (.iconst 1, 1) := by decide +kernel
theorem dX5_closes_68 : decode cX5_closes 68 = .ok (.isub, 1) := by decide +kernel
theorem dX5_closes_69 : decode cX5_closes 69 = .ok (.putfield 70, 3) := by decide +kernel
theorem dX5_closes_72 : decode cX5_closes 72 = .ok (.aload_n 0, 1) := by decide +kernel
theorem dX5_closes_73 : decode cX5_closes 73 = .ok (.invokevirtual 84, 3) := by decide +kernel
theorem dX5_closes_76 : decode cX5_closes 76 = .ok (.goto (-72), 3) := by decide +kernel
theorem dX5_closes_79 : decode cX5_closes 79 = .ok (.aload_n 0, 1) := by decide +kernel
theorem dX5_closes_80 : decode cX5_closes 80 = .ok (.getfield 67, 3) := by decide +kernel
theorem dX5_closes_83 : decode cX5_closes 83 = .ok (.ifCond .ne 7, 3) := by decide +kernel
theorem dX5_closes_86 : decode cX5_closes 86 = .ok (.aload_n 0, 1) := by decide +kernel
theorem dX5_closes_87 : decode cX5_closes 87 = .ok (.invokevirtual 87, 3) := by decide +kernel
theorem dX5_closes_90 : decode cX5_closes 90 = .ok (.return_, 1) := by decide +kernel
set_option maxRecDepth 20000 in
theorem ggX5_readsSide_X5_opens : GoodIn wsX5_readsSide wsX5_opens := goodIn_r _ [9, 4, 3, 10, 44, 45, 46, 47, 48, 49, 50, 51, 52, 53, 54, 55, 56, 57, 58, 59, 60, 61, 62, 63, 64] (by decide +kernel) (by decide +kernel)
set_option maxRecDepth 20000 in
theorem gX5_readsSide_X5_opens : GoodIn wsX5_readsSide (wsV RX5 81 RX5 yX5_opens wsX5_opens) := goodIn_app (goodIn_of _ (by decide +kernel)) ggX5_readsSide_X5_opens
set_option maxRecDepth 20000 in
theorem ggX5_readsSide_X5_readsLetter : GoodIn wsX5_readsSide wsX5_readsLetter := goodIn_r _ [14, 15, 4, 2, 16, 17, 18, 8, 19, 20, 21, 22, 23, 24, 25, 26, 27, 28, 1, 5, 6, 7, 9, 3, 10, 44, 45, 46, 47, 48, 49, 50, 51, 52, 53, 54, 55, 56, 57, 58, 59, 60, 61, 62, 63, 64] (by decide +kernel) (by decide +kernel)
set_option maxRecDepth 20000 in
theorem gX5_readsSide_X5_readsLetter : GoodIn wsX5_readsSide (wsV RX5 94 RX5 yX5_readsLetter wsX5_readsLetter) := goodIn_app (goodIn_of _ (by decide +kernel)) ggX5_readsSide_X5_readsLetter
set_option maxRecDepth 20000 in
theorem ggX5_readsSide_X5_closes : GoodIn wsX5_readsSide wsX5_closes := goodIn_r _ [32, 1, 4, 2, 10, 15, 33, 34, 35, 8, 36, 16, 17, 18, 19, 20, 21, 22, 23, 24, 25, 26, 27, 28, 37, 38, 39, 40, 3, 41, 42, 43, 44, 45, 46, 47, 48, 49, 50, 51, 52, 53, 54, 55, 56, 57, 58, 59, 60, 61, 62, 63, 64] (by decide +kernel) (by decide +kernel)
set_option maxRecDepth 20000 in
theorem gX5_readsSide_X5_closes : GoodIn wsX5_readsSide (wsV RX5 98 RX5 yX5_closes wsX5_closes) := goodIn_app (goodIn_of _ (by decide +kernel)) ggX5_readsSide_X5_closes
set_option maxRecDepth 20000 in
theorem ggX5_readsSide_X5_here : GoodIn wsX5_readsSide wsX5_here := goodIn_r _ [19, 2, 20, 21, 44, 45, 46, 47, 48, 49, 50, 51, 52, 53, 54, 55, 56, 57, 58, 59, 60, 61, 62, 63, 64] (by decide +kernel) (by decide +kernel)
set_option maxRecDepth 20000 in
theorem gX5_readsSide_X5_here : GoodIn wsX5_readsSide (wsV RX5 73 RX5 yX5_here wsX5_here) := goodIn_app (goodIn_of _ (by decide +kernel)) ggX5_readsSide_X5_here
set_option maxRecDepth 20000 in
theorem ggX5_readsSide_X5_fails : GoodIn wsX5_readsSide wsX5_fails := goodIn_r _ [28, 1, 44, 45, 46, 47, 48, 49, 50, 51, 52, 53, 54, 55, 56, 57, 58, 59, 60, 61, 62, 63, 64] (by decide +kernel) (by decide +kernel)
set_option maxRecDepth 20000 in
theorem gX5_readsSide_X5_fails : GoodIn wsX5_readsSide (wsV RX5 77 RX5 yX5_fails wsX5_fails) := goodIn_app (goodIn_of _ (by decide +kernel)) ggX5_readsSide_X5_fails
theorem dX5_readsSide_0 : decode cX5_readsSide 0 = .ok (.aload_n 0, 1) := by decide +kernel
theorem dX5_readsSide_1 : decode cX5_readsSide 1 = .ok (.iconst 0, 1) := by decide +kernel
theorem dX5_readsSide_2 : decode cX5_readsSide 2 = .ok (.invokevirtual 81, 3) := by decide +kernel
theorem dX5_readsSide_5 : decode cX5_readsSide 5 = .ok (.aload_n 0, 1) := by decide +kernel
theorem dX5_readsSide_6 : decode cX5_readsSide 6 = .ok (.getfield 67, 3) := by decide +kernel
theorem dX5_readsSide_9 : decode cX5_readsSide 9 = .ok (.ifCond .ne 74, 3) := by decide +kernel
theorem dX5_readsSide_12 : decode cX5_readsSide 12 = .ok (.aload_n 0, 1) := by decide +kernel
theorem dX5_readsSide_13 : decode cX5_readsSide 13 = .ok (.invokevirtual 94, 3) := by decide +kernel
theorem dX5_readsSide_16 : decode cX5_readsSide 16 = .ok (.ifCond .eq (-11), 3) := by decide +kernel
theorem dX5_readsSide_19 : decode cX5_readsSide 19 = .ok (.aload_n 0, 1) := by decide +kernel
theorem dX5_readsSide_20 : decode cX5_readsSide 20 = .ok (.invokevirtual 98, 3) := by decide +kernel
theorem dX5_readsSide_23 : decode cX5_readsSide 23 = .ok (.aload_n 0, 1) := by decide +kernel
theorem dX5_readsSide_24 : decode cX5_readsSide 24 = .ok (.invokevirtual 73, 3) := by decide +kernel
theorem dX5_readsSide_27 : decode cX5_readsSide 27 = .ok (.istore_n 1, 1) := by decide +kernel
theorem dX5_readsSide_28 : decode cX5_readsSide 28 = .ok (.aload_n 0, 1) := by decide +kernel
theorem dX5_readsSide_29 : decode cX5_readsSide 29 = .ok (.getfield 67, 3) := by decide +kernel
theorem dX5_readsSide_32 : decode cX5_readsSide 32 = .ok (.ifCond .ne 51, 3) := by decide +kernel
theorem dX5_readsSide_35 : decode cX5_readsSide 35 = .ok (.iload_n 1, 1) := by decide +kernel
theorem dX5_readsSide_36 : decode cX5_readsSide 36 = .ok (.bipush 42, 2) := by decide +kernel
theorem dX5_readsSide_38 : decode cX5_readsSide 38 = .ok (.if_icmp .eq 12, 3) := by decide +kernel
theorem dX5_readsSide_41 : decode cX5_readsSide 41 = .ok (.iload_n 1, 1) := by decide +kernel
theorem dX5_readsSide_42 : decode cX5_readsSide 42 = .ok (.bipush 47, 2) := by decide +kernel
theorem dX5_readsSide_44 : decode cX5_readsSide 44 = .ok (.if_icmp .eq 6, 3) := by decide +kernel
theorem dX5_readsSide_47 : decode cX5_readsSide 47 = .ok (.goto 36, 3) := by decide +kernel
theorem dX5_readsSide_50 : decode cX5_readsSide 50 = .ok (.aload_n 0, 1) := by decide +kernel
theorem dX5_readsSide_51 : decode cX5_readsSide 51 = .ok (.dup, 1) := by decide +kernel
theorem dX5_readsSide_52 : decode cX5_readsSide 52 = .ok (.getfield 64, 3) := by decide +kernel
theorem dX5_readsSide_55 : decode cX5_readsSide 55 = .ok (.iconst 1, 1) := by decide +kernel
theorem dX5_readsSide_56 : decode cX5_readsSide 56 = .ok (.iadd, 1) := by decide +kernel
theorem dX5_readsSide_57 : decode cX5_readsSide 57 = .ok (.putfield 64, 3) := by decide +kernel
theorem dX5_readsSide_60 : decode cX5_readsSide 60 = .ok (.aload_n 0, 1) := by decide +kernel
theorem dX5_readsSide_61 : decode cX5_readsSide 61 = .ok (.getfield 37, 3) := by decide +kernel
theorem dX5_readsSide_64 : decode cX5_readsSide 64 = .ok (.aload_n 0, 1) := by decide +kernel
theorem dX5_readsSide_65 : decode cX5_readsSide 65 = .ok (.getfield 70, 3) := by decide +kernel
theorem dX5_readsSide_68 : decode cX5_readsSide 68 = .ok (.iload_n 1, 1) := by decide +kernel
theorem dX5_readsSide_69 : decode cX5_readsSide 69 = .ok (.bipush 42, 2) := by decide +kernel
theorem dX5_readsSide_71 : decode cX5_readsSide 71 = .ok (.if_icmp .ne 7, 3) := by decide +kernel
theorem dX5_readsSide_74 : decode cX5_readsSide 74 = .ok (.iconst 1, 1) := by decide +kernel
theorem dX5_readsSide_75 : decode cX5_readsSide 75 = .ok (.goto 4, 3) := by decide +kernel
theorem dX5_readsSide_78 : decode cX5_readsSide 78 = .ok (.iconst (-1), 1) := by decide +kernel
theorem dX5_readsSide_79 : decode cX5_readsSide 79 = .ok (.iastore, 1) := by decide +kernel
theorem dX5_readsSide_80 : decode cX5_readsSide 80 = .ok (.goto (-75), 3) := by decide +kernel
theorem dX5_readsSide_83 : decode cX5_readsSide 83 = .ok (.aload_n 0, 1) := by decide +kernel
theorem dX5_readsSide_84 : decode cX5_readsSide 84 = .ok (.getfield 67, 3) := by decide +kernel
theorem dX5_readsSide_87 : decode cX5_readsSide 87 = .ok (.ifCond .ne 15, 3) := by decide +kernel
theorem dX5_readsSide_90 : decode cX5_readsSide 90 = .ok (.aload_n 0, 1) := by decide +kernel
theorem dX5_readsSide_91 : decode cX5_readsSide 91 = .ok (.getfield 70, 3) := by decide +kernel
theorem dX5_readsSide_94 : decode cX5_readsSide 94 = .ok (.ifCond .le 8, 3) := by decide +kernel
theorem dX5_readsSide_97 : decode cX5_readsSide 97 = .ok (.aload_n 0, 1) := by decide +kernel
theorem dX5_readsSide_98 : decode cX5_readsSide 98 = .ok (.iconst 1, 1) := by decide +kernel
theorem dX5_readsSide_99 : decode cX5_readsSide 99 = .ok (.invokevirtual 77, 3) := by decide +kernel
theorem dX5_readsSide_102 : decode cX5_readsSide 102 = .ok (.aload_n 0, 1) := by decide +kernel
theorem dX5_readsSide_103 : decode cX5_readsSide 103 = .ok (.invokevirtual 73, 3) := by decide +kernel
theorem dX5_readsSide_106 : decode cX5_readsSide 106 = .ok (.ireturn, 1) := by decide +kernel
set_option maxRecDepth 20000 in
theorem ggX5_reads_X5_readsSide : GoodIn wsX5_reads wsX5_readsSide := goodIn_r _ [11, 2, 1, 12, 13, 14, 15, 16, 10, 17, 3, 18, 19, 20, 21, 22, 23, 24, 25, 26, 5, 27, 28, 29, 30, 31, 32, 33, 34, 35, 36, 37, 38, 39, 40, 41, 42, 43, 44, 45, 46, 47, 48, 49, 50, 51, 52, 53, 54, 55, 56, 57, 58, 59, 60, 61, 62, 63, 64, 65, 66, 67, 68, 69, 70] (by decide +kernel) (by decide +kernel)
set_option maxRecDepth 20000 in
theorem gX5_reads_X5_readsSide : GoodIn wsX5_reads (wsV RX5 101 RX5 yX5_readsSide wsX5_readsSide) := goodIn_app (goodIn_of _ (by decide +kernel)) ggX5_reads_X5_readsSide
set_option maxRecDepth 20000 in
theorem ggX5_reads_X5_bring : GoodIn wsX5_reads wsX5_bring := goodIn_r _ [49] (by decide +kernel) (by decide +kernel)
set_option maxRecDepth 20000 in
theorem gX5_reads_X5_bring : GoodIn wsX5_reads (va_wsS RX5 90 yX5_bring wsX5_bring) := goodIn_app (goodIn_of _ (by decide +kernel)) ggX5_reads_X5_bring
set_option maxRecDepth 20000 in
theorem ggX5_reads_X5_fails : GoodIn wsX5_reads wsX5_fails := goodIn_r _ [34, 2, 50, 51, 52, 53, 54, 55, 56, 57, 58, 59, 60, 61, 62, 63, 64, 65, 66, 67, 68, 69, 70] (by decide +kernel) (by decide +kernel)
set_option maxRecDepth 20000 in
theorem gX5_reads_X5_fails : GoodIn wsX5_reads (wsV RX5 77 RX5 yX5_fails wsX5_fails) := goodIn_app (goodIn_of _ (by decide +kernel)) ggX5_reads_X5_fails
set_option maxRecDepth 20000 in
theorem ggX5_reads_X5_in : GoodIn wsX5_reads wsX5_in := goodIn_r _ [30] (by decide +kernel) (by decide +kernel)
set_option maxRecDepth 20000 in
theorem gX5_reads_X5_in : GoodIn wsX5_reads (va_wsS RX5 55 yX5_in wsX5_in) := goodIn_app (goodIn_of _ (by decide +kernel)) ggX5_reads_X5_in
theorem dX5_reads_0 : decode cX5_reads 0 = .ok (.aload_n 0, 1) := by decide +kernel
theorem dX5_reads_1 : decode cX5_reads 1 = .ok (.iconst 0, 1) := by decide +kernel
theorem dX5_reads_2 : decode cX5_reads 2 = .ok (.putfield 64, 3) := by decide +kernel
theorem dX5_reads_5 : decode cX5_reads 5 = .ok (.aload_n 0, 1) := by decide +kernel
theorem dX5_reads_6 : decode cX5_reads 6 = .ok (.iconst 0, 1) := by decide +kernel
theorem dX5_reads_7 : decode cX5_reads 7 = .ok (.putfield 67, 3) := by decide +kernel
theorem dX5_reads_10 : decode cX5_reads 10 = .ok (.aload_n 0, 1) := by decide +kernel
theorem dX5_reads_11 : decode cX5_reads 11 = .ok (.invokevirtual 101, 3) := by decide +kernel
theorem dX5_reads_14 : decode cX5_reads 14 = .ok (.istore_n 2, 1) := by decide +kernel
theorem dX5_reads_15 : decode cX5_reads 15 = .ok (.aload_n 0, 1) := by decide +kernel
theorem dX5_reads_16 : decode cX5_reads 16 = .ok (.getfield 34, 3) := by decide +kernel
theorem dX5_reads_19 : decode cX5_reads 19 = .ok (.iconst 0, 1) := by decide +kernel
theorem dX5_reads_20 : decode cX5_reads 20 = .ok (.aload_n 0, 1) := by decide +kernel
theorem dX5_reads_21 : decode cX5_reads 21 = .ok (.getfield 43, 3) := by decide +kernel
theorem dX5_reads_24 : decode cX5_reads 24 = .ok (.iconst 0, 1) := by decide +kernel
theorem dX5_reads_25 : decode cX5_reads 25 = .ok (.bipush 10, 2) := by decide +kernel
theorem dX5_reads_27 : decode cX5_reads 27 = .ok (.invokestatic 90, 3) := by decide +kernel
theorem dX5_reads_30 : decode cX5_reads 30 = .ok (.aload_n 0, 1) := by decide +kernel
theorem dX5_reads_31 : decode cX5_reads 31 = .ok (.getfield 67, 3) := by decide +kernel
theorem dX5_reads_34 : decode cX5_reads 34 = .ok (.ifCond .ne 65, 3) := by decide +kernel
theorem dX5_reads_37 : decode cX5_reads 37 = .ok (.iload_n 1, 1) := by decide +kernel
theorem dX5_reads_38 : decode cX5_reads 38 = .ok (.ifCond .eq 61, 3) := by decide +kernel
theorem dX5_reads_41 : decode cX5_reads 41 = .ok (.iload_n 2, 1) := by decide +kernel
theorem dX5_reads_42 : decode cX5_reads 42 = .ok (.bipush 61, 2) := by decide +kernel
theorem dX5_reads_44 : decode cX5_reads 44 = .ok (.if_icmp .ne 50, 3) := by decide +kernel
theorem dX5_reads_47 : decode cX5_reads 47 = .ok (.aload_n 0, 1) := by decide +kernel
theorem dX5_reads_48 : decode cX5_reads 48 = .ok (.dup, 1) := by decide +kernel
theorem dX5_reads_49 : decode cX5_reads 49 = .ok (.getfield 64, 3) := by decide +kernel
theorem dX5_reads_52 : decode cX5_reads 52 = .ok (.iconst 1, 1) := by decide +kernel
theorem dX5_reads_53 : decode cX5_reads 53 = .ok (.iadd, 1) := by decide +kernel
theorem dX5_reads_54 : decode cX5_reads 54 = .ok (.putfield 64, 3) := by decide +kernel
theorem dX5_reads_57 : decode cX5_reads 57 = .ok (.aload_n 0, 1) := by decide +kernel
theorem dX5_reads_58 : decode cX5_reads 58 = .ok (.invokevirtual 101, 3) := by decide +kernel
theorem dX5_reads_61 : decode cX5_reads 61 = .ok (.istore_n 2, 1) := by decide +kernel
theorem dX5_reads_62 : decode cX5_reads 62 = .ok (.iconst 0, 1) := by decide +kernel
theorem dX5_reads_63 : decode cX5_reads 63 = .ok (.istore_n 3, 1) := by decide +kernel
theorem dX5_reads_64 : decode cX5_reads 64 = .ok (.iload_n 3, 1) := by decide +kernel
theorem dX5_reads_65 : decode cX5_reads 65 = .ok (.bipush 10, 2) := by decide +kernel
theorem dX5_reads_67 : decode cX5_reads 67 = .ok (.if_icmp .ge 24, 3) := by decide +kernel
theorem dX5_reads_70 : decode cX5_reads 70 = .ok (.aload_n 0, 1) := by decide +kernel
theorem dX5_reads_71 : decode cX5_reads 71 = .ok (.getfield 43, 3) := by decide +kernel
theorem dX5_reads_74 : decode cX5_reads 74 = .ok (.iload_n 3, 1) := by decide +kernel
theorem dX5_reads_75 : decode cX5_reads 75 = .ok (.dup2, 1) := by decide +kernel
theorem dX5_reads_76 : decode cX5_reads 76 = .ok (.iaload, 1) := by decide +kernel
theorem dX5_reads_77 : decode cX5_reads 77 = .ok (.aload_n 0, 1) := by decide +kernel
theorem dX5_reads_78 : decode cX5_reads 78 = .ok (.getfield 34, 3) := by decide +kernel
theorem dX5_reads_81 : decode cX5_reads 81 = .ok (.iload_n 3, 1) := by decide +kernel
theorem dX5_reads_82 : decode cX5_reads 82 = .ok (.iaload, 1) := by decide +kernel
theorem dX5_reads_83 : decode cX5_reads 83 = .ok (.isub, 1) := by decide +kernel
theorem dX5_reads_84 : decode cX5_reads 84 = .ok (.iastore, 1) := by decide +kernel
theorem dX5_reads_85 : decode cX5_reads 85 = .ok (.iinc 3 1, 3) := by decide +kernel
theorem dX5_reads_88 : decode cX5_reads 88 = .ok (.goto (-24), 3) := by decide +kernel
theorem dX5_reads_91 : decode cX5_reads 91 = .ok (.goto 8, 3) := by decide +kernel
theorem dX5_reads_94 : decode cX5_reads 94 = .ok (.aload_n 0, 1) := by decide +kernel
theorem dX5_reads_95 : decode cX5_reads 95 = .ok (.iconst 1, 1) := by decide +kernel
theorem dX5_reads_96 : decode cX5_reads 96 = .ok (.invokevirtual 77, 3) := by decide +kernel
theorem dX5_reads_99 : decode cX5_reads 99 = .ok (.aload_n 0, 1) := by decide +kernel
theorem dX5_reads_100 : decode cX5_reads 100 = .ok (.getfield 67, 3) := by decide +kernel
theorem dX5_reads_103 : decode cX5_reads 103 = .ok (.ifCond .ne 13, 3) := by decide +kernel
theorem dX5_reads_106 : decode cX5_reads 106 = .ok (.iload_n 2, 1) := by decide +kernel
theorem dX5_reads_107 : decode cX5_reads 107 = .ok (.iconst (-1), 1) := by decide +kernel
theorem dX5_reads_108 : decode cX5_reads 108 = .ok (.if_icmp .eq 8, 3) := by decide +kernel
theorem dX5_reads_111 : decode cX5_reads 111 = .ok (.aload_n 0, 1) := by decide +kernel
theorem dX5_reads_112 : decode cX5_reads 112 = .ok (.iconst 1, 1) := by decide +kernel
theorem dX5_reads_113 : decode cX5_reads 113 = .ok (.invokevirtual 77, 3) := by decide +kernel
theorem dX5_reads_116 : decode cX5_reads 116 = .ok (.iconst 0, 1) := by decide +kernel
theorem dX5_reads_117 : decode cX5_reads 117 = .ok (.istore_n 3, 1) := by decide +kernel
theorem dX5_reads_118 : decode cX5_reads 118 = .ok (.iload_n 3, 1) := by decide +kernel
theorem dX5_reads_119 : decode cX5_reads 119 = .ok (.bipush 10, 2) := by decide +kernel
theorem dX5_reads_121 : decode cX5_reads 121 = .ok (.if_icmp .ge 41, 3) := by decide +kernel
theorem dX5_reads_124 : decode cX5_reads 124 = .ok (.aload_n 0, 1) := by decide +kernel
theorem dX5_reads_125 : decode cX5_reads 125 = .ok (.getfield 67, 3) := by decide +kernel
theorem dX5_reads_128 : decode cX5_reads 128 = .ok (.ifCond .ne 34, 3) := by decide +kernel
theorem dX5_reads_131 : decode cX5_reads 131 = .ok (.aload_n 0, 1) := by decide +kernel
theorem dX5_reads_132 : decode cX5_reads 132 = .ok (.aload_n 0, 1) := by decide +kernel
theorem dX5_reads_133 : decode cX5_reads 133 = .ok (.getfield 43, 3) := by decide +kernel
theorem dX5_reads_136 : decode cX5_reads 136 = .ok (.iload_n 3, 1) := by decide +kernel
theorem dX5_reads_137 : decode cX5_reads 137 = .ok (.iaload, 1) := by decide +kernel
theorem dX5_reads_138 : decode cX5_reads 138 = .ok (.bipush (-9), 2) := by decide +kernel
theorem dX5_reads_140 : decode cX5_reads 140 = .ok (.bipush 9, 2) := by decide +kernel
theorem dX5_reads_142 : decode cX5_reads 142 = .ok (.invokestatic 55, 3) := by decide +kernel
theorem dX5_reads_145 : decode cX5_reads 145 = .ok (.ifCond .eq 7, 3) := by decide +kernel
theorem dX5_reads_148 : decode cX5_reads 148 = .ok (.iconst 0, 1) := by decide +kernel
theorem dX5_reads_149 : decode cX5_reads 149 = .ok (.goto 4, 3) := by decide +kernel
theorem dX5_reads_152 : decode cX5_reads 152 = .ok (.iconst 3, 1) := by decide +kernel
theorem dX5_reads_153 : decode cX5_reads 153 = .ok (.putfield 67, 3) := by decide +kernel
theorem dX5_reads_156 : decode cX5_reads 156 = .ok (.iinc 3 1, 3) := by decide +kernel
theorem dX5_reads_159 : decode cX5_reads 159 = .ok (.goto (-41), 3) := by decide +kernel
theorem dX5_reads_162 : decode cX5_reads 162 = .ok (.aload_n 0, 1) := by decide +kernel
theorem dX5_reads_163 : decode cX5_reads 163 = .ok (.aload_n 0, 1) := by decide +kernel
theorem dX5_reads_164 : decode cX5_reads 164 = .ok (.getfield 67, 3) := by decide +kernel
theorem dX5_reads_167 : decode cX5_reads 167 = .ok (.ifCond .ne 7, 3) := by decide +kernel
theorem dX5_reads_170 : decode cX5_reads 170 = .ok (.iconst (-1), 1) := by decide +kernel
theorem dX5_reads_171 : decode cX5_reads 171 = .ok (.goto 22, 3) := by decide +kernel
theorem dX5_reads_174 : decode cX5_reads 174 = .ok (.aload_n 0, 1) := by decide +kernel
theorem dX5_reads_175 : decode cX5_reads 175 = .ok (.getfield 67, 3) := by decide +kernel
theorem dX5_reads_178 : decode cX5_reads 178 = .ok (.iconst 3, 1) := by decide +kernel
theorem dX5_reads_179 : decode cX5_reads 179 = .ok (.if_icmp .ne 10, 3) := by decide +kernel
theorem dX5_reads_182 : decode cX5_reads 182 = .ok (.aload_n 0, 1) := by decide +kernel
theorem dX5_reads_183 : decode cX5_reads 183 = .ok (.getfield 60, 3) := by decide +kernel
theorem dX5_reads_186 : decode cX5_reads 186 = .ok (.goto 7, 3) := by decide +kernel
theorem dX5_reads_189 : decode cX5_reads 189 = .ok (.aload_n 0, 1) := by decide +kernel
theorem dX5_reads_190 : decode cX5_reads 190 = .ok (.getfield 64, 3) := by decide +kernel
theorem dX5_reads_193 : decode cX5_reads 193 = .ok (.putfield 13, 3) := by decide +kernel
theorem dX5_reads_196 : decode cX5_reads 196 = .ok (.aload_n 0, 1) := by decide +kernel
theorem dX5_reads_197 : decode cX5_reads 197 = .ok (.iconst 0, 1) := by decide +kernel
theorem dX5_reads_198 : decode cX5_reads 198 = .ok (.putfield 60, 3) := by decide +kernel
theorem dX5_reads_201 : decode cX5_reads 201 = .ok (.aload_n 0, 1) := by decide +kernel
theorem dX5_reads_202 : decode cX5_reads 202 = .ok (.getfield 67, 3) := by decide +kernel
theorem dX5_reads_205 : decode cX5_reads 205 = .ok (.ireturn, 1) := by decide +kernel
theorem dX5_startsFree_0 : decode cX5_startsFree 0 = .ok (.aload_n 0, 1) := by decide +kernel
theorem dX5_startsFree_1 : decode cX5_startsFree 1 = .ok (.bipush 6, 2) := by decide +kernel
theorem dX5_startsFree_3 : decode cX5_startsFree 3 = .ok (.putfield 104, 3) := by decide +kernel
theorem dX5_startsFree_6 : decode cX5_startsFree 6 = .ok (.iconst 0, 1) := by decide +kernel
theorem dX5_startsFree_7 : decode cX5_startsFree 7 = .ok (.istore_n 1, 1) := by decide +kernel
theorem dX5_startsFree_8 : decode cX5_startsFree 8 = .ok (.iload_n 1, 1) := by decide +kernel
theorem dX5_startsFree_9 : decode cX5_startsFree 9 = .ok (.bipush 36, 2) := by decide +kernel
theorem dX5_startsFree_11 : decode cX5_startsFree 11 = .ok (.if_icmp .ge 27, 3) := by decide +kernel
theorem dX5_startsFree_14 : decode cX5_startsFree 14 = .ok (.aload_n 0, 1) := by decide +kernel
theorem dX5_startsFree_15 : decode cX5_startsFree 15 = .ok (.getfield 46, 3) := by decide +kernel
theorem dX5_startsFree_18 : decode cX5_startsFree 18 = .ok (.iload_n 1, 1) := by decide +kernel
theorem dX5_startsFree_19 : decode cX5_startsFree 19 = .ok (.iload_n 1, 1) := by decide +kernel
theorem dX5_startsFree_20 : decode cX5_startsFree 20 = .ok (.bipush 7, 2) := by decide +kernel
theorem dX5_startsFree_22 : decode cX5_startsFree 22 = .ok (.irem, 1) := by decide +kernel
theorem dX5_startsFree_23 : decode cX5_startsFree 23 = .ok (.ifCond .ne 7, 3) := by decide +kernel
theorem dX5_startsFree_26 : decode cX5_startsFree 26 = .ok (.lconst 1, 1) := by decide +kernel
theorem dX5_startsFree_27 : decode cX5_startsFree 27 = .ok (.goto 4, 3) := by decide +kernel
theorem dX5_startsFree_30 : decode cX5_startsFree 30 = .ok (.lconst 0, 1) := by decide +kernel
theorem dX5_startsFree_31 : decode cX5_startsFree 31 = .ok (.lastore, 1) := by decide +kernel
theorem dX5_startsFree_32 : decode cX5_startsFree 32 = .ok (.iinc 1 1, 3) := by decide +kernel
theorem dX5_startsFree_35 : decode cX5_startsFree 35 = .ok (.goto (-27), 3) := by decide +kernel
theorem dX5_startsFree_38 : decode cX5_startsFree 38 = .ok (.iconst 0, 1) := by decide +kernel
theorem dX5_startsFree_39 : decode cX5_startsFree 39 = .ok (.istore_n 1, 1) := by decide +kernel
theorem dX5_startsFree_40 : decode cX5_startsFree 40 = .ok (.iload_n 1, 1) := by decide +kernel
theorem dX5_startsFree_41 : decode cX5_startsFree 41 = .ok (.bipush 24, 2) := by decide +kernel
theorem dX5_startsFree_43 : decode cX5_startsFree 43 = .ok (.if_icmp .ge 16, 3) := by decide +kernel
theorem dX5_startsFree_46 : decode cX5_startsFree 46 = .ok (.aload_n 0, 1) := by decide +kernel
theorem dX5_startsFree_47 : decode cX5_startsFree 47 = .ok (.getfield 49, 3) := by decide +kernel
theorem dX5_startsFree_50 : decode cX5_startsFree 50 = .ok (.iload_n 1, 1) := by decide +kernel
theorem dX5_startsFree_51 : decode cX5_startsFree 51 = .ok (.lconst 0, 1) := by decide +kernel
theorem dX5_startsFree_52 : decode cX5_startsFree 52 = .ok (.lastore, 1) := by decide +kernel
theorem dX5_startsFree_53 : decode cX5_startsFree 53 = .ok (.iinc 1 1, 3) := by decide +kernel
theorem dX5_startsFree_56 : decode cX5_startsFree 56 = .ok (.goto (-16), 3) := by decide +kernel
theorem dX5_startsFree_59 : decode cX5_startsFree 59 = .ok (.return_, 1) := by decide +kernel
theorem dX5_takes_0 : decode cX5_takes 0 = .ok (.iconst 0, 1) := by decide +kernel
theorem dX5_takes_1 : decode cX5_takes 1 = .ok (.istore 5, 2) := by decide +kernel
theorem dX5_takes_3 : decode cX5_takes 3 = .ok (.iload 5, 2) := by decide +kernel
theorem dX5_takes_5 : decode cX5_takes 5 = .ok (.bipush 6, 2) := by decide +kernel
theorem dX5_takes_7 : decode cX5_takes 7 = .ok (.if_icmp .ge 38, 3) := by decide +kernel
theorem dX5_takes_10 : decode cX5_takes 10 = .ok (.aload_n 0, 1) := by decide +kernel
theorem dX5_takes_11 : decode cX5_takes 11 = .ok (.getfield 46, 3) := by decide +kernel
theorem dX5_takes_14 : decode cX5_takes 14 = .ok (.bipush 6, 2) := by decide +kernel
theorem dX5_takes_16 : decode cX5_takes 16 = .ok (.iload_n 1, 1) := by decide +kernel
theorem dX5_takes_17 : decode cX5_takes 17 = .ok (.imul, 1) := by decide +kernel
theorem dX5_takes_18 : decode cX5_takes 18 = .ok (.iload 5, 2) := by decide +kernel
theorem dX5_takes_20 : decode cX5_takes 20 = .ok (.iadd, 1) := by decide +kernel
theorem dX5_takes_21 : decode cX5_takes 21 = .ok (.dup2, 1) := by decide +kernel
theorem dX5_takes_22 : decode cX5_takes 22 = .ok (.laload, 1) := by decide +kernel
theorem dX5_takes_23 : decode cX5_takes 23 = .ok (.lload_n 3, 1) := by decide +kernel
theorem dX5_takes_24 : decode cX5_takes 24 = .ok (.aload_n 0, 1) := by decide +kernel
theorem dX5_takes_25 : decode cX5_takes 25 = .ok (.getfield 46, 3) := by decide +kernel
theorem dX5_takes_28 : decode cX5_takes 28 = .ok (.bipush 6, 2) := by decide +kernel
theorem dX5_takes_30 : decode cX5_takes 30 = .ok (.iload_n 2, 1) := by decide +kernel
theorem dX5_takes_31 : decode cX5_takes 31 = .ok (.imul, 1) := by decide +kernel
theorem dX5_takes_32 : decode cX5_takes 32 = .ok (.iload 5, 2) := by decide +kernel
theorem dX5_takes_34 : decode cX5_takes 34 = .ok (.iadd, 1) := by decide +kernel
theorem dX5_takes_35 : decode cX5_takes 35 = .ok (.laload, 1) := by decide +kernel
theorem dX5_takes_36 : decode cX5_takes 36 = .ok (.lmul, 1) := by decide +kernel
theorem dX5_takes_37 : decode cX5_takes 37 = .ok (.lsub, 1) := by decide +kernel
theorem dX5_takes_38 : decode cX5_takes 38 = .ok (.lastore, 1) := by decide +kernel
theorem dX5_takes_39 : decode cX5_takes 39 = .ok (.iinc 5 1, 3) := by decide +kernel
theorem dX5_takes_42 : decode cX5_takes 42 = .ok (.goto (-39), 3) := by decide +kernel
theorem dX5_takes_45 : decode cX5_takes 45 = .ok (.aload_n 0, 1) := by decide +kernel
theorem dX5_takes_46 : decode cX5_takes 46 = .ok (.getfield 52, 3) := by decide +kernel
theorem dX5_takes_49 : decode cX5_takes 49 = .ok (.iload_n 1, 1) := by decide +kernel
theorem dX5_takes_50 : decode cX5_takes 50 = .ok (.dup2, 1) := by decide +kernel
theorem dX5_takes_51 : decode cX5_takes 51 = .ok (.laload, 1) := by decide +kernel
theorem dX5_takes_52 : decode cX5_takes 52 = .ok (.lload_n 3, 1) := by decide +kernel
theorem dX5_takes_53 : decode cX5_takes 53 = .ok (.aload_n 0, 1) := by decide +kernel
theorem dX5_takes_54 : decode cX5_takes 54 = .ok (.getfield 52, 3) := by decide +kernel
theorem dX5_takes_57 : decode cX5_takes 57 = .ok (.iload_n 2, 1) := by decide +kernel
theorem dX5_takes_58 : decode cX5_takes 58 = .ok (.laload, 1) := by decide +kernel
theorem dX5_takes_59 : decode cX5_takes 59 = .ok (.lmul, 1) := by decide +kernel
theorem dX5_takes_60 : decode cX5_takes 60 = .ok (.lsub, 1) := by decide +kernel
theorem dX5_takes_61 : decode cX5_takes 61 = .ok (.lastore, 1) := by decide +kernel
theorem dX5_takes_62 : decode cX5_takes 62 = .ok (.return_, 1) := by decide +kernel
theorem dX5_swaps_0 : decode cX5_swaps 0 = .ok (.iconst 0, 1) := by decide +kernel
theorem dX5_swaps_1 : decode cX5_swaps 1 = .ok (.istore_n 3, 1) := by decide +kernel
theorem dX5_swaps_2 : decode cX5_swaps 2 = .ok (.iload_n 3, 1) := by decide +kernel
theorem dX5_swaps_3 : decode cX5_swaps 3 = .ok (.bipush 6, 2) := by decide +kernel
theorem dX5_swaps_5 : decode cX5_swaps 5 = .ok (.if_icmp .ge 57, 3) := by decide +kernel
theorem dX5_swaps_8 : decode cX5_swaps 8 = .ok (.aload_n 0, 1) := by decide +kernel
theorem dX5_swaps_9 : decode cX5_swaps 9 = .ok (.getfield 46, 3) := by decide +kernel
theorem dX5_swaps_12 : decode cX5_swaps 12 = .ok (.bipush 6, 2) := by decide +kernel
theorem dX5_swaps_14 : decode cX5_swaps 14 = .ok (.iload_n 1, 1) := by decide +kernel
theorem dX5_swaps_15 : decode cX5_swaps 15 = .ok (.imul, 1) := by decide +kernel
theorem dX5_swaps_16 : decode cX5_swaps 16 = .ok (.iload_n 3, 1) := by decide +kernel
theorem dX5_swaps_17 : decode cX5_swaps 17 = .ok (.iadd, 1) := by decide +kernel
theorem dX5_swaps_18 : decode cX5_swaps 18 = .ok (.laload, 1) := by decide +kernel
theorem dX5_swaps_19 : decode cX5_swaps 19 = .ok (.lstore 4, 2) := by decide +kernel
theorem dX5_swaps_21 : decode cX5_swaps 21 = .ok (.aload_n 0, 1) := by decide +kernel
theorem dX5_swaps_22 : decode cX5_swaps 22 = .ok (.getfield 46, 3) := by decide +kernel
theorem dX5_swaps_25 : decode cX5_swaps 25 = .ok (.bipush 6, 2) := by decide +kernel
theorem dX5_swaps_27 : decode cX5_swaps 27 = .ok (.iload_n 1, 1) := by decide +kernel
theorem dX5_swaps_28 : decode cX5_swaps 28 = .ok (.imul, 1) := by decide +kernel
theorem dX5_swaps_29 : decode cX5_swaps 29 = .ok (.iload_n 3, 1) := by decide +kernel
theorem dX5_swaps_30 : decode cX5_swaps 30 = .ok (.iadd, 1) := by decide +kernel
theorem dX5_swaps_31 : decode cX5_swaps 31 = .ok (.aload_n 0, 1) := by decide +kernel
theorem dX5_swaps_32 : decode cX5_swaps 32 = .ok (.getfield 46, 3) := by decide +kernel
theorem dX5_swaps_35 : decode cX5_swaps 35 = .ok (.bipush 6, 2) := by decide +kernel
theorem dX5_swaps_37 : decode cX5_swaps 37 = .ok (.iload_n 2, 1) := by decide +kernel
theorem dX5_swaps_38 : decode cX5_swaps 38 = .ok (.imul, 1) := by decide +kernel
theorem dX5_swaps_39 : decode cX5_swaps 39 = .ok (.iload_n 3, 1) := by decide +kernel
theorem dX5_swaps_40 : decode cX5_swaps 40 = .ok (.iadd, 1) := by decide +kernel
theorem dX5_swaps_41 : decode cX5_swaps 41 = .ok (.laload, 1) := by decide +kernel
theorem dX5_swaps_42 : decode cX5_swaps 42 = .ok (.lastore, 1) := by decide +kernel
theorem dX5_swaps_43 : decode cX5_swaps 43 = .ok (.aload_n 0, 1) := by decide +kernel
theorem dX5_swaps_44 : decode cX5_swaps 44 = .ok (.getfield 46, 3) := by decide +kernel
theorem dX5_swaps_47 : decode cX5_swaps 47 = .ok (.bipush 6, 2) := by decide +kernel
theorem dX5_swaps_49 : decode cX5_swaps 49 = .ok (.iload_n 2, 1) := by decide +kernel
theorem dX5_swaps_50 : decode cX5_swaps 50 = .ok (.imul, 1) := by decide +kernel
theorem dX5_swaps_51 : decode cX5_swaps 51 = .ok (.iload_n 3, 1) := by decide +kernel
theorem dX5_swaps_52 : decode cX5_swaps 52 = .ok (.iadd, 1) := by decide +kernel
theorem dX5_swaps_53 : decode cX5_swaps 53 = .ok (.lload 4, 2) := by decide +kernel
theorem dX5_swaps_55 : decode cX5_swaps 55 = .ok (.lastore, 1) := by decide +kernel
theorem dX5_swaps_56 : decode cX5_swaps 56 = .ok (.iinc 3 1, 3) := by decide +kernel
theorem dX5_swaps_59 : decode cX5_swaps 59 = .ok (.goto (-57), 3) := by decide +kernel
theorem dX5_swaps_62 : decode cX5_swaps 62 = .ok (.aload_n 0, 1) := by decide +kernel
theorem dX5_swaps_63 : decode cX5_swaps 63 = .ok (.getfield 52, 3) := by decide +kernel
theorem dX5_swaps_66 : decode cX5_swaps 66 = .ok (.iload_n 1, 1) := by decide +kernel
theorem dX5_swaps_67 : decode cX5_swaps 67 = .ok (.laload, 1) := by decide +kernel
theorem dX5_swaps_68 : decode cX5_swaps 68 = .ok (.lstore_n 3, 1) := by decide +kernel
theorem dX5_swaps_69 : decode cX5_swaps 69 = .ok (.aload_n 0, 1) := by decide +kernel
theorem dX5_swaps_70 : decode cX5_swaps 70 = .ok (.getfield 52, 3) := by decide +kernel
theorem dX5_swaps_73 : decode cX5_swaps 73 = .ok (.iload_n 1, 1) := by decide +kernel
theorem dX5_swaps_74 : decode cX5_swaps 74 = .ok (.aload_n 0, 1) := by decide +kernel
theorem dX5_swaps_75 : decode cX5_swaps 75 = .ok (.getfield 52, 3) := by decide +kernel
theorem dX5_swaps_78 : decode cX5_swaps 78 = .ok (.iload_n 2, 1) := by decide +kernel
theorem dX5_swaps_79 : decode cX5_swaps 79 = .ok (.laload, 1) := by decide +kernel
theorem dX5_swaps_80 : decode cX5_swaps 80 = .ok (.lastore, 1) := by decide +kernel
theorem dX5_swaps_81 : decode cX5_swaps 81 = .ok (.aload_n 0, 1) := by decide +kernel
theorem dX5_swaps_82 : decode cX5_swaps 82 = .ok (.getfield 52, 3) := by decide +kernel
theorem dX5_swaps_85 : decode cX5_swaps 85 = .ok (.iload_n 2, 1) := by decide +kernel
theorem dX5_swaps_86 : decode cX5_swaps 86 = .ok (.lload_n 3, 1) := by decide +kernel
theorem dX5_swaps_87 : decode cX5_swaps 87 = .ok (.lastore, 1) := by decide +kernel
theorem dX5_swaps_88 : decode cX5_swaps 88 = .ok (.return_, 1) := by decide +kernel
theorem dX5_floor_0 : decode cX5_floor 0 = .ok (.lload_n 0, 1) := by decide +kernel
theorem dX5_floor_1 : decode cX5_floor 1 = .ok (.lload_n 2, 1) := by decide +kernel
theorem dX5_floor_2 : decode cX5_floor 2 = .ok (.ldiv, 1) := by decide +kernel
theorem dX5_floor_3 : decode cX5_floor 3 = .ok (.lstore 4, 2) := by decide +kernel
theorem dX5_floor_5 : decode cX5_floor 5 = .ok (.lload_n 0, 1) := by decide +kernel
theorem dX5_floor_6 : decode cX5_floor 6 = .ok (.lload_n 2, 1) := by decide +kernel
theorem dX5_floor_7 : decode cX5_floor 7 = .ok (.lrem, 1) := by decide +kernel
theorem dX5_floor_8 : decode cX5_floor 8 = .ok (.lconst 0, 1) := by decide +kernel
theorem dX5_floor_9 : decode cX5_floor 9 = .ok (.lcmp, 1) := by decide +kernel
theorem dX5_floor_10 : decode cX5_floor 10 = .ok (.ifCond .eq 35, 3) := by decide +kernel
theorem dX5_floor_13 : decode cX5_floor 13 = .ok (.lload_n 0, 1) := by decide +kernel
theorem dX5_floor_14 : decode cX5_floor 14 = .ok (.lconst 0, 1) := by decide +kernel
theorem dX5_floor_15 : decode cX5_floor 15 = .ok (.lcmp, 1) := by decide +kernel
theorem dX5_floor_16 : decode cX5_floor 16 = .ok (.ifCond .ge 7, 3) := by decide +kernel
theorem dX5_floor_19 : decode cX5_floor 19 = .ok (.iconst 1, 1) := by decide +kernel
theorem dX5_floor_20 : decode cX5_floor 20 = .ok (.goto 4, 3) := by decide +kernel
theorem dX5_floor_23 : decode cX5_floor 23 = .ok (.iconst 0, 1) := by decide +kernel
theorem dX5_floor_24 : decode cX5_floor 24 = .ok (.lload_n 2, 1) := by decide +kernel
theorem dX5_floor_25 : decode cX5_floor 25 = .ok (.lconst 0, 1) := by decide +kernel
theorem dX5_floor_26 : decode cX5_floor 26 = .ok (.lcmp, 1) := by decide +kernel
theorem dX5_floor_27 : decode cX5_floor 27 = .ok (.ifCond .ge 7, 3) := by decide +kernel
theorem dX5_floor_30 : decode cX5_floor 30 = .ok (.iconst 1, 1) := by decide +kernel
theorem dX5_floor_31 : decode cX5_floor 31 = .ok (.goto 4, 3) := by decide +kernel
theorem dX5_floor_34 : decode cX5_floor 34 = .ok (.iconst 0, 1) := by decide +kernel
theorem dX5_floor_35 : decode cX5_floor 35 = .ok (.if_icmp .eq 10, 3) := by decide +kernel
theorem dX5_floor_38 : decode cX5_floor 38 = .ok (.lload 4, 2) := by decide +kernel
theorem dX5_floor_40 : decode cX5_floor 40 = .ok (.lconst 1, 1) := by decide +kernel
theorem dX5_floor_41 : decode cX5_floor 41 = .ok (.lsub, 1) := by decide +kernel
theorem dX5_floor_42 : decode cX5_floor 42 = .ok (.goto 5, 3) := by decide +kernel
theorem dX5_floor_45 : decode cX5_floor 45 = .ok (.lload 4, 2) := by decide +kernel
theorem dX5_floor_47 : decode cX5_floor 47 = .ok (.lreturn, 1) := by decide +kernel
set_option maxRecDepth 20000 in
theorem ggX5_gathers_X5_sizeOf : GoodIn wsX5_gathers wsX5_sizeOf := goodIn_r _ [5] (by decide +kernel) (by decide +kernel)
set_option maxRecDepth 20000 in
theorem gX5_gathers_X5_sizeOf : GoodIn wsX5_gathers (va_wsS RX5 107 yX5_sizeOf wsX5_sizeOf) := goodIn_app (goodIn_of _ (by decide +kernel)) ggX5_gathers_X5_sizeOf
set_option maxRecDepth 20000 in
theorem ggX5_gathers_X5_swaps : GoodIn wsX5_gathers wsX5_swaps := goodIn_r _ [9, 10, 1, 15, 16, 17, 18, 19, 20, 21, 22, 23, 24, 25, 26, 27, 28, 29, 30, 31, 32, 33, 34, 35] (by decide +kernel) (by decide +kernel)
set_option maxRecDepth 20000 in
theorem gX5_gathers_X5_swaps : GoodIn wsX5_gathers (wsV RX5 111 RX5 yX5_swaps wsX5_swaps) := goodIn_app (goodIn_of _ (by decide +kernel)) ggX5_gathers_X5_swaps
set_option maxRecDepth 20000 in
theorem ggX5_gathers_X5_takes : GoodIn wsX5_gathers wsX5_takes := goodIn_r _ [14, 10, 1, 15, 16, 17, 18, 19, 20, 21, 22, 23, 24, 25, 26, 27, 28, 29, 30, 31, 32, 33, 34, 35] (by decide +kernel) (by decide +kernel)
set_option maxRecDepth 20000 in
theorem gX5_gathers_X5_takes : GoodIn wsX5_gathers (wsV RX5 115 RX5 yX5_takes wsX5_takes) := goodIn_app (goodIn_of _ (by decide +kernel)) ggX5_gathers_X5_takes
theorem dX5_gathers_0 : decode cX5_gathers 0 = .ok (.iconst 1, 1) := by decide +kernel
theorem dX5_gathers_1 : decode cX5_gathers 1 = .ok (.istore_n 3, 1) := by decide +kernel
theorem dX5_gathers_2 : decode cX5_gathers 2 = .ok (.iload_n 3, 1) := by decide +kernel
theorem dX5_gathers_3 : decode cX5_gathers 3 = .ok (.ifCond .eq 149, 3) := by decide +kernel
theorem dX5_gathers_6 : decode cX5_gathers 6 = .ok (.iconst (-1), 1) := by decide +kernel
theorem dX5_gathers_7 : decode cX5_gathers 7 = .ok (.istore 4, 2) := by decide +kernel
theorem dX5_gathers_9 : decode cX5_gathers 9 = .ok (.iload_n 1, 1) := by decide +kernel
theorem dX5_gathers_10 : decode cX5_gathers 10 = .ok (.istore 5, 2) := by decide +kernel
theorem dX5_gathers_12 : decode cX5_gathers 12 = .ok (.iload 5, 2) := by decide +kernel
theorem dX5_gathers_14 : decode cX5_gathers 14 = .ok (.iload_n 1, 1) := by decide +kernel
theorem dX5_gathers_15 : decode cX5_gathers 15 = .ok (.iload_n 2, 1) := by decide +kernel
theorem dX5_gathers_16 : decode cX5_gathers 16 = .ok (.iadd, 1) := by decide +kernel
theorem dX5_gathers_17 : decode cX5_gathers 17 = .ok (.if_icmp .ge 54, 3) := by decide +kernel
theorem dX5_gathers_20 : decode cX5_gathers 20 = .ok (.aload_n 0, 1) := by decide +kernel
theorem dX5_gathers_21 : decode cX5_gathers 21 = .ok (.getfield 52, 3) := by decide +kernel
theorem dX5_gathers_24 : decode cX5_gathers 24 = .ok (.iload 5, 2) := by decide +kernel
theorem dX5_gathers_26 : decode cX5_gathers 26 = .ok (.laload, 1) := by decide +kernel
theorem dX5_gathers_27 : decode cX5_gathers 27 = .ok (.lconst 0, 1) := by decide +kernel
theorem dX5_gathers_28 : decode cX5_gathers 28 = .ok (.lcmp, 1) := by decide +kernel
theorem dX5_gathers_29 : decode cX5_gathers 29 = .ok (.ifCond .eq 36, 3) := by decide +kernel
theorem dX5_gathers_32 : decode cX5_gathers 32 = .ok (.iload 4, 2) := by decide +kernel
theorem dX5_gathers_34 : decode cX5_gathers 34 = .ok (.ifCond .lt 27, 3) := by decide +kernel
theorem dX5_gathers_37 : decode cX5_gathers 37 = .ok (.aload_n 0, 1) := by decide +kernel
theorem dX5_gathers_38 : decode cX5_gathers 38 = .ok (.getfield 52, 3) := by decide +kernel
theorem dX5_gathers_41 : decode cX5_gathers 41 = .ok (.iload 5, 2) := by decide +kernel
theorem dX5_gathers_43 : decode cX5_gathers 43 = .ok (.laload, 1) := by decide +kernel
theorem dX5_gathers_44 : decode cX5_gathers 44 = .ok (.invokestatic 107, 3) := by decide +kernel
theorem dX5_gathers_47 : decode cX5_gathers 47 = .ok (.aload_n 0, 1) := by decide +kernel
theorem dX5_gathers_48 : decode cX5_gathers 48 = .ok (.getfield 52, 3) := by decide +kernel
theorem dX5_gathers_51 : decode cX5_gathers 51 = .ok (.iload 4, 2) := by decide +kernel
theorem dX5_gathers_53 : decode cX5_gathers 53 = .ok (.laload, 1) := by decide +kernel
theorem dX5_gathers_54 : decode cX5_gathers 54 = .ok (.invokestatic 107, 3) := by decide +kernel
theorem dX5_gathers_57 : decode cX5_gathers 57 = .ok (.lcmp, 1) := by decide +kernel
theorem dX5_gathers_58 : decode cX5_gathers 58 = .ok (.ifCond .ge 7, 3) := by decide +kernel
theorem dX5_gathers_61 : decode cX5_gathers 61 = .ok (.iload 5, 2) := by decide +kernel
theorem dX5_gathers_63 : decode cX5_gathers 63 = .ok (.istore 4, 2) := by decide +kernel
theorem dX5_gathers_65 : decode cX5_gathers 65 = .ok (.iinc 5 1, 3) := by decide +kernel
theorem dX5_gathers_68 : decode cX5_gathers 68 = .ok (.goto (-56), 3) := by decide +kernel
theorem dX5_gathers_71 : decode cX5_gathers 71 = .ok (.iload 4, 2) := by decide +kernel
theorem dX5_gathers_73 : decode cX5_gathers 73 = .ok (.ifCond .ge 5, 3) := by decide +kernel
theorem dX5_gathers_76 : decode cX5_gathers 76 = .ok (.iconst 0, 1) := by decide +kernel
theorem dX5_gathers_77 : decode cX5_gathers 77 = .ok (.ireturn, 1) := by decide +kernel
theorem dX5_gathers_78 : decode cX5_gathers 78 = .ok (.aload_n 0, 1) := by decide +kernel
theorem dX5_gathers_79 : decode cX5_gathers 79 = .ok (.iload_n 1, 1) := by decide +kernel
theorem dX5_gathers_80 : decode cX5_gathers 80 = .ok (.iload 4, 2) := by decide +kernel
theorem dX5_gathers_82 : decode cX5_gathers 82 = .ok (.invokevirtual 111, 3) := by decide +kernel
theorem dX5_gathers_85 : decode cX5_gathers 85 = .ok (.iconst 0, 1) := by decide +kernel
theorem dX5_gathers_86 : decode cX5_gathers 86 = .ok (.istore_n 3, 1) := by decide +kernel
theorem dX5_gathers_87 : decode cX5_gathers 87 = .ok (.iload_n 1, 1) := by decide +kernel
theorem dX5_gathers_88 : decode cX5_gathers 88 = .ok (.iconst 1, 1) := by decide +kernel
theorem dX5_gathers_89 : decode cX5_gathers 89 = .ok (.iadd, 1) := by decide +kernel
theorem dX5_gathers_90 : decode cX5_gathers 90 = .ok (.istore 5, 2) := by decide +kernel
theorem dX5_gathers_92 : decode cX5_gathers 92 = .ok (.iload 5, 2) := by decide +kernel
theorem dX5_gathers_94 : decode cX5_gathers 94 = .ok (.iload_n 1, 1) := by decide +kernel
theorem dX5_gathers_95 : decode cX5_gathers 95 = .ok (.iload_n 2, 1) := by decide +kernel
theorem dX5_gathers_96 : decode cX5_gathers 96 = .ok (.iadd, 1) := by decide +kernel
theorem dX5_gathers_97 : decode cX5_gathers 97 = .ok (.if_icmp .ge 52, 3) := by decide +kernel
theorem dX5_gathers_100 : decode cX5_gathers 100 = .ok (.aload_n 0, 1) := by decide +kernel
theorem dX5_gathers_101 : decode cX5_gathers 101 = .ok (.iload 5, 2) := by decide +kernel
theorem dX5_gathers_103 : decode cX5_gathers 103 = .ok (.iload_n 1, 1) := by decide +kernel
theorem dX5_gathers_104 : decode cX5_gathers 104 = .ok (.aload_n 0, 1) := by decide +kernel
theorem dX5_gathers_105 : decode cX5_gathers 105 = .ok (.getfield 52, 3) := by decide +kernel
theorem dX5_gathers_108 : decode cX5_gathers 108 = .ok (.iload 5, 2) := by decide +kernel
theorem dX5_gathers_110 : decode cX5_gathers 110 = .ok (.laload, 1) := by decide +kernel
theorem dX5_gathers_111 : decode cX5_gathers 111 = .ok (.aload_n 0, 1) := by decide +kernel
theorem dX5_gathers_112 : decode cX5_gathers 112 = .ok (.getfield 52, 3) := by decide +kernel
theorem dX5_gathers_115 : decode cX5_gathers 115 = .ok (.iload_n 1, 1) := by decide +kernel
theorem dX5_gathers_116 : decode cX5_gathers 116 = .ok (.laload, 1) := by decide +kernel
theorem dX5_gathers_117 : decode cX5_gathers 117 = .ok (.ldiv, 1) := by decide +kernel
theorem dX5_gathers_118 : decode cX5_gathers 118 = .ok (.invokevirtual 115, 3) := by decide +kernel
theorem dX5_gathers_121 : decode cX5_gathers 121 = .ok (.iload_n 3, 1) := by decide +kernel
theorem dX5_gathers_122 : decode cX5_gathers 122 = .ok (.ifCond .ne 15, 3) := by decide +kernel
theorem dX5_gathers_125 : decode cX5_gathers 125 = .ok (.aload_n 0, 1) := by decide +kernel
theorem dX5_gathers_126 : decode cX5_gathers 126 = .ok (.getfield 52, 3) := by decide +kernel
theorem dX5_gathers_129 : decode cX5_gathers 129 = .ok (.iload 5, 2) := by decide +kernel
theorem dX5_gathers_131 : decode cX5_gathers 131 = .ok (.laload, 1) := by decide +kernel
theorem dX5_gathers_132 : decode cX5_gathers 132 = .ok (.lconst 0, 1) := by decide +kernel
theorem dX5_gathers_133 : decode cX5_gathers 133 = .ok (.lcmp, 1) := by decide +kernel
theorem dX5_gathers_134 : decode cX5_gathers 134 = .ok (.ifCond .eq 7, 3) := by decide +kernel
theorem dX5_gathers_137 : decode cX5_gathers 137 = .ok (.iconst 1, 1) := by decide +kernel
theorem dX5_gathers_138 : decode cX5_gathers 138 = .ok (.goto 4, 3) := by decide +kernel
theorem dX5_gathers_141 : decode cX5_gathers 141 = .ok (.iconst 0, 1) := by decide +kernel
theorem dX5_gathers_142 : decode cX5_gathers 142 = .ok (.istore_n 3, 1) := by decide +kernel
theorem dX5_gathers_143 : decode cX5_gathers 143 = .ok (.iinc 5 1, 3) := by decide +kernel
theorem dX5_gathers_146 : decode cX5_gathers 146 = .ok (.goto (-54), 3) := by decide +kernel
theorem dX5_gathers_149 : decode cX5_gathers 149 = .ok (.goto (-147), 3) := by decide +kernel
theorem dX5_gathers_152 : decode cX5_gathers 152 = .ok (.iconst 1, 1) := by decide +kernel
theorem dX5_gathers_153 : decode cX5_gathers 153 = .ok (.ireturn, 1) := by decide +kernel
theorem dX5_sizeOf_0 : decode cX5_sizeOf 0 = .ok (.lload_n 0, 1) := by decide +kernel
theorem dX5_sizeOf_1 : decode cX5_sizeOf 1 = .ok (.lconst 0, 1) := by decide +kernel
theorem dX5_sizeOf_2 : decode cX5_sizeOf 2 = .ok (.lcmp, 1) := by decide +kernel
theorem dX5_sizeOf_3 : decode cX5_sizeOf 3 = .ok (.ifCond .ge 8, 3) := by decide +kernel
theorem dX5_sizeOf_6 : decode cX5_sizeOf 6 = .ok (.lload_n 0, 1) := by decide +kernel
theorem dX5_sizeOf_7 : decode cX5_sizeOf 7 = .ok (.lneg, 1) := by decide +kernel
theorem dX5_sizeOf_8 : decode cX5_sizeOf 8 = .ok (.goto 4, 3) := by decide +kernel
theorem dX5_sizeOf_11 : decode cX5_sizeOf 11 = .ok (.lload_n 0, 1) := by decide +kernel
theorem dX5_sizeOf_12 : decode cX5_sizeOf 12 = .ok (.lreturn, 1) := by decide +kernel
theorem dX5_sumOf_0 : decode cX5_sumOf 0 = .ok (.lconst 0, 1) := by decide +kernel
theorem dX5_sumOf_1 : decode cX5_sumOf 1 = .ok (.lstore 4, 2) := by decide +kernel
theorem dX5_sumOf_3 : decode cX5_sumOf 3 = .ok (.iconst 0, 1) := by decide +kernel
theorem dX5_sumOf_4 : decode cX5_sumOf 4 = .ok (.istore 6, 2) := by decide +kernel
theorem dX5_sumOf_6 : decode cX5_sumOf 6 = .ok (.iload 6, 2) := by decide +kernel
theorem dX5_sumOf_8 : decode cX5_sumOf 8 = .ok (.bipush 6, 2) := by decide +kernel
theorem dX5_sumOf_10 : decode cX5_sumOf 10 = .ok (.if_icmp .ge 34, 3) := by decide +kernel
theorem dX5_sumOf_13 : decode cX5_sumOf 13 = .ok (.lload 4, 2) := by decide +kernel
theorem dX5_sumOf_15 : decode cX5_sumOf 15 = .ok (.aload_n 1, 1) := by decide +kernel
theorem dX5_sumOf_16 : decode cX5_sumOf 16 = .ok (.iload_n 2, 1) := by decide +kernel
theorem dX5_sumOf_17 : decode cX5_sumOf 17 = .ok (.iload 6, 2) := by decide +kernel
theorem dX5_sumOf_19 : decode cX5_sumOf 19 = .ok (.iadd, 1) := by decide +kernel
theorem dX5_sumOf_20 : decode cX5_sumOf 20 = .ok (.iaload, 1) := by decide +kernel
theorem dX5_sumOf_21 : decode cX5_sumOf 21 = .ok (.i2l, 1) := by decide +kernel
theorem dX5_sumOf_22 : decode cX5_sumOf 22 = .ok (.aload_n 0, 1) := by decide +kernel
theorem dX5_sumOf_23 : decode cX5_sumOf 23 = .ok (.getfield 46, 3) := by decide +kernel
theorem dX5_sumOf_26 : decode cX5_sumOf 26 = .ok (.bipush 6, 2) := by decide +kernel
theorem dX5_sumOf_28 : decode cX5_sumOf 28 = .ok (.iload_n 3, 1) := by decide +kernel
theorem dX5_sumOf_29 : decode cX5_sumOf 29 = .ok (.imul, 1) := by decide +kernel
theorem dX5_sumOf_30 : decode cX5_sumOf 30 = .ok (.iload 6, 2) := by decide +kernel
theorem dX5_sumOf_32 : decode cX5_sumOf 32 = .ok (.iadd, 1) := by decide +kernel
theorem dX5_sumOf_33 : decode cX5_sumOf 33 = .ok (.laload, 1) := by decide +kernel
theorem dX5_sumOf_34 : decode cX5_sumOf 34 = .ok (.lmul, 1) := by decide +kernel
theorem dX5_sumOf_35 : decode cX5_sumOf 35 = .ok (.ladd, 1) := by decide +kernel
theorem dX5_sumOf_36 : decode cX5_sumOf 36 = .ok (.lstore 4, 2) := by decide +kernel
theorem dX5_sumOf_38 : decode cX5_sumOf 38 = .ok (.iinc 6 1, 3) := by decide +kernel
theorem dX5_sumOf_41 : decode cX5_sumOf 41 = .ok (.goto (-35), 3) := by decide +kernel
theorem dX5_sumOf_44 : decode cX5_sumOf 44 = .ok (.lload 4, 2) := by decide +kernel
theorem dX5_sumOf_46 : decode cX5_sumOf 46 = .ok (.lreturn, 1) := by decide +kernel
theorem dX5_restOf_0 : decode cX5_restOf 0 = .ok (.aload_n 1, 1) := by decide +kernel
theorem dX5_restOf_1 : decode cX5_restOf 1 = .ok (.iload_n 2, 1) := by decide +kernel
theorem dX5_restOf_2 : decode cX5_restOf 2 = .ok (.bipush 6, 2) := by decide +kernel
theorem dX5_restOf_4 : decode cX5_restOf 4 = .ok (.iadd, 1) := by decide +kernel
theorem dX5_restOf_5 : decode cX5_restOf 5 = .ok (.iload_n 3, 1) := by decide +kernel
theorem dX5_restOf_6 : decode cX5_restOf 6 = .ok (.iadd, 1) := by decide +kernel
theorem dX5_restOf_7 : decode cX5_restOf 7 = .ok (.iaload, 1) := by decide +kernel
theorem dX5_restOf_8 : decode cX5_restOf 8 = .ok (.i2l, 1) := by decide +kernel
theorem dX5_restOf_9 : decode cX5_restOf 9 = .ok (.lstore 4, 2) := by decide +kernel
theorem dX5_restOf_11 : decode cX5_restOf 11 = .ok (.iconst 0, 1) := by decide +kernel
theorem dX5_restOf_12 : decode cX5_restOf 12 = .ok (.istore 6, 2) := by decide +kernel
theorem dX5_restOf_14 : decode cX5_restOf 14 = .ok (.iload 6, 2) := by decide +kernel
theorem dX5_restOf_16 : decode cX5_restOf 16 = .ok (.bipush 6, 2) := by decide +kernel
theorem dX5_restOf_18 : decode cX5_restOf 18 = .ok (.if_icmp .ge 34, 3) := by decide +kernel
theorem dX5_restOf_21 : decode cX5_restOf 21 = .ok (.lload 4, 2) := by decide +kernel
theorem dX5_restOf_23 : decode cX5_restOf 23 = .ok (.aload_n 1, 1) := by decide +kernel
theorem dX5_restOf_24 : decode cX5_restOf 24 = .ok (.iload_n 2, 1) := by decide +kernel
theorem dX5_restOf_25 : decode cX5_restOf 25 = .ok (.iload 6, 2) := by decide +kernel
theorem dX5_restOf_27 : decode cX5_restOf 27 = .ok (.iadd, 1) := by decide +kernel
theorem dX5_restOf_28 : decode cX5_restOf 28 = .ok (.iaload, 1) := by decide +kernel
theorem dX5_restOf_29 : decode cX5_restOf 29 = .ok (.i2l, 1) := by decide +kernel
theorem dX5_restOf_30 : decode cX5_restOf 30 = .ok (.aload_n 0, 1) := by decide +kernel
theorem dX5_restOf_31 : decode cX5_restOf 31 = .ok (.getfield 49, 3) := by decide +kernel
theorem dX5_restOf_34 : decode cX5_restOf 34 = .ok (.bipush 6, 2) := by decide +kernel
theorem dX5_restOf_36 : decode cX5_restOf 36 = .ok (.iload_n 3, 1) := by decide +kernel
theorem dX5_restOf_37 : decode cX5_restOf 37 = .ok (.imul, 1) := by decide +kernel
theorem dX5_restOf_38 : decode cX5_restOf 38 = .ok (.iload 6, 2) := by decide +kernel
theorem dX5_restOf_40 : decode cX5_restOf 40 = .ok (.iadd, 1) := by decide +kernel
theorem dX5_restOf_41 : decode cX5_restOf 41 = .ok (.laload, 1) := by decide +kernel
theorem dX5_restOf_42 : decode cX5_restOf 42 = .ok (.lmul, 1) := by decide +kernel
theorem dX5_restOf_43 : decode cX5_restOf 43 = .ok (.ladd, 1) := by decide +kernel
theorem dX5_restOf_44 : decode cX5_restOf 44 = .ok (.lstore 4, 2) := by decide +kernel
theorem dX5_restOf_46 : decode cX5_restOf 46 = .ok (.iinc 6 1, 3) := by decide +kernel
theorem dX5_restOf_49 : decode cX5_restOf 49 = .ok (.goto (-35), 3) := by decide +kernel
theorem dX5_restOf_52 : decode cX5_restOf 52 = .ok (.lload 4, 2) := by decide +kernel
theorem dX5_restOf_54 : decode cX5_restOf 54 = .ok (.lreturn, 1) := by decide +kernel
set_option maxRecDepth 20000 in
theorem ggX5_adds_X5_sumOf : GoodIn wsX5_adds wsX5_sumOf := goodIn_r _ [9, 4, 41, 42, 43, 44, 45, 46, 47, 48, 49, 50, 51, 52, 53, 54, 55, 56, 57, 58, 59, 60, 61] (by decide +kernel) (by decide +kernel)
set_option maxRecDepth 20000 in
theorem gX5_adds_X5_sumOf : GoodIn wsX5_adds (wsV RX5 119 RX5 yX5_sumOf wsX5_sumOf) := goodIn_app (goodIn_of _ (by decide +kernel)) ggX5_adds_X5_sumOf
set_option maxRecDepth 20000 in
theorem ggX5_adds_X5_gathers : GoodIn wsX5_adds wsX5_gathers := goodIn_r _ [13, 2, 14, 15, 8, 16, 17, 18, 19, 20, 4, 21, 22, 23, 24, 41, 42, 43, 44, 45, 46, 47, 48, 49, 50, 51, 52, 53, 54, 55, 56, 57, 58, 59, 60, 61] (by decide +kernel) (by decide +kernel)
set_option maxRecDepth 20000 in
theorem gX5_adds_X5_gathers : GoodIn wsX5_adds (wsV RX5 123 RX5 yX5_gathers wsX5_gathers) := goodIn_app (goodIn_of _ (by decide +kernel)) ggX5_adds_X5_gathers
set_option maxRecDepth 20000 in
theorem ggX5_adds_X5_restOf : GoodIn wsX5_adds wsX5_restOf := goodIn_r _ [28, 3, 41, 42, 43, 44, 45, 46, 47, 48, 49, 50, 51, 52, 53, 54, 55, 56, 57, 58, 59, 60, 61] (by decide +kernel) (by decide +kernel)
set_option maxRecDepth 20000 in
theorem gX5_adds_X5_restOf : GoodIn wsX5_adds (wsV RX5 127 RX5 yX5_restOf wsX5_restOf) := goodIn_app (goodIn_of _ (by decide +kernel)) ggX5_adds_X5_restOf
set_option maxRecDepth 20000 in
theorem ggX5_adds_X5_orders : GoodIn wsX5_adds wsX5_orders := goodIn_r _ [32, 1, 2, 4, 33, 3, 10, 11, 12, 8, 13, 14, 15, 16, 17, 18, 19, 20, 21, 22, 23, 24, 34, 35, 36, 37, 38, 39, 40, 41, 42, 43, 44, 45, 46, 47, 48, 49, 50, 51, 52, 53, 54, 55, 56, 57, 58, 59, 60, 61] (by decide +kernel) (by decide +kernel)
set_option maxRecDepth 20000 in
theorem gX5_adds_X5_orders : GoodIn wsX5_adds (wsV RX5 130 RX5 yX5_orders wsX5_orders) := goodIn_app (goodIn_of _ (by decide +kernel)) ggX5_adds_X5_orders
theorem dX5_adds_0 : decode cX5_adds 0 = .ok (.iconst 0, 1) := by decide +kernel
theorem dX5_adds_1 : decode cX5_adds 1 = .ok (.istore_n 3, 1) := by decide +kernel
theorem dX5_adds_2 : decode cX5_adds 2 = .ok (.iload_n 3, 1) := by decide +kernel
theorem dX5_adds_3 : decode cX5_adds 3 = .ok (.aload_n 0, 1) := by decide +kernel
theorem dX5_adds_4 : decode cX5_adds 4 = .ok (.getfield 104, 3) := by decide +kernel
theorem dX5_adds_7 : decode cX5_adds 7 = .ok (.if_icmp .ge 22, 3) := by decide +kernel
theorem dX5_adds_10 : decode cX5_adds 10 = .ok (.aload_n 0, 1) := by decide +kernel
theorem dX5_adds_11 : decode cX5_adds 11 = .ok (.getfield 52, 3) := by decide +kernel
theorem dX5_adds_14 : decode cX5_adds 14 = .ok (.iload_n 3, 1) := by decide +kernel
theorem dX5_adds_15 : decode cX5_adds 15 = .ok (.aload_n 0, 1) := by decide +kernel
theorem dX5_adds_16 : decode cX5_adds 16 = .ok (.aload_n 1, 1) := by decide +kernel
theorem dX5_adds_17 : decode cX5_adds 17 = .ok (.iload_n 2, 1) := by decide +kernel
theorem dX5_adds_18 : decode cX5_adds 18 = .ok (.iload_n 3, 1) := by decide +kernel
theorem dX5_adds_19 : decode cX5_adds 19 = .ok (.invokevirtual 119, 3) := by decide +kernel
theorem dX5_adds_22 : decode cX5_adds 22 = .ok (.lastore, 1) := by decide +kernel
theorem dX5_adds_23 : decode cX5_adds 23 = .ok (.iinc 3 1, 3) := by decide +kernel
theorem dX5_adds_26 : decode cX5_adds 26 = .ok (.goto (-24), 3) := by decide +kernel
theorem dX5_adds_29 : decode cX5_adds 29 = .ok (.aload_n 0, 1) := by decide +kernel
theorem dX5_adds_30 : decode cX5_adds 30 = .ok (.getfield 104, 3) := by decide +kernel
theorem dX5_adds_33 : decode cX5_adds 33 = .ok (.ifCond .le 19, 3) := by decide +kernel
theorem dX5_adds_36 : decode cX5_adds 36 = .ok (.aload_n 0, 1) := by decide +kernel
theorem dX5_adds_37 : decode cX5_adds 37 = .ok (.iconst 0, 1) := by decide +kernel
theorem dX5_adds_38 : decode cX5_adds 38 = .ok (.aload_n 0, 1) := by decide +kernel
theorem dX5_adds_39 : decode cX5_adds 39 = .ok (.getfield 104, 3) := by decide +kernel
theorem dX5_adds_42 : decode cX5_adds 42 = .ok (.invokevirtual 123, 3) := by decide +kernel
theorem dX5_adds_45 : decode cX5_adds 45 = .ok (.ifCond .eq 7, 3) := by decide +kernel
theorem dX5_adds_48 : decode cX5_adds 48 = .ok (.iconst 1, 1) := by decide +kernel
theorem dX5_adds_49 : decode cX5_adds 49 = .ok (.goto 4, 3) := by decide +kernel
theorem dX5_adds_52 : decode cX5_adds 52 = .ok (.iconst 0, 1) := by decide +kernel
theorem dX5_adds_53 : decode cX5_adds 53 = .ok (.istore_n 3, 1) := by decide +kernel
theorem dX5_adds_54 : decode cX5_adds 54 = .ok (.iconst 1, 1) := by decide +kernel
theorem dX5_adds_55 : decode cX5_adds 55 = .ok (.istore 4, 2) := by decide +kernel
theorem dX5_adds_57 : decode cX5_adds 57 = .ok (.iconst 0, 1) := by decide +kernel
theorem dX5_adds_58 : decode cX5_adds 58 = .ok (.istore 5, 2) := by decide +kernel
theorem dX5_adds_60 : decode cX5_adds 60 = .ok (.iload 5, 2) := by decide +kernel
theorem dX5_adds_62 : decode cX5_adds 62 = .ok (.iconst 4, 1) := by decide +kernel
theorem dX5_adds_63 : decode cX5_adds 63 = .ok (.if_icmp .ge 117, 3) := by decide +kernel
theorem dX5_adds_66 : decode cX5_adds 66 = .ok (.aload_n 0, 1) := by decide +kernel
theorem dX5_adds_67 : decode cX5_adds 67 = .ok (.aload_n 1, 1) := by decide +kernel
theorem dX5_adds_68 : decode cX5_adds 68 = .ok (.iload_n 2, 1) := by decide +kernel
theorem dX5_adds_69 : decode cX5_adds 69 = .ok (.iload 5, 2) := by decide +kernel
theorem dX5_adds_71 : decode cX5_adds 71 = .ok (.invokevirtual 127, 3) := by decide +kernel
theorem dX5_adds_74 : decode cX5_adds 74 = .ok (.lstore 6, 2) := by decide +kernel
theorem dX5_adds_76 : decode cX5_adds 76 = .ok (.iload 4, 2) := by decide +kernel
theorem dX5_adds_78 : decode cX5_adds 78 = .ok (.ifCond .eq 35, 3) := by decide +kernel
theorem dX5_adds_81 : decode cX5_adds 81 = .ok (.iload_n 3, 1) := by decide +kernel
theorem dX5_adds_82 : decode cX5_adds 82 = .ok (.ifCond .eq 20, 3) := by decide +kernel
theorem dX5_adds_85 : decode cX5_adds 85 = .ok (.lload 6, 2) := by decide +kernel
theorem dX5_adds_87 : decode cX5_adds 87 = .ok (.aload_n 0, 1) := by decide +kernel
theorem dX5_adds_88 : decode cX5_adds 88 = .ok (.getfield 52, 3) := by decide +kernel
theorem dX5_adds_91 : decode cX5_adds 91 = .ok (.iconst 0, 1) := by decide +kernel
theorem dX5_adds_92 : decode cX5_adds 92 = .ok (.laload, 1) := by decide +kernel
theorem dX5_adds_93 : decode cX5_adds 93 = .ok (.lrem, 1) := by decide +kernel
theorem dX5_adds_94 : decode cX5_adds 94 = .ok (.lconst 0, 1) := by decide +kernel
theorem dX5_adds_95 : decode cX5_adds 95 = .ok (.lcmp, 1) := by decide +kernel
theorem dX5_adds_96 : decode cX5_adds 96 = .ok (.ifCond .ne 17, 3) := by decide +kernel
theorem dX5_adds_99 : decode cX5_adds 99 = .ok (.goto 10, 3) := by decide +kernel
theorem dX5_adds_102 : decode cX5_adds 102 = .ok (.lload 6, 2) := by decide +kernel
theorem dX5_adds_104 : decode cX5_adds 104 = .ok (.lconst 0, 1) := by decide +kernel
theorem dX5_adds_105 : decode cX5_adds 105 = .ok (.lcmp, 1) := by decide +kernel
theorem dX5_adds_106 : decode cX5_adds 106 = .ok (.ifCond .ne 7, 3) := by decide +kernel
theorem dX5_adds_109 : decode cX5_adds 109 = .ok (.iconst 1, 1) := by decide +kernel
theorem dX5_adds_110 : decode cX5_adds 110 = .ok (.goto 4, 3) := by decide +kernel
theorem dX5_adds_113 : decode cX5_adds 113 = .ok (.iconst 0, 1) := by decide +kernel
theorem dX5_adds_114 : decode cX5_adds 114 = .ok (.istore 4, 2) := by decide +kernel
theorem dX5_adds_116 : decode cX5_adds 116 = .ok (.iconst 0, 1) := by decide +kernel
theorem dX5_adds_117 : decode cX5_adds 117 = .ok (.istore 8, 2) := by decide +kernel
theorem dX5_adds_119 : decode cX5_adds 119 = .ok (.iload 8, 2) := by decide +kernel
theorem dX5_adds_121 : decode cX5_adds 121 = .ok (.bipush 6, 2) := by decide +kernel
theorem dX5_adds_123 : decode cX5_adds 123 = .ok (.if_icmp .ge 51, 3) := by decide +kernel
theorem dX5_adds_126 : decode cX5_adds 126 = .ok (.iload 4, 2) := by decide +kernel
theorem dX5_adds_128 : decode cX5_adds 128 = .ok (.ifCond .eq 46, 3) := by decide +kernel
theorem dX5_adds_131 : decode cX5_adds 131 = .ok (.iload_n 3, 1) := by decide +kernel
theorem dX5_adds_132 : decode cX5_adds 132 = .ok (.ifCond .eq 42, 3) := by decide +kernel
theorem dX5_adds_135 : decode cX5_adds 135 = .ok (.aload_n 0, 1) := by decide +kernel
theorem dX5_adds_136 : decode cX5_adds 136 = .ok (.getfield 49, 3) := by decide +kernel
theorem dX5_adds_139 : decode cX5_adds 139 = .ok (.bipush 6, 2) := by decide +kernel
theorem dX5_adds_141 : decode cX5_adds 141 = .ok (.iload 5, 2) := by decide +kernel
theorem dX5_adds_143 : decode cX5_adds 143 = .ok (.imul, 1) := by decide +kernel
theorem dX5_adds_144 : decode cX5_adds 144 = .ok (.iload 8, 2) := by decide +kernel
theorem dX5_adds_146 : decode cX5_adds 146 = .ok (.iadd, 1) := by decide +kernel
theorem dX5_adds_147 : decode cX5_adds 147 = .ok (.dup2, 1) := by decide +kernel
theorem dX5_adds_148 : decode cX5_adds 148 = .ok (.laload, 1) := by decide +kernel
theorem dX5_adds_149 : decode cX5_adds 149 = .ok (.lload 6, 2) := by decide +kernel
theorem dX5_adds_151 : decode cX5_adds 151 = .ok (.aload_n 0, 1) := by decide +kernel
theorem dX5_adds_152 : decode cX5_adds 152 = .ok (.getfield 52, 3) := by decide +kernel
theorem dX5_adds_155 : decode cX5_adds 155 = .ok (.iconst 0, 1) := by decide +kernel
theorem dX5_adds_156 : decode cX5_adds 156 = .ok (.laload, 1) := by decide +kernel
theorem dX5_adds_157 : decode cX5_adds 157 = .ok (.ldiv, 1) := by decide +kernel
theorem dX5_adds_158 : decode cX5_adds 158 = .ok (.aload_n 0, 1) := by decide +kernel
theorem dX5_adds_159 : decode cX5_adds 159 = .ok (.getfield 46, 3) := by decide +kernel
theorem dX5_adds_162 : decode cX5_adds 162 = .ok (.iload 8, 2) := by decide +kernel
theorem dX5_adds_164 : decode cX5_adds 164 = .ok (.laload, 1) := by decide +kernel
theorem dX5_adds_165 : decode cX5_adds 165 = .ok (.lmul, 1) := by decide +kernel
theorem dX5_adds_166 : decode cX5_adds 166 = .ok (.lsub, 1) := by decide +kernel
theorem dX5_adds_167 : decode cX5_adds 167 = .ok (.lastore, 1) := by decide +kernel
theorem dX5_adds_168 : decode cX5_adds 168 = .ok (.iinc 8 1, 3) := by decide +kernel
theorem dX5_adds_171 : decode cX5_adds 171 = .ok (.goto (-52), 3) := by decide +kernel
theorem dX5_adds_174 : decode cX5_adds 174 = .ok (.iinc 5 1, 3) := by decide +kernel
theorem dX5_adds_177 : decode cX5_adds 177 = .ok (.goto (-117), 3) := by decide +kernel
theorem dX5_adds_180 : decode cX5_adds 180 = .ok (.iload_n 3, 1) := by decide +kernel
theorem dX5_adds_181 : decode cX5_adds 181 = .ok (.ifCond .eq 51, 3) := by decide +kernel
theorem dX5_adds_184 : decode cX5_adds 184 = .ok (.aload_n 0, 1) := by decide +kernel
theorem dX5_adds_185 : decode cX5_adds 185 = .ok (.dup, 1) := by decide +kernel
theorem dX5_adds_186 : decode cX5_adds 186 = .ok (.getfield 104, 3) := by decide +kernel
theorem dX5_adds_189 : decode cX5_adds 189 = .ok (.iconst 1, 1) := by decide +kernel
theorem dX5_adds_190 : decode cX5_adds 190 = .ok (.isub, 1) := by decide +kernel
theorem dX5_adds_191 : decode cX5_adds 191 = .ok (.putfield 104, 3) := by decide +kernel
theorem dX5_adds_194 : decode cX5_adds 194 = .ok (.iconst 0, 1) := by decide +kernel
theorem dX5_adds_195 : decode cX5_adds 195 = .ok (.istore 5, 2) := by decide +kernel
theorem dX5_adds_197 : decode cX5_adds 197 = .ok (.iload 5, 2) := by decide +kernel
theorem dX5_adds_199 : decode cX5_adds 199 = .ok (.bipush 6, 2) := by decide +kernel
theorem dX5_adds_201 : decode cX5_adds 201 = .ok (.aload_n 0, 1) := by decide +kernel
theorem dX5_adds_202 : decode cX5_adds 202 = .ok (.getfield 104, 3) := by decide +kernel
theorem dX5_adds_205 : decode cX5_adds 205 = .ok (.imul, 1) := by decide +kernel
theorem dX5_adds_206 : decode cX5_adds 206 = .ok (.if_icmp .ge 26, 3) := by decide +kernel
theorem dX5_adds_209 : decode cX5_adds 209 = .ok (.aload_n 0, 1) := by decide +kernel
theorem dX5_adds_210 : decode cX5_adds 210 = .ok (.getfield 46, 3) := by decide +kernel
theorem dX5_adds_213 : decode cX5_adds 213 = .ok (.iload 5, 2) := by decide +kernel
theorem dX5_adds_215 : decode cX5_adds 215 = .ok (.aload_n 0, 1) := by decide +kernel
theorem dX5_adds_216 : decode cX5_adds 216 = .ok (.getfield 46, 3) := by decide +kernel
theorem dX5_adds_219 : decode cX5_adds 219 = .ok (.iload 5, 2) := by decide +kernel
theorem dX5_adds_221 : decode cX5_adds 221 = .ok (.bipush 6, 2) := by decide +kernel
theorem dX5_adds_223 : decode cX5_adds 223 = .ok (.iadd, 1) := by decide +kernel
theorem dX5_adds_224 : decode cX5_adds 224 = .ok (.laload, 1) := by decide +kernel
theorem dX5_adds_225 : decode cX5_adds 225 = .ok (.lastore, 1) := by decide +kernel
theorem dX5_adds_226 : decode cX5_adds 226 = .ok (.iinc 5 1, 3) := by decide +kernel
theorem dX5_adds_229 : decode cX5_adds 229 = .ok (.goto (-32), 3) := by decide +kernel
theorem dX5_adds_232 : decode cX5_adds 232 = .ok (.aload_n 0, 1) := by decide +kernel
theorem dX5_adds_233 : decode cX5_adds 233 = .ok (.invokevirtual 130, 3) := by decide +kernel
theorem dX5_adds_236 : decode cX5_adds 236 = .ok (.iload 4, 2) := by decide +kernel
theorem dX5_adds_238 : decode cX5_adds 238 = .ok (.ireturn, 1) := by decide +kernel
theorem dX5_headOf_0 : decode cX5_headOf 0 = .ok (.iconst 0, 1) := by decide +kernel
theorem dX5_headOf_1 : decode cX5_headOf 1 = .ok (.istore_n 2, 1) := by decide +kernel
theorem dX5_headOf_2 : decode cX5_headOf 2 = .ok (.iload_n 2, 1) := by decide +kernel
theorem dX5_headOf_3 : decode cX5_headOf 3 = .ok (.bipush 6, 2) := by decide +kernel
theorem dX5_headOf_5 : decode cX5_headOf 5 = .ok (.if_icmp .ge 25, 3) := by decide +kernel
theorem dX5_headOf_8 : decode cX5_headOf 8 = .ok (.aload_n 0, 1) := by decide +kernel
theorem dX5_headOf_9 : decode cX5_headOf 9 = .ok (.getfield 46, 3) := by decide +kernel
theorem dX5_headOf_12 : decode cX5_headOf 12 = .ok (.bipush 6, 2) := by decide +kernel
theorem dX5_headOf_14 : decode cX5_headOf 14 = .ok (.iload_n 1, 1) := by decide +kernel
theorem dX5_headOf_15 : decode cX5_headOf 15 = .ok (.imul, 1) := by decide +kernel
theorem dX5_headOf_16 : decode cX5_headOf 16 = .ok (.iload_n 2, 1) := by decide +kernel
theorem dX5_headOf_17 : decode cX5_headOf 17 = .ok (.iadd, 1) := by decide +kernel
theorem dX5_headOf_18 : decode cX5_headOf 18 = .ok (.laload, 1) := by decide +kernel
theorem dX5_headOf_19 : decode cX5_headOf 19 = .ok (.lconst 0, 1) := by decide +kernel
theorem dX5_headOf_20 : decode cX5_headOf 20 = .ok (.lcmp, 1) := by decide +kernel
theorem dX5_headOf_21 : decode cX5_headOf 21 = .ok (.ifCond .ne 9, 3) := by decide +kernel
theorem dX5_headOf_24 : decode cX5_headOf 24 = .ok (.iinc 2 1, 3) := by decide +kernel
theorem dX5_headOf_27 : decode cX5_headOf 27 = .ok (.goto (-25), 3) := by decide +kernel
theorem dX5_headOf_30 : decode cX5_headOf 30 = .ok (.iload_n 2, 1) := by decide +kernel
theorem dX5_headOf_31 : decode cX5_headOf 31 = .ok (.ireturn, 1) := by decide +kernel
set_option maxRecDepth 20000 in
theorem ggX5_orders_X5_gathers : GoodIn wsX5_orders wsX5_gathers := goodIn_r _ [10, 2, 11, 12, 9, 13, 14, 15, 16, 17, 3, 18, 19, 20, 21, 29, 30, 31, 32, 33, 34, 35, 36, 37, 38, 39, 40, 41, 42, 43, 44, 45, 46, 47, 48, 49] (by decide +kernel) (by decide +kernel)
set_option maxRecDepth 20000 in
theorem gX5_orders_X5_gathers : GoodIn wsX5_orders (wsV RX5 123 RX5 yX5_gathers wsX5_gathers) := goodIn_app (goodIn_of _ (by decide +kernel)) ggX5_orders_X5_gathers
set_option maxRecDepth 20000 in
theorem ggX5_orders_X5_takes : GoodIn wsX5_orders wsX5_takes := goodIn_r _ [21, 3, 2, 29, 30, 31, 32, 33, 34, 35, 36, 37, 38, 39, 40, 41, 42, 43, 44, 45, 46, 47, 48, 49] (by decide +kernel) (by decide +kernel)
set_option maxRecDepth 20000 in
theorem gX5_orders_X5_takes : GoodIn wsX5_orders (wsV RX5 115 RX5 yX5_takes wsX5_takes) := goodIn_app (goodIn_of _ (by decide +kernel)) ggX5_orders_X5_takes
set_option maxRecDepth 20000 in
theorem ggX5_orders_X5_floor : GoodIn wsX5_orders wsX5_floor := goodIn_r _ [24] (by decide +kernel) (by decide +kernel)
set_option maxRecDepth 20000 in
theorem gX5_orders_X5_floor : GoodIn wsX5_orders (va_wsS RX5 135 yX5_floor wsX5_floor) := goodIn_app (goodIn_of _ (by decide +kernel)) ggX5_orders_X5_floor
set_option maxRecDepth 20000 in
theorem ggX5_orders_X5_headOf : GoodIn wsX5_orders wsX5_headOf := goodIn_r _ [28, 3, 29, 30, 31, 32, 33, 34, 35, 36, 37, 38, 39, 40, 41, 42, 43, 44, 45, 46, 47, 48, 49] (by decide +kernel) (by decide +kernel)
set_option maxRecDepth 20000 in
theorem gX5_orders_X5_headOf : GoodIn wsX5_orders (wsV RX5 139 RX5 yX5_headOf wsX5_headOf) := goodIn_app (goodIn_of _ (by decide +kernel)) ggX5_orders_X5_headOf
theorem dX5_orders_0 : decode cX5_orders 0 = .ok (.iconst 0, 1) := by decide +kernel
theorem dX5_orders_1 : decode cX5_orders 1 = .ok (.istore_n 1, 1) := by decide +kernel
theorem dX5_orders_2 : decode cX5_orders 2 = .ok (.iconst 0, 1) := by decide +kernel
theorem dX5_orders_3 : decode cX5_orders 3 = .ok (.istore_n 2, 1) := by decide +kernel
theorem dX5_orders_4 : decode cX5_orders 4 = .ok (.iload_n 2, 1) := by decide +kernel
theorem dX5_orders_5 : decode cX5_orders 5 = .ok (.bipush 6, 2) := by decide +kernel
theorem dX5_orders_7 : decode cX5_orders 7 = .ok (.if_icmp .ge 121, 3) := by decide +kernel
theorem dX5_orders_10 : decode cX5_orders 10 = .ok (.iload_n 1, 1) := by decide +kernel
theorem dX5_orders_11 : decode cX5_orders 11 = .ok (.aload_n 0, 1) := by decide +kernel
theorem dX5_orders_12 : decode cX5_orders 12 = .ok (.getfield 104, 3) := by decide +kernel
theorem dX5_orders_15 : decode cX5_orders 15 = .ok (.if_icmp .ge 113, 3) := by decide +kernel
theorem dX5_orders_18 : decode cX5_orders 18 = .ok (.iconst 0, 1) := by decide +kernel
theorem dX5_orders_19 : decode cX5_orders 19 = .ok (.istore_n 3, 1) := by decide +kernel
theorem dX5_orders_20 : decode cX5_orders 20 = .ok (.iload_n 3, 1) := by decide +kernel
theorem dX5_orders_21 : decode cX5_orders 21 = .ok (.aload_n 0, 1) := by decide +kernel
theorem dX5_orders_22 : decode cX5_orders 22 = .ok (.getfield 104, 3) := by decide +kernel
theorem dX5_orders_25 : decode cX5_orders 25 = .ok (.if_icmp .ge 26, 3) := by decide +kernel
theorem dX5_orders_28 : decode cX5_orders 28 = .ok (.aload_n 0, 1) := by decide +kernel
theorem dX5_orders_29 : decode cX5_orders 29 = .ok (.getfield 52, 3) := by decide +kernel
theorem dX5_orders_32 : decode cX5_orders 32 = .ok (.iload_n 3, 1) := by decide +kernel
theorem dX5_orders_33 : decode cX5_orders 33 = .ok (.aload_n 0, 1) := by decide +kernel
theorem dX5_orders_34 : decode cX5_orders 34 = .ok (.getfield 46, 3) := by decide +kernel
theorem dX5_orders_37 : decode cX5_orders 37 = .ok (.bipush 6, 2) := by decide +kernel
theorem dX5_orders_39 : decode cX5_orders 39 = .ok (.iload_n 3, 1) := by decide +kernel
theorem dX5_orders_40 : decode cX5_orders 40 = .ok (.imul, 1) := by decide +kernel
theorem dX5_orders_41 : decode cX5_orders 41 = .ok (.iload_n 2, 1) := by decide +kernel
theorem dX5_orders_42 : decode cX5_orders 42 = .ok (.iadd, 1) := by decide +kernel
theorem dX5_orders_43 : decode cX5_orders 43 = .ok (.laload, 1) := by decide +kernel
theorem dX5_orders_44 : decode cX5_orders 44 = .ok (.lastore, 1) := by decide +kernel
theorem dX5_orders_45 : decode cX5_orders 45 = .ok (.iinc 3 1, 3) := by decide +kernel
theorem dX5_orders_48 : decode cX5_orders 48 = .ok (.goto (-28), 3) := by decide +kernel
theorem dX5_orders_51 : decode cX5_orders 51 = .ok (.aload_n 0, 1) := by decide +kernel
theorem dX5_orders_52 : decode cX5_orders 52 = .ok (.iload_n 1, 1) := by decide +kernel
theorem dX5_orders_53 : decode cX5_orders 53 = .ok (.aload_n 0, 1) := by decide +kernel
theorem dX5_orders_54 : decode cX5_orders 54 = .ok (.getfield 104, 3) := by decide +kernel
theorem dX5_orders_57 : decode cX5_orders 57 = .ok (.iload_n 1, 1) := by decide +kernel
theorem dX5_orders_58 : decode cX5_orders 58 = .ok (.isub, 1) := by decide +kernel
theorem dX5_orders_59 : decode cX5_orders 59 = .ok (.invokevirtual 123, 3) := by decide +kernel
theorem dX5_orders_62 : decode cX5_orders 62 = .ok (.ifCond .eq 60, 3) := by decide +kernel
theorem dX5_orders_65 : decode cX5_orders 65 = .ok (.aload_n 0, 1) := by decide +kernel
theorem dX5_orders_66 : decode cX5_orders 66 = .ok (.getfield 52, 3) := by decide +kernel
theorem dX5_orders_69 : decode cX5_orders 69 = .ok (.iload_n 1, 1) := by decide +kernel
theorem dX5_orders_70 : decode cX5_orders 70 = .ok (.laload, 1) := by decide +kernel
theorem dX5_orders_71 : decode cX5_orders 71 = .ok (.lconst 0, 1) := by decide +kernel
theorem dX5_orders_72 : decode cX5_orders 72 = .ok (.lcmp, 1) := by decide +kernel
theorem dX5_orders_73 : decode cX5_orders 73 = .ok (.ifCond .ge 12, 3) := by decide +kernel
theorem dX5_orders_76 : decode cX5_orders 76 = .ok (.aload_n 0, 1) := by decide +kernel
theorem dX5_orders_77 : decode cX5_orders 77 = .ok (.iload_n 1, 1) := by decide +kernel
theorem dX5_orders_78 : decode cX5_orders 78 = .ok (.iload_n 1, 1) := by decide +kernel
theorem dX5_orders_79 : decode cX5_orders 79 = .ok (.ldc2_w 133, 3) := by decide +kernel
theorem dX5_orders_82 : decode cX5_orders 82 = .ok (.invokevirtual 115, 3) := by decide +kernel
theorem dX5_orders_85 : decode cX5_orders 85 = .ok (.iconst 0, 1) := by decide +kernel
theorem dX5_orders_86 : decode cX5_orders 86 = .ok (.istore_n 3, 1) := by decide +kernel
theorem dX5_orders_87 : decode cX5_orders 87 = .ok (.iload_n 3, 1) := by decide +kernel
theorem dX5_orders_88 : decode cX5_orders 88 = .ok (.iload_n 1, 1) := by decide +kernel
theorem dX5_orders_89 : decode cX5_orders 89 = .ok (.if_icmp .ge 30, 3) := by decide +kernel
theorem dX5_orders_92 : decode cX5_orders 92 = .ok (.aload_n 0, 1) := by decide +kernel
theorem dX5_orders_93 : decode cX5_orders 93 = .ok (.iload_n 3, 1) := by decide +kernel
theorem dX5_orders_94 : decode cX5_orders 94 = .ok (.iload_n 1, 1) := by decide +kernel
theorem dX5_orders_95 : decode cX5_orders 95 = .ok (.aload_n 0, 1) := by decide +kernel
theorem dX5_orders_96 : decode cX5_orders 96 = .ok (.getfield 52, 3) := by decide +kernel
theorem dX5_orders_99 : decode cX5_orders 99 = .ok (.iload_n 3, 1) := by decide +kernel
theorem dX5_orders_100 : decode cX5_orders 100 = .ok (.laload, 1) := by decide +kernel
theorem dX5_orders_101 : decode cX5_orders 101 = .ok (.aload_n 0, 1) := by decide +kernel
theorem dX5_orders_102 : decode cX5_orders 102 = .ok (.getfield 52, 3) := by decide +kernel
theorem dX5_orders_105 : decode cX5_orders 105 = .ok (.iload_n 1, 1) := by decide +kernel
theorem dX5_orders_106 : decode cX5_orders 106 = .ok (.laload, 1) := by decide +kernel
theorem dX5_orders_107 : decode cX5_orders 107 = .ok (.invokestatic 135, 3) := by decide +kernel
theorem dX5_orders_110 : decode cX5_orders 110 = .ok (.invokevirtual 115, 3) := by decide +kernel
theorem dX5_orders_113 : decode cX5_orders 113 = .ok (.iinc 3 1, 3) := by decide +kernel
theorem dX5_orders_116 : decode cX5_orders 116 = .ok (.goto (-29), 3) := by decide +kernel
theorem dX5_orders_119 : decode cX5_orders 119 = .ok (.iinc 1 1, 3) := by decide +kernel
theorem dX5_orders_122 : decode cX5_orders 122 = .ok (.iinc 2 1, 3) := by decide +kernel
theorem dX5_orders_125 : decode cX5_orders 125 = .ok (.goto (-121), 3) := by decide +kernel
theorem dX5_orders_128 : decode cX5_orders 128 = .ok (.iconst 0, 1) := by decide +kernel
theorem dX5_orders_129 : decode cX5_orders 129 = .ok (.istore_n 2, 1) := by decide +kernel
theorem dX5_orders_130 : decode cX5_orders 130 = .ok (.iload_n 2, 1) := by decide +kernel
theorem dX5_orders_131 : decode cX5_orders 131 = .ok (.aload_n 0, 1) := by decide +kernel
theorem dX5_orders_132 : decode cX5_orders 132 = .ok (.getfield 104, 3) := by decide +kernel
theorem dX5_orders_135 : decode cX5_orders 135 = .ok (.if_icmp .ge 105, 3) := by decide +kernel
theorem dX5_orders_138 : decode cX5_orders 138 = .ok (.aload_n 0, 1) := by decide +kernel
theorem dX5_orders_139 : decode cX5_orders 139 = .ok (.iload_n 2, 1) := by decide +kernel
theorem dX5_orders_140 : decode cX5_orders 140 = .ok (.invokevirtual 139, 3) := by decide +kernel
theorem dX5_orders_143 : decode cX5_orders 143 = .ok (.istore_n 3, 1) := by decide +kernel
theorem dX5_orders_144 : decode cX5_orders 144 = .ok (.iconst 0, 1) := by decide +kernel
theorem dX5_orders_145 : decode cX5_orders 145 = .ok (.istore 4, 2) := by decide +kernel
theorem dX5_orders_147 : decode cX5_orders 147 = .ok (.iload 4, 2) := by decide +kernel
theorem dX5_orders_149 : decode cX5_orders 149 = .ok (.iconst 4, 1) := by decide +kernel
theorem dX5_orders_150 : decode cX5_orders 150 = .ok (.if_icmp .ge 84, 3) := by decide +kernel
theorem dX5_orders_153 : decode cX5_orders 153 = .ok (.aload_n 0, 1) := by decide +kernel
theorem dX5_orders_154 : decode cX5_orders 154 = .ok (.getfield 49, 3) := by decide +kernel
theorem dX5_orders_157 : decode cX5_orders 157 = .ok (.bipush 6, 2) := by decide +kernel
theorem dX5_orders_159 : decode cX5_orders 159 = .ok (.iload 4, 2) := by decide +kernel
theorem dX5_orders_161 : decode cX5_orders 161 = .ok (.imul, 1) := by decide +kernel
theorem dX5_orders_162 : decode cX5_orders 162 = .ok (.iload_n 3, 1) := by decide +kernel
theorem dX5_orders_163 : decode cX5_orders 163 = .ok (.iadd, 1) := by decide +kernel
theorem dX5_orders_164 : decode cX5_orders 164 = .ok (.laload, 1) := by decide +kernel
theorem dX5_orders_165 : decode cX5_orders 165 = .ok (.aload_n 0, 1) := by decide +kernel
theorem dX5_orders_166 : decode cX5_orders 166 = .ok (.getfield 46, 3) := by decide +kernel
theorem dX5_orders_169 : decode cX5_orders 169 = .ok (.bipush 6, 2) := by decide +kernel
theorem dX5_orders_171 : decode cX5_orders 171 = .ok (.iload_n 2, 1) := by decide +kernel
theorem dX5_orders_172 : decode cX5_orders 172 = .ok (.imul, 1) := by decide +kernel
theorem dX5_orders_173 : decode cX5_orders 173 = .ok (.iload_n 3, 1) := by decide +kernel
theorem dX5_orders_174 : decode cX5_orders 174 = .ok (.iadd, 1) := by decide +kernel
theorem dX5_orders_175 : decode cX5_orders 175 = .ok (.laload, 1) := by decide +kernel
theorem dX5_orders_176 : decode cX5_orders 176 = .ok (.invokestatic 135, 3) := by decide +kernel
theorem dX5_orders_179 : decode cX5_orders 179 = .ok (.lstore 5, 2) := by decide +kernel
theorem dX5_orders_181 : decode cX5_orders 181 = .ok (.iconst 0, 1) := by decide +kernel
theorem dX5_orders_182 : decode cX5_orders 182 = .ok (.istore 7, 2) := by decide +kernel
theorem dX5_orders_184 : decode cX5_orders 184 = .ok (.iload 7, 2) := by decide +kernel
theorem dX5_orders_186 : decode cX5_orders 186 = .ok (.bipush 6, 2) := by decide +kernel
theorem dX5_orders_188 : decode cX5_orders 188 = .ok (.if_icmp .ge 40, 3) := by decide +kernel
theorem dX5_orders_191 : decode cX5_orders 191 = .ok (.aload_n 0, 1) := by decide +kernel
theorem dX5_orders_192 : decode cX5_orders 192 = .ok (.getfield 49, 3) := by decide +kernel
theorem dX5_orders_195 : decode cX5_orders 195 = .ok (.bipush 6, 2) := by decide +kernel
theorem dX5_orders_197 : decode cX5_orders 197 = .ok (.iload 4, 2) := by decide +kernel
theorem dX5_orders_199 : decode cX5_orders 199 = .ok (.imul, 1) := by decide +kernel
theorem dX5_orders_200 : decode cX5_orders 200 = .ok (.iload 7, 2) := by decide +kernel
theorem dX5_orders_202 : decode cX5_orders 202 = .ok (.iadd, 1) := by decide +kernel
theorem dX5_orders_203 : decode cX5_orders 203 = .ok (.dup2, 1) := by decide +kernel
theorem dX5_orders_204 : decode cX5_orders 204 = .ok (.laload, 1) := by decide +kernel
theorem dX5_orders_205 : decode cX5_orders 205 = .ok (.lload 5, 2) := by decide +kernel
theorem dX5_orders_207 : decode cX5_orders 207 = .ok (.aload_n 0, 1) := by decide +kernel
theorem dX5_orders_208 : decode cX5_orders 208 = .ok (.getfield 46, 3) := by decide +kernel
theorem dX5_orders_211 : decode cX5_orders 211 = .ok (.bipush 6, 2) := by decide +kernel
theorem dX5_orders_213 : decode cX5_orders 213 = .ok (.iload_n 2, 1) := by decide +kernel
theorem dX5_orders_214 : decode cX5_orders 214 = .ok (.imul, 1) := by decide +kernel
theorem dX5_orders_215 : decode cX5_orders 215 = .ok (.iload 7, 2) := by decide +kernel
theorem dX5_orders_217 : decode cX5_orders 217 = .ok (.iadd, 1) := by decide +kernel
theorem dX5_orders_218 : decode cX5_orders 218 = .ok (.laload, 1) := by decide +kernel
theorem dX5_orders_219 : decode cX5_orders 219 = .ok (.lmul, 1) := by decide +kernel
theorem dX5_orders_220 : decode cX5_orders 220 = .ok (.lsub, 1) := by decide +kernel
theorem dX5_orders_221 : decode cX5_orders 221 = .ok (.lastore, 1) := by decide +kernel
theorem dX5_orders_222 : decode cX5_orders 222 = .ok (.iinc 7 1, 3) := by decide +kernel
theorem dX5_orders_225 : decode cX5_orders 225 = .ok (.goto (-41), 3) := by decide +kernel
theorem dX5_orders_228 : decode cX5_orders 228 = .ok (.iinc 4 1, 3) := by decide +kernel
theorem dX5_orders_231 : decode cX5_orders 231 = .ok (.goto (-84), 3) := by decide +kernel
theorem dX5_orders_234 : decode cX5_orders 234 = .ok (.iinc 2 1, 3) := by decide +kernel
theorem dX5_orders_237 : decode cX5_orders 237 = .ok (.goto (-107), 3) := by decide +kernel
theorem dX5_orders_240 : decode cX5_orders 240 = .ok (.return_, 1) := by decide +kernel
set_option maxRecDepth 20000 in
theorem ggX5_solves_X5_startsFree : GoodIn wsX5_solves wsX5_startsFree := goodIn_r _ [6, 7, 8, 9, 53, 54, 55, 56, 57, 58, 59, 60, 61, 62, 63, 64, 65, 66, 67, 68, 69, 70, 71, 72, 73] (by decide +kernel) (by decide +kernel)
set_option maxRecDepth 20000 in
theorem gX5_solves_X5_startsFree : GoodIn wsX5_solves (wsV RX5 143 RX5 yX5_startsFree wsX5_startsFree) := goodIn_app (goodIn_of _ (by decide +kernel)) ggX5_solves_X5_startsFree
set_option maxRecDepth 20000 in
theorem ggX5_solves_X5_has : GoodIn wsX5_solves wsX5_has := goodIn_r _ [12] (by decide +kernel) (by decide +kernel)
set_option maxRecDepth 20000 in
theorem gX5_solves_X5_has : GoodIn wsX5_solves (va_wsS RX5 146 yX5_has wsX5_has) := goodIn_app (goodIn_of _ (by decide +kernel)) ggX5_solves_X5_has
set_option maxRecDepth 20000 in
theorem ggX5_solves_X5_adds : GoodIn wsX5_solves wsX5_adds := goodIn_r _ [16, 7, 17, 9, 8, 18, 19, 20, 5, 21, 22, 23, 24, 25, 26, 27, 28, 29, 30, 31, 32, 33, 34, 35, 36, 37, 38, 39, 40, 41, 42, 43, 44, 45, 46, 47, 48, 49, 50, 51, 52, 53, 54, 55, 56, 57, 58, 59, 60, 61, 62, 63, 64, 65, 66, 67, 68, 69, 70, 71, 72, 73] (by decide +kernel) (by decide +kernel)
set_option maxRecDepth 20000 in
theorem gX5_solves_X5_adds : GoodIn wsX5_solves (wsV RX5 149 RX5 yX5_adds wsX5_adds) := goodIn_app (goodIn_of _ (by decide +kernel)) ggX5_solves_X5_adds
theorem dX5_solves_0 : decode cX5_solves 0 = .ok (.aload_n 0, 1) := by decide +kernel
theorem dX5_solves_1 : decode cX5_solves 1 = .ok (.invokevirtual 143, 3) := by decide +kernel
theorem dX5_solves_4 : decode cX5_solves 4 = .ok (.iconst 0, 1) := by decide +kernel
theorem dX5_solves_5 : decode cX5_solves 5 = .ok (.istore_n 2, 1) := by decide +kernel
theorem dX5_solves_6 : decode cX5_solves 6 = .ok (.iload_n 2, 1) := by decide +kernel
theorem dX5_solves_7 : decode cX5_solves 7 = .ok (.aload_n 0, 1) := by decide +kernel
theorem dX5_solves_8 : decode cX5_solves 8 = .ok (.getfield 17, 3) := by decide +kernel
theorem dX5_solves_11 : decode cX5_solves 11 = .ok (.iconst 0, 1) := by decide +kernel
theorem dX5_solves_12 : decode cX5_solves 12 = .ok (.iaload, 1) := by decide +kernel
theorem dX5_solves_13 : decode cX5_solves 13 = .ok (.if_icmp .ge 32, 3) := by decide +kernel
theorem dX5_solves_16 : decode cX5_solves 16 = .ok (.iload_n 1, 1) := by decide +kernel
theorem dX5_solves_17 : decode cX5_solves 17 = .ok (.iload_n 2, 1) := by decide +kernel
theorem dX5_solves_18 : decode cX5_solves 18 = .ok (.invokestatic 146, 3) := by decide +kernel
theorem dX5_solves_21 : decode cX5_solves 21 = .ok (.ifCond .eq 18, 3) := by decide +kernel
theorem dX5_solves_24 : decode cX5_solves 24 = .ok (.aload_n 0, 1) := by decide +kernel
theorem dX5_solves_25 : decode cX5_solves 25 = .ok (.aload_n 0, 1) := by decide +kernel
theorem dX5_solves_26 : decode cX5_solves 26 = .ok (.getfield 17, 3) := by decide +kernel
theorem dX5_solves_29 : decode cX5_solves 29 = .ok (.iconst 1, 1) := by decide +kernel
theorem dX5_solves_30 : decode cX5_solves 30 = .ok (.bipush 10, 2) := by decide +kernel
theorem dX5_solves_32 : decode cX5_solves 32 = .ok (.iload_n 2, 1) := by decide +kernel
theorem dX5_solves_33 : decode cX5_solves 33 = .ok (.imul, 1) := by decide +kernel
theorem dX5_solves_34 : decode cX5_solves 34 = .ok (.iadd, 1) := by decide +kernel
theorem dX5_solves_35 : decode cX5_solves 35 = .ok (.invokevirtual 149, 3) := by decide +kernel
theorem dX5_solves_38 : decode cX5_solves 38 = .ok (.pop, 1) := by decide +kernel
theorem dX5_solves_39 : decode cX5_solves 39 = .ok (.iinc 2 1, 3) := by decide +kernel
theorem dX5_solves_42 : decode cX5_solves 42 = .ok (.goto (-36), 3) := by decide +kernel
theorem dX5_solves_45 : decode cX5_solves 45 = .ok (.return_, 1) := by decide +kernel
theorem dX5_allOf_0 : decode cX5_allOf 0 = .ok (.iconst 1, 1) := by decide +kernel
theorem dX5_allOf_1 : decode cX5_allOf 1 = .ok (.aload_n 0, 1) := by decide +kernel
theorem dX5_allOf_2 : decode cX5_allOf 2 = .ok (.getfield 17, 3) := by decide +kernel
theorem dX5_allOf_5 : decode cX5_allOf 5 = .ok (.iconst 0, 1) := by decide +kernel
theorem dX5_allOf_6 : decode cX5_allOf 6 = .ok (.iaload, 1) := by decide +kernel
theorem dX5_allOf_7 : decode cX5_allOf 7 = .ok (.ishl, 1) := by decide +kernel
theorem dX5_allOf_8 : decode cX5_allOf 8 = .ok (.iconst 1, 1) := by decide +kernel
theorem dX5_allOf_9 : decode cX5_allOf 9 = .ok (.isub, 1) := by decide +kernel
theorem dX5_allOf_10 : decode cX5_allOf 10 = .ok (.ireturn, 1) := by decide +kernel
set_option maxRecDepth 20000 in
theorem ggX5_isTrue_X5_sumOf : GoodIn wsX5_isTrue wsX5_sumOf := goodIn_r _ [6, 7, 13, 14, 15, 16, 17, 18, 19, 20, 21, 22, 23, 24, 25, 26, 27, 28, 29, 30, 31, 32, 33] (by decide +kernel) (by decide +kernel)
set_option maxRecDepth 20000 in
theorem gX5_isTrue_X5_sumOf : GoodIn wsX5_isTrue (wsV RX5 119 RX5 yX5_sumOf wsX5_sumOf) := goodIn_app (goodIn_of _ (by decide +kernel)) ggX5_isTrue_X5_sumOf
set_option maxRecDepth 20000 in
theorem ggX5_isTrue_X5_restOf : GoodIn wsX5_isTrue wsX5_restOf := goodIn_r _ [11, 12, 13, 14, 15, 16, 17, 18, 19, 20, 21, 22, 23, 24, 25, 26, 27, 28, 29, 30, 31, 32, 33] (by decide +kernel) (by decide +kernel)
set_option maxRecDepth 20000 in
theorem gX5_isTrue_X5_restOf : GoodIn wsX5_isTrue (wsV RX5 127 RX5 yX5_restOf wsX5_restOf) := goodIn_app (goodIn_of _ (by decide +kernel)) ggX5_isTrue_X5_restOf
theorem dX5_isTrue_0 : decode cX5_isTrue 0 = .ok (.iconst 1, 1) := by decide +kernel
theorem dX5_isTrue_1 : decode cX5_isTrue 1 = .ok (.istore_n 3, 1) := by decide +kernel
theorem dX5_isTrue_2 : decode cX5_isTrue 2 = .ok (.iconst 0, 1) := by decide +kernel
theorem dX5_isTrue_3 : decode cX5_isTrue 3 = .ok (.istore 4, 2) := by decide +kernel
theorem dX5_isTrue_5 : decode cX5_isTrue 5 = .ok (.iload 4, 2) := by decide +kernel
theorem dX5_isTrue_7 : decode cX5_isTrue 7 = .ok (.aload_n 0, 1) := by decide +kernel
theorem dX5_isTrue_8 : decode cX5_isTrue 8 = .ok (.getfield 104, 3) := by decide +kernel
theorem dX5_isTrue_11 : decode cX5_isTrue 11 = .ok (.if_icmp .ge 32, 3) := by decide +kernel
theorem dX5_isTrue_14 : decode cX5_isTrue 14 = .ok (.iload_n 3, 1) := by decide +kernel
theorem dX5_isTrue_15 : decode cX5_isTrue 15 = .ok (.ifCond .eq 20, 3) := by decide +kernel
theorem dX5_isTrue_18 : decode cX5_isTrue 18 = .ok (.aload_n 0, 1) := by decide +kernel
theorem dX5_isTrue_19 : decode cX5_isTrue 19 = .ok (.aload_n 1, 1) := by decide +kernel
theorem dX5_isTrue_20 : decode cX5_isTrue 20 = .ok (.iload_n 2, 1) := by decide +kernel
theorem dX5_isTrue_21 : decode cX5_isTrue 21 = .ok (.iload 4, 2) := by decide +kernel
theorem dX5_isTrue_23 : decode cX5_isTrue 23 = .ok (.invokevirtual 119, 3) := by decide +kernel
theorem dX5_isTrue_26 : decode cX5_isTrue 26 = .ok (.lconst 0, 1) := by decide +kernel
theorem dX5_isTrue_27 : decode cX5_isTrue 27 = .ok (.lcmp, 1) := by decide +kernel
theorem dX5_isTrue_28 : decode cX5_isTrue 28 = .ok (.ifCond .ne 7, 3) := by decide +kernel
theorem dX5_isTrue_31 : decode cX5_isTrue 31 = .ok (.iconst 1, 1) := by decide +kernel
theorem dX5_isTrue_32 : decode cX5_isTrue 32 = .ok (.goto 4, 3) := by decide +kernel
theorem dX5_isTrue_35 : decode cX5_isTrue 35 = .ok (.iconst 0, 1) := by decide +kernel
theorem dX5_isTrue_36 : decode cX5_isTrue 36 = .ok (.istore_n 3, 1) := by decide +kernel
theorem dX5_isTrue_37 : decode cX5_isTrue 37 = .ok (.iinc 4 1, 3) := by decide +kernel
theorem dX5_isTrue_40 : decode cX5_isTrue 40 = .ok (.goto (-35), 3) := by decide +kernel
theorem dX5_isTrue_43 : decode cX5_isTrue 43 = .ok (.iconst 0, 1) := by decide +kernel
theorem dX5_isTrue_44 : decode cX5_isTrue 44 = .ok (.istore 4, 2) := by decide +kernel
theorem dX5_isTrue_46 : decode cX5_isTrue 46 = .ok (.iload 4, 2) := by decide +kernel
theorem dX5_isTrue_48 : decode cX5_isTrue 48 = .ok (.iconst 4, 1) := by decide +kernel
theorem dX5_isTrue_49 : decode cX5_isTrue 49 = .ok (.if_icmp .ge 32, 3) := by decide +kernel
theorem dX5_isTrue_52 : decode cX5_isTrue 52 = .ok (.iload_n 3, 1) := by decide +kernel
theorem dX5_isTrue_53 : decode cX5_isTrue 53 = .ok (.ifCond .eq 20, 3) := by decide +kernel
theorem dX5_isTrue_56 : decode cX5_isTrue 56 = .ok (.aload_n 0, 1) := by decide +kernel
theorem dX5_isTrue_57 : decode cX5_isTrue 57 = .ok (.aload_n 1, 1) := by decide +kernel
theorem dX5_isTrue_58 : decode cX5_isTrue 58 = .ok (.iload_n 2, 1) := by decide +kernel
theorem dX5_isTrue_59 : decode cX5_isTrue 59 = .ok (.iload 4, 2) := by decide +kernel
theorem dX5_isTrue_61 : decode cX5_isTrue 61 = .ok (.invokevirtual 127, 3) := by decide +kernel
theorem dX5_isTrue_64 : decode cX5_isTrue 64 = .ok (.lconst 0, 1) := by decide +kernel
theorem dX5_isTrue_65 : decode cX5_isTrue 65 = .ok (.lcmp, 1) := by decide +kernel
theorem dX5_isTrue_66 : decode cX5_isTrue 66 = .ok (.ifCond .ne 7, 3) := by decide +kernel
theorem dX5_isTrue_69 : decode cX5_isTrue 69 = .ok (.iconst 1, 1) := by decide +kernel
theorem dX5_isTrue_70 : decode cX5_isTrue 70 = .ok (.goto 4, 3) := by decide +kernel
theorem dX5_isTrue_73 : decode cX5_isTrue 73 = .ok (.iconst 0, 1) := by decide +kernel
theorem dX5_isTrue_74 : decode cX5_isTrue 74 = .ok (.istore_n 3, 1) := by decide +kernel
theorem dX5_isTrue_75 : decode cX5_isTrue 75 = .ok (.iinc 4 1, 3) := by decide +kernel
theorem dX5_isTrue_78 : decode cX5_isTrue 78 = .ok (.goto (-32), 3) := by decide +kernel
theorem dX5_isTrue_81 : decode cX5_isTrue 81 = .ok (.iload_n 3, 1) := by decide +kernel
theorem dX5_isTrue_82 : decode cX5_isTrue 82 = .ok (.ireturn, 1) := by decide +kernel
set_option maxRecDepth 20000 in
theorem ggX5_isSpare_X5_allOf : GoodIn wsX5_isSpare wsX5_allOf := goodIn_r _ [6, 1, 65, 66, 67, 68, 69, 70, 71, 72, 73, 74, 75, 76, 77, 78, 79, 80, 81, 82, 83, 84, 85] (by decide +kernel) (by decide +kernel)
set_option maxRecDepth 20000 in
theorem gX5_isSpare_X5_allOf : GoodIn wsX5_isSpare (wsV RX5 153 RX5 yX5_allOf wsX5_allOf) := goodIn_app (goodIn_of _ (by decide +kernel)) ggX5_isSpare_X5_allOf
set_option maxRecDepth 20000 in
theorem ggX5_isSpare_X5_solves : GoodIn wsX5_isSpare wsX5_solves := goodIn_r _ [10, 1, 11, 12, 13, 5, 14, 15, 16, 17, 18, 19, 20, 21, 22, 23, 24, 25, 26, 27, 28, 29, 30, 31, 32, 33, 34, 35, 36, 37, 38, 39, 40, 41, 42, 43, 44, 45, 46, 47, 48, 49, 50, 51, 52, 53, 54, 55, 56, 57, 58, 59, 60, 65, 66, 67, 68, 69, 70, 71, 72, 73, 74, 75, 76, 77, 78, 79, 80, 81, 82, 83, 84, 85] (by decide +kernel) (by decide +kernel)
set_option maxRecDepth 20000 in
theorem gX5_isSpare_X5_solves : GoodIn wsX5_isSpare (wsV RX5 156 RX5 yX5_solves wsX5_solves) := goodIn_app (goodIn_of _ (by decide +kernel)) ggX5_isSpare_X5_solves
set_option maxRecDepth 20000 in
theorem ggX5_isSpare_X5_isTrue : GoodIn wsX5_isSpare wsX5_isTrue := goodIn_r _ [64, 15, 26, 27, 28, 5, 29, 16, 45, 46, 47, 48, 17, 65, 66, 67, 68, 69, 70, 71, 72, 73, 74, 75, 76, 77, 78, 79, 80, 81, 82, 83, 84, 85] (by decide +kernel) (by decide +kernel)
set_option maxRecDepth 20000 in
theorem gX5_isSpare_X5_isTrue : GoodIn wsX5_isSpare (wsV RX5 159 RX5 yX5_isTrue wsX5_isTrue) := goodIn_app (goodIn_of _ (by decide +kernel)) ggX5_isSpare_X5_isTrue
theorem dX5_isSpare_0 : decode cX5_isSpare 0 = .ok (.aload_n 0, 1) := by decide +kernel
theorem dX5_isSpare_1 : decode cX5_isSpare 1 = .ok (.aload_n 0, 1) := by decide +kernel
theorem dX5_isSpare_2 : decode cX5_isSpare 2 = .ok (.invokevirtual 153, 3) := by decide +kernel
theorem dX5_isSpare_5 : decode cX5_isSpare 5 = .ok (.iconst 1, 1) := by decide +kernel
theorem dX5_isSpare_6 : decode cX5_isSpare 6 = .ok (.iload_n 1, 1) := by decide +kernel
theorem dX5_isSpare_7 : decode cX5_isSpare 7 = .ok (.ishl, 1) := by decide +kernel
theorem dX5_isSpare_8 : decode cX5_isSpare 8 = .ok (.iconst (-1), 1) := by decide +kernel
theorem dX5_isSpare_9 : decode cX5_isSpare 9 = .ok (.ixor, 1) := by decide +kernel
theorem dX5_isSpare_10 : decode cX5_isSpare 10 = .ok (.iand, 1) := by decide +kernel
theorem dX5_isSpare_11 : decode cX5_isSpare 11 = .ok (.invokevirtual 156, 3) := by decide +kernel
theorem dX5_isSpare_14 : decode cX5_isSpare 14 = .ok (.aload_n 0, 1) := by decide +kernel
theorem dX5_isSpare_15 : decode cX5_isSpare 15 = .ok (.aload_n 0, 1) := by decide +kernel
theorem dX5_isSpare_16 : decode cX5_isSpare 16 = .ok (.getfield 17, 3) := by decide +kernel
theorem dX5_isSpare_19 : decode cX5_isSpare 19 = .ok (.iconst 1, 1) := by decide +kernel
theorem dX5_isSpare_20 : decode cX5_isSpare 20 = .ok (.bipush 10, 2) := by decide +kernel
theorem dX5_isSpare_22 : decode cX5_isSpare 22 = .ok (.iload_n 1, 1) := by decide +kernel
theorem dX5_isSpare_23 : decode cX5_isSpare 23 = .ok (.imul, 1) := by decide +kernel
theorem dX5_isSpare_24 : decode cX5_isSpare 24 = .ok (.iadd, 1) := by decide +kernel
theorem dX5_isSpare_25 : decode cX5_isSpare 25 = .ok (.invokevirtual 159, 3) := by decide +kernel
theorem dX5_isSpare_28 : decode cX5_isSpare 28 = .ok (.ireturn, 1) := by decide +kernel
set_option maxRecDepth 20000 in
theorem ggX5_spareMany_X5_isSpare : GoodIn wsX5_spareMany wsX5_isSpare := goodIn_r _ [6, 1, 7, 8, 9, 5, 10, 11, 12, 13, 14, 15, 16, 17, 18, 19, 20, 21, 22, 23, 24, 25, 26, 27, 28, 29, 30, 31, 32, 33, 34, 35, 36, 37, 38, 39, 40, 41, 42, 43, 44, 45, 46, 47, 48, 49, 50, 51, 52, 53, 54, 55, 56, 57, 58, 59, 60, 61, 62, 63, 64, 65, 66, 67, 68, 69, 70, 71, 72, 73, 74, 75, 76, 77, 78, 79, 80, 81, 82, 83, 84, 85, 86, 87, 88, 89] (by decide +kernel) (by decide +kernel)
set_option maxRecDepth 20000 in
theorem gX5_spareMany_X5_isSpare : GoodIn wsX5_spareMany (wsV RX5 162 RX5 yX5_isSpare wsX5_isSpare) := goodIn_app (goodIn_of _ (by decide +kernel)) ggX5_spareMany_X5_isSpare
theorem dX5_spareMany_0 : decode cX5_spareMany 0 = .ok (.iconst 0, 1) := by decide +kernel
theorem dX5_spareMany_1 : decode cX5_spareMany 1 = .ok (.istore_n 1, 1) := by decide +kernel
theorem dX5_spareMany_2 : decode cX5_spareMany 2 = .ok (.iconst 0, 1) := by decide +kernel
theorem dX5_spareMany_3 : decode cX5_spareMany 3 = .ok (.istore_n 2, 1) := by decide +kernel
theorem dX5_spareMany_4 : decode cX5_spareMany 4 = .ok (.iload_n 2, 1) := by decide +kernel
theorem dX5_spareMany_5 : decode cX5_spareMany 5 = .ok (.aload_n 0, 1) := by decide +kernel
theorem dX5_spareMany_6 : decode cX5_spareMany 6 = .ok (.getfield 17, 3) := by decide +kernel
theorem dX5_spareMany_9 : decode cX5_spareMany 9 = .ok (.iconst 0, 1) := by decide +kernel
theorem dX5_spareMany_10 : decode cX5_spareMany 10 = .ok (.iaload, 1) := by decide +kernel
theorem dX5_spareMany_11 : decode cX5_spareMany 11 = .ok (.if_icmp .ge 25, 3) := by decide +kernel
theorem dX5_spareMany_14 : decode cX5_spareMany 14 = .ok (.iload_n 1, 1) := by decide +kernel
theorem dX5_spareMany_15 : decode cX5_spareMany 15 = .ok (.aload_n 0, 1) := by decide +kernel
theorem dX5_spareMany_16 : decode cX5_spareMany 16 = .ok (.iload_n 2, 1) := by decide +kernel
theorem dX5_spareMany_17 : decode cX5_spareMany 17 = .ok (.invokevirtual 162, 3) := by decide +kernel
theorem dX5_spareMany_20 : decode cX5_spareMany 20 = .ok (.ifCond .eq 7, 3) := by decide +kernel
theorem dX5_spareMany_23 : decode cX5_spareMany 23 = .ok (.iconst 1, 1) := by decide +kernel
theorem dX5_spareMany_24 : decode cX5_spareMany 24 = .ok (.goto 4, 3) := by decide +kernel
theorem dX5_spareMany_27 : decode cX5_spareMany 27 = .ok (.iconst 0, 1) := by decide +kernel
theorem dX5_spareMany_28 : decode cX5_spareMany 28 = .ok (.iadd, 1) := by decide +kernel
theorem dX5_spareMany_29 : decode cX5_spareMany 29 = .ok (.istore_n 1, 1) := by decide +kernel
theorem dX5_spareMany_30 : decode cX5_spareMany 30 = .ok (.iinc 2 1, 3) := by decide +kernel
theorem dX5_spareMany_33 : decode cX5_spareMany 33 = .ok (.goto (-29), 3) := by decide +kernel
theorem dX5_spareMany_36 : decode cX5_spareMany 36 = .ok (.iload_n 1, 1) := by decide +kernel
theorem dX5_spareMany_37 : decode cX5_spareMany 37 = .ok (.ireturn, 1) := by decide +kernel
set_option maxRecDepth 20000 in
theorem ggX5_fewestOf_X5_allOf : GoodIn wsX5_fewestOf wsX5_allOf := goodIn_r _ [6, 1, 68, 69, 70, 71, 72, 73, 74, 75, 76, 77, 78, 79, 80, 81, 82, 83, 84, 85, 86, 87, 88] (by decide +kernel) (by decide +kernel)
set_option maxRecDepth 20000 in
theorem gX5_fewestOf_X5_allOf : GoodIn wsX5_fewestOf (wsV RX5 153 RX5 yX5_allOf wsX5_allOf) := goodIn_app (goodIn_of _ (by decide +kernel)) ggX5_fewestOf_X5_allOf
set_option maxRecDepth 20000 in
theorem ggX5_fewestOf_X5_bits : GoodIn wsX5_fewestOf wsX5_bits := goodIn_r _ [9] (by decide +kernel) (by decide +kernel)
set_option maxRecDepth 20000 in
theorem gX5_fewestOf_X5_bits : GoodIn wsX5_fewestOf (va_wsS RX5 166 yX5_bits wsX5_bits) := goodIn_app (goodIn_of _ (by decide +kernel)) ggX5_fewestOf_X5_bits
set_option maxRecDepth 20000 in
theorem ggX5_fewestOf_X5_solves : GoodIn wsX5_fewestOf wsX5_solves := goodIn_r _ [13, 1, 14, 15, 16, 5, 17, 18, 19, 20, 21, 22, 23, 24, 25, 26, 27, 28, 29, 30, 31, 32, 33, 34, 35, 36, 37, 38, 39, 40, 41, 42, 43, 44, 45, 46, 47, 48, 49, 50, 51, 52, 53, 54, 55, 56, 57, 58, 59, 60, 61, 62, 63, 68, 69, 70, 71, 72, 73, 74, 75, 76, 77, 78, 79, 80, 81, 82, 83, 84, 85, 86, 87, 88] (by decide +kernel) (by decide +kernel)
set_option maxRecDepth 20000 in
theorem gX5_fewestOf_X5_solves : GoodIn wsX5_fewestOf (wsV RX5 156 RX5 yX5_solves wsX5_solves) := goodIn_app (goodIn_of _ (by decide +kernel)) ggX5_fewestOf_X5_solves
set_option maxRecDepth 20000 in
theorem ggX5_fewestOf_X5_isTrue : GoodIn wsX5_fewestOf wsX5_isTrue := goodIn_r _ [67, 18, 29, 30, 31, 5, 32, 19, 48, 49, 50, 51, 20, 68, 69, 70, 71, 72, 73, 74, 75, 76, 77, 78, 79, 80, 81, 82, 83, 84, 85, 86, 87, 88] (by decide +kernel) (by decide +kernel)
set_option maxRecDepth 20000 in
theorem gX5_fewestOf_X5_isTrue : GoodIn wsX5_fewestOf (wsV RX5 159 RX5 yX5_isTrue wsX5_isTrue) := goodIn_app (goodIn_of _ (by decide +kernel)) ggX5_fewestOf_X5_isTrue
theorem dX5_fewestOf_0 : decode cX5_fewestOf 0 = .ok (.aload_n 0, 1) := by decide +kernel
theorem dX5_fewestOf_1 : decode cX5_fewestOf 1 = .ok (.invokevirtual 153, 3) := by decide +kernel
theorem dX5_fewestOf_4 : decode cX5_fewestOf 4 = .ok (.istore_n 1, 1) := by decide +kernel
theorem dX5_fewestOf_5 : decode cX5_fewestOf 5 = .ok (.aload_n 0, 1) := by decide +kernel
theorem dX5_fewestOf_6 : decode cX5_fewestOf 6 = .ok (.invokevirtual 153, 3) := by decide +kernel
theorem dX5_fewestOf_9 : decode cX5_fewestOf 9 = .ok (.istore_n 2, 1) := by decide +kernel
theorem dX5_fewestOf_10 : decode cX5_fewestOf 10 = .ok (.iload_n 2, 1) := by decide +kernel
theorem dX5_fewestOf_11 : decode cX5_fewestOf 11 = .ok (.ifCond .lt 85, 3) := by decide +kernel
theorem dX5_fewestOf_14 : decode cX5_fewestOf 14 = .ok (.iload_n 2, 1) := by decide +kernel
theorem dX5_fewestOf_15 : decode cX5_fewestOf 15 = .ok (.invokestatic 166, 3) := by decide +kernel
theorem dX5_fewestOf_18 : decode cX5_fewestOf 18 = .ok (.iload_n 1, 1) := by decide +kernel
theorem dX5_fewestOf_19 : decode cX5_fewestOf 19 = .ok (.invokestatic 166, 3) := by decide +kernel
theorem dX5_fewestOf_22 : decode cX5_fewestOf 22 = .ok (.if_icmp .gt 7, 3) := by decide +kernel
theorem dX5_fewestOf_25 : decode cX5_fewestOf 25 = .ok (.iconst 1, 1) := by decide +kernel
theorem dX5_fewestOf_26 : decode cX5_fewestOf 26 = .ok (.goto 4, 3) := by decide +kernel
theorem dX5_fewestOf_29 : decode cX5_fewestOf 29 = .ok (.iconst 0, 1) := by decide +kernel
theorem dX5_fewestOf_30 : decode cX5_fewestOf 30 = .ok (.istore_n 3, 1) := by decide +kernel
theorem dX5_fewestOf_31 : decode cX5_fewestOf 31 = .ok (.iload_n 3, 1) := by decide +kernel
theorem dX5_fewestOf_32 : decode cX5_fewestOf 32 = .ok (.ifCond .eq 8, 3) := by decide +kernel
theorem dX5_fewestOf_35 : decode cX5_fewestOf 35 = .ok (.aload_n 0, 1) := by decide +kernel
theorem dX5_fewestOf_36 : decode cX5_fewestOf 36 = .ok (.iload_n 2, 1) := by decide +kernel
theorem dX5_fewestOf_37 : decode cX5_fewestOf 37 = .ok (.invokevirtual 156, 3) := by decide +kernel
theorem dX5_fewestOf_40 : decode cX5_fewestOf 40 = .ok (.iconst 0, 1) := by decide +kernel
theorem dX5_fewestOf_41 : decode cX5_fewestOf 41 = .ok (.istore 4, 2) := by decide +kernel
theorem dX5_fewestOf_43 : decode cX5_fewestOf 43 = .ok (.iload 4, 2) := by decide +kernel
theorem dX5_fewestOf_45 : decode cX5_fewestOf 45 = .ok (.aload_n 0, 1) := by decide +kernel
theorem dX5_fewestOf_46 : decode cX5_fewestOf 46 = .ok (.getfield 17, 3) := by decide +kernel
theorem dX5_fewestOf_49 : decode cX5_fewestOf 49 = .ok (.iconst 0, 1) := by decide +kernel
theorem dX5_fewestOf_50 : decode cX5_fewestOf 50 = .ok (.iaload, 1) := by decide +kernel
theorem dX5_fewestOf_51 : decode cX5_fewestOf 51 = .ok (.if_icmp .ge 29, 3) := by decide +kernel
theorem dX5_fewestOf_54 : decode cX5_fewestOf 54 = .ok (.iload_n 3, 1) := by decide +kernel
theorem dX5_fewestOf_55 : decode cX5_fewestOf 55 = .ok (.ifCond .eq 25, 3) := by decide +kernel
theorem dX5_fewestOf_58 : decode cX5_fewestOf 58 = .ok (.aload_n 0, 1) := by decide +kernel
theorem dX5_fewestOf_59 : decode cX5_fewestOf 59 = .ok (.aload_n 0, 1) := by decide +kernel
theorem dX5_fewestOf_60 : decode cX5_fewestOf 60 = .ok (.getfield 17, 3) := by decide +kernel
theorem dX5_fewestOf_63 : decode cX5_fewestOf 63 = .ok (.iconst 1, 1) := by decide +kernel
theorem dX5_fewestOf_64 : decode cX5_fewestOf 64 = .ok (.bipush 10, 2) := by decide +kernel
theorem dX5_fewestOf_66 : decode cX5_fewestOf 66 = .ok (.iload 4, 2) := by decide +kernel
theorem dX5_fewestOf_68 : decode cX5_fewestOf 68 = .ok (.imul, 1) := by decide +kernel
theorem dX5_fewestOf_69 : decode cX5_fewestOf 69 = .ok (.iadd, 1) := by decide +kernel
theorem dX5_fewestOf_70 : decode cX5_fewestOf 70 = .ok (.invokevirtual 159, 3) := by decide +kernel
theorem dX5_fewestOf_73 : decode cX5_fewestOf 73 = .ok (.istore_n 3, 1) := by decide +kernel
theorem dX5_fewestOf_74 : decode cX5_fewestOf 74 = .ok (.iinc 4 1, 3) := by decide +kernel
theorem dX5_fewestOf_77 : decode cX5_fewestOf 77 = .ok (.goto (-34), 3) := by decide +kernel
theorem dX5_fewestOf_80 : decode cX5_fewestOf 80 = .ok (.iload_n 3, 1) := by decide +kernel
theorem dX5_fewestOf_81 : decode cX5_fewestOf 81 = .ok (.ifCond .eq 7, 3) := by decide +kernel
theorem dX5_fewestOf_84 : decode cX5_fewestOf 84 = .ok (.iload_n 2, 1) := by decide +kernel
theorem dX5_fewestOf_85 : decode cX5_fewestOf 85 = .ok (.goto 4, 3) := by decide +kernel
theorem dX5_fewestOf_88 : decode cX5_fewestOf 88 = .ok (.iload_n 1, 1) := by decide +kernel
theorem dX5_fewestOf_89 : decode cX5_fewestOf 89 = .ok (.istore_n 1, 1) := by decide +kernel
theorem dX5_fewestOf_90 : decode cX5_fewestOf 90 = .ok (.iinc 2 (-1), 3) := by decide +kernel
theorem dX5_fewestOf_93 : decode cX5_fewestOf 93 = .ok (.goto (-83), 3) := by decide +kernel
theorem dX5_fewestOf_96 : decode cX5_fewestOf 96 = .ok (.iload_n 1, 1) := by decide +kernel
theorem dX5_fewestOf_97 : decode cX5_fewestOf 97 = .ok (.ireturn, 1) := by decide +kernel
theorem dX5_isSure_0 : decode cX5_isSure 0 = .ok (.iconst 1, 1) := by decide +kernel
theorem dX5_isSure_1 : decode cX5_isSure 1 = .ok (.istore_n 2, 1) := by decide +kernel
theorem dX5_isSure_2 : decode cX5_isSure 2 = .ok (.iconst 0, 1) := by decide +kernel
theorem dX5_isSure_3 : decode cX5_isSure 3 = .ok (.istore_n 3, 1) := by decide +kernel
theorem dX5_isSure_4 : decode cX5_isSure 4 = .ok (.iload_n 3, 1) := by decide +kernel
theorem dX5_isSure_5 : decode cX5_isSure 5 = .ok (.aload_n 0, 1) := by decide +kernel
theorem dX5_isSure_6 : decode cX5_isSure 6 = .ok (.getfield 104, 3) := by decide +kernel
theorem dX5_isSure_9 : decode cX5_isSure 9 = .ok (.if_icmp .ge 35, 3) := by decide +kernel
theorem dX5_isSure_12 : decode cX5_isSure 12 = .ok (.iload_n 2, 1) := by decide +kernel
theorem dX5_isSure_13 : decode cX5_isSure 13 = .ok (.ifCond .eq 23, 3) := by decide +kernel
theorem dX5_isSure_16 : decode cX5_isSure 16 = .ok (.aload_n 0, 1) := by decide +kernel
theorem dX5_isSure_17 : decode cX5_isSure 17 = .ok (.getfield 46, 3) := by decide +kernel
theorem dX5_isSure_20 : decode cX5_isSure 20 = .ok (.bipush 6, 2) := by decide +kernel
theorem dX5_isSure_22 : decode cX5_isSure 22 = .ok (.iload_n 3, 1) := by decide +kernel
theorem dX5_isSure_23 : decode cX5_isSure 23 = .ok (.imul, 1) := by decide +kernel
theorem dX5_isSure_24 : decode cX5_isSure 24 = .ok (.iload_n 1, 1) := by decide +kernel
theorem dX5_isSure_25 : decode cX5_isSure 25 = .ok (.iadd, 1) := by decide +kernel
theorem dX5_isSure_26 : decode cX5_isSure 26 = .ok (.laload, 1) := by decide +kernel
theorem dX5_isSure_27 : decode cX5_isSure 27 = .ok (.lconst 0, 1) := by decide +kernel
theorem dX5_isSure_28 : decode cX5_isSure 28 = .ok (.lcmp, 1) := by decide +kernel
theorem dX5_isSure_29 : decode cX5_isSure 29 = .ok (.ifCond .ne 7, 3) := by decide +kernel
theorem dX5_isSure_32 : decode cX5_isSure 32 = .ok (.iconst 1, 1) := by decide +kernel
theorem dX5_isSure_33 : decode cX5_isSure 33 = .ok (.goto 4, 3) := by decide +kernel
theorem dX5_isSure_36 : decode cX5_isSure 36 = .ok (.iconst 0, 1) := by decide +kernel
theorem dX5_isSure_37 : decode cX5_isSure 37 = .ok (.istore_n 2, 1) := by decide +kernel
theorem dX5_isSure_38 : decode cX5_isSure 38 = .ok (.iinc 3 1, 3) := by decide +kernel
theorem dX5_isSure_41 : decode cX5_isSure 41 = .ok (.goto (-37), 3) := by decide +kernel
theorem dX5_isSure_44 : decode cX5_isSure 44 = .ok (.iload_n 2, 1) := by decide +kernel
theorem dX5_isSure_45 : decode cX5_isSure 45 = .ok (.ireturn, 1) := by decide +kernel
set_option maxRecDepth 20000 in
theorem ggX5_toldMany_X5_isSure : GoodIn wsX5_toldMany wsX5_isSure := goodIn_r _ [5, 6, 7, 8, 9, 10, 11, 12, 13, 14, 15, 16, 17, 18, 19, 20, 21, 22, 23, 24, 25, 26, 27, 28] (by decide +kernel) (by decide +kernel)
set_option maxRecDepth 20000 in
theorem gX5_toldMany_X5_isSure : GoodIn wsX5_toldMany (wsV RX5 169 RX5 yX5_isSure wsX5_isSure) := goodIn_app (goodIn_of _ (by decide +kernel)) ggX5_toldMany_X5_isSure
theorem dX5_toldMany_0 : decode cX5_toldMany 0 = .ok (.iconst 0, 1) := by decide +kernel
theorem dX5_toldMany_1 : decode cX5_toldMany 1 = .ok (.istore_n 1, 1) := by decide +kernel
theorem dX5_toldMany_2 : decode cX5_toldMany 2 = .ok (.iconst 0, 1) := by decide +kernel
theorem dX5_toldMany_3 : decode cX5_toldMany 3 = .ok (.istore_n 2, 1) := by decide +kernel
theorem dX5_toldMany_4 : decode cX5_toldMany 4 = .ok (.iload_n 2, 1) := by decide +kernel
theorem dX5_toldMany_5 : decode cX5_toldMany 5 = .ok (.bipush 6, 2) := by decide +kernel
theorem dX5_toldMany_7 : decode cX5_toldMany 7 = .ok (.if_icmp .ge 25, 3) := by decide +kernel
theorem dX5_toldMany_10 : decode cX5_toldMany 10 = .ok (.iload_n 1, 1) := by decide +kernel
theorem dX5_toldMany_11 : decode cX5_toldMany 11 = .ok (.aload_n 0, 1) := by decide +kernel
theorem dX5_toldMany_12 : decode cX5_toldMany 12 = .ok (.iload_n 2, 1) := by decide +kernel
theorem dX5_toldMany_13 : decode cX5_toldMany 13 = .ok (.invokevirtual 169, 3) := by decide +kernel
theorem dX5_toldMany_16 : decode cX5_toldMany 16 = .ok (.ifCond .eq 7, 3) := by decide +kernel
theorem dX5_toldMany_19 : decode cX5_toldMany 19 = .ok (.iconst 1, 1) := by decide +kernel
theorem dX5_toldMany_20 : decode cX5_toldMany 20 = .ok (.goto 4, 3) := by decide +kernel
theorem dX5_toldMany_23 : decode cX5_toldMany 23 = .ok (.iconst 0, 1) := by decide +kernel
theorem dX5_toldMany_24 : decode cX5_toldMany 24 = .ok (.iadd, 1) := by decide +kernel
theorem dX5_toldMany_25 : decode cX5_toldMany 25 = .ok (.istore_n 1, 1) := by decide +kernel
theorem dX5_toldMany_26 : decode cX5_toldMany 26 = .ok (.iinc 2 1, 3) := by decide +kernel
theorem dX5_toldMany_29 : decode cX5_toldMany 29 = .ok (.goto (-25), 3) := by decide +kernel
theorem dX5_toldMany_32 : decode cX5_toldMany 32 = .ok (.iload_n 1, 1) := by decide +kernel
theorem dX5_toldMany_33 : decode cX5_toldMany 33 = .ok (.ireturn, 1) := by decide +kernel
set_option maxRecDepth 20000 in
theorem ggX5_told_X5_allOf : GoodIn wsX5_told wsX5_allOf := goodIn_r _ [10, 1, 91, 92, 93, 94, 95, 96, 97, 98, 99, 100, 101, 102, 103, 104, 105, 106, 107, 108, 109, 110, 111] (by decide +kernel) (by decide +kernel)
set_option maxRecDepth 20000 in
theorem gX5_told_X5_allOf : GoodIn wsX5_told (wsV RX5 153 RX5 yX5_allOf wsX5_allOf) := goodIn_app (goodIn_of _ (by decide +kernel)) ggX5_told_X5_allOf
set_option maxRecDepth 20000 in
theorem ggX5_told_X5_solves : GoodIn wsX5_told wsX5_solves := goodIn_r _ [14, 1, 15, 16, 17, 9, 18, 2, 19, 20, 21, 22, 23, 24, 25, 26, 27, 28, 29, 30, 31, 32, 33, 34, 35, 36, 37, 38, 39, 40, 41, 42, 43, 44, 45, 46, 47, 48, 49, 50, 51, 52, 53, 54, 55, 56, 57, 58, 59, 60, 61, 62, 63, 91, 92, 93, 94, 95, 96, 97, 98, 99, 100, 101, 102, 103, 104, 105, 106, 107, 108, 109, 110, 111] (by decide +kernel) (by decide +kernel)
set_option maxRecDepth 20000 in
theorem gX5_told_X5_solves : GoodIn wsX5_told (wsV RX5 156 RX5 yX5_solves wsX5_solves) := goodIn_app (goodIn_of _ (by decide +kernel)) ggX5_told_X5_solves
set_option maxRecDepth 20000 in
theorem ggX5_told_X5_toldMany : GoodIn wsX5_told wsX5_toldMany := goodIn_r _ [67, 68, 69, 70, 9, 71, 2, 19, 91, 92, 93, 94, 95, 96, 97, 98, 99, 100, 101, 102, 103, 104, 105, 106, 107, 108, 109, 110, 111] (by decide +kernel) (by decide +kernel)
set_option maxRecDepth 20000 in
theorem gX5_told_X5_toldMany : GoodIn wsX5_told (wsV RX5 172 RX5 yX5_toldMany wsX5_toldMany) := goodIn_app (goodIn_of _ (by decide +kernel)) ggX5_told_X5_toldMany
set_option maxRecDepth 20000 in
theorem ggX5_told_X5_spareMany : GoodIn wsX5_told wsX5_spareMany := goodIn_r _ [75, 1, 76, 77, 78, 9, 79, 6, 7, 8, 10, 11, 12, 13, 14, 15, 16, 17, 18, 2, 19, 20, 21, 22, 23, 24, 25, 26, 27, 28, 29, 30, 31, 32, 33, 34, 35, 36, 37, 38, 39, 40, 41, 42, 43, 44, 45, 46, 47, 48, 49, 50, 51, 52, 53, 54, 55, 56, 57, 58, 59, 60, 61, 62, 63, 80, 81, 82, 83, 91, 92, 93, 94, 95, 96, 97, 98, 99, 100, 101, 102, 103, 104, 105, 106, 107, 108, 109, 110, 111] (by decide +kernel) (by decide +kernel)
set_option maxRecDepth 20000 in
theorem gX5_told_X5_spareMany : GoodIn wsX5_told (wsV RX5 175 RX5 yX5_spareMany wsX5_spareMany) := goodIn_app (goodIn_of _ (by decide +kernel)) ggX5_told_X5_spareMany
set_option maxRecDepth 20000 in
theorem ggX5_told_X5_fewestOf : GoodIn wsX5_told wsX5_fewestOf := goodIn_r _ [87, 1, 6, 7, 8, 9, 10, 88, 89, 90, 11, 12, 13, 14, 15, 16, 17, 18, 2, 19, 20, 21, 22, 23, 24, 25, 26, 27, 28, 29, 30, 31, 32, 33, 34, 35, 36, 37, 38, 39, 40, 41, 42, 43, 44, 45, 46, 47, 48, 49, 50, 51, 52, 53, 54, 55, 56, 57, 58, 59, 60, 61, 62, 63, 80, 81, 82, 83, 91, 92, 93, 94, 95, 96, 97, 98, 99, 100, 101, 102, 103, 104, 105, 106, 107, 108, 109, 110, 111] (by decide +kernel) (by decide +kernel)
set_option maxRecDepth 20000 in
theorem gX5_told_X5_fewestOf : GoodIn wsX5_told (wsV RX5 178 RX5 yX5_fewestOf wsX5_fewestOf) := goodIn_app (goodIn_of _ (by decide +kernel)) ggX5_told_X5_fewestOf
set_option maxRecDepth 20000 in
theorem ggX5_told_X5_bits : GoodIn wsX5_told wsX5_bits := goodIn_r _ [90] (by decide +kernel) (by decide +kernel)
set_option maxRecDepth 20000 in
theorem gX5_told_X5_bits : GoodIn wsX5_told (va_wsS RX5 166 yX5_bits wsX5_bits) := goodIn_app (goodIn_of _ (by decide +kernel)) ggX5_told_X5_bits
theorem dX5_told_0 : decode cX5_told 0 = .ok (.aload_n 0, 1) := by decide +kernel
theorem dX5_told_1 : decode cX5_told 1 = .ok (.aload_n 0, 1) := by decide +kernel
theorem dX5_told_2 : decode cX5_told 2 = .ok (.invokevirtual 153, 3) := by decide +kernel
theorem dX5_told_5 : decode cX5_told 5 = .ok (.invokevirtual 156, 3) := by decide +kernel
theorem dX5_told_8 : decode cX5_told 8 = .ok (.iload_n 1, 1) := by decide +kernel
theorem dX5_told_9 : decode cX5_told 9 = .ok (.tableswitch 104 0 8 #[51, 58, 66, 71, 76, 81, 86, 94, 99], 51) := by decide +kernel
theorem dX5_told_60 : decode cX5_told 60 = .ok (.aload_n 0, 1) := by decide +kernel
theorem dX5_told_61 : decode cX5_told 61 = .ok (.getfield 17, 3) := by decide +kernel
theorem dX5_told_64 : decode cX5_told 64 = .ok (.iconst 0, 1) := by decide +kernel
theorem dX5_told_65 : decode cX5_told 65 = .ok (.iaload, 1) := by decide +kernel
theorem dX5_told_66 : decode cX5_told 66 = .ok (.ireturn, 1) := by decide +kernel
theorem dX5_told_67 : decode cX5_told 67 = .ok (.bipush 6, 2) := by decide +kernel
theorem dX5_told_69 : decode cX5_told 69 = .ok (.aload_n 0, 1) := by decide +kernel
theorem dX5_told_70 : decode cX5_told 70 = .ok (.getfield 104, 3) := by decide +kernel
theorem dX5_told_73 : decode cX5_told 73 = .ok (.isub, 1) := by decide +kernel
theorem dX5_told_74 : decode cX5_told 74 = .ok (.ireturn, 1) := by decide +kernel
theorem dX5_told_75 : decode cX5_told 75 = .ok (.aload_n 0, 1) := by decide +kernel
theorem dX5_told_76 : decode cX5_told 76 = .ok (.getfield 104, 3) := by decide +kernel
theorem dX5_told_79 : decode cX5_told 79 = .ok (.ireturn, 1) := by decide +kernel
theorem dX5_told_80 : decode cX5_told 80 = .ok (.aload_n 0, 1) := by decide +kernel
theorem dX5_told_81 : decode cX5_told 81 = .ok (.invokevirtual 172, 3) := by decide +kernel
theorem dX5_told_84 : decode cX5_told 84 = .ok (.ireturn, 1) := by decide +kernel
theorem dX5_told_85 : decode cX5_told 85 = .ok (.aload_n 0, 1) := by decide +kernel
theorem dX5_told_86 : decode cX5_told 86 = .ok (.getfield 60, 3) := by decide +kernel
theorem dX5_told_89 : decode cX5_told 89 = .ok (.ireturn, 1) := by decide +kernel
theorem dX5_told_90 : decode cX5_told 90 = .ok (.aload_n 0, 1) := by decide +kernel
theorem dX5_told_91 : decode cX5_told 91 = .ok (.invokevirtual 175, 3) := by decide +kernel
theorem dX5_told_94 : decode cX5_told 94 = .ok (.ireturn, 1) := by decide +kernel
theorem dX5_told_95 : decode cX5_told 95 = .ok (.aload_n 0, 1) := by decide +kernel
theorem dX5_told_96 : decode cX5_told 96 = .ok (.invokevirtual 178, 3) := by decide +kernel
theorem dX5_told_99 : decode cX5_told 99 = .ok (.invokestatic 166, 3) := by decide +kernel
theorem dX5_told_102 : decode cX5_told 102 = .ok (.ireturn, 1) := by decide +kernel
theorem dX5_told_103 : decode cX5_told 103 = .ok (.aload_n 0, 1) := by decide +kernel
theorem dX5_told_104 : decode cX5_told 104 = .ok (.invokevirtual 178, 3) := by decide +kernel
theorem dX5_told_107 : decode cX5_told 107 = .ok (.ireturn, 1) := by decide +kernel
theorem dX5_told_108 : decode cX5_told 108 = .ok (.aload_n 0, 1) := by decide +kernel
theorem dX5_told_109 : decode cX5_told 109 = .ok (.getfield 181, 3) := by decide +kernel
theorem dX5_told_112 : decode cX5_told 112 = .ok (.ireturn, 1) := by decide +kernel
theorem dX5_told_113 : decode cX5_told 113 = .ok (.ldc 59, 2) := by decide +kernel
theorem dX5_told_115 : decode cX5_told 115 = .ok (.ireturn, 1) := by decide +kernel
set_option maxRecDepth 20000 in
theorem ggX5_notes_X5_bring : GoodIn wsX5_notes wsX5_bring := goodIn_r _ [7] (by decide +kernel) (by decide +kernel)
set_option maxRecDepth 20000 in
theorem gX5_notes_X5_bring : GoodIn wsX5_notes (va_wsS RX5 90 yX5_bring wsX5_bring) := goodIn_app (goodIn_of _ (by decide +kernel)) ggX5_notes_X5_bring
theorem dX5_notes_0 : decode cX5_notes 0 = .ok (.aload_n 0, 1) := by decide +kernel
theorem dX5_notes_1 : decode cX5_notes 1 = .ok (.getfield 181, 3) := by decide +kernel
theorem dX5_notes_4 : decode cX5_notes 4 = .ok (.bipush 20, 2) := by decide +kernel
theorem dX5_notes_6 : decode cX5_notes 6 = .ok (.if_icmp .ne 30, 3) := by decide +kernel
theorem dX5_notes_9 : decode cX5_notes 9 = .ok (.aload_n 0, 1) := by decide +kernel
theorem dX5_notes_10 : decode cX5_notes 10 = .ok (.getfield 20, 3) := by decide +kernel
theorem dX5_notes_13 : decode cX5_notes 13 = .ok (.bipush 69, 2) := by decide +kernel
theorem dX5_notes_15 : decode cX5_notes 15 = .ok (.aload_n 0, 1) := by decide +kernel
theorem dX5_notes_16 : decode cX5_notes 16 = .ok (.getfield 20, 3) := by decide +kernel
theorem dX5_notes_19 : decode cX5_notes 19 = .ok (.iconst 0, 1) := by decide +kernel
theorem dX5_notes_20 : decode cX5_notes 20 = .ok (.sipush 1311, 3) := by decide +kernel
theorem dX5_notes_23 : decode cX5_notes 23 = .ok (.invokestatic 90, 3) := by decide +kernel
theorem dX5_notes_26 : decode cX5_notes 26 = .ok (.aload_n 0, 1) := by decide +kernel
theorem dX5_notes_27 : decode cX5_notes 27 = .ok (.dup, 1) := by decide +kernel
theorem dX5_notes_28 : decode cX5_notes 28 = .ok (.getfield 181, 3) := by decide +kernel
theorem dX5_notes_31 : decode cX5_notes 31 = .ok (.iconst 1, 1) := by decide +kernel
theorem dX5_notes_32 : decode cX5_notes 32 = .ok (.isub, 1) := by decide +kernel
theorem dX5_notes_33 : decode cX5_notes 33 = .ok (.putfield 181, 3) := by decide +kernel
theorem dX5_notes_36 : decode cX5_notes 36 = .ok (.aload_n 0, 1) := by decide +kernel
theorem dX5_notes_37 : decode cX5_notes 37 = .ok (.getfield 17, 3) := by decide +kernel
theorem dX5_notes_40 : decode cX5_notes 40 = .ok (.iconst 0, 1) := by decide +kernel
theorem dX5_notes_41 : decode cX5_notes 41 = .ok (.aload_n 0, 1) := by decide +kernel
theorem dX5_notes_42 : decode cX5_notes 42 = .ok (.getfield 20, 3) := by decide +kernel
theorem dX5_notes_45 : decode cX5_notes 45 = .ok (.bipush 69, 2) := by decide +kernel
theorem dX5_notes_47 : decode cX5_notes 47 = .ok (.aload_n 0, 1) := by decide +kernel
theorem dX5_notes_48 : decode cX5_notes 48 = .ok (.getfield 181, 3) := by decide +kernel
theorem dX5_notes_51 : decode cX5_notes 51 = .ok (.imul, 1) := by decide +kernel
theorem dX5_notes_52 : decode cX5_notes 52 = .ok (.bipush 69, 2) := by decide +kernel
theorem dX5_notes_54 : decode cX5_notes 54 = .ok (.invokestatic 90, 3) := by decide +kernel
theorem dX5_notes_57 : decode cX5_notes 57 = .ok (.aload_n 0, 1) := by decide +kernel
theorem dX5_notes_58 : decode cX5_notes 58 = .ok (.dup, 1) := by decide +kernel
theorem dX5_notes_59 : decode cX5_notes 59 = .ok (.getfield 181, 3) := by decide +kernel
theorem dX5_notes_62 : decode cX5_notes 62 = .ok (.iconst 1, 1) := by decide +kernel
theorem dX5_notes_63 : decode cX5_notes 63 = .ok (.iadd, 1) := by decide +kernel
theorem dX5_notes_64 : decode cX5_notes 64 = .ok (.putfield 181, 3) := by decide +kernel
theorem dX5_notes_67 : decode cX5_notes 67 = .ok (.return_, 1) := by decide +kernel
set_option maxRecDepth 20000 in
theorem ggX5_mayBe_X5_allOf : GoodIn wsX5_mayBe wsX5_allOf := goodIn_r _ [6, 7, 62, 63, 64, 65, 66, 67, 68, 69, 70, 71, 72, 73, 74, 75, 76, 77, 78, 79, 80, 81, 82] (by decide +kernel) (by decide +kernel)
set_option maxRecDepth 20000 in
theorem gX5_mayBe_X5_allOf : GoodIn wsX5_mayBe (wsV RX5 153 RX5 yX5_allOf wsX5_allOf) := goodIn_app (goodIn_of _ (by decide +kernel)) ggX5_mayBe_X5_allOf
set_option maxRecDepth 20000 in
theorem ggX5_mayBe_X5_solves : GoodIn wsX5_mayBe wsX5_solves := goodIn_r _ [11, 7, 12, 13, 14, 5, 15, 16, 17, 18, 19, 20, 21, 22, 23, 24, 25, 26, 27, 28, 29, 30, 31, 32, 33, 34, 35, 36, 37, 38, 39, 40, 41, 42, 43, 44, 45, 46, 47, 48, 49, 50, 51, 52, 53, 54, 55, 56, 57, 58, 59, 60, 61, 62, 63, 64, 65, 66, 67, 68, 69, 70, 71, 72, 73, 74, 75, 76, 77, 78, 79, 80, 81, 82] (by decide +kernel) (by decide +kernel)
set_option maxRecDepth 20000 in
theorem gX5_mayBe_X5_solves : GoodIn wsX5_mayBe (wsV RX5 156 RX5 yX5_solves wsX5_solves) := goodIn_app (goodIn_of _ (by decide +kernel)) ggX5_mayBe_X5_solves
set_option maxRecDepth 20000 in
theorem ggX5_mayBe_X5_adds : GoodIn wsX5_mayBe wsX5_adds := goodIn_r _ [25, 16, 26, 18, 17, 27, 28, 29, 5, 30, 31, 32, 33, 34, 35, 36, 37, 38, 39, 40, 41, 42, 43, 44, 45, 46, 47, 48, 49, 50, 51, 52, 53, 54, 55, 56, 57, 58, 59, 60, 61, 62, 63, 64, 65, 66, 67, 68, 69, 70, 71, 72, 73, 74, 75, 76, 77, 78, 79, 80, 81, 82] (by decide +kernel) (by decide +kernel)
set_option maxRecDepth 20000 in
theorem gX5_mayBe_X5_adds : GoodIn wsX5_mayBe (wsV RX5 149 RX5 yX5_adds wsX5_adds) := goodIn_app (goodIn_of _ (by decide +kernel)) ggX5_mayBe_X5_adds
theorem dX5_mayBe_0 : decode cX5_mayBe 0 = .ok (.aload_n 0, 1) := by decide +kernel
theorem dX5_mayBe_1 : decode cX5_mayBe 1 = .ok (.aload_n 0, 1) := by decide +kernel
theorem dX5_mayBe_2 : decode cX5_mayBe 2 = .ok (.invokevirtual 153, 3) := by decide +kernel
theorem dX5_mayBe_5 : decode cX5_mayBe 5 = .ok (.invokevirtual 156, 3) := by decide +kernel
theorem dX5_mayBe_8 : decode cX5_mayBe 8 = .ok (.aload_n 0, 1) := by decide +kernel
theorem dX5_mayBe_9 : decode cX5_mayBe 9 = .ok (.aload_n 0, 1) := by decide +kernel
theorem dX5_mayBe_10 : decode cX5_mayBe 10 = .ok (.getfield 43, 3) := by decide +kernel
theorem dX5_mayBe_13 : decode cX5_mayBe 13 = .ok (.iconst 0, 1) := by decide +kernel
theorem dX5_mayBe_14 : decode cX5_mayBe 14 = .ok (.invokevirtual 149, 3) := by decide +kernel
theorem dX5_mayBe_17 : decode cX5_mayBe 17 = .ok (.ireturn, 1) := by decide +kernel
set_option maxRecDepth 20000 in
theorem ggX5_says_X5_bring : GoodIn wsX5_says wsX5_bring := goodIn_r _ [6] (by decide +kernel) (by decide +kernel)
set_option maxRecDepth 20000 in
theorem gX5_says_X5_bring : GoodIn wsX5_says (va_wsS RX5 90 yX5_bring wsX5_bring) := goodIn_app (goodIn_of _ (by decide +kernel)) ggX5_says_X5_bring
theorem dX5_says_0 : decode cX5_says 0 = .ok (.aload_n 0, 1) := by decide +kernel
theorem dX5_says_1 : decode cX5_says 1 = .ok (.getfield 43, 3) := by decide +kernel
theorem dX5_says_4 : decode cX5_says 4 = .ok (.iconst 0, 1) := by decide +kernel
theorem dX5_says_5 : decode cX5_says 5 = .ok (.aload_n 0, 1) := by decide +kernel
theorem dX5_says_6 : decode cX5_says 6 = .ok (.getfield 17, 3) := by decide +kernel
theorem dX5_says_9 : decode cX5_says 9 = .ok (.iconst 1, 1) := by decide +kernel
theorem dX5_says_10 : decode cX5_says 10 = .ok (.bipush 10, 2) := by decide +kernel
theorem dX5_says_12 : decode cX5_says 12 = .ok (.aload_n 0, 1) := by decide +kernel
theorem dX5_says_13 : decode cX5_says 13 = .ok (.getfield 17, 3) := by decide +kernel
theorem dX5_says_16 : decode cX5_says 16 = .ok (.iconst 0, 1) := by decide +kernel
theorem dX5_says_17 : decode cX5_says 17 = .ok (.iaload, 1) := by decide +kernel
theorem dX5_says_18 : decode cX5_says 18 = .ok (.imul, 1) := by decide +kernel
theorem dX5_says_19 : decode cX5_says 19 = .ok (.iadd, 1) := by decide +kernel
theorem dX5_says_20 : decode cX5_says 20 = .ok (.bipush 10, 2) := by decide +kernel
theorem dX5_says_22 : decode cX5_says 22 = .ok (.invokestatic 90, 3) := by decide +kernel
theorem dX5_says_25 : decode cX5_says 25 = .ok (.aload_n 0, 1) := by decide +kernel
theorem dX5_says_26 : decode cX5_says 26 = .ok (.getfield 17, 3) := by decide +kernel
theorem dX5_says_29 : decode cX5_says 29 = .ok (.iconst 0, 1) := by decide +kernel
theorem dX5_says_30 : decode cX5_says 30 = .ok (.dup2, 1) := by decide +kernel
theorem dX5_says_31 : decode cX5_says 31 = .ok (.iaload, 1) := by decide +kernel
theorem dX5_says_32 : decode cX5_says 32 = .ok (.iconst 1, 1) := by decide +kernel
theorem dX5_says_33 : decode cX5_says 33 = .ok (.iadd, 1) := by decide +kernel
theorem dX5_says_34 : decode cX5_says 34 = .ok (.iastore, 1) := by decide +kernel
theorem dX5_says_35 : decode cX5_says 35 = .ok (.return_, 1) := by decide +kernel
set_option maxRecDepth 20000 in
theorem ggX5_say_X5_reads : GoodIn wsX5_say wsX5_reads := goodIn_r _ [8, 9, 10, 11, 12, 13, 14, 15, 16, 17, 7, 18, 19, 20, 21, 22, 23, 24, 25, 26, 27, 28, 29, 30, 31, 32, 33, 34, 35, 36, 37, 38, 39, 40, 41, 42, 43, 44, 45, 46, 47, 48, 49, 50, 51, 52, 53, 54, 55, 56, 129, 130, 131, 132, 133, 134, 135, 136, 137, 138, 139, 140, 141, 142, 143, 144, 145, 146, 147, 148, 149] (by decide +kernel) (by decide +kernel)
set_option maxRecDepth 20000 in
theorem gX5_say_X5_reads : GoodIn wsX5_say (wsV RX5 184 RX5 yX5_reads wsX5_reads) := goodIn_app (goodIn_of _ (by decide +kernel)) ggX5_say_X5_reads
set_option maxRecDepth 20000 in
theorem ggX5_say_X5_mayBe : GoodIn wsX5_say wsX5_mayBe := goodIn_r _ [60, 12, 61, 62, 63, 7, 64, 1, 65, 66, 67, 68, 69, 70, 71, 72, 73, 74, 75, 76, 77, 78, 79, 80, 81, 82, 83, 84, 85, 86, 87, 88, 89, 90, 91, 92, 93, 94, 95, 96, 97, 98, 99, 100, 101, 102, 103, 104, 105, 106, 107, 108, 109, 110, 111, 112, 113, 114, 115, 116, 117, 118, 129, 130, 131, 132, 133, 134, 135, 136, 137, 138, 139, 140, 141, 142, 143, 144, 145, 146, 147, 148, 149] (by decide +kernel) (by decide +kernel)
set_option maxRecDepth 20000 in
theorem gX5_say_X5_mayBe : GoodIn wsX5_say (wsV RX5 188 RX5 yX5_mayBe wsX5_mayBe) := goodIn_app (goodIn_of _ (by decide +kernel)) ggX5_say_X5_mayBe
set_option maxRecDepth 20000 in
theorem ggX5_say_X5_notes : GoodIn wsX5_say wsX5_notes := goodIn_r _ [122, 123, 124, 1, 54, 55, 7, 56, 129, 130, 131, 132, 133, 134, 135, 136, 137, 138, 139, 140, 141, 142, 143, 144, 145, 146, 147, 148, 149] (by decide +kernel) (by decide +kernel)
set_option maxRecDepth 20000 in
theorem gX5_say_X5_notes : GoodIn wsX5_say (wsV RX5 192 RX5 yX5_notes wsX5_notes) := goodIn_app (goodIn_of _ (by decide +kernel)) ggX5_say_X5_notes
set_option maxRecDepth 20000 in
theorem ggX5_say_X5_says : GoodIn wsX5_say wsX5_says := goodIn_r _ [128, 12, 1, 54, 55, 7, 56, 129, 130, 131, 132, 133, 134, 135, 136, 137, 138, 139, 140, 141, 142, 143, 144, 145, 146, 147, 148, 149] (by decide +kernel) (by decide +kernel)
set_option maxRecDepth 20000 in
theorem gX5_say_X5_says : GoodIn wsX5_say (wsV RX5 195 RX5 yX5_says wsX5_says) := goodIn_app (goodIn_of _ (by decide +kernel)) ggX5_say_X5_says
theorem dX5_say_0 : decode cX5_say 0 = .ok (.aload_n 0, 1) := by decide +kernel
theorem dX5_say_1 : decode cX5_say 1 = .ok (.iconst 1, 1) := by decide +kernel
theorem dX5_say_2 : decode cX5_say 2 = .ok (.invokevirtual 184, 3) := by decide +kernel
theorem dX5_say_5 : decode cX5_say 5 = .ok (.istore_n 1, 1) := by decide +kernel
theorem dX5_say_6 : decode cX5_say 6 = .ok (.iload_n 1, 1) := by decide +kernel
theorem dX5_say_7 : decode cX5_say 7 = .ok (.ifCond .eq 8, 3) := by decide +kernel
theorem dX5_say_10 : decode cX5_say 10 = .ok (.bipush (-10), 2) := by decide +kernel
theorem dX5_say_12 : decode cX5_say 12 = .ok (.iload_n 1, 1) := by decide +kernel
theorem dX5_say_13 : decode cX5_say 13 = .ok (.isub, 1) := by decide +kernel
theorem dX5_say_14 : decode cX5_say 14 = .ok (.ireturn, 1) := by decide +kernel
theorem dX5_say_15 : decode cX5_say 15 = .ok (.aload_n 0, 1) := by decide +kernel
theorem dX5_say_16 : decode cX5_say 16 = .ok (.getfield 17, 3) := by decide +kernel
theorem dX5_say_19 : decode cX5_say 19 = .ok (.iconst 0, 1) := by decide +kernel
theorem dX5_say_20 : decode cX5_say 20 = .ok (.iaload, 1) := by decide +kernel
theorem dX5_say_21 : decode cX5_say 21 = .ok (.bipush 6, 2) := by decide +kernel
theorem dX5_say_23 : decode cX5_say 23 = .ok (.if_icmp .ne 6, 3) := by decide +kernel
theorem dX5_say_26 : decode cX5_say 26 = .ok (.ldc 63, 2) := by decide +kernel
theorem dX5_say_28 : decode cX5_say 28 = .ok (.ireturn, 1) := by decide +kernel
theorem dX5_say_29 : decode cX5_say 29 = .ok (.aload_n 0, 1) := by decide +kernel
theorem dX5_say_30 : decode cX5_say 30 = .ok (.invokevirtual 188, 3) := by decide +kernel
theorem dX5_say_33 : decode cX5_say 33 = .ok (.ifCond .ne 6, 3) := by decide +kernel
theorem dX5_say_36 : decode cX5_say 36 = .ok (.ldc 191, 2) := by decide +kernel
theorem dX5_say_38 : decode cX5_say 38 = .ok (.ireturn, 1) := by decide +kernel
theorem dX5_say_39 : decode cX5_say 39 = .ok (.aload_n 0, 1) := by decide +kernel
theorem dX5_say_40 : decode cX5_say 40 = .ok (.invokevirtual 192, 3) := by decide +kernel
theorem dX5_say_43 : decode cX5_say 43 = .ok (.aload_n 0, 1) := by decide +kernel
theorem dX5_say_44 : decode cX5_say 44 = .ok (.invokevirtual 195, 3) := by decide +kernel
theorem dX5_say_47 : decode cX5_say 47 = .ok (.aload_n 0, 1) := by decide +kernel
theorem dX5_say_48 : decode cX5_say 48 = .ok (.getfield 17, 3) := by decide +kernel
theorem dX5_say_51 : decode cX5_say 51 = .ok (.iconst 0, 1) := by decide +kernel
theorem dX5_say_52 : decode cX5_say 52 = .ok (.iaload, 1) := by decide +kernel
theorem dX5_say_53 : decode cX5_say 53 = .ok (.ireturn, 1) := by decide +kernel
set_option maxRecDepth 20000 in
theorem ggX5_back_X5_in : GoodIn wsX5_back wsX5_in := goodIn_r _ [6] (by decide +kernel) (by decide +kernel)
set_option maxRecDepth 20000 in
theorem gX5_back_X5_in : GoodIn wsX5_back (va_wsS RX5 55 yX5_in wsX5_in) := goodIn_app (goodIn_of _ (by decide +kernel)) ggX5_back_X5_in
set_option maxRecDepth 20000 in
theorem ggX5_back_X5_notes : GoodIn wsX5_back wsX5_notes := goodIn_r _ [10, 11, 12, 1, 13, 14, 5, 15, 16, 17, 18, 19, 20, 21, 22, 23, 24, 25, 26, 27, 28, 29, 30, 31, 32, 33, 34, 35, 36] (by decide +kernel) (by decide +kernel)
set_option maxRecDepth 20000 in
theorem gX5_back_X5_notes : GoodIn wsX5_back (wsV RX5 192 RX5 yX5_notes wsX5_notes) := goodIn_app (goodIn_of _ (by decide +kernel)) ggX5_back_X5_notes
set_option maxRecDepth 20000 in
theorem ggX5_back_X5_bring : GoodIn wsX5_back wsX5_bring := goodIn_r _ [15] (by decide +kernel) (by decide +kernel)
set_option maxRecDepth 20000 in
theorem gX5_back_X5_bring : GoodIn wsX5_back (va_wsS RX5 90 yX5_bring wsX5_bring) := goodIn_app (goodIn_of _ (by decide +kernel)) ggX5_back_X5_bring
theorem dX5_back_0 : decode cX5_back 0 = .ok (.iload_n 1, 1) := by decide +kernel
theorem dX5_back_1 : decode cX5_back 1 = .ok (.iconst 0, 1) := by decide +kernel
theorem dX5_back_2 : decode cX5_back 2 = .ok (.aload_n 0, 1) := by decide +kernel
theorem dX5_back_3 : decode cX5_back 3 = .ok (.getfield 17, 3) := by decide +kernel
theorem dX5_back_6 : decode cX5_back 6 = .ok (.iconst 0, 1) := by decide +kernel
theorem dX5_back_7 : decode cX5_back 7 = .ok (.iaload, 1) := by decide +kernel
theorem dX5_back_8 : decode cX5_back 8 = .ok (.iconst 1, 1) := by decide +kernel
theorem dX5_back_9 : decode cX5_back 9 = .ok (.isub, 1) := by decide +kernel
theorem dX5_back_10 : decode cX5_back 10 = .ok (.invokestatic 55, 3) := by decide +kernel
theorem dX5_back_13 : decode cX5_back 13 = .ok (.ifCond .ne 6, 3) := by decide +kernel
theorem dX5_back_16 : decode cX5_back 16 = .ok (.ldc 198, 2) := by decide +kernel
theorem dX5_back_18 : decode cX5_back 18 = .ok (.ireturn, 1) := by decide +kernel
theorem dX5_back_19 : decode cX5_back 19 = .ok (.aload_n 0, 1) := by decide +kernel
theorem dX5_back_20 : decode cX5_back 20 = .ok (.invokevirtual 192, 3) := by decide +kernel
theorem dX5_back_23 : decode cX5_back 23 = .ok (.aload_n 0, 1) := by decide +kernel
theorem dX5_back_24 : decode cX5_back 24 = .ok (.getfield 17, 3) := by decide +kernel
theorem dX5_back_27 : decode cX5_back 27 = .ok (.iconst 0, 1) := by decide +kernel
theorem dX5_back_28 : decode cX5_back 28 = .ok (.dup2, 1) := by decide +kernel
theorem dX5_back_29 : decode cX5_back 29 = .ok (.iaload, 1) := by decide +kernel
theorem dX5_back_30 : decode cX5_back 30 = .ok (.iconst 1, 1) := by decide +kernel
theorem dX5_back_31 : decode cX5_back 31 = .ok (.isub, 1) := by decide +kernel
theorem dX5_back_32 : decode cX5_back 32 = .ok (.iastore, 1) := by decide +kernel
theorem dX5_back_33 : decode cX5_back 33 = .ok (.aload_n 0, 1) := by decide +kernel
theorem dX5_back_34 : decode cX5_back 34 = .ok (.getfield 17, 3) := by decide +kernel
theorem dX5_back_37 : decode cX5_back 37 = .ok (.iconst 1, 1) := by decide +kernel
theorem dX5_back_38 : decode cX5_back 38 = .ok (.bipush 10, 2) := by decide +kernel
theorem dX5_back_40 : decode cX5_back 40 = .ok (.iload_n 1, 1) := by decide +kernel
theorem dX5_back_41 : decode cX5_back 41 = .ok (.iconst 1, 1) := by decide +kernel
theorem dX5_back_42 : decode cX5_back 42 = .ok (.iadd, 1) := by decide +kernel
theorem dX5_back_43 : decode cX5_back 43 = .ok (.imul, 1) := by decide +kernel
theorem dX5_back_44 : decode cX5_back 44 = .ok (.iadd, 1) := by decide +kernel
theorem dX5_back_45 : decode cX5_back 45 = .ok (.aload_n 0, 1) := by decide +kernel
theorem dX5_back_46 : decode cX5_back 46 = .ok (.getfield 17, 3) := by decide +kernel
theorem dX5_back_49 : decode cX5_back 49 = .ok (.iconst 1, 1) := by decide +kernel
theorem dX5_back_50 : decode cX5_back 50 = .ok (.bipush 10, 2) := by decide +kernel
theorem dX5_back_52 : decode cX5_back 52 = .ok (.iload_n 1, 1) := by decide +kernel
theorem dX5_back_53 : decode cX5_back 53 = .ok (.imul, 1) := by decide +kernel
theorem dX5_back_54 : decode cX5_back 54 = .ok (.iadd, 1) := by decide +kernel
theorem dX5_back_55 : decode cX5_back 55 = .ok (.bipush 10, 2) := by decide +kernel
theorem dX5_back_57 : decode cX5_back 57 = .ok (.aload_n 0, 1) := by decide +kernel
theorem dX5_back_58 : decode cX5_back 58 = .ok (.getfield 17, 3) := by decide +kernel
theorem dX5_back_61 : decode cX5_back 61 = .ok (.iconst 0, 1) := by decide +kernel
theorem dX5_back_62 : decode cX5_back 62 = .ok (.iaload, 1) := by decide +kernel
theorem dX5_back_63 : decode cX5_back 63 = .ok (.iload_n 1, 1) := by decide +kernel
theorem dX5_back_64 : decode cX5_back 64 = .ok (.isub, 1) := by decide +kernel
theorem dX5_back_65 : decode cX5_back 65 = .ok (.imul, 1) := by decide +kernel
theorem dX5_back_66 : decode cX5_back 66 = .ok (.invokestatic 90, 3) := by decide +kernel
theorem dX5_back_69 : decode cX5_back 69 = .ok (.aload_n 0, 1) := by decide +kernel
theorem dX5_back_70 : decode cX5_back 70 = .ok (.getfield 17, 3) := by decide +kernel
theorem dX5_back_73 : decode cX5_back 73 = .ok (.iconst 0, 1) := by decide +kernel
theorem dX5_back_74 : decode cX5_back 74 = .ok (.iaload, 1) := by decide +kernel
theorem dX5_back_75 : decode cX5_back 75 = .ok (.ireturn, 1) := by decide +kernel
set_option maxRecDepth 20000 in
theorem ggX5_isBase_X5_in : GoodIn wsX5_isBase wsX5_in := goodIn_r _ [4] (by decide +kernel) (by decide +kernel)
set_option maxRecDepth 20000 in
theorem gX5_isBase_X5_in : GoodIn wsX5_isBase (va_wsS RX5 55 yX5_in wsX5_in) := goodIn_app (goodIn_of _ (by decide +kernel)) ggX5_isBase_X5_in
theorem dX5_isBase_0 : decode cX5_isBase 0 = .ok (.iload_n 0, 1) := by decide +kernel
theorem dX5_isBase_1 : decode cX5_isBase 1 = .ok (.iconst 0, 1) := by decide +kernel
theorem dX5_isBase_2 : decode cX5_isBase 2 = .ok (.iconst 3, 1) := by decide +kernel
theorem dX5_isBase_3 : decode cX5_isBase 3 = .ok (.invokestatic 55, 3) := by decide +kernel
theorem dX5_isBase_6 : decode cX5_isBase 6 = .ok (.ireturn, 1) := by decide +kernel
set_option maxRecDepth 20000 in
theorem ggX5_scale_X5_isBase : GoodIn wsX5_scale wsX5_isBase := goodIn_r _ [7, 8, 9, 6, 10] (by decide +kernel) (by decide +kernel)
set_option maxRecDepth 20000 in
theorem gX5_scale_X5_isBase : GoodIn wsX5_scale (va_wsS RX5 199 yX5_isBase wsX5_isBase) := goodIn_app (goodIn_of _ (by decide +kernel)) ggX5_scale_X5_isBase
set_option maxRecDepth 20000 in
theorem ggX5_scale_X5_in : GoodIn wsX5_scale wsX5_in := goodIn_r _ [10] (by decide +kernel) (by decide +kernel)
set_option maxRecDepth 20000 in
theorem gX5_scale_X5_in : GoodIn wsX5_scale (va_wsS RX5 55 yX5_in wsX5_in) := goodIn_app (goodIn_of _ (by decide +kernel)) ggX5_scale_X5_in
set_option maxRecDepth 20000 in
theorem ggX5_scale_X5_notes : GoodIn wsX5_scale wsX5_notes := goodIn_r _ [14, 15, 16, 3, 17, 18, 6, 19, 20, 21, 22, 23, 24, 25, 26, 27, 28, 29, 30, 31, 32, 33, 34, 35, 36, 37, 38, 39, 40] (by decide +kernel) (by decide +kernel)
set_option maxRecDepth 20000 in
theorem gX5_scale_X5_notes : GoodIn wsX5_scale (wsV RX5 192 RX5 yX5_notes wsX5_notes) := goodIn_app (goodIn_of _ (by decide +kernel)) ggX5_scale_X5_notes
theorem dX5_scale_0 : decode cX5_scale 0 = .ok (.iload_n 1, 1) := by decide +kernel
theorem dX5_scale_1 : decode cX5_scale 1 = .ok (.invokestatic 199, 3) := by decide +kernel
theorem dX5_scale_4 : decode cX5_scale 4 = .ok (.ifCond .ne 6, 3) := by decide +kernel
theorem dX5_scale_7 : decode cX5_scale 7 = .ok (.ldc 198, 2) := by decide +kernel
theorem dX5_scale_9 : decode cX5_scale 9 = .ok (.ireturn, 1) := by decide +kernel
theorem dX5_scale_10 : decode cX5_scale 10 = .ok (.iload_n 2, 1) := by decide +kernel
theorem dX5_scale_11 : decode cX5_scale 11 = .ok (.iconst 1, 1) := by decide +kernel
theorem dX5_scale_12 : decode cX5_scale 12 = .ok (.bipush 12, 2) := by decide +kernel
theorem dX5_scale_14 : decode cX5_scale 14 = .ok (.invokestatic 55, 3) := by decide +kernel
theorem dX5_scale_17 : decode cX5_scale 17 = .ok (.ifCond .eq 13, 3) := by decide +kernel
theorem dX5_scale_20 : decode cX5_scale 20 = .ok (.iload_n 3, 1) := by decide +kernel
theorem dX5_scale_21 : decode cX5_scale 21 = .ok (.iconst 1, 1) := by decide +kernel
theorem dX5_scale_22 : decode cX5_scale 22 = .ok (.bipush 12, 2) := by decide +kernel
theorem dX5_scale_24 : decode cX5_scale 24 = .ok (.invokestatic 55, 3) := by decide +kernel
theorem dX5_scale_27 : decode cX5_scale 27 = .ok (.ifCond .ne 6, 3) := by decide +kernel
theorem dX5_scale_30 : decode cX5_scale 30 = .ok (.ldc 59, 2) := by decide +kernel
theorem dX5_scale_32 : decode cX5_scale 32 = .ok (.ireturn, 1) := by decide +kernel
theorem dX5_scale_33 : decode cX5_scale 33 = .ok (.aload_n 0, 1) := by decide +kernel
theorem dX5_scale_34 : decode cX5_scale 34 = .ok (.invokevirtual 192, 3) := by decide +kernel
theorem dX5_scale_37 : decode cX5_scale 37 = .ok (.aload_n 0, 1) := by decide +kernel
theorem dX5_scale_38 : decode cX5_scale 38 = .ok (.getfield 17, 3) := by decide +kernel
theorem dX5_scale_41 : decode cX5_scale 41 = .ok (.bipush 61, 2) := by decide +kernel
theorem dX5_scale_43 : decode cX5_scale 43 = .ok (.iload_n 1, 1) := by decide +kernel
theorem dX5_scale_44 : decode cX5_scale 44 = .ok (.iadd, 1) := by decide +kernel
theorem dX5_scale_45 : decode cX5_scale 45 = .ok (.iload_n 2, 1) := by decide +kernel
theorem dX5_scale_46 : decode cX5_scale 46 = .ok (.iastore, 1) := by decide +kernel
theorem dX5_scale_47 : decode cX5_scale 47 = .ok (.aload_n 0, 1) := by decide +kernel
theorem dX5_scale_48 : decode cX5_scale 48 = .ok (.getfield 17, 3) := by decide +kernel
theorem dX5_scale_51 : decode cX5_scale 51 = .ok (.bipush 65, 2) := by decide +kernel
theorem dX5_scale_53 : decode cX5_scale 53 = .ok (.iload_n 1, 1) := by decide +kernel
theorem dX5_scale_54 : decode cX5_scale 54 = .ok (.iadd, 1) := by decide +kernel
theorem dX5_scale_55 : decode cX5_scale 55 = .ok (.iload_n 3, 1) := by decide +kernel
theorem dX5_scale_56 : decode cX5_scale 56 = .ok (.iastore, 1) := by decide +kernel
theorem dX5_scale_57 : decode cX5_scale 57 = .ok (.iconst 0, 1) := by decide +kernel
theorem dX5_scale_58 : decode cX5_scale 58 = .ok (.istore 4, 2) := by decide +kernel
theorem dX5_scale_60 : decode cX5_scale 60 = .ok (.iconst 0, 1) := by decide +kernel
theorem dX5_scale_61 : decode cX5_scale 61 = .ok (.istore 5, 2) := by decide +kernel
theorem dX5_scale_63 : decode cX5_scale 63 = .ok (.iload 5, 2) := by decide +kernel
theorem dX5_scale_65 : decode cX5_scale 65 = .ok (.iconst 4, 1) := by decide +kernel
theorem dX5_scale_66 : decode cX5_scale 66 = .ok (.if_icmp .ge 42, 3) := by decide +kernel
theorem dX5_scale_69 : decode cX5_scale 69 = .ok (.iload 4, 2) := by decide +kernel
theorem dX5_scale_71 : decode cX5_scale 71 = .ok (.aload_n 0, 1) := by decide +kernel
theorem dX5_scale_72 : decode cX5_scale 72 = .ok (.getfield 17, 3) := by decide +kernel
theorem dX5_scale_75 : decode cX5_scale 75 = .ok (.bipush 61, 2) := by decide +kernel
theorem dX5_scale_77 : decode cX5_scale 77 = .ok (.iload 5, 2) := by decide +kernel
theorem dX5_scale_79 : decode cX5_scale 79 = .ok (.iadd, 1) := by decide +kernel
theorem dX5_scale_80 : decode cX5_scale 80 = .ok (.iaload, 1) := by decide +kernel
theorem dX5_scale_81 : decode cX5_scale 81 = .ok (.aload_n 0, 1) := by decide +kernel
theorem dX5_scale_82 : decode cX5_scale 82 = .ok (.getfield 17, 3) := by decide +kernel
theorem dX5_scale_85 : decode cX5_scale 85 = .ok (.bipush 65, 2) := by decide +kernel
theorem dX5_scale_87 : decode cX5_scale 87 = .ok (.iload 5, 2) := by decide +kernel
theorem dX5_scale_89 : decode cX5_scale 89 = .ok (.iadd, 1) := by decide +kernel
theorem dX5_scale_90 : decode cX5_scale 90 = .ok (.iaload, 1) := by decide +kernel
theorem dX5_scale_91 : decode cX5_scale 91 = .ok (.if_icmp .ne 7, 3) := by decide +kernel
theorem dX5_scale_94 : decode cX5_scale 94 = .ok (.iconst 0, 1) := by decide +kernel
theorem dX5_scale_95 : decode cX5_scale 95 = .ok (.goto 4, 3) := by decide +kernel
theorem dX5_scale_98 : decode cX5_scale 98 = .ok (.iconst 1, 1) := by decide +kernel
theorem dX5_scale_99 : decode cX5_scale 99 = .ok (.iadd, 1) := by decide +kernel
theorem dX5_scale_100 : decode cX5_scale 100 = .ok (.istore 4, 2) := by decide +kernel
theorem dX5_scale_102 : decode cX5_scale 102 = .ok (.iinc 5 1, 3) := by decide +kernel
theorem dX5_scale_105 : decode cX5_scale 105 = .ok (.goto (-42), 3) := by decide +kernel
end
section
theorem dX5_scale_108 : decode cX5_scale 108 = .ok (.iload 4, 2) := by decide +kernel
theorem dX5_scale_110 : decode cX5_scale 110 = .ok (.ireturn, 1) := by decide +kernel
theorem dX5_draw_0 : decode cX5_draw 0 = .ok (.aload_n 0, 1) := by decide +kernel
theorem dX5_draw_1 : decode cX5_draw 1 = .ok (.aload_n 0, 1) := by decide +kernel
theorem dX5_draw_2 : decode cX5_draw 2 = .ok (.getfield 202, 3) := by decide +kernel
theorem dX5_draw_5 : decode cX5_draw 5 = .ok (.ldc2_w 206, 3) := by decide +kernel
theorem dX5_draw_8 : decode cX5_draw 8 = .ok (.lmul, 1) := by decide +kernel
theorem dX5_draw_9 : decode cX5_draw 9 = .ok (.ldc2_w 208, 3) := by decide +kernel
theorem dX5_draw_12 : decode cX5_draw 12 = .ok (.ladd, 1) := by decide +kernel
theorem dX5_draw_13 : decode cX5_draw 13 = .ok (.ldc2_w 210, 3) := by decide +kernel
theorem dX5_draw_16 : decode cX5_draw 16 = .ok (.lrem, 1) := by decide +kernel
theorem dX5_draw_17 : decode cX5_draw 17 = .ok (.putfield 202, 3) := by decide +kernel
theorem dX5_draw_20 : decode cX5_draw 20 = .ok (.aload_n 0, 1) := by decide +kernel
theorem dX5_draw_21 : decode cX5_draw 21 = .ok (.getfield 202, 3) := by decide +kernel
theorem dX5_draw_24 : decode cX5_draw 24 = .ok (.ldc2_w 212, 3) := by decide +kernel
theorem dX5_draw_27 : decode cX5_draw 27 = .ok (.ldiv, 1) := by decide +kernel
theorem dX5_draw_28 : decode cX5_draw 28 = .ok (.iload_n 1, 1) := by decide +kernel
theorem dX5_draw_29 : decode cX5_draw 29 = .ok (.i2l, 1) := by decide +kernel
theorem dX5_draw_30 : decode cX5_draw 30 = .ok (.lrem, 1) := by decide +kernel
theorem dX5_draw_31 : decode cX5_draw 31 = .ok (.l2i, 1) := by decide +kernel
theorem dX5_draw_32 : decode cX5_draw 32 = .ok (.ireturn, 1) := by decide +kernel
set_option maxRecDepth 20000 in
theorem ggX5_drawn_X5_draw : GoodIn wsX5_drawn wsX5_draw := goodIn_r _ [7, 8, 9, 10, 11, 12, 88, 89, 90, 91, 92, 93, 94, 95, 96, 97, 98, 99, 100, 101, 102, 103, 104, 105, 106, 107, 108] (by decide +kernel) (by decide +kernel)
set_option maxRecDepth 20000 in
theorem gX5_drawn_X5_draw : GoodIn wsX5_drawn (wsV RX5 214 RX5 yX5_draw wsX5_draw) := goodIn_app (goodIn_of _ (by decide +kernel)) ggX5_drawn_X5_draw
set_option maxRecDepth 20000 in
theorem ggX5_drawn_X5_mayBe : GoodIn wsX5_drawn wsX5_mayBe := goodIn_r _ [16, 1, 17, 18, 19, 6, 20, 2, 21, 22, 23, 24, 25, 26, 27, 28, 29, 30, 31, 32, 33, 34, 35, 36, 37, 38, 39, 40, 41, 42, 43, 44, 45, 46, 47, 48, 49, 50, 51, 52, 53, 54, 55, 56, 57, 58, 59, 60, 61, 62, 63, 64, 65, 66, 67, 68, 69, 70, 71, 72, 73, 74, 88, 89, 90, 91, 92, 93, 94, 95, 96, 97, 98, 99, 100, 101, 102, 103, 104, 105, 106, 107, 108] (by decide +kernel) (by decide +kernel)
set_option maxRecDepth 20000 in
theorem gX5_drawn_X5_mayBe : GoodIn wsX5_drawn (wsV RX5 188 RX5 yX5_mayBe wsX5_mayBe) := goodIn_app (goodIn_of _ (by decide +kernel)) ggX5_drawn_X5_mayBe
set_option maxRecDepth 20000 in
theorem ggX5_drawn_X5_notes : GoodIn wsX5_drawn wsX5_notes := goodIn_r _ [78, 79, 80, 2, 81, 82, 6, 83, 88, 89, 90, 91, 92, 93, 94, 95, 96, 97, 98, 99, 100, 101, 102, 103, 104, 105, 106, 107, 108] (by decide +kernel) (by decide +kernel)
set_option maxRecDepth 20000 in
theorem gX5_drawn_X5_notes : GoodIn wsX5_drawn (wsV RX5 192 RX5 yX5_notes wsX5_notes) := goodIn_app (goodIn_of _ (by decide +kernel)) ggX5_drawn_X5_notes
set_option maxRecDepth 20000 in
theorem ggX5_drawn_X5_says : GoodIn wsX5_drawn wsX5_says := goodIn_r _ [87, 1, 2, 81, 82, 6, 83, 88, 89, 90, 91, 92, 93, 94, 95, 96, 97, 98, 99, 100, 101, 102, 103, 104, 105, 106, 107, 108] (by decide +kernel) (by decide +kernel)
set_option maxRecDepth 20000 in
theorem gX5_drawn_X5_says : GoodIn wsX5_drawn (wsV RX5 195 RX5 yX5_says wsX5_says) := goodIn_app (goodIn_of _ (by decide +kernel)) ggX5_drawn_X5_says
theorem dX5_drawn_0 : decode cX5_drawn 0 = .ok (.iconst 0, 1) := by decide +kernel
theorem dX5_drawn_1 : decode cX5_drawn 1 = .ok (.istore_n 1, 1) := by decide +kernel
theorem dX5_drawn_2 : decode cX5_drawn 2 = .ok (.iload_n 1, 1) := by decide +kernel
theorem dX5_drawn_3 : decode cX5_drawn 3 = .ok (.bipush 10, 2) := by decide +kernel
theorem dX5_drawn_5 : decode cX5_drawn 5 = .ok (.if_icmp .ge 16, 3) := by decide +kernel
theorem dX5_drawn_8 : decode cX5_drawn 8 = .ok (.aload_n 0, 1) := by decide +kernel
theorem dX5_drawn_9 : decode cX5_drawn 9 = .ok (.getfield 43, 3) := by decide +kernel
theorem dX5_drawn_12 : decode cX5_drawn 12 = .ok (.iload_n 1, 1) := by decide +kernel
theorem dX5_drawn_13 : decode cX5_drawn 13 = .ok (.iconst 0, 1) := by decide +kernel
theorem dX5_drawn_14 : decode cX5_drawn 14 = .ok (.iastore, 1) := by decide +kernel
theorem dX5_drawn_15 : decode cX5_drawn 15 = .ok (.iinc 1 1, 3) := by decide +kernel
theorem dX5_drawn_18 : decode cX5_drawn 18 = .ok (.goto (-16), 3) := by decide +kernel
theorem dX5_drawn_21 : decode cX5_drawn 21 = .ok (.aload_n 0, 1) := by decide +kernel
theorem dX5_drawn_22 : decode cX5_drawn 22 = .ok (.bipush 6, 2) := by decide +kernel
theorem dX5_drawn_24 : decode cX5_drawn 24 = .ok (.invokevirtual 214, 3) := by decide +kernel
theorem dX5_drawn_27 : decode cX5_drawn 27 = .ok (.istore_n 1, 1) := by decide +kernel
theorem dX5_drawn_28 : decode cX5_drawn 28 = .ok (.aload_n 0, 1) := by decide +kernel
theorem dX5_drawn_29 : decode cX5_drawn 29 = .ok (.bipush 6, 2) := by decide +kernel
theorem dX5_drawn_31 : decode cX5_drawn 31 = .ok (.invokevirtual 214, 3) := by decide +kernel
theorem dX5_drawn_34 : decode cX5_drawn 34 = .ok (.istore_n 2, 1) := by decide +kernel
theorem dX5_drawn_35 : decode cX5_drawn 35 = .ok (.aload_n 0, 1) := by decide +kernel
theorem dX5_drawn_36 : decode cX5_drawn 36 = .ok (.getfield 43, 3) := by decide +kernel
theorem dX5_drawn_39 : decode cX5_drawn 39 = .ok (.iload_n 1, 1) := by decide +kernel
theorem dX5_drawn_40 : decode cX5_drawn 40 = .ok (.dup2, 1) := by decide +kernel
theorem dX5_drawn_41 : decode cX5_drawn 41 = .ok (.iaload, 1) := by decide +kernel
theorem dX5_drawn_42 : decode cX5_drawn 42 = .ok (.iconst 1, 1) := by decide +kernel
theorem dX5_drawn_43 : decode cX5_drawn 43 = .ok (.iadd, 1) := by decide +kernel
theorem dX5_drawn_44 : decode cX5_drawn 44 = .ok (.iastore, 1) := by decide +kernel
theorem dX5_drawn_45 : decode cX5_drawn 45 = .ok (.aload_n 0, 1) := by decide +kernel
theorem dX5_drawn_46 : decode cX5_drawn 46 = .ok (.getfield 43, 3) := by decide +kernel
theorem dX5_drawn_49 : decode cX5_drawn 49 = .ok (.iload_n 2, 1) := by decide +kernel
theorem dX5_drawn_50 : decode cX5_drawn 50 = .ok (.dup2, 1) := by decide +kernel
theorem dX5_drawn_51 : decode cX5_drawn 51 = .ok (.iaload, 1) := by decide +kernel
theorem dX5_drawn_52 : decode cX5_drawn 52 = .ok (.aload_n 0, 1) := by decide +kernel
theorem dX5_drawn_53 : decode cX5_drawn 53 = .ok (.iconst 5, 1) := by decide +kernel
theorem dX5_drawn_54 : decode cX5_drawn 54 = .ok (.invokevirtual 214, 3) := by decide +kernel
theorem dX5_drawn_57 : decode cX5_drawn 57 = .ok (.iconst 2, 1) := by decide +kernel
theorem dX5_drawn_58 : decode cX5_drawn 58 = .ok (.isub, 1) := by decide +kernel
theorem dX5_drawn_59 : decode cX5_drawn 59 = .ok (.iadd, 1) := by decide +kernel
theorem dX5_drawn_60 : decode cX5_drawn 60 = .ok (.iastore, 1) := by decide +kernel
theorem dX5_drawn_61 : decode cX5_drawn 61 = .ok (.aload_n 0, 1) := by decide +kernel
theorem dX5_drawn_62 : decode cX5_drawn 62 = .ok (.getfield 43, 3) := by decide +kernel
theorem dX5_drawn_65 : decode cX5_drawn 65 = .ok (.bipush 6, 2) := by decide +kernel
theorem dX5_drawn_67 : decode cX5_drawn 67 = .ok (.aload_n 0, 1) := by decide +kernel
theorem dX5_drawn_68 : decode cX5_drawn 68 = .ok (.iconst 4, 1) := by decide +kernel
theorem dX5_drawn_69 : decode cX5_drawn 69 = .ok (.invokevirtual 214, 3) := by decide +kernel
theorem dX5_drawn_72 : decode cX5_drawn 72 = .ok (.iadd, 1) := by decide +kernel
theorem dX5_drawn_73 : decode cX5_drawn 73 = .ok (.dup2, 1) := by decide +kernel
theorem dX5_drawn_74 : decode cX5_drawn 74 = .ok (.iaload, 1) := by decide +kernel
theorem dX5_drawn_75 : decode cX5_drawn 75 = .ok (.iconst 1, 1) := by decide +kernel
theorem dX5_drawn_76 : decode cX5_drawn 76 = .ok (.isub, 1) := by decide +kernel
theorem dX5_drawn_77 : decode cX5_drawn 77 = .ok (.iastore, 1) := by decide +kernel
theorem dX5_drawn_78 : decode cX5_drawn 78 = .ok (.aload_n 0, 1) := by decide +kernel
theorem dX5_drawn_79 : decode cX5_drawn 79 = .ok (.getfield 43, 3) := by decide +kernel
theorem dX5_drawn_82 : decode cX5_drawn 82 = .ok (.iload_n 1, 1) := by decide +kernel
theorem dX5_drawn_83 : decode cX5_drawn 83 = .ok (.iaload, 1) := by decide +kernel
theorem dX5_drawn_84 : decode cX5_drawn 84 = .ok (.ifCond .ne 12, 3) := by decide +kernel
theorem dX5_drawn_87 : decode cX5_drawn 87 = .ok (.aload_n 0, 1) := by decide +kernel
theorem dX5_drawn_88 : decode cX5_drawn 88 = .ok (.getfield 43, 3) := by decide +kernel
theorem dX5_drawn_91 : decode cX5_drawn 91 = .ok (.iload_n 2, 1) := by decide +kernel
theorem dX5_drawn_92 : decode cX5_drawn 92 = .ok (.iaload, 1) := by decide +kernel
theorem dX5_drawn_93 : decode cX5_drawn 93 = .ok (.ifCond .eq 7, 3) := by decide +kernel
theorem dX5_drawn_96 : decode cX5_drawn 96 = .ok (.iconst 1, 1) := by decide +kernel
theorem dX5_drawn_97 : decode cX5_drawn 97 = .ok (.goto 4, 3) := by decide +kernel
theorem dX5_drawn_100 : decode cX5_drawn 100 = .ok (.iconst 0, 1) := by decide +kernel
theorem dX5_drawn_101 : decode cX5_drawn 101 = .ok (.istore_n 3, 1) := by decide +kernel
theorem dX5_drawn_102 : decode cX5_drawn 102 = .ok (.aload_n 0, 1) := by decide +kernel
theorem dX5_drawn_103 : decode cX5_drawn 103 = .ok (.getfield 17, 3) := by decide +kernel
theorem dX5_drawn_106 : decode cX5_drawn 106 = .ok (.iconst 0, 1) := by decide +kernel
theorem dX5_drawn_107 : decode cX5_drawn 107 = .ok (.iaload, 1) := by decide +kernel
theorem dX5_drawn_108 : decode cX5_drawn 108 = .ok (.bipush 6, 2) := by decide +kernel
theorem dX5_drawn_110 : decode cX5_drawn 110 = .ok (.if_icmp .ge 18, 3) := by decide +kernel
theorem dX5_drawn_113 : decode cX5_drawn 113 = .ok (.iload_n 3, 1) := by decide +kernel
theorem dX5_drawn_114 : decode cX5_drawn 114 = .ok (.ifCond .eq 14, 3) := by decide +kernel
theorem dX5_drawn_117 : decode cX5_drawn 117 = .ok (.aload_n 0, 1) := by decide +kernel
theorem dX5_drawn_118 : decode cX5_drawn 118 = .ok (.invokevirtual 188, 3) := by decide +kernel
theorem dX5_drawn_121 : decode cX5_drawn 121 = .ok (.ifCond .eq 7, 3) := by decide +kernel
theorem dX5_drawn_124 : decode cX5_drawn 124 = .ok (.iconst 1, 1) := by decide +kernel
theorem dX5_drawn_125 : decode cX5_drawn 125 = .ok (.goto 4, 3) := by decide +kernel
theorem dX5_drawn_128 : decode cX5_drawn 128 = .ok (.iconst 0, 1) := by decide +kernel
theorem dX5_drawn_129 : decode cX5_drawn 129 = .ok (.istore 4, 2) := by decide +kernel
theorem dX5_drawn_131 : decode cX5_drawn 131 = .ok (.aload_n 0, 1) := by decide +kernel
theorem dX5_drawn_132 : decode cX5_drawn 132 = .ok (.invokevirtual 192, 3) := by decide +kernel
theorem dX5_drawn_135 : decode cX5_drawn 135 = .ok (.iload 4, 2) := by decide +kernel
theorem dX5_drawn_137 : decode cX5_drawn 137 = .ok (.ifCond .eq 7, 3) := by decide +kernel
theorem dX5_drawn_140 : decode cX5_drawn 140 = .ok (.aload_n 0, 1) := by decide +kernel
theorem dX5_drawn_141 : decode cX5_drawn 141 = .ok (.invokevirtual 195, 3) := by decide +kernel
theorem dX5_drawn_144 : decode cX5_drawn 144 = .ok (.return_, 1) := by decide +kernel
set_option maxRecDepth 20000 in
theorem ggX5_drift_X5_in : GoodIn wsX5_drift wsX5_in := goodIn_r _ [6] (by decide +kernel) (by decide +kernel)
set_option maxRecDepth 20000 in
theorem gX5_drift_X5_in : GoodIn wsX5_drift (va_wsS RX5 55 yX5_in wsX5_in) := goodIn_app (goodIn_of _ (by decide +kernel)) ggX5_drift_X5_in
set_option maxRecDepth 20000 in
theorem ggX5_drift_X5_drawn : GoodIn wsX5_drift wsX5_drawn := goodIn_r _ [10, 11, 2, 12, 13, 14, 5, 15, 16, 17, 18, 19, 20, 21, 22, 23, 24, 25, 26, 27, 28, 29, 30, 31, 32, 33, 34, 35, 36, 37, 38, 39, 40, 41, 42, 43, 44, 45, 46, 47, 48, 49, 50, 51, 52, 53, 54, 55, 56, 57, 58, 59, 60, 61, 62, 63, 64, 65, 66, 67, 68, 69, 70, 71, 72, 73, 74, 75, 76, 77, 78, 79, 80, 81, 82, 83, 84, 85, 86, 87, 88, 89, 90, 91, 92, 93, 94, 95, 96, 97, 98, 99, 100, 101, 102, 103, 104, 105, 106, 107, 108, 109, 110, 111, 112, 113, 114, 115, 116] (by decide +kernel) (by decide +kernel)
set_option maxRecDepth 20000 in
theorem gX5_drift_X5_drawn : GoodIn wsX5_drift (wsV RX5 217 RX5 yX5_drawn wsX5_drawn) := goodIn_app (goodIn_of _ (by decide +kernel)) ggX5_drift_X5_drawn
theorem dX5_drift_0 : decode cX5_drift 0 = .ok (.iload_n 1, 1) := by decide +kernel
theorem dX5_drift_1 : decode cX5_drift 1 = .ok (.iconst 1, 1) := by decide +kernel
theorem dX5_drift_2 : decode cX5_drift 2 = .ok (.bipush 20, 2) := by decide +kernel
theorem dX5_drift_4 : decode cX5_drift 4 = .ok (.invokestatic 55, 3) := by decide +kernel
theorem dX5_drift_7 : decode cX5_drift 7 = .ok (.ifCond .ne 6, 3) := by decide +kernel
theorem dX5_drift_10 : decode cX5_drift 10 = .ok (.ldc 59, 2) := by decide +kernel
theorem dX5_drift_12 : decode cX5_drift 12 = .ok (.ireturn, 1) := by decide +kernel
theorem dX5_drift_13 : decode cX5_drift 13 = .ok (.iconst 0, 1) := by decide +kernel
theorem dX5_drift_14 : decode cX5_drift 14 = .ok (.istore_n 2, 1) := by decide +kernel
theorem dX5_drift_15 : decode cX5_drift 15 = .ok (.iload_n 2, 1) := by decide +kernel
theorem dX5_drift_16 : decode cX5_drift 16 = .ok (.iload_n 1, 1) := by decide +kernel
theorem dX5_drift_17 : decode cX5_drift 17 = .ok (.if_icmp .ge 13, 3) := by decide +kernel
theorem dX5_drift_20 : decode cX5_drift 20 = .ok (.aload_n 0, 1) := by decide +kernel
theorem dX5_drift_21 : decode cX5_drift 21 = .ok (.invokevirtual 217, 3) := by decide +kernel
theorem dX5_drift_24 : decode cX5_drift 24 = .ok (.iinc 2 1, 3) := by decide +kernel
theorem dX5_drift_27 : decode cX5_drift 27 = .ok (.goto (-12), 3) := by decide +kernel
theorem dX5_drift_30 : decode cX5_drift 30 = .ok (.aload_n 0, 1) := by decide +kernel
theorem dX5_drift_31 : decode cX5_drift 31 = .ok (.getfield 17, 3) := by decide +kernel
theorem dX5_drift_34 : decode cX5_drift 34 = .ok (.iconst 0, 1) := by decide +kernel
theorem dX5_drift_35 : decode cX5_drift 35 = .ok (.iaload, 1) := by decide +kernel
theorem dX5_drift_36 : decode cX5_drift 36 = .ok (.ireturn, 1) := by decide +kernel
set_option maxRecDepth 20000 in
theorem ggX5_undo_X5_in : GoodIn wsX5_undo wsX5_in := goodIn_r _ [9] (by decide +kernel) (by decide +kernel)
set_option maxRecDepth 20000 in
theorem gX5_undo_X5_in : GoodIn wsX5_undo (va_wsS RX5 55 yX5_in wsX5_in) := goodIn_app (goodIn_of _ (by decide +kernel)) ggX5_undo_X5_in
set_option maxRecDepth 20000 in
theorem ggX5_undo_X5_bring : GoodIn wsX5_undo wsX5_bring := goodIn_r _ [12] (by decide +kernel) (by decide +kernel)
set_option maxRecDepth 20000 in
theorem gX5_undo_X5_bring : GoodIn wsX5_undo (va_wsS RX5 90 yX5_bring wsX5_bring) := goodIn_app (goodIn_of _ (by decide +kernel)) ggX5_undo_X5_bring
theorem dX5_undo_0 : decode cX5_undo 0 = .ok (.iload_n 1, 1) := by decide +kernel
theorem dX5_undo_1 : decode cX5_undo 1 = .ok (.iconst 1, 1) := by decide +kernel
theorem dX5_undo_2 : decode cX5_undo 2 = .ok (.bipush 20, 2) := by decide +kernel
theorem dX5_undo_4 : decode cX5_undo 4 = .ok (.invokestatic 55, 3) := by decide +kernel
theorem dX5_undo_7 : decode cX5_undo 7 = .ok (.ifCond .ne 6, 3) := by decide +kernel
theorem dX5_undo_10 : decode cX5_undo 10 = .ok (.ldc 59, 2) := by decide +kernel
theorem dX5_undo_12 : decode cX5_undo 12 = .ok (.ireturn, 1) := by decide +kernel
theorem dX5_undo_13 : decode cX5_undo 13 = .ok (.iload_n 1, 1) := by decide +kernel
theorem dX5_undo_14 : decode cX5_undo 14 = .ok (.aload_n 0, 1) := by decide +kernel
theorem dX5_undo_15 : decode cX5_undo 15 = .ok (.getfield 181, 3) := by decide +kernel
theorem dX5_undo_18 : decode cX5_undo 18 = .ok (.if_icmp .le 6, 3) := by decide +kernel
theorem dX5_undo_21 : decode cX5_undo 21 = .ok (.ldc 191, 2) := by decide +kernel
theorem dX5_undo_23 : decode cX5_undo 23 = .ok (.ireturn, 1) := by decide +kernel
theorem dX5_undo_24 : decode cX5_undo 24 = .ok (.aload_n 0, 1) := by decide +kernel
theorem dX5_undo_25 : decode cX5_undo 25 = .ok (.dup, 1) := by decide +kernel
theorem dX5_undo_26 : decode cX5_undo 26 = .ok (.getfield 181, 3) := by decide +kernel
theorem dX5_undo_29 : decode cX5_undo 29 = .ok (.iload_n 1, 1) := by decide +kernel
theorem dX5_undo_30 : decode cX5_undo 30 = .ok (.isub, 1) := by decide +kernel
theorem dX5_undo_31 : decode cX5_undo 31 = .ok (.putfield 181, 3) := by decide +kernel
theorem dX5_undo_34 : decode cX5_undo 34 = .ok (.aload_n 0, 1) := by decide +kernel
theorem dX5_undo_35 : decode cX5_undo 35 = .ok (.getfield 20, 3) := by decide +kernel
theorem dX5_undo_38 : decode cX5_undo 38 = .ok (.bipush 69, 2) := by decide +kernel
theorem dX5_undo_40 : decode cX5_undo 40 = .ok (.aload_n 0, 1) := by decide +kernel
theorem dX5_undo_41 : decode cX5_undo 41 = .ok (.getfield 181, 3) := by decide +kernel
theorem dX5_undo_44 : decode cX5_undo 44 = .ok (.imul, 1) := by decide +kernel
theorem dX5_undo_45 : decode cX5_undo 45 = .ok (.aload_n 0, 1) := by decide +kernel
theorem dX5_undo_46 : decode cX5_undo 46 = .ok (.getfield 17, 3) := by decide +kernel
theorem dX5_undo_49 : decode cX5_undo 49 = .ok (.iconst 0, 1) := by decide +kernel
theorem dX5_undo_50 : decode cX5_undo 50 = .ok (.bipush 69, 2) := by decide +kernel
theorem dX5_undo_52 : decode cX5_undo 52 = .ok (.invokestatic 90, 3) := by decide +kernel
theorem dX5_undo_55 : decode cX5_undo 55 = .ok (.aload_n 0, 1) := by decide +kernel
theorem dX5_undo_56 : decode cX5_undo 56 = .ok (.getfield 17, 3) := by decide +kernel
theorem dX5_undo_59 : decode cX5_undo 59 = .ok (.iconst 0, 1) := by decide +kernel
theorem dX5_undo_60 : decode cX5_undo 60 = .ok (.iaload, 1) := by decide +kernel
theorem dX5_undo_61 : decode cX5_undo 61 = .ok (.ireturn, 1) := by decide +kernel
set_option maxRecDepth 20000 in
theorem ggX5_saying_X5_in : GoodIn wsX5_saying wsX5_in := goodIn_r _ [7] (by decide +kernel) (by decide +kernel)
set_option maxRecDepth 20000 in
theorem gX5_saying_X5_in : GoodIn wsX5_saying (va_wsS RX5 55 yX5_in wsX5_in) := goodIn_app (goodIn_of _ (by decide +kernel)) ggX5_saying_X5_in
set_option maxRecDepth 20000 in
theorem ggX5_saying_X5_isSpare : GoodIn wsX5_saying wsX5_isSpare := goodIn_r _ [11, 1, 12, 13, 14, 6, 15, 16, 17, 18, 19, 20, 21, 22, 23, 24, 25, 26, 27, 28, 29, 30, 31, 32, 33, 34, 35, 36, 37, 38, 39, 40, 41, 42, 43, 44, 45, 46, 47, 48, 49, 50, 51, 52, 53, 54, 55, 56, 57, 58, 59, 60, 61, 62, 63, 64, 65, 66, 67, 68, 69, 70, 71, 72, 73, 74, 75, 76, 77, 78, 79, 80, 81, 82, 83, 84, 85, 86, 87, 88, 89, 90, 91, 92, 93, 94] (by decide +kernel) (by decide +kernel)
set_option maxRecDepth 20000 in
theorem gX5_saying_X5_isSpare : GoodIn wsX5_saying (wsV RX5 162 RX5 yX5_isSpare wsX5_isSpare) := goodIn_app (goodIn_of _ (by decide +kernel)) ggX5_saying_X5_isSpare
theorem dX5_saying_0 : decode cX5_saying 0 = .ok (.iload_n 1, 1) := by decide +kernel
theorem dX5_saying_1 : decode cX5_saying 1 = .ok (.iconst 0, 1) := by decide +kernel
theorem dX5_saying_2 : decode cX5_saying 2 = .ok (.aload_n 0, 1) := by decide +kernel
theorem dX5_saying_3 : decode cX5_saying 3 = .ok (.getfield 17, 3) := by decide +kernel
theorem dX5_saying_6 : decode cX5_saying 6 = .ok (.iconst 0, 1) := by decide +kernel
theorem dX5_saying_7 : decode cX5_saying 7 = .ok (.iaload, 1) := by decide +kernel
theorem dX5_saying_8 : decode cX5_saying 8 = .ok (.iconst 1, 1) := by decide +kernel
theorem dX5_saying_9 : decode cX5_saying 9 = .ok (.isub, 1) := by decide +kernel
theorem dX5_saying_10 : decode cX5_saying 10 = .ok (.invokestatic 55, 3) := by decide +kernel
theorem dX5_saying_13 : decode cX5_saying 13 = .ok (.ifCond .ne 6, 3) := by decide +kernel
theorem dX5_saying_16 : decode cX5_saying 16 = .ok (.ldc 198, 2) := by decide +kernel
theorem dX5_saying_18 : decode cX5_saying 18 = .ok (.ireturn, 1) := by decide +kernel
theorem dX5_saying_19 : decode cX5_saying 19 = .ok (.iload_n 2, 1) := by decide +kernel
theorem dX5_saying_20 : decode cX5_saying 20 = .ok (.iconst 0, 1) := by decide +kernel
theorem dX5_saying_21 : decode cX5_saying 21 = .ok (.bipush 10, 2) := by decide +kernel
theorem dX5_saying_23 : decode cX5_saying 23 = .ok (.invokestatic 55, 3) := by decide +kernel
theorem dX5_saying_26 : decode cX5_saying 26 = .ok (.ifCond .ne 6, 3) := by decide +kernel
theorem dX5_saying_29 : decode cX5_saying 29 = .ok (.ldc 59, 2) := by decide +kernel
theorem dX5_saying_31 : decode cX5_saying 31 = .ok (.ireturn, 1) := by decide +kernel
theorem dX5_saying_32 : decode cX5_saying 32 = .ok (.iload_n 2, 1) := by decide +kernel
theorem dX5_saying_33 : decode cX5_saying 33 = .ok (.bipush 10, 2) := by decide +kernel
theorem dX5_saying_35 : decode cX5_saying 35 = .ok (.if_icmp .ne 19, 3) := by decide +kernel
theorem dX5_saying_38 : decode cX5_saying 38 = .ok (.aload_n 0, 1) := by decide +kernel
theorem dX5_saying_39 : decode cX5_saying 39 = .ok (.iload_n 1, 1) := by decide +kernel
theorem dX5_saying_40 : decode cX5_saying 40 = .ok (.invokevirtual 162, 3) := by decide +kernel
theorem dX5_saying_43 : decode cX5_saying 43 = .ok (.ifCond .eq 7, 3) := by decide +kernel
theorem dX5_saying_46 : decode cX5_saying 46 = .ok (.iconst 1, 1) := by decide +kernel
theorem dX5_saying_47 : decode cX5_saying 47 = .ok (.goto 23, 3) := by decide +kernel
theorem dX5_saying_50 : decode cX5_saying 50 = .ok (.iconst 0, 1) := by decide +kernel
theorem dX5_saying_51 : decode cX5_saying 51 = .ok (.goto 19, 3) := by decide +kernel
theorem dX5_saying_54 : decode cX5_saying 54 = .ok (.aload_n 0, 1) := by decide +kernel
theorem dX5_saying_55 : decode cX5_saying 55 = .ok (.getfield 17, 3) := by decide +kernel
theorem dX5_saying_58 : decode cX5_saying 58 = .ok (.iconst 1, 1) := by decide +kernel
theorem dX5_saying_59 : decode cX5_saying 59 = .ok (.bipush 10, 2) := by decide +kernel
theorem dX5_saying_61 : decode cX5_saying 61 = .ok (.iload_n 1, 1) := by decide +kernel
theorem dX5_saying_62 : decode cX5_saying 62 = .ok (.imul, 1) := by decide +kernel
theorem dX5_saying_63 : decode cX5_saying 63 = .ok (.iadd, 1) := by decide +kernel
theorem dX5_saying_64 : decode cX5_saying 64 = .ok (.iload_n 2, 1) := by decide +kernel
theorem dX5_saying_65 : decode cX5_saying 65 = .ok (.iadd, 1) := by decide +kernel
theorem dX5_saying_66 : decode cX5_saying 66 = .ok (.iaload, 1) := by decide +kernel
theorem dX5_saying_67 : decode cX5_saying 67 = .ok (.bipush 100, 2) := by decide +kernel
theorem dX5_saying_69 : decode cX5_saying 69 = .ok (.iadd, 1) := by decide +kernel
theorem dX5_saying_70 : decode cX5_saying 70 = .ok (.ireturn, 1) := by decide +kernel
set_option maxRecDepth 20000 in
theorem ggX5_free_X5_allOf : GoodIn wsX5_free wsX5_allOf := goodIn_r _ [10, 11, 67, 68, 69, 70, 71, 72, 73, 74, 75, 76, 77, 78, 79, 80, 81, 82, 83, 84, 85, 86, 87] (by decide +kernel) (by decide +kernel)
set_option maxRecDepth 20000 in
theorem gX5_free_X5_allOf : GoodIn wsX5_free (wsV RX5 153 RX5 yX5_allOf wsX5_allOf) := goodIn_app (goodIn_of _ (by decide +kernel)) ggX5_free_X5_allOf
set_option maxRecDepth 20000 in
theorem ggX5_free_X5_solves : GoodIn wsX5_free wsX5_solves := goodIn_r _ [15, 11, 16, 17, 18, 9, 19, 1, 3, 20, 21, 22, 23, 24, 25, 26, 27, 28, 29, 30, 31, 32, 33, 34, 35, 36, 37, 38, 39, 40, 41, 42, 43, 44, 45, 46, 47, 48, 49, 50, 51, 52, 53, 54, 55, 56, 57, 58, 59, 60, 61, 62, 63, 67, 68, 69, 70, 71, 72, 73, 74, 75, 76, 77, 78, 79, 80, 81, 82, 83, 84, 85, 86, 87] (by decide +kernel) (by decide +kernel)
set_option maxRecDepth 20000 in
theorem gX5_free_X5_solves : GoodIn wsX5_free (wsV RX5 156 RX5 yX5_solves wsX5_solves) := goodIn_app (goodIn_of _ (by decide +kernel)) ggX5_free_X5_solves
set_option maxRecDepth 20000 in
theorem ggX5_free_X5_in : GoodIn wsX5_free wsX5_in := goodIn_r _ [66] (by decide +kernel) (by decide +kernel)
set_option maxRecDepth 20000 in
theorem gX5_free_X5_in : GoodIn wsX5_free (va_wsS RX5 55 yX5_in wsX5_in) := goodIn_app (goodIn_of _ (by decide +kernel)) ggX5_free_X5_in
theorem dX5_free_0 : decode cX5_free 0 = .ok (.aload_n 0, 1) := by decide +kernel
theorem dX5_free_1 : decode cX5_free 1 = .ok (.aload_n 0, 1) := by decide +kernel
theorem dX5_free_2 : decode cX5_free 2 = .ok (.invokevirtual 153, 3) := by decide +kernel
theorem dX5_free_5 : decode cX5_free 5 = .ok (.invokevirtual 156, 3) := by decide +kernel
theorem dX5_free_8 : decode cX5_free 8 = .ok (.iload_n 1, 1) := by decide +kernel
theorem dX5_free_9 : decode cX5_free 9 = .ok (.iconst 0, 1) := by decide +kernel
theorem dX5_free_10 : decode cX5_free 10 = .ok (.aload_n 0, 1) := by decide +kernel
theorem dX5_free_11 : decode cX5_free 11 = .ok (.getfield 104, 3) := by decide +kernel
theorem dX5_free_14 : decode cX5_free 14 = .ok (.iconst 1, 1) := by decide +kernel
theorem dX5_free_15 : decode cX5_free 15 = .ok (.isub, 1) := by decide +kernel
theorem dX5_free_16 : decode cX5_free 16 = .ok (.invokestatic 55, 3) := by decide +kernel
theorem dX5_free_19 : decode cX5_free 19 = .ok (.ifCond .ne 7, 3) := by decide +kernel
theorem dX5_free_22 : decode cX5_free 22 = .ok (.ldc2_w 220, 3) := by decide +kernel
theorem dX5_free_25 : decode cX5_free 25 = .ok (.lreturn, 1) := by decide +kernel
theorem dX5_free_26 : decode cX5_free 26 = .ok (.iload_n 2, 1) := by decide +kernel
theorem dX5_free_27 : decode cX5_free 27 = .ok (.iconst 0, 1) := by decide +kernel
theorem dX5_free_28 : decode cX5_free 28 = .ok (.iconst 5, 1) := by decide +kernel
theorem dX5_free_29 : decode cX5_free 29 = .ok (.invokestatic 55, 3) := by decide +kernel
theorem dX5_free_32 : decode cX5_free 32 = .ok (.ifCond .eq 21, 3) := by decide +kernel
theorem dX5_free_35 : decode cX5_free 35 = .ok (.aload_n 0, 1) := by decide +kernel
theorem dX5_free_36 : decode cX5_free 36 = .ok (.getfield 46, 3) := by decide +kernel
theorem dX5_free_39 : decode cX5_free 39 = .ok (.bipush 6, 2) := by decide +kernel
theorem dX5_free_41 : decode cX5_free 41 = .ok (.iload_n 1, 1) := by decide +kernel
theorem dX5_free_42 : decode cX5_free 42 = .ok (.imul, 1) := by decide +kernel
theorem dX5_free_43 : decode cX5_free 43 = .ok (.iload_n 2, 1) := by decide +kernel
theorem dX5_free_44 : decode cX5_free 44 = .ok (.iadd, 1) := by decide +kernel
theorem dX5_free_45 : decode cX5_free 45 = .ok (.laload, 1) := by decide +kernel
theorem dX5_free_46 : decode cX5_free 46 = .ok (.ldc2_w 222, 3) := by decide +kernel
theorem dX5_free_49 : decode cX5_free 49 = .ok (.ladd, 1) := by decide +kernel
theorem dX5_free_50 : decode cX5_free 50 = .ok (.goto 6, 3) := by decide +kernel
theorem dX5_free_53 : decode cX5_free 53 = .ok (.ldc2_w 224, 3) := by decide +kernel
theorem dX5_free_56 : decode cX5_free 56 = .ok (.lreturn, 1) := by decide +kernel
set_option maxRecDepth 20000 in
theorem ggX5_isUnknown_X5_in : GoodIn wsX5_isUnknown wsX5_in := goodIn_r _ [4] (by decide +kernel) (by decide +kernel)
set_option maxRecDepth 20000 in
theorem gX5_isUnknown_X5_in : GoodIn wsX5_isUnknown (va_wsS RX5 55 yX5_in wsX5_in) := goodIn_app (goodIn_of _ (by decide +kernel)) ggX5_isUnknown_X5_in
theorem dX5_isUnknown_0 : decode cX5_isUnknown 0 = .ok (.iload_n 0, 1) := by decide +kernel
theorem dX5_isUnknown_1 : decode cX5_isUnknown 1 = .ok (.iconst 0, 1) := by decide +kernel
theorem dX5_isUnknown_2 : decode cX5_isUnknown 2 = .ok (.iconst 5, 1) := by decide +kernel
theorem dX5_isUnknown_3 : decode cX5_isUnknown 3 = .ok (.invokestatic 55, 3) := by decide +kernel
theorem dX5_isUnknown_6 : decode cX5_isUnknown 6 = .ok (.ireturn, 1) := by decide +kernel
set_option maxRecDepth 20000 in
theorem ggX5_least_X5_isUnknown : GoodIn wsX5_least wsX5_isUnknown := goodIn_r _ [7, 8, 9, 6, 10] (by decide +kernel) (by decide +kernel)
set_option maxRecDepth 20000 in
theorem gX5_least_X5_isUnknown : GoodIn wsX5_least (va_wsS RX5 226 yX5_isUnknown wsX5_isUnknown) := goodIn_app (goodIn_of _ (by decide +kernel)) ggX5_least_X5_isUnknown
set_option maxRecDepth 20000 in
theorem ggX5_least_X5_isBase : GoodIn wsX5_least wsX5_isBase := goodIn_r _ [13, 8, 9, 6, 10] (by decide +kernel) (by decide +kernel)
set_option maxRecDepth 20000 in
theorem gX5_least_X5_isBase : GoodIn wsX5_least (va_wsS RX5 199 yX5_isBase wsX5_isBase) := goodIn_app (goodIn_of _ (by decide +kernel)) ggX5_least_X5_isBase
set_option maxRecDepth 20000 in
theorem ggX5_least_X5_allOf : GoodIn wsX5_least wsX5_allOf := goodIn_r _ [17, 18, 72, 73, 74, 75, 76, 77, 78, 79, 80, 81, 82, 83, 84, 85, 86, 87, 88, 89, 90, 91, 92] (by decide +kernel) (by decide +kernel)
set_option maxRecDepth 20000 in
theorem gX5_least_X5_allOf : GoodIn wsX5_least (wsV RX5 153 RX5 yX5_allOf wsX5_allOf) := goodIn_app (goodIn_of _ (by decide +kernel)) ggX5_least_X5_allOf
set_option maxRecDepth 20000 in
theorem ggX5_least_X5_solves : GoodIn wsX5_least wsX5_solves := goodIn_r _ [22, 18, 23, 24, 25, 6, 26, 27, 28, 2, 29, 30, 31, 32, 33, 34, 35, 36, 37, 38, 39, 40, 41, 42, 43, 44, 45, 46, 47, 48, 49, 50, 51, 52, 53, 54, 55, 56, 57, 58, 59, 60, 61, 62, 63, 64, 65, 66, 67, 68, 69, 70, 71, 72, 73, 74, 75, 76, 77, 78, 79, 80, 81, 82, 83, 84, 85, 86, 87, 88, 89, 90, 91, 92] (by decide +kernel) (by decide +kernel)
set_option maxRecDepth 20000 in
theorem gX5_least_X5_solves : GoodIn wsX5_least (wsV RX5 156 RX5 yX5_solves wsX5_solves) := goodIn_app (goodIn_of _ (by decide +kernel)) ggX5_least_X5_solves
theorem dX5_least_0 : decode cX5_least 0 = .ok (.iload_n 1, 1) := by decide +kernel
theorem dX5_least_1 : decode cX5_least 1 = .ok (.invokestatic 226, 3) := by decide +kernel
theorem dX5_least_4 : decode cX5_least 4 = .ok (.ifCond .eq 10, 3) := by decide +kernel
theorem dX5_least_7 : decode cX5_least 7 = .ok (.iload_n 2, 1) := by decide +kernel
theorem dX5_least_8 : decode cX5_least 8 = .ok (.invokestatic 199, 3) := by decide +kernel
theorem dX5_least_11 : decode cX5_least 11 = .ok (.ifCond .ne 7, 3) := by decide +kernel
theorem dX5_least_14 : decode cX5_least 14 = .ok (.ldc2_w 220, 3) := by decide +kernel
theorem dX5_least_17 : decode cX5_least 17 = .ok (.lreturn, 1) := by decide +kernel
theorem dX5_least_18 : decode cX5_least 18 = .ok (.aload_n 0, 1) := by decide +kernel
theorem dX5_least_19 : decode cX5_least 19 = .ok (.aload_n 0, 1) := by decide +kernel
theorem dX5_least_20 : decode cX5_least 20 = .ok (.invokevirtual 153, 3) := by decide +kernel
theorem dX5_least_23 : decode cX5_least 23 = .ok (.invokevirtual 156, 3) := by decide +kernel
theorem dX5_least_26 : decode cX5_least 26 = .ok (.aload_n 0, 1) := by decide +kernel
theorem dX5_least_27 : decode cX5_least 27 = .ok (.getfield 49, 3) := by decide +kernel
theorem dX5_least_30 : decode cX5_least 30 = .ok (.bipush 6, 2) := by decide +kernel
theorem dX5_least_32 : decode cX5_least 32 = .ok (.iload_n 2, 1) := by decide +kernel
theorem dX5_least_33 : decode cX5_least 33 = .ok (.imul, 1) := by decide +kernel
theorem dX5_least_34 : decode cX5_least 34 = .ok (.iload_n 1, 1) := by decide +kernel
theorem dX5_least_35 : decode cX5_least 35 = .ok (.iadd, 1) := by decide +kernel
theorem dX5_least_36 : decode cX5_least 36 = .ok (.laload, 1) := by decide +kernel
theorem dX5_least_37 : decode cX5_least 37 = .ok (.ldc2_w 222, 3) := by decide +kernel
theorem dX5_least_40 : decode cX5_least 40 = .ok (.ladd, 1) := by decide +kernel
theorem dX5_least_41 : decode cX5_least 41 = .ok (.lreturn, 1) := by decide +kernel
set_option maxRecDepth 20000 in
theorem ggX5_isTold_X5_isUnknown : GoodIn wsX5_isTold wsX5_isUnknown := goodIn_r _ [5, 6, 7, 4, 8] (by decide +kernel) (by decide +kernel)
set_option maxRecDepth 20000 in
theorem gX5_isTold_X5_isUnknown : GoodIn wsX5_isTold (va_wsS RX5 226 yX5_isUnknown wsX5_isUnknown) := goodIn_app (goodIn_of _ (by decide +kernel)) ggX5_isTold_X5_isUnknown
set_option maxRecDepth 20000 in
theorem ggX5_isTold_X5_allOf : GoodIn wsX5_isTold wsX5_allOf := goodIn_r _ [12, 13, 72, 73, 74, 75, 76, 77, 78, 79, 80, 81, 82, 83, 84, 85, 86, 87, 88, 89, 90, 91, 92] (by decide +kernel) (by decide +kernel)
set_option maxRecDepth 20000 in
theorem gX5_isTold_X5_allOf : GoodIn wsX5_isTold (wsV RX5 153 RX5 yX5_allOf wsX5_allOf) := goodIn_app (goodIn_of _ (by decide +kernel)) ggX5_isTold_X5_allOf
set_option maxRecDepth 20000 in
theorem ggX5_isTold_X5_solves : GoodIn wsX5_isTold wsX5_solves := goodIn_r _ [17, 13, 18, 19, 20, 4, 21, 22, 23, 24, 25, 26, 27, 28, 29, 30, 31, 32, 33, 34, 35, 36, 37, 38, 39, 40, 41, 42, 43, 44, 45, 46, 47, 48, 49, 50, 51, 52, 53, 54, 55, 56, 57, 58, 59, 60, 61, 62, 63, 64, 65, 66, 67, 72, 73, 74, 75, 76, 77, 78, 79, 80, 81, 82, 83, 84, 85, 86, 87, 88, 89, 90, 91, 92] (by decide +kernel) (by decide +kernel)
set_option maxRecDepth 20000 in
theorem gX5_isTold_X5_solves : GoodIn wsX5_isTold (wsV RX5 156 RX5 yX5_solves wsX5_solves) := goodIn_app (goodIn_of _ (by decide +kernel)) ggX5_isTold_X5_solves
set_option maxRecDepth 20000 in
theorem ggX5_isTold_X5_isSure : GoodIn wsX5_isTold wsX5_isSure := goodIn_r _ [71, 22, 23, 72, 73, 74, 75, 76, 77, 78, 79, 80, 81, 82, 83, 84, 85, 86, 87, 88, 89, 90, 91, 92] (by decide +kernel) (by decide +kernel)
set_option maxRecDepth 20000 in
theorem gX5_isTold_X5_isSure : GoodIn wsX5_isTold (wsV RX5 169 RX5 yX5_isSure wsX5_isSure) := goodIn_app (goodIn_of _ (by decide +kernel)) ggX5_isTold_X5_isSure
theorem dX5_isTold_0 : decode cX5_isTold 0 = .ok (.iload_n 1, 1) := by decide +kernel
theorem dX5_isTold_1 : decode cX5_isTold 1 = .ok (.invokestatic 226, 3) := by decide +kernel
theorem dX5_isTold_4 : decode cX5_isTold 4 = .ok (.ifCond .ne 6, 3) := by decide +kernel
theorem dX5_isTold_7 : decode cX5_isTold 7 = .ok (.ldc 198, 2) := by decide +kernel
theorem dX5_isTold_9 : decode cX5_isTold 9 = .ok (.ireturn, 1) := by decide +kernel
theorem dX5_isTold_10 : decode cX5_isTold 10 = .ok (.aload_n 0, 1) := by decide +kernel
theorem dX5_isTold_11 : decode cX5_isTold 11 = .ok (.aload_n 0, 1) := by decide +kernel
theorem dX5_isTold_12 : decode cX5_isTold 12 = .ok (.invokevirtual 153, 3) := by decide +kernel
theorem dX5_isTold_15 : decode cX5_isTold 15 = .ok (.invokevirtual 156, 3) := by decide +kernel
theorem dX5_isTold_18 : decode cX5_isTold 18 = .ok (.aload_n 0, 1) := by decide +kernel
theorem dX5_isTold_19 : decode cX5_isTold 19 = .ok (.iload_n 1, 1) := by decide +kernel
theorem dX5_isTold_20 : decode cX5_isTold 20 = .ok (.invokevirtual 169, 3) := by decide +kernel
theorem dX5_isTold_23 : decode cX5_isTold 23 = .ok (.ifCond .eq 7, 3) := by decide +kernel
theorem dX5_isTold_26 : decode cX5_isTold 26 = .ok (.iconst 1, 1) := by decide +kernel
theorem dX5_isTold_27 : decode cX5_isTold 27 = .ok (.goto 4, 3) := by decide +kernel
theorem dX5_isTold_30 : decode cX5_isTold 30 = .ok (.iconst 0, 1) := by decide +kernel
theorem dX5_isTold_31 : decode cX5_isTold 31 = .ok (.ireturn, 1) := by decide +kernel
set_option maxRecDepth 20000 in
theorem ggX5_follows_X5_reads : GoodIn wsX5_follows wsX5_reads := goodIn_r _ [6, 7, 8, 9, 1, 10, 11, 12, 13, 14, 5, 15, 16, 17, 18, 19, 20, 21, 22, 23, 24, 25, 26, 27, 28, 29, 30, 31, 32, 33, 34, 35, 36, 37, 38, 39, 40, 41, 42, 43, 44, 45, 46, 47, 48, 49, 50, 51, 52, 53, 117, 118, 119, 120, 121, 122, 123, 124, 125, 126, 127, 128, 129, 130, 131, 132, 133, 134, 135, 136, 137] (by decide +kernel) (by decide +kernel)
set_option maxRecDepth 20000 in
theorem gX5_follows_X5_reads : GoodIn wsX5_follows (wsV RX5 184 RX5 yX5_reads wsX5_reads) := goodIn_app (goodIn_of _ (by decide +kernel)) ggX5_follows_X5_reads
set_option maxRecDepth 20000 in
theorem ggX5_follows_X5_allOf : GoodIn wsX5_follows wsX5_allOf := goodIn_r _ [57, 58, 117, 118, 119, 120, 121, 122, 123, 124, 125, 126, 127, 128, 129, 130, 131, 132, 133, 134, 135, 136, 137] (by decide +kernel) (by decide +kernel)
set_option maxRecDepth 20000 in
theorem gX5_follows_X5_allOf : GoodIn wsX5_follows (wsV RX5 153 RX5 yX5_allOf wsX5_allOf) := goodIn_app (goodIn_of _ (by decide +kernel)) ggX5_follows_X5_allOf
set_option maxRecDepth 20000 in
theorem ggX5_follows_X5_solves : GoodIn wsX5_follows wsX5_solves := goodIn_r _ [62, 58, 63, 64, 65, 5, 66, 67, 68, 69, 70, 71, 72, 73, 74, 75, 76, 77, 78, 79, 80, 81, 82, 83, 84, 85, 86, 87, 88, 89, 90, 91, 92, 93, 94, 95, 96, 97, 98, 99, 100, 101, 102, 103, 104, 105, 106, 107, 108, 109, 110, 111, 112, 117, 118, 119, 120, 121, 122, 123, 124, 125, 126, 127, 128, 129, 130, 131, 132, 133, 134, 135, 136, 137] (by decide +kernel) (by decide +kernel)
set_option maxRecDepth 20000 in
theorem gX5_follows_X5_solves : GoodIn wsX5_follows (wsV RX5 156 RX5 yX5_solves wsX5_solves) := goodIn_app (goodIn_of _ (by decide +kernel)) ggX5_follows_X5_solves
set_option maxRecDepth 20000 in
theorem ggX5_follows_X5_isTrue : GoodIn wsX5_follows wsX5_isTrue := goodIn_r _ [116, 67, 78, 79, 80, 5, 81, 68, 97, 98, 99, 100, 69, 117, 118, 119, 120, 121, 122, 123, 124, 125, 126, 127, 128, 129, 130, 131, 132, 133, 134, 135, 136, 137] (by decide +kernel) (by decide +kernel)
set_option maxRecDepth 20000 in
theorem gX5_follows_X5_isTrue : GoodIn wsX5_follows (wsV RX5 159 RX5 yX5_isTrue wsX5_isTrue) := goodIn_app (goodIn_of _ (by decide +kernel)) ggX5_follows_X5_isTrue
theorem dX5_follows_0 : decode cX5_follows 0 = .ok (.aload_n 0, 1) := by decide +kernel
theorem dX5_follows_1 : decode cX5_follows 1 = .ok (.iconst 1, 1) := by decide +kernel
theorem dX5_follows_2 : decode cX5_follows 2 = .ok (.invokevirtual 184, 3) := by decide +kernel
theorem dX5_follows_5 : decode cX5_follows 5 = .ok (.istore_n 1, 1) := by decide +kernel
theorem dX5_follows_6 : decode cX5_follows 6 = .ok (.iload_n 1, 1) := by decide +kernel
theorem dX5_follows_7 : decode cX5_follows 7 = .ok (.ifCond .eq 8, 3) := by decide +kernel
theorem dX5_follows_10 : decode cX5_follows 10 = .ok (.bipush (-10), 2) := by decide +kernel
theorem dX5_follows_12 : decode cX5_follows 12 = .ok (.iload_n 1, 1) := by decide +kernel
theorem dX5_follows_13 : decode cX5_follows 13 = .ok (.isub, 1) := by decide +kernel
theorem dX5_follows_14 : decode cX5_follows 14 = .ok (.ireturn, 1) := by decide +kernel
theorem dX5_follows_15 : decode cX5_follows 15 = .ok (.aload_n 0, 1) := by decide +kernel
theorem dX5_follows_16 : decode cX5_follows 16 = .ok (.aload_n 0, 1) := by decide +kernel
theorem dX5_follows_17 : decode cX5_follows 17 = .ok (.invokevirtual 153, 3) := by decide +kernel
theorem dX5_follows_20 : decode cX5_follows 20 = .ok (.invokevirtual 156, 3) := by decide +kernel
theorem dX5_follows_23 : decode cX5_follows 23 = .ok (.aload_n 0, 1) := by decide +kernel
theorem dX5_follows_24 : decode cX5_follows 24 = .ok (.aload_n 0, 1) := by decide +kernel
theorem dX5_follows_25 : decode cX5_follows 25 = .ok (.getfield 43, 3) := by decide +kernel
theorem dX5_follows_28 : decode cX5_follows 28 = .ok (.iconst 0, 1) := by decide +kernel
theorem dX5_follows_29 : decode cX5_follows 29 = .ok (.invokevirtual 159, 3) := by decide +kernel
theorem dX5_follows_32 : decode cX5_follows 32 = .ok (.ifCond .eq 7, 3) := by decide +kernel
theorem dX5_follows_35 : decode cX5_follows 35 = .ok (.iconst 1, 1) := by decide +kernel
theorem dX5_follows_36 : decode cX5_follows 36 = .ok (.goto 4, 3) := by decide +kernel
theorem dX5_follows_39 : decode cX5_follows 39 = .ok (.iconst 0, 1) := by decide +kernel
theorem dX5_follows_40 : decode cX5_follows 40 = .ok (.ireturn, 1) := by decide +kernel
set_option maxRecDepth 20000 in
theorem ggX5_couldBe_X5_reads : GoodIn wsX5_couldBe wsX5_reads := goodIn_r _ [5, 6, 7, 8, 9, 10, 11, 12, 13, 14, 4, 15, 16, 17, 18, 19, 20, 21, 22, 23, 24, 25, 26, 27, 28, 29, 30, 31, 32, 33, 34, 35, 36, 37, 38, 39, 40, 41, 42, 43, 44, 45, 46, 47, 48, 49, 50, 51, 52, 53, 117, 118, 119, 120, 121, 122, 123, 124, 125, 126, 127, 128, 129, 130, 131, 132, 133, 134, 135, 136, 137] (by decide +kernel) (by decide +kernel)
set_option maxRecDepth 20000 in
theorem gX5_couldBe_X5_reads : GoodIn wsX5_couldBe (wsV RX5 184 RX5 yX5_reads wsX5_reads) := goodIn_app (goodIn_of _ (by decide +kernel)) ggX5_couldBe_X5_reads
set_option maxRecDepth 20000 in
theorem ggX5_couldBe_X5_mayBe : GoodIn wsX5_couldBe wsX5_mayBe := goodIn_r _ [57, 9, 58, 59, 60, 4, 61, 62, 63, 64, 65, 66, 67, 68, 69, 70, 71, 72, 73, 74, 75, 76, 77, 78, 79, 80, 81, 82, 83, 84, 85, 86, 87, 88, 89, 90, 91, 92, 93, 94, 95, 96, 97, 98, 99, 100, 101, 102, 103, 104, 105, 106, 107, 108, 109, 110, 111, 112, 113, 114, 115, 116, 117, 118, 119, 120, 121, 122, 123, 124, 125, 126, 127, 128, 129, 130, 131, 132, 133, 134, 135, 136, 137] (by decide +kernel) (by decide +kernel)
set_option maxRecDepth 20000 in
theorem gX5_couldBe_X5_mayBe : GoodIn wsX5_couldBe (wsV RX5 188 RX5 yX5_mayBe wsX5_mayBe) := goodIn_app (goodIn_of _ (by decide +kernel)) ggX5_couldBe_X5_mayBe
theorem dX5_couldBe_0 : decode cX5_couldBe 0 = .ok (.aload_n 0, 1) := by decide +kernel
theorem dX5_couldBe_1 : decode cX5_couldBe 1 = .ok (.iconst 1, 1) := by decide +kernel
theorem dX5_couldBe_2 : decode cX5_couldBe 2 = .ok (.invokevirtual 184, 3) := by decide +kernel
theorem dX5_couldBe_5 : decode cX5_couldBe 5 = .ok (.istore_n 1, 1) := by decide +kernel
theorem dX5_couldBe_6 : decode cX5_couldBe 6 = .ok (.iload_n 1, 1) := by decide +kernel
theorem dX5_couldBe_7 : decode cX5_couldBe 7 = .ok (.ifCond .eq 10, 3) := by decide +kernel
theorem dX5_couldBe_10 : decode cX5_couldBe 10 = .ok (.bipush (-10), 2) := by decide +kernel
theorem dX5_couldBe_12 : decode cX5_couldBe 12 = .ok (.iload_n 1, 1) := by decide +kernel
theorem dX5_couldBe_13 : decode cX5_couldBe 13 = .ok (.isub, 1) := by decide +kernel
theorem dX5_couldBe_14 : decode cX5_couldBe 14 = .ok (.goto 15, 3) := by decide +kernel
theorem dX5_couldBe_17 : decode cX5_couldBe 17 = .ok (.aload_n 0, 1) := by decide +kernel
theorem dX5_couldBe_18 : decode cX5_couldBe 18 = .ok (.invokevirtual 188, 3) := by decide +kernel
theorem dX5_couldBe_21 : decode cX5_couldBe 21 = .ok (.ifCond .eq 7, 3) := by decide +kernel
theorem dX5_couldBe_24 : decode cX5_couldBe 24 = .ok (.iconst 1, 1) := by decide +kernel
theorem dX5_couldBe_25 : decode cX5_couldBe 25 = .ok (.goto 4, 3) := by decide +kernel
theorem dX5_couldBe_28 : decode cX5_couldBe 28 = .ok (.iconst 0, 1) := by decide +kernel
theorem dX5_couldBe_29 : decode cX5_couldBe 29 = .ok (.ireturn, 1) := by decide +kernel
set_option maxRecDepth 20000 in
theorem ggX5_measured_X5_in : GoodIn wsX5_measured wsX5_in := goodIn_r _ [8] (by decide +kernel) (by decide +kernel)
set_option maxRecDepth 20000 in
theorem gX5_measured_X5_in : GoodIn wsX5_measured (va_wsS RX5 55 yX5_in wsX5_in) := goodIn_app (goodIn_of _ (by decide +kernel)) ggX5_measured_X5_in
set_option maxRecDepth 20000 in
theorem ggX5_measured_X5_reads : GoodIn wsX5_measured wsX5_reads := goodIn_r _ [12, 13, 14, 15, 2, 16, 17, 18, 19, 20, 7, 21, 22, 23, 24, 25, 26, 27, 28, 29, 30, 31, 32, 33, 34, 35, 36, 37, 5, 6, 8, 38, 39, 40, 41, 42, 43, 44, 45, 46, 47, 48, 49, 50, 51, 52, 53, 54, 55, 56, 115, 116, 117, 118, 119, 120, 121, 122, 123, 124, 125, 126, 127, 128, 129, 130, 131, 132, 133, 134, 135] (by decide +kernel) (by decide +kernel)
set_option maxRecDepth 20000 in
theorem gX5_measured_X5_reads : GoodIn wsX5_measured (wsV RX5 184 RX5 yX5_reads wsX5_reads) := goodIn_app (goodIn_of _ (by decide +kernel)) ggX5_measured_X5_reads
set_option maxRecDepth 20000 in
theorem ggX5_measured_X5_allOf : GoodIn wsX5_measured wsX5_allOf := goodIn_r _ [60, 61, 115, 116, 117, 118, 119, 120, 121, 122, 123, 124, 125, 126, 127, 128, 129, 130, 131, 132, 133, 134, 135] (by decide +kernel) (by decide +kernel)
set_option maxRecDepth 20000 in
theorem gX5_measured_X5_allOf : GoodIn wsX5_measured (wsV RX5 153 RX5 yX5_allOf wsX5_allOf) := goodIn_app (goodIn_of _ (by decide +kernel)) ggX5_measured_X5_allOf
set_option maxRecDepth 20000 in
theorem ggX5_measured_X5_solves : GoodIn wsX5_measured wsX5_solves := goodIn_r _ [65, 61, 66, 67, 68, 7, 69, 4, 70, 71, 72, 73, 74, 75, 76, 77, 78, 79, 80, 81, 82, 83, 84, 85, 86, 87, 88, 89, 90, 91, 92, 93, 94, 95, 96, 97, 98, 99, 100, 101, 102, 103, 104, 105, 106, 107, 108, 109, 110, 111, 112, 113, 114, 115, 116, 117, 118, 119, 120, 121, 122, 123, 124, 125, 126, 127, 128, 129, 130, 131, 132, 133, 134, 135] (by decide +kernel) (by decide +kernel)
set_option maxRecDepth 20000 in
theorem gX5_measured_X5_solves : GoodIn wsX5_measured (wsV RX5 156 RX5 yX5_solves wsX5_solves) := goodIn_app (goodIn_of _ (by decide +kernel)) ggX5_measured_X5_solves
set_option maxRecDepth 20000 in
theorem ggX5_measured_X5_restOf : GoodIn wsX5_measured wsX5_restOf := goodIn_r _ [102, 71, 115, 116, 117, 118, 119, 120, 121, 122, 123, 124, 125, 126, 127, 128, 129, 130, 131, 132, 133, 134, 135] (by decide +kernel) (by decide +kernel)
set_option maxRecDepth 20000 in
theorem gX5_measured_X5_restOf : GoodIn wsX5_measured (wsV RX5 127 RX5 yX5_restOf wsX5_restOf) := goodIn_app (goodIn_of _ (by decide +kernel)) ggX5_measured_X5_restOf
set_option maxRecDepth 20000 in
theorem ggX5_measured_X5_sumOf : GoodIn wsX5_measured wsX5_sumOf := goodIn_r _ [83, 70, 115, 116, 117, 118, 119, 120, 121, 122, 123, 124, 125, 126, 127, 128, 129, 130, 131, 132, 133, 134, 135] (by decide +kernel) (by decide +kernel)
set_option maxRecDepth 20000 in
theorem gX5_measured_X5_sumOf : GoodIn wsX5_measured (wsV RX5 119 RX5 yX5_sumOf wsX5_sumOf) := goodIn_app (goodIn_of _ (by decide +kernel)) ggX5_measured_X5_sumOf
theorem dX5_measured_0 : decode cX5_measured 0 = .ok (.iload_n 1, 1) := by decide +kernel
theorem dX5_measured_1 : decode cX5_measured 1 = .ok (.iconst 0, 1) := by decide +kernel
theorem dX5_measured_2 : decode cX5_measured 2 = .ok (.bipush 9, 2) := by decide +kernel
theorem dX5_measured_4 : decode cX5_measured 4 = .ok (.invokestatic 55, 3) := by decide +kernel
theorem dX5_measured_7 : decode cX5_measured 7 = .ok (.ifCond .ne 7, 3) := by decide +kernel
theorem dX5_measured_10 : decode cX5_measured 10 = .ok (.ldc2_w 224, 3) := by decide +kernel
theorem dX5_measured_13 : decode cX5_measured 13 = .ok (.lreturn, 1) := by decide +kernel
theorem dX5_measured_14 : decode cX5_measured 14 = .ok (.aload_n 0, 1) := by decide +kernel
theorem dX5_measured_15 : decode cX5_measured 15 = .ok (.iconst 0, 1) := by decide +kernel
theorem dX5_measured_16 : decode cX5_measured 16 = .ok (.invokevirtual 184, 3) := by decide +kernel
theorem dX5_measured_19 : decode cX5_measured 19 = .ok (.istore_n 2, 1) := by decide +kernel
theorem dX5_measured_20 : decode cX5_measured 20 = .ok (.iload_n 2, 1) := by decide +kernel
theorem dX5_measured_21 : decode cX5_measured 21 = .ok (.ifCond .eq 9, 3) := by decide +kernel
theorem dX5_measured_24 : decode cX5_measured 24 = .ok (.bipush (-10), 2) := by decide +kernel
theorem dX5_measured_26 : decode cX5_measured 26 = .ok (.iload_n 2, 1) := by decide +kernel
theorem dX5_measured_27 : decode cX5_measured 27 = .ok (.isub, 1) := by decide +kernel
theorem dX5_measured_28 : decode cX5_measured 28 = .ok (.i2l, 1) := by decide +kernel
theorem dX5_measured_29 : decode cX5_measured 29 = .ok (.lreturn, 1) := by decide +kernel
theorem dX5_measured_30 : decode cX5_measured 30 = .ok (.aload_n 0, 1) := by decide +kernel
theorem dX5_measured_31 : decode cX5_measured 31 = .ok (.aload_n 0, 1) := by decide +kernel
theorem dX5_measured_32 : decode cX5_measured 32 = .ok (.invokevirtual 153, 3) := by decide +kernel
theorem dX5_measured_35 : decode cX5_measured 35 = .ok (.invokevirtual 156, 3) := by decide +kernel
theorem dX5_measured_38 : decode cX5_measured 38 = .ok (.iload_n 1, 1) := by decide +kernel
theorem dX5_measured_39 : decode cX5_measured 39 = .ok (.iconst 4, 1) := by decide +kernel
theorem dX5_measured_40 : decode cX5_measured 40 = .ok (.if_icmp .ge 18, 3) := by decide +kernel
theorem dX5_measured_43 : decode cX5_measured 43 = .ok (.aload_n 0, 1) := by decide +kernel
theorem dX5_measured_44 : decode cX5_measured 44 = .ok (.aload_n 0, 1) := by decide +kernel
theorem dX5_measured_45 : decode cX5_measured 45 = .ok (.getfield 43, 3) := by decide +kernel
theorem dX5_measured_48 : decode cX5_measured 48 = .ok (.iconst 0, 1) := by decide +kernel
theorem dX5_measured_49 : decode cX5_measured 49 = .ok (.iload_n 1, 1) := by decide +kernel
theorem dX5_measured_50 : decode cX5_measured 50 = .ok (.invokevirtual 127, 3) := by decide +kernel
theorem dX5_measured_53 : decode cX5_measured 53 = .ok (.ldc2_w 222, 3) := by decide +kernel
theorem dX5_measured_56 : decode cX5_measured 56 = .ok (.ladd, 1) := by decide +kernel
theorem dX5_measured_57 : decode cX5_measured 57 = .ok (.lreturn, 1) := by decide +kernel
theorem dX5_measured_58 : decode cX5_measured 58 = .ok (.ldc2_w 222, 3) := by decide +kernel
theorem dX5_measured_61 : decode cX5_measured 61 = .ok (.iload_n 1, 1) := by decide +kernel
theorem dX5_measured_62 : decode cX5_measured 62 = .ok (.iconst 4, 1) := by decide +kernel
theorem dX5_measured_63 : decode cX5_measured 63 = .ok (.isub, 1) := by decide +kernel
theorem dX5_measured_64 : decode cX5_measured 64 = .ok (.aload_n 0, 1) := by decide +kernel
theorem dX5_measured_65 : decode cX5_measured 65 = .ok (.getfield 104, 3) := by decide +kernel
theorem dX5_measured_68 : decode cX5_measured 68 = .ok (.if_icmp .ge 18, 3) := by decide +kernel
theorem dX5_measured_71 : decode cX5_measured 71 = .ok (.aload_n 0, 1) := by decide +kernel
theorem dX5_measured_72 : decode cX5_measured 72 = .ok (.aload_n 0, 1) := by decide +kernel
theorem dX5_measured_73 : decode cX5_measured 73 = .ok (.getfield 43, 3) := by decide +kernel
theorem dX5_measured_76 : decode cX5_measured 76 = .ok (.iconst 0, 1) := by decide +kernel
theorem dX5_measured_77 : decode cX5_measured 77 = .ok (.iload_n 1, 1) := by decide +kernel
theorem dX5_measured_78 : decode cX5_measured 78 = .ok (.iconst 4, 1) := by decide +kernel
theorem dX5_measured_79 : decode cX5_measured 79 = .ok (.isub, 1) := by decide +kernel
theorem dX5_measured_80 : decode cX5_measured 80 = .ok (.invokevirtual 119, 3) := by decide +kernel
theorem dX5_measured_83 : decode cX5_measured 83 = .ok (.goto 4, 3) := by decide +kernel
theorem dX5_measured_86 : decode cX5_measured 86 = .ok (.lconst 0, 1) := by decide +kernel
theorem dX5_measured_87 : decode cX5_measured 87 = .ok (.ladd, 1) := by decide +kernel
theorem dX5_measured_88 : decode cX5_measured 88 = .ok (.lreturn, 1) := by decide +kernel
theorem dX5_madeWhole_0 : decode cX5_madeWhole 0 = .ok (.lload_n 0, 1) := by decide +kernel
theorem dX5_madeWhole_1 : decode cX5_madeWhole 1 = .ok (.lload_n 2, 1) := by decide +kernel
theorem dX5_madeWhole_2 : decode cX5_madeWhole 2 = .ok (.ldiv, 1) := by decide +kernel
theorem dX5_madeWhole_3 : decode cX5_madeWhole 3 = .ok (.lstore 5, 2) := by decide +kernel
theorem dX5_madeWhole_5 : decode cX5_madeWhole 5 = .ok (.lload_n 0, 1) := by decide +kernel
theorem dX5_madeWhole_6 : decode cX5_madeWhole 6 = .ok (.lload_n 2, 1) := by decide +kernel
theorem dX5_madeWhole_7 : decode cX5_madeWhole 7 = .ok (.lrem, 1) := by decide +kernel
theorem dX5_madeWhole_8 : decode cX5_madeWhole 8 = .ok (.lstore 7, 2) := by decide +kernel
theorem dX5_madeWhole_10 : decode cX5_madeWhole 10 = .ok (.lload 7, 2) := by decide +kernel
theorem dX5_madeWhole_12 : decode cX5_madeWhole 12 = .ok (.lconst 0, 1) := by decide +kernel
theorem dX5_madeWhole_13 : decode cX5_madeWhole 13 = .ok (.lcmp, 1) := by decide +kernel
theorem dX5_madeWhole_14 : decode cX5_madeWhole 14 = .ok (.ifCond .eq 8, 3) := by decide +kernel
theorem dX5_madeWhole_17 : decode cX5_madeWhole 17 = .ok (.iload 4, 2) := by decide +kernel
theorem dX5_madeWhole_19 : decode cX5_madeWhole 19 = .ok (.ifCond .ne 6, 3) := by decide +kernel
theorem dX5_madeWhole_22 : decode cX5_madeWhole 22 = .ok (.lload 5, 2) := by decide +kernel
theorem dX5_madeWhole_24 : decode cX5_madeWhole 24 = .ok (.lreturn, 1) := by decide +kernel
theorem dX5_madeWhole_25 : decode cX5_madeWhole 25 = .ok (.iload 4, 2) := by decide +kernel
theorem dX5_madeWhole_27 : decode cX5_madeWhole 27 = .ok (.iconst 1, 1) := by decide +kernel
theorem dX5_madeWhole_28 : decode cX5_madeWhole 28 = .ok (.if_icmp .eq 42, 3) := by decide +kernel
theorem dX5_madeWhole_31 : decode cX5_madeWhole 31 = .ok (.ldc2_w 133, 3) := by decide +kernel
theorem dX5_madeWhole_34 : decode cX5_madeWhole 34 = .ok (.lload 7, 2) := by decide +kernel
theorem dX5_madeWhole_36 : decode cX5_madeWhole 36 = .ok (.lmul, 1) := by decide +kernel
theorem dX5_madeWhole_37 : decode cX5_madeWhole 37 = .ok (.lload_n 2, 1) := by decide +kernel
theorem dX5_madeWhole_38 : decode cX5_madeWhole 38 = .ok (.lcmp, 1) := by decide +kernel
theorem dX5_madeWhole_39 : decode cX5_madeWhole 39 = .ok (.ifCond .gt 31, 3) := by decide +kernel
theorem dX5_madeWhole_42 : decode cX5_madeWhole 42 = .ok (.ldc2_w 133, 3) := by decide +kernel
theorem dX5_madeWhole_45 : decode cX5_madeWhole 45 = .ok (.lload 7, 2) := by decide +kernel
theorem dX5_madeWhole_47 : decode cX5_madeWhole 47 = .ok (.lmul, 1) := by decide +kernel
theorem dX5_madeWhole_48 : decode cX5_madeWhole 48 = .ok (.lload_n 2, 1) := by decide +kernel
theorem dX5_madeWhole_49 : decode cX5_madeWhole 49 = .ok (.lcmp, 1) := by decide +kernel
theorem dX5_madeWhole_50 : decode cX5_madeWhole 50 = .ok (.ifCond .ne 24, 3) := by decide +kernel
theorem dX5_madeWhole_53 : decode cX5_madeWhole 53 = .ok (.iload 4, 2) := by decide +kernel
theorem dX5_madeWhole_55 : decode cX5_madeWhole 55 = .ok (.iconst 2, 1) := by decide +kernel
theorem dX5_madeWhole_56 : decode cX5_madeWhole 56 = .ok (.if_icmp .eq 14, 3) := by decide +kernel
theorem dX5_madeWhole_59 : decode cX5_madeWhole 59 = .ok (.lload 5, 2) := by decide +kernel
theorem dX5_madeWhole_61 : decode cX5_madeWhole 61 = .ok (.ldc2_w 133, 3) := by decide +kernel
theorem dX5_madeWhole_64 : decode cX5_madeWhole 64 = .ok (.lrem, 1) := by decide +kernel
theorem dX5_madeWhole_65 : decode cX5_madeWhole 65 = .ok (.lconst 1, 1) := by decide +kernel
theorem dX5_madeWhole_66 : decode cX5_madeWhole 66 = .ok (.lcmp, 1) := by decide +kernel
theorem dX5_madeWhole_67 : decode cX5_madeWhole 67 = .ok (.ifCond .ne 7, 3) := by decide +kernel
theorem dX5_madeWhole_70 : decode cX5_madeWhole 70 = .ok (.iconst 1, 1) := by decide +kernel
theorem dX5_madeWhole_71 : decode cX5_madeWhole 71 = .ok (.goto 4, 3) := by decide +kernel
theorem dX5_madeWhole_74 : decode cX5_madeWhole 74 = .ok (.iconst 0, 1) := by decide +kernel
theorem dX5_madeWhole_75 : decode cX5_madeWhole 75 = .ok (.istore 9, 2) := by decide +kernel
theorem dX5_madeWhole_77 : decode cX5_madeWhole 77 = .ok (.iload 9, 2) := by decide +kernel
theorem dX5_madeWhole_79 : decode cX5_madeWhole 79 = .ok (.ifCond .eq 10, 3) := by decide +kernel
theorem dX5_madeWhole_82 : decode cX5_madeWhole 82 = .ok (.lload 5, 2) := by decide +kernel
theorem dX5_madeWhole_84 : decode cX5_madeWhole 84 = .ok (.lconst 1, 1) := by decide +kernel
theorem dX5_madeWhole_85 : decode cX5_madeWhole 85 = .ok (.ladd, 1) := by decide +kernel
theorem dX5_madeWhole_86 : decode cX5_madeWhole 86 = .ok (.goto 5, 3) := by decide +kernel
theorem dX5_madeWhole_89 : decode cX5_madeWhole 89 = .ok (.lload 5, 2) := by decide +kernel
theorem dX5_madeWhole_91 : decode cX5_madeWhole 91 = .ok (.lreturn, 1) := by decide +kernel
set_option maxRecDepth 20000 in
theorem ggX5_converted_X5_in : GoodIn wsX5_converted wsX5_in := goodIn_r _ [9] (by decide +kernel) (by decide +kernel)
set_option maxRecDepth 20000 in
theorem gX5_converted_X5_in : GoodIn wsX5_converted (va_wsS RX5 55 yX5_in wsX5_in) := goodIn_app (goodIn_of _ (by decide +kernel)) ggX5_converted_X5_in
set_option maxRecDepth 20000 in
theorem ggX5_converted_X5_reads : GoodIn wsX5_converted wsX5_reads := goodIn_r _ [13, 14, 15, 16, 3, 17, 18, 19, 20, 21, 8, 22, 23, 24, 25, 26, 27, 28, 29, 30, 31, 32, 33, 34, 35, 36, 37, 38, 6, 7, 9, 39, 40, 41, 42, 43, 44, 45, 46, 47, 48, 49, 50, 51, 52, 53, 54, 55, 56, 57, 62, 63, 64, 65, 66, 67, 68, 69, 70, 71, 72, 73, 74, 75, 76, 77, 78, 79, 80, 81, 82] (by decide +kernel) (by decide +kernel)
set_option maxRecDepth 20000 in
theorem gX5_converted_X5_reads : GoodIn wsX5_converted (wsV RX5 184 RX5 yX5_reads wsX5_reads) := goodIn_app (goodIn_of _ (by decide +kernel)) ggX5_converted_X5_reads
set_option maxRecDepth 20000 in
theorem ggX5_converted_X5_madeWhole : GoodIn wsX5_converted wsX5_madeWhole := goodIn_r _ [60, 61] (by decide +kernel) (by decide +kernel)
set_option maxRecDepth 20000 in
theorem gX5_converted_X5_madeWhole : GoodIn wsX5_converted (va_wsS RX5 232 yX5_madeWhole wsX5_madeWhole) := goodIn_app (goodIn_of _ (by decide +kernel)) ggX5_converted_X5_madeWhole
theorem dX5_converted_0 : decode cX5_converted 0 = .ok (.iload_n 1, 1) := by decide +kernel
theorem dX5_converted_1 : decode cX5_converted 1 = .ok (.iconst 0, 1) := by decide +kernel
theorem dX5_converted_2 : decode cX5_converted 2 = .ok (.ldc 229, 2) := by decide +kernel
theorem dX5_converted_4 : decode cX5_converted 4 = .ok (.invokestatic 55, 3) := by decide +kernel
theorem dX5_converted_7 : decode cX5_converted 7 = .ok (.ifCond .eq 12, 3) := by decide +kernel
theorem dX5_converted_10 : decode cX5_converted 10 = .ok (.iload_n 2, 1) := by decide +kernel
theorem dX5_converted_11 : decode cX5_converted 11 = .ok (.iconst 0, 1) := by decide +kernel
theorem dX5_converted_12 : decode cX5_converted 12 = .ok (.iconst 3, 1) := by decide +kernel
theorem dX5_converted_13 : decode cX5_converted 13 = .ok (.invokestatic 55, 3) := by decide +kernel
theorem dX5_converted_16 : decode cX5_converted 16 = .ok (.ifCond .ne 7, 3) := by decide +kernel
theorem dX5_converted_19 : decode cX5_converted 19 = .ok (.ldc2_w 224, 3) := by decide +kernel
theorem dX5_converted_22 : decode cX5_converted 22 = .ok (.lreturn, 1) := by decide +kernel
theorem dX5_converted_23 : decode cX5_converted 23 = .ok (.aload_n 0, 1) := by decide +kernel
theorem dX5_converted_24 : decode cX5_converted 24 = .ok (.iconst 0, 1) := by decide +kernel
theorem dX5_converted_25 : decode cX5_converted 25 = .ok (.invokevirtual 184, 3) := by decide +kernel
theorem dX5_converted_28 : decode cX5_converted 28 = .ok (.istore_n 3, 1) := by decide +kernel
theorem dX5_converted_29 : decode cX5_converted 29 = .ok (.iload_n 3, 1) := by decide +kernel
theorem dX5_converted_30 : decode cX5_converted 30 = .ok (.ifCond .eq 9, 3) := by decide +kernel
theorem dX5_converted_33 : decode cX5_converted 33 = .ok (.bipush (-10), 2) := by decide +kernel
theorem dX5_converted_35 : decode cX5_converted 35 = .ok (.iload_n 3, 1) := by decide +kernel
theorem dX5_converted_36 : decode cX5_converted 36 = .ok (.isub, 1) := by decide +kernel
theorem dX5_converted_37 : decode cX5_converted 37 = .ok (.i2l, 1) := by decide +kernel
theorem dX5_converted_38 : decode cX5_converted 38 = .ok (.lreturn, 1) := by decide +kernel
theorem dX5_converted_39 : decode cX5_converted 39 = .ok (.iload_n 1, 1) := by decide +kernel
theorem dX5_converted_40 : decode cX5_converted 40 = .ok (.i2l, 1) := by decide +kernel
theorem dX5_converted_41 : decode cX5_converted 41 = .ok (.lstore 4, 2) := by decide +kernel
theorem dX5_converted_43 : decode cX5_converted 43 = .ok (.lconst 1, 1) := by decide +kernel
theorem dX5_converted_44 : decode cX5_converted 44 = .ok (.lstore 6, 2) := by decide +kernel
theorem dX5_converted_46 : decode cX5_converted 46 = .ok (.iconst 0, 1) := by decide +kernel
theorem dX5_converted_47 : decode cX5_converted 47 = .ok (.istore 8, 2) := by decide +kernel
theorem dX5_converted_49 : decode cX5_converted 49 = .ok (.iload 8, 2) := by decide +kernel
theorem dX5_converted_51 : decode cX5_converted 51 = .ok (.bipush 10, 2) := by decide +kernel
theorem dX5_converted_53 : decode cX5_converted 53 = .ok (.if_icmp .ge 152, 3) := by decide +kernel
theorem dX5_converted_56 : decode cX5_converted 56 = .ok (.aload_n 0, 1) := by decide +kernel
theorem dX5_converted_57 : decode cX5_converted 57 = .ok (.getfield 43, 3) := by decide +kernel
theorem dX5_converted_60 : decode cX5_converted 60 = .ok (.iload 8, 2) := by decide +kernel
theorem dX5_converted_62 : decode cX5_converted 62 = .ok (.iaload, 1) := by decide +kernel
theorem dX5_converted_63 : decode cX5_converted 63 = .ok (.istore 9, 2) := by decide +kernel
theorem dX5_converted_65 : decode cX5_converted 65 = .ok (.iload 8, 2) := by decide +kernel
theorem dX5_converted_67 : decode cX5_converted 67 = .ok (.bipush 6, 2) := by decide +kernel
theorem dX5_converted_69 : decode cX5_converted 69 = .ok (.if_icmp .ge 11, 3) := by decide +kernel
theorem dX5_converted_72 : decode cX5_converted 72 = .ok (.iload 9, 2) := by decide +kernel
theorem dX5_converted_74 : decode cX5_converted 74 = .ok (.ifCond .eq 21, 3) := by decide +kernel
theorem dX5_converted_77 : decode cX5_converted 77 = .ok (.goto 14, 3) := by decide +kernel
theorem dX5_converted_80 : decode cX5_converted 80 = .ok (.iload 9, 2) := by decide +kernel
theorem dX5_converted_82 : decode cX5_converted 82 = .ok (.bipush (-3), 2) := by decide +kernel
theorem dX5_converted_84 : decode cX5_converted 84 = .ok (.iconst 3, 1) := by decide +kernel
theorem dX5_converted_85 : decode cX5_converted 85 = .ok (.invokestatic 55, 3) := by decide +kernel
theorem dX5_converted_88 : decode cX5_converted 88 = .ok (.ifCond .ne 7, 3) := by decide +kernel
theorem dX5_converted_91 : decode cX5_converted 91 = .ok (.ldc2_w 230, 3) := by decide +kernel
theorem dX5_converted_94 : decode cX5_converted 94 = .ok (.lreturn, 1) := by decide +kernel
theorem dX5_converted_95 : decode cX5_converted 95 = .ok (.iload 8, 2) := by decide +kernel
theorem dX5_converted_97 : decode cX5_converted 97 = .ok (.bipush 6, 2) := by decide +kernel
theorem dX5_converted_99 : decode cX5_converted 99 = .ok (.isub, 1) := by decide +kernel
theorem dX5_converted_100 : decode cX5_converted 100 = .ok (.istore 10, 2) := by decide +kernel
theorem dX5_converted_102 : decode cX5_converted 102 = .ok (.iconst 0, 1) := by decide +kernel
theorem dX5_converted_103 : decode cX5_converted 103 = .ok (.istore 11, 2) := by decide +kernel
theorem dX5_converted_105 : decode cX5_converted 105 = .ok (.iload 11, 2) := by decide +kernel
theorem dX5_converted_107 : decode cX5_converted 107 = .ok (.iload 9, 2) := by decide +kernel
theorem dX5_converted_109 : decode cX5_converted 109 = .ok (.if_icmp .ge 41, 3) := by decide +kernel
theorem dX5_converted_112 : decode cX5_converted 112 = .ok (.lload 4, 2) := by decide +kernel
theorem dX5_converted_114 : decode cX5_converted 114 = .ok (.aload_n 0, 1) := by decide +kernel
theorem dX5_converted_115 : decode cX5_converted 115 = .ok (.getfield 17, 3) := by decide +kernel
theorem dX5_converted_118 : decode cX5_converted 118 = .ok (.bipush 61, 2) := by decide +kernel
theorem dX5_converted_120 : decode cX5_converted 120 = .ok (.iload 10, 2) := by decide +kernel
theorem dX5_converted_122 : decode cX5_converted 122 = .ok (.iadd, 1) := by decide +kernel
theorem dX5_converted_123 : decode cX5_converted 123 = .ok (.iaload, 1) := by decide +kernel
theorem dX5_converted_124 : decode cX5_converted 124 = .ok (.i2l, 1) := by decide +kernel
theorem dX5_converted_125 : decode cX5_converted 125 = .ok (.lmul, 1) := by decide +kernel
theorem dX5_converted_126 : decode cX5_converted 126 = .ok (.lstore 4, 2) := by decide +kernel
theorem dX5_converted_128 : decode cX5_converted 128 = .ok (.lload 6, 2) := by decide +kernel
theorem dX5_converted_130 : decode cX5_converted 130 = .ok (.aload_n 0, 1) := by decide +kernel
theorem dX5_converted_131 : decode cX5_converted 131 = .ok (.getfield 17, 3) := by decide +kernel
theorem dX5_converted_134 : decode cX5_converted 134 = .ok (.bipush 65, 2) := by decide +kernel
theorem dX5_converted_136 : decode cX5_converted 136 = .ok (.iload 10, 2) := by decide +kernel
theorem dX5_converted_138 : decode cX5_converted 138 = .ok (.iadd, 1) := by decide +kernel
theorem dX5_converted_139 : decode cX5_converted 139 = .ok (.iaload, 1) := by decide +kernel
theorem dX5_converted_140 : decode cX5_converted 140 = .ok (.i2l, 1) := by decide +kernel
theorem dX5_converted_141 : decode cX5_converted 141 = .ok (.lmul, 1) := by decide +kernel
theorem dX5_converted_142 : decode cX5_converted 142 = .ok (.lstore 6, 2) := by decide +kernel
theorem dX5_converted_144 : decode cX5_converted 144 = .ok (.iinc 11 1, 3) := by decide +kernel
theorem dX5_converted_147 : decode cX5_converted 147 = .ok (.goto (-42), 3) := by decide +kernel
theorem dX5_converted_150 : decode cX5_converted 150 = .ok (.iconst 0, 1) := by decide +kernel
theorem dX5_converted_151 : decode cX5_converted 151 = .ok (.istore 11, 2) := by decide +kernel
theorem dX5_converted_153 : decode cX5_converted 153 = .ok (.iload 11, 2) := by decide +kernel
theorem dX5_converted_155 : decode cX5_converted 155 = .ok (.iload 9, 2) := by decide +kernel
theorem dX5_converted_157 : decode cX5_converted 157 = .ok (.ineg, 1) := by decide +kernel
theorem dX5_converted_158 : decode cX5_converted 158 = .ok (.if_icmp .ge 41, 3) := by decide +kernel
theorem dX5_converted_161 : decode cX5_converted 161 = .ok (.lload 4, 2) := by decide +kernel
theorem dX5_converted_163 : decode cX5_converted 163 = .ok (.aload_n 0, 1) := by decide +kernel
theorem dX5_converted_164 : decode cX5_converted 164 = .ok (.getfield 17, 3) := by decide +kernel
theorem dX5_converted_167 : decode cX5_converted 167 = .ok (.bipush 65, 2) := by decide +kernel
theorem dX5_converted_169 : decode cX5_converted 169 = .ok (.iload 10, 2) := by decide +kernel
theorem dX5_converted_171 : decode cX5_converted 171 = .ok (.iadd, 1) := by decide +kernel
theorem dX5_converted_172 : decode cX5_converted 172 = .ok (.iaload, 1) := by decide +kernel
theorem dX5_converted_173 : decode cX5_converted 173 = .ok (.i2l, 1) := by decide +kernel
theorem dX5_converted_174 : decode cX5_converted 174 = .ok (.lmul, 1) := by decide +kernel
theorem dX5_converted_175 : decode cX5_converted 175 = .ok (.lstore 4, 2) := by decide +kernel
theorem dX5_converted_177 : decode cX5_converted 177 = .ok (.lload 6, 2) := by decide +kernel
theorem dX5_converted_179 : decode cX5_converted 179 = .ok (.aload_n 0, 1) := by decide +kernel
theorem dX5_converted_180 : decode cX5_converted 180 = .ok (.getfield 17, 3) := by decide +kernel
theorem dX5_converted_183 : decode cX5_converted 183 = .ok (.bipush 61, 2) := by decide +kernel
theorem dX5_converted_185 : decode cX5_converted 185 = .ok (.iload 10, 2) := by decide +kernel
theorem dX5_converted_187 : decode cX5_converted 187 = .ok (.iadd, 1) := by decide +kernel
theorem dX5_converted_188 : decode cX5_converted 188 = .ok (.iaload, 1) := by decide +kernel
theorem dX5_converted_189 : decode cX5_converted 189 = .ok (.i2l, 1) := by decide +kernel
theorem dX5_converted_190 : decode cX5_converted 190 = .ok (.lmul, 1) := by decide +kernel
theorem dX5_converted_191 : decode cX5_converted 191 = .ok (.lstore 6, 2) := by decide +kernel
theorem dX5_converted_193 : decode cX5_converted 193 = .ok (.iinc 11 1, 3) := by decide +kernel
theorem dX5_converted_196 : decode cX5_converted 196 = .ok (.goto (-43), 3) := by decide +kernel
theorem dX5_converted_199 : decode cX5_converted 199 = .ok (.iinc 8 1, 3) := by decide +kernel
theorem dX5_converted_202 : decode cX5_converted 202 = .ok (.goto (-153), 3) := by decide +kernel
theorem dX5_converted_205 : decode cX5_converted 205 = .ok (.lload 4, 2) := by decide +kernel
theorem dX5_converted_207 : decode cX5_converted 207 = .ok (.lload 6, 2) := by decide +kernel
theorem dX5_converted_209 : decode cX5_converted 209 = .ok (.iload_n 2, 1) := by decide +kernel
theorem dX5_converted_210 : decode cX5_converted 210 = .ok (.invokestatic 232, 3) := by decide +kernel
theorem dX5_converted_213 : decode cX5_converted 213 = .ok (.lreturn, 1) := by decide +kernel
theorem dX5_seed_0 : decode cX5_seed 0 = .ok (.iload_n 1, 1) := by decide +kernel
theorem dX5_seed_1 : decode cX5_seed 1 = .ok (.ifCond .ge 6, 3) := by decide +kernel
theorem dX5_seed_4 : decode cX5_seed 4 = .ok (.ldc 59, 2) := by decide +kernel
theorem dX5_seed_6 : decode cX5_seed 6 = .ok (.ireturn, 1) := by decide +kernel
theorem dX5_seed_7 : decode cX5_seed 7 = .ok (.aload_n 0, 1) := by decide +kernel
theorem dX5_seed_8 : decode cX5_seed 8 = .ok (.getfield 202, 3) := by decide +kernel
theorem dX5_seed_11 : decode cX5_seed 11 = .ok (.l2i, 1) := by decide +kernel
theorem dX5_seed_12 : decode cX5_seed 12 = .ok (.istore_n 2, 1) := by decide +kernel
theorem dX5_seed_13 : decode cX5_seed 13 = .ok (.aload_n 0, 1) := by decide +kernel
theorem dX5_seed_14 : decode cX5_seed 14 = .ok (.iload_n 1, 1) := by decide +kernel
theorem dX5_seed_15 : decode cX5_seed 15 = .ok (.i2l, 1) := by decide +kernel
theorem dX5_seed_16 : decode cX5_seed 16 = .ok (.putfield 202, 3) := by decide +kernel
theorem dX5_seed_19 : decode cX5_seed 19 = .ok (.iload_n 2, 1) := by decide +kernel
theorem dX5_seed_20 : decode cX5_seed 20 = .ok (.ireturn, 1) := by decide +kernel
set_option maxRecDepth 20000 in
theorem ggX5_keep_X5_in : GoodIn wsX5_keep wsX5_in := goodIn_r _ [11] (by decide +kernel) (by decide +kernel)
set_option maxRecDepth 20000 in
theorem gX5_keep_X5_in : GoodIn wsX5_keep (va_wsS RX5 55 yX5_in wsX5_in) := goodIn_app (goodIn_of _ (by decide +kernel)) ggX5_keep_X5_in
set_option maxRecDepth 20000 in
theorem ggX5_keep_X5_bring : GoodIn wsX5_keep wsX5_bring := goodIn_r _ [14] (by decide +kernel) (by decide +kernel)
set_option maxRecDepth 20000 in
theorem gX5_keep_X5_bring : GoodIn wsX5_keep (va_wsS RX5 90 yX5_bring wsX5_bring) := goodIn_app (goodIn_of _ (by decide +kernel)) ggX5_keep_X5_bring
theorem dX5_keep_0 : decode cX5_keep 0 = .ok (.iload_n 1, 1) := by decide +kernel
theorem dX5_keep_1 : decode cX5_keep 1 = .ok (.iconst 0, 1) := by decide +kernel
theorem dX5_keep_2 : decode cX5_keep 2 = .ok (.iconst 1, 1) := by decide +kernel
theorem dX5_keep_3 : decode cX5_keep 3 = .ok (.invokestatic 55, 3) := by decide +kernel
theorem dX5_keep_6 : decode cX5_keep 6 = .ok (.ifCond .ne 6, 3) := by decide +kernel
theorem dX5_keep_9 : decode cX5_keep 9 = .ok (.ldc 198, 2) := by decide +kernel
theorem dX5_keep_11 : decode cX5_keep 11 = .ok (.ireturn, 1) := by decide +kernel
theorem dX5_keep_12 : decode cX5_keep 12 = .ok (.aload_n 0, 1) := by decide +kernel
theorem dX5_keep_13 : decode cX5_keep 13 = .ok (.getfield 17, 3) := by decide +kernel
theorem dX5_keep_16 : decode cX5_keep 16 = .ok (.iconst 0, 1) := by decide +kernel
theorem dX5_keep_17 : decode cX5_keep 17 = .ok (.aload_n 0, 1) := by decide +kernel
theorem dX5_keep_18 : decode cX5_keep 18 = .ok (.getfield 23, 3) := by decide +kernel
theorem dX5_keep_21 : decode cX5_keep 21 = .ok (.bipush 69, 2) := by decide +kernel
theorem dX5_keep_23 : decode cX5_keep 23 = .ok (.iload_n 1, 1) := by decide +kernel
theorem dX5_keep_24 : decode cX5_keep 24 = .ok (.imul, 1) := by decide +kernel
theorem dX5_keep_25 : decode cX5_keep 25 = .ok (.bipush 69, 2) := by decide +kernel
theorem dX5_keep_27 : decode cX5_keep 27 = .ok (.invokestatic 90, 3) := by decide +kernel
theorem dX5_keep_30 : decode cX5_keep 30 = .ok (.aload_n 0, 1) := by decide +kernel
theorem dX5_keep_31 : decode cX5_keep 31 = .ok (.getfield 26, 3) := by decide +kernel
theorem dX5_keep_34 : decode cX5_keep 34 = .ok (.iload_n 1, 1) := by decide +kernel
theorem dX5_keep_35 : decode cX5_keep 35 = .ok (.aload_n 0, 1) := by decide +kernel
theorem dX5_keep_36 : decode cX5_keep 36 = .ok (.getfield 202, 3) := by decide +kernel
theorem dX5_keep_39 : decode cX5_keep 39 = .ok (.lastore, 1) := by decide +kernel
theorem dX5_keep_40 : decode cX5_keep 40 = .ok (.aload_n 0, 1) := by decide +kernel
theorem dX5_keep_41 : decode cX5_keep 41 = .ok (.getfield 30, 3) := by decide +kernel
theorem dX5_keep_44 : decode cX5_keep 44 = .ok (.iload_n 1, 1) := by decide +kernel
theorem dX5_keep_45 : decode cX5_keep 45 = .ok (.iconst 1, 1) := by decide +kernel
theorem dX5_keep_46 : decode cX5_keep 46 = .ok (.bastore, 1) := by decide +kernel
theorem dX5_keep_47 : decode cX5_keep 47 = .ok (.aload_n 0, 1) := by decide +kernel
theorem dX5_keep_48 : decode cX5_keep 48 = .ok (.iconst 0, 1) := by decide +kernel
theorem dX5_keep_49 : decode cX5_keep 49 = .ok (.putfield 181, 3) := by decide +kernel
theorem dX5_keep_52 : decode cX5_keep 52 = .ok (.iconst 1, 1) := by decide +kernel
theorem dX5_keep_53 : decode cX5_keep 53 = .ok (.ireturn, 1) := by decide +kernel
set_option maxRecDepth 20000 in
theorem ggX5_goBack_X5_in : GoodIn wsX5_goBack wsX5_in := goodIn_r _ [12] (by decide +kernel) (by decide +kernel)
set_option maxRecDepth 20000 in
theorem gX5_goBack_X5_in : GoodIn wsX5_goBack (va_wsS RX5 55 yX5_in wsX5_in) := goodIn_app (goodIn_of _ (by decide +kernel)) ggX5_goBack_X5_in
set_option maxRecDepth 20000 in
theorem ggX5_goBack_X5_bring : GoodIn wsX5_goBack wsX5_bring := goodIn_r _ [15] (by decide +kernel) (by decide +kernel)
set_option maxRecDepth 20000 in
theorem gX5_goBack_X5_bring : GoodIn wsX5_goBack (va_wsS RX5 90 yX5_bring wsX5_bring) := goodIn_app (goodIn_of _ (by decide +kernel)) ggX5_goBack_X5_bring
theorem dX5_goBack_0 : decode cX5_goBack 0 = .ok (.iload_n 1, 1) := by decide +kernel
theorem dX5_goBack_1 : decode cX5_goBack 1 = .ok (.iconst 0, 1) := by decide +kernel
theorem dX5_goBack_2 : decode cX5_goBack 2 = .ok (.iconst 1, 1) := by decide +kernel
theorem dX5_goBack_3 : decode cX5_goBack 3 = .ok (.invokestatic 55, 3) := by decide +kernel
theorem dX5_goBack_6 : decode cX5_goBack 6 = .ok (.ifCond .ne 6, 3) := by decide +kernel
theorem dX5_goBack_9 : decode cX5_goBack 9 = .ok (.ldc 198, 2) := by decide +kernel
theorem dX5_goBack_11 : decode cX5_goBack 11 = .ok (.ireturn, 1) := by decide +kernel
theorem dX5_goBack_12 : decode cX5_goBack 12 = .ok (.aload_n 0, 1) := by decide +kernel
theorem dX5_goBack_13 : decode cX5_goBack 13 = .ok (.getfield 30, 3) := by decide +kernel
theorem dX5_goBack_16 : decode cX5_goBack 16 = .ok (.iload_n 1, 1) := by decide +kernel
theorem dX5_goBack_17 : decode cX5_goBack 17 = .ok (.baload, 1) := by decide +kernel
theorem dX5_goBack_18 : decode cX5_goBack 18 = .ok (.ifCond .ne 6, 3) := by decide +kernel
theorem dX5_goBack_21 : decode cX5_goBack 21 = .ok (.ldc 191, 2) := by decide +kernel
theorem dX5_goBack_23 : decode cX5_goBack 23 = .ok (.ireturn, 1) := by decide +kernel
theorem dX5_goBack_24 : decode cX5_goBack 24 = .ok (.aload_n 0, 1) := by decide +kernel
theorem dX5_goBack_25 : decode cX5_goBack 25 = .ok (.getfield 23, 3) := by decide +kernel
theorem dX5_goBack_28 : decode cX5_goBack 28 = .ok (.bipush 69, 2) := by decide +kernel
theorem dX5_goBack_30 : decode cX5_goBack 30 = .ok (.iload_n 1, 1) := by decide +kernel
theorem dX5_goBack_31 : decode cX5_goBack 31 = .ok (.imul, 1) := by decide +kernel
theorem dX5_goBack_32 : decode cX5_goBack 32 = .ok (.aload_n 0, 1) := by decide +kernel
theorem dX5_goBack_33 : decode cX5_goBack 33 = .ok (.getfield 17, 3) := by decide +kernel
theorem dX5_goBack_36 : decode cX5_goBack 36 = .ok (.iconst 0, 1) := by decide +kernel
theorem dX5_goBack_37 : decode cX5_goBack 37 = .ok (.bipush 69, 2) := by decide +kernel
theorem dX5_goBack_39 : decode cX5_goBack 39 = .ok (.invokestatic 90, 3) := by decide +kernel
theorem dX5_goBack_42 : decode cX5_goBack 42 = .ok (.aload_n 0, 1) := by decide +kernel
theorem dX5_goBack_43 : decode cX5_goBack 43 = .ok (.aload_n 0, 1) := by decide +kernel
theorem dX5_goBack_44 : decode cX5_goBack 44 = .ok (.getfield 26, 3) := by decide +kernel
theorem dX5_goBack_47 : decode cX5_goBack 47 = .ok (.iload_n 1, 1) := by decide +kernel
theorem dX5_goBack_48 : decode cX5_goBack 48 = .ok (.laload, 1) := by decide +kernel
theorem dX5_goBack_49 : decode cX5_goBack 49 = .ok (.putfield 202, 3) := by decide +kernel
theorem dX5_goBack_52 : decode cX5_goBack 52 = .ok (.aload_n 0, 1) := by decide +kernel
theorem dX5_goBack_53 : decode cX5_goBack 53 = .ok (.iconst 0, 1) := by decide +kernel
theorem dX5_goBack_54 : decode cX5_goBack 54 = .ok (.putfield 181, 3) := by decide +kernel
theorem dX5_goBack_57 : decode cX5_goBack 57 = .ok (.iconst 1, 1) := by decide +kernel
theorem dX5_goBack_58 : decode cX5_goBack 58 = .ok (.ireturn, 1) := by decide +kernel
theorem dJ6_bitCount_0f7a4_0 : decode cJ6_bitCount_0f7a4 0 = .ok (.iload_n 0, 1) := by decide +kernel
theorem dJ6_bitCount_0f7a4_1 : decode cJ6_bitCount_0f7a4 1 = .ok (.iload_n 0, 1) := by decide +kernel
theorem dJ6_bitCount_0f7a4_2 : decode cJ6_bitCount_0f7a4 2 = .ok (.iconst 1, 1) := by decide +kernel
theorem dJ6_bitCount_0f7a4_3 : decode cJ6_bitCount_0f7a4 3 = .ok (.iushr, 1) := by decide +kernel
theorem dJ6_bitCount_0f7a4_4 : decode cJ6_bitCount_0f7a4 4 = .ok (.ldc_w 265, 3) := by decide +kernel
theorem dJ6_bitCount_0f7a4_7 : decode cJ6_bitCount_0f7a4 7 = .ok (.iand, 1) := by decide +kernel
theorem dJ6_bitCount_0f7a4_8 : decode cJ6_bitCount_0f7a4 8 = .ok (.isub, 1) := by decide +kernel
theorem dJ6_bitCount_0f7a4_9 : decode cJ6_bitCount_0f7a4 9 = .ok (.istore_n 0, 1) := by decide +kernel
theorem dJ6_bitCount_0f7a4_10 : decode cJ6_bitCount_0f7a4 10 = .ok (.iload_n 0, 1) := by decide +kernel
theorem dJ6_bitCount_0f7a4_11 : decode cJ6_bitCount_0f7a4 11 = .ok (.ldc_w 266, 3) := by decide +kernel
theorem dJ6_bitCount_0f7a4_14 : decode cJ6_bitCount_0f7a4 14 = .ok (.iand, 1) := by decide +kernel
theorem dJ6_bitCount_0f7a4_15 : decode cJ6_bitCount_0f7a4 15 = .ok (.iload_n 0, 1) := by decide +kernel
theorem dJ6_bitCount_0f7a4_16 : decode cJ6_bitCount_0f7a4 16 = .ok (.iconst 2, 1) := by decide +kernel
theorem dJ6_bitCount_0f7a4_17 : decode cJ6_bitCount_0f7a4 17 = .ok (.iushr, 1) := by decide +kernel
theorem dJ6_bitCount_0f7a4_18 : decode cJ6_bitCount_0f7a4 18 = .ok (.ldc_w 266, 3) := by decide +kernel
theorem dJ6_bitCount_0f7a4_21 : decode cJ6_bitCount_0f7a4 21 = .ok (.iand, 1) := by decide +kernel
theorem dJ6_bitCount_0f7a4_22 : decode cJ6_bitCount_0f7a4 22 = .ok (.iadd, 1) := by decide +kernel
theorem dJ6_bitCount_0f7a4_23 : decode cJ6_bitCount_0f7a4 23 = .ok (.istore_n 0, 1) := by decide +kernel
theorem dJ6_bitCount_0f7a4_24 : decode cJ6_bitCount_0f7a4 24 = .ok (.iload_n 0, 1) := by decide +kernel
theorem dJ6_bitCount_0f7a4_25 : decode cJ6_bitCount_0f7a4 25 = .ok (.iload_n 0, 1) := by decide +kernel
theorem dJ6_bitCount_0f7a4_26 : decode cJ6_bitCount_0f7a4 26 = .ok (.iconst 4, 1) := by decide +kernel
theorem dJ6_bitCount_0f7a4_27 : decode cJ6_bitCount_0f7a4 27 = .ok (.iushr, 1) := by decide +kernel
theorem dJ6_bitCount_0f7a4_28 : decode cJ6_bitCount_0f7a4 28 = .ok (.iadd, 1) := by decide +kernel
theorem dJ6_bitCount_0f7a4_29 : decode cJ6_bitCount_0f7a4 29 = .ok (.ldc_w 267, 3) := by decide +kernel
theorem dJ6_bitCount_0f7a4_32 : decode cJ6_bitCount_0f7a4 32 = .ok (.iand, 1) := by decide +kernel
theorem dJ6_bitCount_0f7a4_33 : decode cJ6_bitCount_0f7a4 33 = .ok (.istore_n 0, 1) := by decide +kernel
theorem dJ6_bitCount_0f7a4_34 : decode cJ6_bitCount_0f7a4 34 = .ok (.iload_n 0, 1) := by decide +kernel
theorem dJ6_bitCount_0f7a4_35 : decode cJ6_bitCount_0f7a4 35 = .ok (.iload_n 0, 1) := by decide +kernel
theorem dJ6_bitCount_0f7a4_36 : decode cJ6_bitCount_0f7a4 36 = .ok (.bipush 8, 2) := by decide +kernel
theorem dJ6_bitCount_0f7a4_38 : decode cJ6_bitCount_0f7a4 38 = .ok (.iushr, 1) := by decide +kernel
theorem dJ6_bitCount_0f7a4_39 : decode cJ6_bitCount_0f7a4 39 = .ok (.iadd, 1) := by decide +kernel
theorem dJ6_bitCount_0f7a4_40 : decode cJ6_bitCount_0f7a4 40 = .ok (.istore_n 0, 1) := by decide +kernel
theorem dJ6_bitCount_0f7a4_41 : decode cJ6_bitCount_0f7a4 41 = .ok (.iload_n 0, 1) := by decide +kernel
theorem dJ6_bitCount_0f7a4_42 : decode cJ6_bitCount_0f7a4 42 = .ok (.iload_n 0, 1) := by decide +kernel
theorem dJ6_bitCount_0f7a4_43 : decode cJ6_bitCount_0f7a4 43 = .ok (.bipush 16, 2) := by decide +kernel
theorem dJ6_bitCount_0f7a4_45 : decode cJ6_bitCount_0f7a4 45 = .ok (.iushr, 1) := by decide +kernel
theorem dJ6_bitCount_0f7a4_46 : decode cJ6_bitCount_0f7a4 46 = .ok (.iadd, 1) := by decide +kernel
theorem dJ6_bitCount_0f7a4_47 : decode cJ6_bitCount_0f7a4 47 = .ok (.istore_n 0, 1) := by decide +kernel
theorem dJ6_bitCount_0f7a4_48 : decode cJ6_bitCount_0f7a4 48 = .ok (.iload_n 0, 1) := by decide +kernel
theorem dJ6_bitCount_0f7a4_49 : decode cJ6_bitCount_0f7a4 49 = .ok (.bipush 63, 2) := by decide +kernel
theorem dJ6_bitCount_0f7a4_51 : decode cJ6_bitCount_0f7a4 51 = .ok (.iand, 1) := by decide +kernel
theorem dJ6_bitCount_0f7a4_52 : decode cJ6_bitCount_0f7a4 52 = .ok (.ireturn, 1) := by decide +kernel
theorem dJ9_floorDiv_f86c9_0 : decode cJ9_floorDiv_f86c9 0 = .ok (.lload_n 0, 1) := by decide +kernel
theorem dJ9_floorDiv_f86c9_1 : decode cJ9_floorDiv_f86c9 1 = .ok (.lload_n 2, 1) := by decide +kernel
theorem dJ9_floorDiv_f86c9_2 : decode cJ9_floorDiv_f86c9 2 = .ok (.ldiv, 1) := by decide +kernel
theorem dJ9_floorDiv_f86c9_3 : decode cJ9_floorDiv_f86c9 3 = .ok (.lstore 4, 2) := by decide +kernel
theorem dJ9_floorDiv_f86c9_5 : decode cJ9_floorDiv_f86c9 5 = .ok (.lload_n 0, 1) := by decide +kernel
theorem dJ9_floorDiv_f86c9_6 : decode cJ9_floorDiv_f86c9 6 = .ok (.lload_n 2, 1) := by decide +kernel
theorem dJ9_floorDiv_f86c9_7 : decode cJ9_floorDiv_f86c9 7 = .ok (.lxor, 1) := by decide +kernel
theorem dJ9_floorDiv_f86c9_8 : decode cJ9_floorDiv_f86c9 8 = .ok (.lconst 0, 1) := by decide +kernel
theorem dJ9_floorDiv_f86c9_9 : decode cJ9_floorDiv_f86c9 9 = .ok (.lcmp, 1) := by decide +kernel
theorem dJ9_floorDiv_f86c9_10 : decode cJ9_floorDiv_f86c9 10 = .ok (.ifCond .ge 17, 3) := by decide +kernel
theorem dJ9_floorDiv_f86c9_13 : decode cJ9_floorDiv_f86c9 13 = .ok (.lload 4, 2) := by decide +kernel
theorem dJ9_floorDiv_f86c9_15 : decode cJ9_floorDiv_f86c9 15 = .ok (.lload_n 2, 1) := by decide +kernel
theorem dJ9_floorDiv_f86c9_16 : decode cJ9_floorDiv_f86c9 16 = .ok (.lmul, 1) := by decide +kernel
theorem dJ9_floorDiv_f86c9_17 : decode cJ9_floorDiv_f86c9 17 = .ok (.lload_n 0, 1) := by decide +kernel
theorem dJ9_floorDiv_f86c9_18 : decode cJ9_floorDiv_f86c9 18 = .ok (.lcmp, 1) := by decide +kernel
theorem dJ9_floorDiv_f86c9_19 : decode cJ9_floorDiv_f86c9 19 = .ok (.ifCond .eq 8, 3) := by decide +kernel
theorem dJ9_floorDiv_f86c9_22 : decode cJ9_floorDiv_f86c9 22 = .ok (.lload 4, 2) := by decide +kernel
theorem dJ9_floorDiv_f86c9_24 : decode cJ9_floorDiv_f86c9 24 = .ok (.lconst 1, 1) := by decide +kernel
theorem dJ9_floorDiv_f86c9_25 : decode cJ9_floorDiv_f86c9 25 = .ok (.lsub, 1) := by decide +kernel
theorem dJ9_floorDiv_f86c9_26 : decode cJ9_floorDiv_f86c9 26 = .ok (.lreturn, 1) := by decide +kernel
theorem dJ9_floorDiv_f86c9_27 : decode cJ9_floorDiv_f86c9 27 = .ok (.lload 4, 2) := by decide +kernel
theorem dJ9_floorDiv_f86c9_29 : decode cJ9_floorDiv_f86c9 29 = .ok (.lreturn, 1) := by decide +kernel
theorem dJ9_floorMod_7cf53_0 : decode cJ9_floorMod_7cf53 0 = .ok (.iload_n 0, 1) := by decide +kernel
theorem dJ9_floorMod_7cf53_1 : decode cJ9_floorMod_7cf53 1 = .ok (.iload_n 1, 1) := by decide +kernel
theorem dJ9_floorMod_7cf53_2 : decode cJ9_floorMod_7cf53 2 = .ok (.irem, 1) := by decide +kernel
theorem dJ9_floorMod_7cf53_3 : decode cJ9_floorMod_7cf53 3 = .ok (.istore_n 2, 1) := by decide +kernel
theorem dJ9_floorMod_7cf53_4 : decode cJ9_floorMod_7cf53 4 = .ok (.iload_n 0, 1) := by decide +kernel
theorem dJ9_floorMod_7cf53_5 : decode cJ9_floorMod_7cf53 5 = .ok (.iload_n 1, 1) := by decide +kernel
theorem dJ9_floorMod_7cf53_6 : decode cJ9_floorMod_7cf53 6 = .ok (.ixor, 1) := by decide +kernel
theorem dJ9_floorMod_7cf53_7 : decode cJ9_floorMod_7cf53 7 = .ok (.ifCond .ge 11, 3) := by decide +kernel
theorem dJ9_floorMod_7cf53_10 : decode cJ9_floorMod_7cf53 10 = .ok (.iload_n 2, 1) := by decide +kernel
theorem dJ9_floorMod_7cf53_11 : decode cJ9_floorMod_7cf53 11 = .ok (.ifCond .eq 7, 3) := by decide +kernel
theorem dJ9_floorMod_7cf53_14 : decode cJ9_floorMod_7cf53 14 = .ok (.iload_n 2, 1) := by decide +kernel
theorem dJ9_floorMod_7cf53_15 : decode cJ9_floorMod_7cf53 15 = .ok (.iload_n 1, 1) := by decide +kernel
theorem dJ9_floorMod_7cf53_16 : decode cJ9_floorMod_7cf53 16 = .ok (.iadd, 1) := by decide +kernel
theorem dJ9_floorMod_7cf53_17 : decode cJ9_floorMod_7cf53 17 = .ok (.ireturn, 1) := by decide +kernel
theorem dJ9_floorMod_7cf53_18 : decode cJ9_floorMod_7cf53 18 = .ok (.iload_n 2, 1) := by decide +kernel
theorem dJ9_floorMod_7cf53_19 : decode cJ9_floorMod_7cf53 19 = .ok (.ireturn, 1) := by decide +kernel
theorem dJ9_abs_0f7a4_0 : decode cJ9_abs_0f7a4 0 = .ok (.iload_n 0, 1) := by decide +kernel
theorem dJ9_abs_0f7a4_1 : decode cJ9_abs_0f7a4 1 = .ok (.ifCond .ge 8, 3) := by decide +kernel
theorem dJ9_abs_0f7a4_4 : decode cJ9_abs_0f7a4 4 = .ok (.iload_n 0, 1) := by decide +kernel
theorem dJ9_abs_0f7a4_5 : decode cJ9_abs_0f7a4 5 = .ok (.ineg, 1) := by decide +kernel
theorem dJ9_abs_0f7a4_6 : decode cJ9_abs_0f7a4 6 = .ok (.goto 4, 3) := by decide +kernel
theorem dJ9_abs_0f7a4_9 : decode cJ9_abs_0f7a4 9 = .ok (.iload_n 0, 1) := by decide +kernel
theorem dJ9_abs_0f7a4_10 : decode cJ9_abs_0f7a4 10 = .ok (.ireturn, 1) := by decide +kernel
theorem dJ9_abs_067f4_0 : decode cJ9_abs_067f4 0 = .ok (.lload_n 0, 1) := by decide +kernel
theorem dJ9_abs_067f4_1 : decode cJ9_abs_067f4 1 = .ok (.lconst 0, 1) := by decide +kernel
theorem dJ9_abs_067f4_2 : decode cJ9_abs_067f4 2 = .ok (.lcmp, 1) := by decide +kernel
theorem dJ9_abs_067f4_3 : decode cJ9_abs_067f4 3 = .ok (.ifCond .ge 8, 3) := by decide +kernel
theorem dJ9_abs_067f4_6 : decode cJ9_abs_067f4 6 = .ok (.lload_n 0, 1) := by decide +kernel
theorem dJ9_abs_067f4_7 : decode cJ9_abs_067f4 7 = .ok (.lneg, 1) := by decide +kernel
theorem dJ9_abs_067f4_8 : decode cJ9_abs_067f4 8 = .ok (.goto 4, 3) := by decide +kernel
theorem dJ9_abs_067f4_11 : decode cJ9_abs_067f4 11 = .ok (.lload_n 0, 1) := by decide +kernel
theorem dJ9_abs_067f4_12 : decode cJ9_abs_067f4 12 = .ok (.lreturn, 1) := by decide +kernel
theorem dJ7_fill_d0a16_0 : decode cJ7_fill_d0a16 0 = .ok (.iconst 0, 1) := by decide +kernel
theorem dJ7_fill_d0a16_1 : decode cJ7_fill_d0a16 1 = .ok (.istore_n 3, 1) := by decide +kernel
theorem dJ7_fill_d0a16_2 : decode cJ7_fill_d0a16 2 = .ok (.aload_n 0, 1) := by decide +kernel
theorem dJ7_fill_d0a16_3 : decode cJ7_fill_d0a16 3 = .ok (.arraylength, 1) := by decide +kernel
theorem dJ7_fill_d0a16_4 : decode cJ7_fill_d0a16 4 = .ok (.istore 4, 2) := by decide +kernel
theorem dJ7_fill_d0a16_6 : decode cJ7_fill_d0a16 6 = .ok (.iload_n 3, 1) := by decide +kernel
theorem dJ7_fill_d0a16_7 : decode cJ7_fill_d0a16 7 = .ok (.iload 4, 2) := by decide +kernel
theorem dJ7_fill_d0a16_9 : decode cJ7_fill_d0a16 9 = .ok (.if_icmp .ge 13, 3) := by decide +kernel
theorem dJ7_fill_d0a16_12 : decode cJ7_fill_d0a16 12 = .ok (.aload_n 0, 1) := by decide +kernel
theorem dJ7_fill_d0a16_13 : decode cJ7_fill_d0a16 13 = .ok (.iload_n 3, 1) := by decide +kernel
theorem dJ7_fill_d0a16_14 : decode cJ7_fill_d0a16 14 = .ok (.lload_n 1, 1) := by decide +kernel
theorem dJ7_fill_d0a16_15 : decode cJ7_fill_d0a16 15 = .ok (.lastore, 1) := by decide +kernel
theorem dJ7_fill_d0a16_16 : decode cJ7_fill_d0a16 16 = .ok (.iinc 3 1, 3) := by decide +kernel
theorem dJ7_fill_d0a16_19 : decode cJ7_fill_d0a16 19 = .ok (.goto (-13), 3) := by decide +kernel
theorem dJ7_fill_d0a16_22 : decode cJ7_fill_d0a16 22 = .ok (.return_, 1) := by decide +kernel
theorem dJ7_fill_53178_0 : decode cJ7_fill_53178 0 = .ok (.iconst 0, 1) := by decide +kernel
theorem dJ7_fill_53178_1 : decode cJ7_fill_53178 1 = .ok (.istore_n 2, 1) := by decide +kernel
theorem dJ7_fill_53178_2 : decode cJ7_fill_53178 2 = .ok (.aload_n 0, 1) := by decide +kernel
theorem dJ7_fill_53178_3 : decode cJ7_fill_53178 3 = .ok (.arraylength, 1) := by decide +kernel
theorem dJ7_fill_53178_4 : decode cJ7_fill_53178 4 = .ok (.istore_n 3, 1) := by decide +kernel
theorem dJ7_fill_53178_5 : decode cJ7_fill_53178 5 = .ok (.iload_n 2, 1) := by decide +kernel
theorem dJ7_fill_53178_6 : decode cJ7_fill_53178 6 = .ok (.iload_n 3, 1) := by decide +kernel
theorem dJ7_fill_53178_7 : decode cJ7_fill_53178 7 = .ok (.if_icmp .ge 13, 3) := by decide +kernel
theorem dJ7_fill_53178_10 : decode cJ7_fill_53178 10 = .ok (.aload_n 0, 1) := by decide +kernel
theorem dJ7_fill_53178_11 : decode cJ7_fill_53178 11 = .ok (.iload_n 2, 1) := by decide +kernel
theorem dJ7_fill_53178_12 : decode cJ7_fill_53178 12 = .ok (.iload_n 1, 1) := by decide +kernel
theorem dJ7_fill_53178_13 : decode cJ7_fill_53178 13 = .ok (.iastore, 1) := by decide +kernel
theorem dJ7_fill_53178_14 : decode cJ7_fill_53178 14 = .ok (.iinc 2 1, 3) := by decide +kernel
theorem dJ7_fill_53178_17 : decode cJ7_fill_53178 17 = .ok (.goto (-12), 3) := by decide +kernel
theorem dJ7_fill_53178_20 : decode cJ7_fill_53178 20 = .ok (.return_, 1) := by decide +kernel
end
section
/-! ## More rows: constants by their values, places by natural numbers -/
section XM
variable {p : Program} {l : Launch} {e : Env} {R : Room} {s : State} {m : MethodId} {args : Array Value} {below : List Frame} {meth : Method} {c : Code} {D : va_G} {dA : Nat → ClassId} {nL : Nat} {h0 : xH} {sz0 mc ms : Nat} {Post : Option Value → xH → Nat → Prop} {cells slots pc : Nat} {lv : List (Nat × Value)} {st : List Value} {h : xH} {sz : Nat} {cc : ByteArray} {Ts : List Cond} {own : String} {ret : Option FieldType}
theorem x_iconstV {v : Int32} {n : Int} (G : xG p s m args meth c cc nL Ts own ret D dA sz0) (hd : decode cc pc = .ok (.iconst n, 1)) (hv : Int32.ofInt n = v) (kk : xV p l e R s m args below meth c D dA nL h0 sz0 mc ms Post cells slots (pc + 1) lv (.int v :: st) h sz) : xV p l e R s m args below meth c D dA nL h0 sz0 mc ms Post cells slots pc lv st h sz := x_iconst G hd (by rw [hv]; exact kk)
theorem x_bipushV {v : Int32} {n : Int} (G : xG p s m args meth c cc nL Ts own ret D dA sz0) (hd : decode cc pc = .ok (.bipush n, 2)) (hv : (Int8.ofInt n).toInt32 = v) (kk : xV p l e R s m args below meth c D dA nL h0 sz0 mc ms Post cells slots (pc + 2) lv (.int v :: st) h sz) : xV p l e R s m args below meth c D dA nL h0 sz0 mc ms Post cells slots pc lv st h sz := x_bipush G hd (by rw [hv]; exact kk)
theorem x_sipushV {v : Int32} {n : Int} (G : xG p s m args meth c cc nL Ts own ret D dA sz0) (hd : decode cc pc = .ok (.sipush n, 3)) (hv : (Int16.ofInt n).toInt32 = v) (kk : xV p l e R s m args below meth c D dA nL h0 sz0 mc ms Post cells slots (pc + 3) lv (.int v :: st) h sz) : xV p l e R s m args below meth c D dA nL h0 sz0 mc ms Post cells slots pc lv st h sz := x_sipush G hd (by rw [hv]; exact kk)
theorem x_lconstV {v : Int64} {n : Fin 2} (G : xG p s m args meth c cc nL Ts own ret D dA sz0) (hd : decode cc pc = .ok (.lconst n, 1)) (hv : Int64.ofNat (n : Nat) = v) (kk : xV p l e R s m args below meth c D dA nL h0 sz0 mc ms Post cells slots (pc + 1) lv (.long v :: st) h sz) : xV p l e R s m args below meth c D dA nL h0 sz0 mc ms Post cells slots pc lv st h sz := x_lconst G hd (by rw [hv]; exact kk)
theorem x_topE {x y : Int32} (q : x = y) (kk : xV p l e R s m args below meth c D dA nL h0 sz0 mc ms Post cells slots pc lv (.int y :: st) h sz) : xV p l e R s m args below meth c D dA nL h0 sz0 mc ms Post cells slots pc lv (.int x :: st) h sz := by rw [q]; exact kk
theorem x_topEl {x y : Int64} (q : x = y) (kk : xV p l e R s m args below meth c D dA nL h0 sz0 mc ms Post cells slots pc lv (.long y :: st) h sz) : xV p l e R s m args below meth c D dA nL h0 sz0 mc ms Post cells slots pc lv (.long x :: st) h sz := by rw [q]; exact kk
theorem x_locE {lv2 : List (Nat × Value)} (q : lv = lv2) (kk : xV p l e R s m args below meth c D dA nL h0 sz0 mc ms Post cells slots pc lv2 st h sz) : xV p l e R s m args below meth c D dA nL h0 sz0 mc ms Post cells slots pc lv st h sz := by rw [q]; exact kk
theorem x_ialdN {a n k : Nat} {f : Nat → Int32} (G : xG p s m args meth c cc nL Ts own ret D dA sz0) (hd : decode cc pc = .ok (.iaload, 1)) (ha : h a = some (.inl (dA 0, n, .inl f))) (hk : k < n) (hn : n < 2 ^ 31) (kk : xV p l e R s m args below meth c D dA nL h0 sz0 mc ms Post cells slots (pc + 1) lv (.int (f k) :: st) h sz) : xV p l e R s m args below meth c D dA nL h0 sz0 mc ms Post cells slots pc lv (.int (nI k) :: .ref a :: st) h sz := x_iald G hd ha (vp_in_nI hk hn) (by rw [nI_clamp (Nat.lt_trans hk hn)]; exact kk)
theorem x_laldN {a n k : Nat} {f : Nat → Int64} (G : xG p s m args meth c cc nL Ts own ret D dA sz0) (hd : decode cc pc = .ok (.laload, 1)) (ha : h a = some (.inl (dA 1, n, .inr (.inl f)))) (hk : k < n) (hn : n < 2 ^ 31) (kk : xV p l e R s m args below meth c D dA nL h0 sz0 mc ms Post cells slots (pc + 1) lv (.long (f k) :: st) h sz) : xV p l e R s m args below meth c D dA nL h0 sz0 mc ms Post cells slots pc lv (.int (nI k) :: .ref a :: st) h sz := x_lald G hd ha (vp_in_nI hk hn) (by rw [nI_clamp (Nat.lt_trans hk hn)]; exact kk)
theorem x_zaldN {a n k : Nat} {f : Nat → Int32} (G : xG p s m args meth c cc nL Ts own ret D dA sz0) (hd : decode cc pc = .ok (.baload, 1)) (ha : h a = some (.inl (dA 2, n, .inl f))) (hk : k < n) (hn : n < 2 ^ 31) (kk : xV p l e R s m args below meth c D dA nL h0 sz0 mc ms Post cells slots (pc + 1) lv (.int (f k) :: st) h sz) : xV p l e R s m args below meth c D dA nL h0 sz0 mc ms Post cells slots pc lv (.int (nI k) :: .ref a :: st) h sz := x_zald G hd ha (vp_in_nI hk hn) (by rw [nI_clamp (Nat.lt_trans hk hn)]; exact kk)
theorem x_iastN {a n k : Nat} {f : Nat → Int32} {x : Int32} (G : xG p s m args meth c cc nL Ts own ret D dA sz0) (hd : decode cc pc = .ok (.iastore, 1)) (ha : h a = some (.inl (dA 0, n, .inl f))) (hk : k < n) (hn : n < 2 ^ 31) (kk : xV p l e R s m args below meth c D dA nL h0 sz0 mc ms Post cells slots (pc + 1) lv st (x_up h a (.inl (dA 0, n, .inl (upd f k x)))) sz) : xV p l e R s m args below meth c D dA nL h0 sz0 mc ms Post cells slots pc lv (.int x :: .int (nI k) :: .ref a :: st) h sz := x_iast G hd ha (vp_in_nI hk hn) (by rw [nI_clamp (Nat.lt_trans hk hn)]; exact kk)
theorem x_lastN {a n k : Nat} {f : Nat → Int64} {x : Int64} (G : xG p s m args meth c cc nL Ts own ret D dA sz0) (hd : decode cc pc = .ok (.lastore, 1)) (ha : h a = some (.inl (dA 1, n, .inr (.inl f)))) (hk : k < n) (hn : n < 2 ^ 31) (kk : xV p l e R s m args below meth c D dA nL h0 sz0 mc ms Post cells slots (pc + 1) lv st (x_up h a (.inl (dA 1, n, .inr (.inl (vp_updL f k x))))) sz) : xV p l e R s m args below meth c D dA nL h0 sz0 mc ms Post cells slots pc lv (.long x :: .int (nI k) :: .ref a :: st) h sz := x_last G hd ha (vp_in_nI hk hn) (by rw [nI_clamp (Nat.lt_trans hk hn)]; exact kk)
theorem x_zastN {a n k : Nat} {f : Nat → Int32} {x : Int32} (G : xG p s m args meth c cc nL Ts own ret D dA sz0) (hd : decode cc pc = .ok (.bastore, 1)) (ha : h a = some (.inl (dA 2, n, .inl f))) (hk : k < n) (hn : n < 2 ^ 31) (kk : xV p l e R s m args below meth c D dA nL h0 sz0 mc ms Post cells slots (pc + 1) lv st (x_up h a (.inl (dA 2, n, .inl (upd f k (vp_nar .boolean x))))) sz) : xV p l e R s m args below meth c D dA nL h0 sz0 mc ms Post cells slots pc lv (.int x :: .int (nI k) :: .ref a :: st) h sz := x_zast G hd ha (vp_in_nI hk hn) (by rw [nI_clamp (Nat.lt_trans hk hn)]; exact kk)
end XM
section XL
variable {p : Program} {l : Launch} {e : Env} {R : Room} {s : State} {m : MethodId} {args : Array Value} {below : List Frame} {meth : Method} {c : Code} {D : va_G} {dA : Nat → ClassId} {nL : Nat} {h0 : xH} {sz0 mc ms : Nat} {Post : Option Value → xH → Nat → Prop} {cells slots pc : Nat}
theorem x_loop {σ : Type} (lv : Nat → σ → List (Nat × Value)) (N : Nat) (I : Nat → σ → xH → Nat → Prop)
    (hs : ∀ (j : Nat) (u : σ) (h : xH) (sz : Nat), j < N → I j u h sz → (∀ (u1 : σ) (h1 : xH) (sz1 : Nat), I (j + 1) u1 h1 sz1 → xV p l e R s m args below meth c D dA nL h0 sz0 mc ms Post cells slots pc (lv (j + 1) u1) [] h1 sz1) → xV p l e R s m args below meth c D dA nL h0 sz0 mc ms Post cells slots pc (lv j u) [] h sz)
    (hx : ∀ (u : σ) (h : xH) (sz : Nat), I N u h sz → xV p l e R s m args below meth c D dA nL h0 sz0 mc ms Post cells slots pc (lv N u) [] h sz) : ∀ (j : Nat) (u : σ) (h : xH) (sz : Nat), j ≤ N → I j u h sz → xV p l e R s m args below meth c D dA nL h0 sz0 mc ms Post cells slots pc (lv j u) [] h sz := by
  have key : ∀ (n j : Nat) (u : σ) (h : xH) (sz : Nat), j + n = N → I j u h sz → xV p l e R s m args below meth c D dA nL h0 sz0 mc ms Post cells slots pc (lv j u) [] h sz := by
    intro n
    induction n with
    | zero =>
      intro j u h sz hj hI
      have e : j = N := by omega
      subst e
      exact hx u h sz hI
    | succ n ih =>
      intro j u h sz hj hI
      exact hs j u h sz (by omega) hI (fun u1 h1 sz1 k => ih (j + 1) u1 h1 sz1 (by omega) k)
  intro j u h sz hj hI
  exact key (N - j) j u h sz (by omega) hI
theorem x_while {σ : Type} (lv : σ → List (Nat × Value)) (st : List Value) (I : σ → xH → Nat → Prop) (μ : σ → Nat)
    (hs : ∀ (u : σ) (h : xH) (sz : Nat), I u h sz → (∀ (u1 : σ) (h1 : xH) (sz1 : Nat), I u1 h1 sz1 → μ u1 < μ u → xV p l e R s m args below meth c D dA nL h0 sz0 mc ms Post cells slots pc (lv u1) st h1 sz1) → xV p l e R s m args below meth c D dA nL h0 sz0 mc ms Post cells slots pc (lv u) st h sz) : ∀ (u : σ) (h : xH) (sz : Nat), I u h sz → xV p l e R s m args below meth c D dA nL h0 sz0 mc ms Post cells slots pc (lv u) st h sz := by
  have key : ∀ (n : Nat) (u : σ) (h : xH) (sz : Nat), μ u < n → I u h sz → xV p l e R s m args below meth c D dA nL h0 sz0 mc ms Post cells slots pc (lv u) st h sz := by
    intro n
    induction n with
    | zero =>
      intro u h sz hj hI
      exact absurd hj (Nat.not_lt_zero _)
    | succ n ih =>
      intro u h sz hj hI
      exact hs u h sz hI (fun u1 h1 sz1 k g => ih u1 h1 sz1 (by omega) k)
  intro u h sz hI
  exact key (μ u + 1) u h sz (Nat.lt_succ_self _) hI
end XL
/-- outside of lo .. hi nothing is another -/
def xF (lo hi : Nat) (h h1 : xH) : Prop := ∀ q : Nat, (q < lo ∨ hi ≤ q) → h1 q = h q
theorem xF_rf {lo hi : Nat} {h : xH} : xF lo hi h h := fun _ _ => rfl
theorem xF_tr {lo hi : Nat} {h h1 h2 : xH} (a : xF lo hi h h1) (b : xF lo hi h1 h2) : xF lo hi h h2 := fun q k => (b q k).trans (a q k)
theorem xF_up {lo hi a : Nat} {e : va_E} {h h1 : xH} (k : xF lo hi h h1) (h2 : lo ≤ a) (h3 : a < hi) : xF lo hi h (x_up h1 a e) := fun q j => (x_up_ne (by omega)).trans (k q j)
theorem xF_wd {lo hi lo1 hi1 : Nat} {h h1 : xH} (k : xF lo hi h h1) (h2 : lo1 ≤ lo) (h3 : hi ≤ hi1) : xF lo1 hi1 h h1 := fun q j => k q (by omega)
theorem kX0 : xC 0 RX0 TX0 3 tyX0 := ⟨rfl, tyX0_ok, nmX0⟩
theorem kX1 : xC 1 RX1 TX1 9 tyX1 := ⟨rfl, tyX1_ok, nmX1⟩
theorem kX2 : xC 2 RX2 TX2 7 tyX2 := ⟨rfl, tyX2_ok, nmX2⟩
theorem kX3 : xC 3 RX3 TX3 6 tyX3 := ⟨rfl, tyX3_ok, nmX3⟩
theorem kX4 : xC 4 RX4 TX4 10 tyX4 := ⟨rfl, tyX4_ok, nmX4⟩
theorem kX5 : xC 5 RX5 TX5 21 tyX5 := ⟨rfl, tyX5_ok, nmX5⟩
end
section
/-! ## The reference: its object, and what the map holds of it -/
def mdF (b : Nat) (ln : Int32) (fa : Int32) (dm : Int32) (sd : Int64) (pl : Int32) (wr : Int32) (dp : Int32) (fr : Int32) : List Value := [.ref (b + 1), .int ln, .int fa, .ref (b + 2), .ref (b + 3), .int dm, .long sd, .ref (b + 4), .ref (b + 5), .ref (b + 6), .int pl, .int wr, .int dp, .ref (b + 7), .ref (b + 8), .ref (b + 9), .ref (b + 10), .ref (b + 11), .int fr, .ref (b + 12), .ref (b + 13)]
def Md (dA : Nat → ClassId) (h : xH) (b : Nat) (tx : Nat → Int32) (ln : Int32) (fa : Int32) (st : Nat → Int32) (de : Nat → Int32) (dm : Int32) (sd : Int64) (im : Nat → Int32) (se : Nat → Int64) (kp : Nat → Int32) (pl : Int32) (wr : Int32) (dp : Int32) (su : Nat → Int32) (wa : Nat → Int32) (fc : Nat → Int32) (po : Nat → Int32) (ro : Nat → Int64) (fr : Int32) (ch : Nat → Int64) (ov : Nat → Int64) : Prop := h b = some (.inr (5, mdF b ln fa dm sd pl wr dp fr)) ∧ h (b + 1) = some (.inl (dA 0, 60, .inl tx)) ∧ h (b + 2) = some (.inl (dA 0, 69, .inl st)) ∧ h (b + 3) = some (.inl (dA 0, 1380, .inl de)) ∧ h (b + 4) = some (.inl (dA 0, 138, .inl im)) ∧ h (b + 5) = some (.inl (dA 1, 2, .inr (.inl se))) ∧ h (b + 6) = some (.inl (dA 2, 2, .inl kp)) ∧ h (b + 7) = some (.inl (dA 0, 70, .inl su)) ∧ h (b + 8) = some (.inl (dA 0, 7, .inl wa)) ∧ h (b + 9) = some (.inl (dA 0, 10, .inl fc)) ∧ h (b + 10) = some (.inl (dA 0, 10, .inl po)) ∧ h (b + 11) = some (.inl (dA 1, 36, .inr (.inl ro))) ∧ h (b + 12) = some (.inl (dA 1, 24, .inr (.inl ch))) ∧ h (b + 13) = some (.inl (dA 1, 6, .inr (.inl ov)))
section MD
variable {dA : Nat → ClassId} {h : xH} {b : Nat} {tx : Nat → Int32} {ln : Int32} {fa : Int32} {st : Nat → Int32} {de : Nat → Int32} {dm : Int32} {sd : Int64} {im : Nat → Int32} {se : Nat → Int64} {kp : Nat → Int32} {pl : Int32} {wr : Int32} {dp : Int32} {su : Nat → Int32} {wa : Nat → Int32} {fc : Nat → Int32} {po : Nat → Int32} {ro : Nat → Int64} {fr : Int32} {ch : Nat → Int64} {ov : Nat → Int64}
theorem md_o (M : Md dA h b tx ln fa st de dm sd im se kp pl wr dp su wa fc po ro fr ch ov) : h b = some (.inr (5, [.ref (b + 1), .int ln, .int fa, .ref (b + 2), .ref (b + 3), .int dm, .long sd, .ref (b + 4), .ref (b + 5), .ref (b + 6), .int pl, .int wr, .int dp, .ref (b + 7), .ref (b + 8), .ref (b + 9), .ref (b + 10), .ref (b + 11), .int fr, .ref (b + 12), .ref (b + 13)])) := M.1
theorem md_tx (M : Md dA h b tx ln fa st de dm sd im se kp pl wr dp su wa fc po ro fr ch ov) : h (b + 1) = some (.inl (dA 0, 60, .inl tx)) := M.2.1
theorem md_st (M : Md dA h b tx ln fa st de dm sd im se kp pl wr dp su wa fc po ro fr ch ov) : h (b + 2) = some (.inl (dA 0, 69, .inl st)) := M.2.2.1
theorem md_de (M : Md dA h b tx ln fa st de dm sd im se kp pl wr dp su wa fc po ro fr ch ov) : h (b + 3) = some (.inl (dA 0, 1380, .inl de)) := M.2.2.2.1
theorem md_im (M : Md dA h b tx ln fa st de dm sd im se kp pl wr dp su wa fc po ro fr ch ov) : h (b + 4) = some (.inl (dA 0, 138, .inl im)) := M.2.2.2.2.1
theorem md_se (M : Md dA h b tx ln fa st de dm sd im se kp pl wr dp su wa fc po ro fr ch ov) : h (b + 5) = some (.inl (dA 1, 2, .inr (.inl se))) := M.2.2.2.2.2.1
theorem md_kp (M : Md dA h b tx ln fa st de dm sd im se kp pl wr dp su wa fc po ro fr ch ov) : h (b + 6) = some (.inl (dA 2, 2, .inl kp)) := M.2.2.2.2.2.2.1
theorem md_su (M : Md dA h b tx ln fa st de dm sd im se kp pl wr dp su wa fc po ro fr ch ov) : h (b + 7) = some (.inl (dA 0, 70, .inl su)) := M.2.2.2.2.2.2.2.1
theorem md_wa (M : Md dA h b tx ln fa st de dm sd im se kp pl wr dp su wa fc po ro fr ch ov) : h (b + 8) = some (.inl (dA 0, 7, .inl wa)) := M.2.2.2.2.2.2.2.2.1
theorem md_fc (M : Md dA h b tx ln fa st de dm sd im se kp pl wr dp su wa fc po ro fr ch ov) : h (b + 9) = some (.inl (dA 0, 10, .inl fc)) := M.2.2.2.2.2.2.2.2.2.1
theorem md_po (M : Md dA h b tx ln fa st de dm sd im se kp pl wr dp su wa fc po ro fr ch ov) : h (b + 10) = some (.inl (dA 0, 10, .inl po)) := M.2.2.2.2.2.2.2.2.2.2.1
theorem md_ro (M : Md dA h b tx ln fa st de dm sd im se kp pl wr dp su wa fc po ro fr ch ov) : h (b + 11) = some (.inl (dA 1, 36, .inr (.inl ro))) := M.2.2.2.2.2.2.2.2.2.2.2.1
theorem md_ch (M : Md dA h b tx ln fa st de dm sd im se kp pl wr dp su wa fc po ro fr ch ov) : h (b + 12) = some (.inl (dA 1, 24, .inr (.inl ch))) := M.2.2.2.2.2.2.2.2.2.2.2.2.1
theorem md_ov (M : Md dA h b tx ln fa st de dm sd im se kp pl wr dp su wa fc po ro fr ch ov) : h (b + 13) = some (.inl (dA 1, 6, .inr (.inl ov))) := M.2.2.2.2.2.2.2.2.2.2.2.2.2
theorem md_ln_s (M : Md dA h b tx ln fa st de dm sd im se kp pl wr dp su wa fc po ro fr ch ov) (v : Int32) : Md dA (x_up h b (.inr (5, List.set [.ref (b + 1), .int ln, .int fa, .ref (b + 2), .ref (b + 3), .int dm, .long sd, .ref (b + 4), .ref (b + 5), .ref (b + 6), .int pl, .int wr, .int dp, .ref (b + 7), .ref (b + 8), .ref (b + 9), .ref (b + 10), .ref (b + 11), .int fr, .ref (b + 12), .ref (b + 13)] 1 (.int v)))) b tx v fa st de dm sd im se kp pl wr dp su wa fc po ro fr ch ov := ⟨x_up_eq, by rw [x_up_ne (by omega)]; exact md_tx M, by rw [x_up_ne (by omega)]; exact md_st M, by rw [x_up_ne (by omega)]; exact md_de M, by rw [x_up_ne (by omega)]; exact md_im M, by rw [x_up_ne (by omega)]; exact md_se M, by rw [x_up_ne (by omega)]; exact md_kp M, by rw [x_up_ne (by omega)]; exact md_su M, by rw [x_up_ne (by omega)]; exact md_wa M, by rw [x_up_ne (by omega)]; exact md_fc M, by rw [x_up_ne (by omega)]; exact md_po M, by rw [x_up_ne (by omega)]; exact md_ro M, by rw [x_up_ne (by omega)]; exact md_ch M, by rw [x_up_ne (by omega)]; exact md_ov M⟩
theorem md_fa_s (M : Md dA h b tx ln fa st de dm sd im se kp pl wr dp su wa fc po ro fr ch ov) (v : Int32) : Md dA (x_up h b (.inr (5, List.set [.ref (b + 1), .int ln, .int fa, .ref (b + 2), .ref (b + 3), .int dm, .long sd, .ref (b + 4), .ref (b + 5), .ref (b + 6), .int pl, .int wr, .int dp, .ref (b + 7), .ref (b + 8), .ref (b + 9), .ref (b + 10), .ref (b + 11), .int fr, .ref (b + 12), .ref (b + 13)] 2 (.int v)))) b tx ln v st de dm sd im se kp pl wr dp su wa fc po ro fr ch ov := ⟨x_up_eq, by rw [x_up_ne (by omega)]; exact md_tx M, by rw [x_up_ne (by omega)]; exact md_st M, by rw [x_up_ne (by omega)]; exact md_de M, by rw [x_up_ne (by omega)]; exact md_im M, by rw [x_up_ne (by omega)]; exact md_se M, by rw [x_up_ne (by omega)]; exact md_kp M, by rw [x_up_ne (by omega)]; exact md_su M, by rw [x_up_ne (by omega)]; exact md_wa M, by rw [x_up_ne (by omega)]; exact md_fc M, by rw [x_up_ne (by omega)]; exact md_po M, by rw [x_up_ne (by omega)]; exact md_ro M, by rw [x_up_ne (by omega)]; exact md_ch M, by rw [x_up_ne (by omega)]; exact md_ov M⟩
theorem md_dm_s (M : Md dA h b tx ln fa st de dm sd im se kp pl wr dp su wa fc po ro fr ch ov) (v : Int32) : Md dA (x_up h b (.inr (5, List.set [.ref (b + 1), .int ln, .int fa, .ref (b + 2), .ref (b + 3), .int dm, .long sd, .ref (b + 4), .ref (b + 5), .ref (b + 6), .int pl, .int wr, .int dp, .ref (b + 7), .ref (b + 8), .ref (b + 9), .ref (b + 10), .ref (b + 11), .int fr, .ref (b + 12), .ref (b + 13)] 5 (.int v)))) b tx ln fa st de v sd im se kp pl wr dp su wa fc po ro fr ch ov := ⟨x_up_eq, by rw [x_up_ne (by omega)]; exact md_tx M, by rw [x_up_ne (by omega)]; exact md_st M, by rw [x_up_ne (by omega)]; exact md_de M, by rw [x_up_ne (by omega)]; exact md_im M, by rw [x_up_ne (by omega)]; exact md_se M, by rw [x_up_ne (by omega)]; exact md_kp M, by rw [x_up_ne (by omega)]; exact md_su M, by rw [x_up_ne (by omega)]; exact md_wa M, by rw [x_up_ne (by omega)]; exact md_fc M, by rw [x_up_ne (by omega)]; exact md_po M, by rw [x_up_ne (by omega)]; exact md_ro M, by rw [x_up_ne (by omega)]; exact md_ch M, by rw [x_up_ne (by omega)]; exact md_ov M⟩
theorem md_sd_s (M : Md dA h b tx ln fa st de dm sd im se kp pl wr dp su wa fc po ro fr ch ov) (v : Int64) : Md dA (x_up h b (.inr (5, List.set [.ref (b + 1), .int ln, .int fa, .ref (b + 2), .ref (b + 3), .int dm, .long sd, .ref (b + 4), .ref (b + 5), .ref (b + 6), .int pl, .int wr, .int dp, .ref (b + 7), .ref (b + 8), .ref (b + 9), .ref (b + 10), .ref (b + 11), .int fr, .ref (b + 12), .ref (b + 13)] 6 (.long v)))) b tx ln fa st de dm v im se kp pl wr dp su wa fc po ro fr ch ov := ⟨x_up_eq, by rw [x_up_ne (by omega)]; exact md_tx M, by rw [x_up_ne (by omega)]; exact md_st M, by rw [x_up_ne (by omega)]; exact md_de M, by rw [x_up_ne (by omega)]; exact md_im M, by rw [x_up_ne (by omega)]; exact md_se M, by rw [x_up_ne (by omega)]; exact md_kp M, by rw [x_up_ne (by omega)]; exact md_su M, by rw [x_up_ne (by omega)]; exact md_wa M, by rw [x_up_ne (by omega)]; exact md_fc M, by rw [x_up_ne (by omega)]; exact md_po M, by rw [x_up_ne (by omega)]; exact md_ro M, by rw [x_up_ne (by omega)]; exact md_ch M, by rw [x_up_ne (by omega)]; exact md_ov M⟩
theorem md_pl_s (M : Md dA h b tx ln fa st de dm sd im se kp pl wr dp su wa fc po ro fr ch ov) (v : Int32) : Md dA (x_up h b (.inr (5, List.set [.ref (b + 1), .int ln, .int fa, .ref (b + 2), .ref (b + 3), .int dm, .long sd, .ref (b + 4), .ref (b + 5), .ref (b + 6), .int pl, .int wr, .int dp, .ref (b + 7), .ref (b + 8), .ref (b + 9), .ref (b + 10), .ref (b + 11), .int fr, .ref (b + 12), .ref (b + 13)] 10 (.int v)))) b tx ln fa st de dm sd im se kp v wr dp su wa fc po ro fr ch ov := ⟨x_up_eq, by rw [x_up_ne (by omega)]; exact md_tx M, by rw [x_up_ne (by omega)]; exact md_st M, by rw [x_up_ne (by omega)]; exact md_de M, by rw [x_up_ne (by omega)]; exact md_im M, by rw [x_up_ne (by omega)]; exact md_se M, by rw [x_up_ne (by omega)]; exact md_kp M, by rw [x_up_ne (by omega)]; exact md_su M, by rw [x_up_ne (by omega)]; exact md_wa M, by rw [x_up_ne (by omega)]; exact md_fc M, by rw [x_up_ne (by omega)]; exact md_po M, by rw [x_up_ne (by omega)]; exact md_ro M, by rw [x_up_ne (by omega)]; exact md_ch M, by rw [x_up_ne (by omega)]; exact md_ov M⟩
theorem md_wr_s (M : Md dA h b tx ln fa st de dm sd im se kp pl wr dp su wa fc po ro fr ch ov) (v : Int32) : Md dA (x_up h b (.inr (5, List.set [.ref (b + 1), .int ln, .int fa, .ref (b + 2), .ref (b + 3), .int dm, .long sd, .ref (b + 4), .ref (b + 5), .ref (b + 6), .int pl, .int wr, .int dp, .ref (b + 7), .ref (b + 8), .ref (b + 9), .ref (b + 10), .ref (b + 11), .int fr, .ref (b + 12), .ref (b + 13)] 11 (.int v)))) b tx ln fa st de dm sd im se kp pl v dp su wa fc po ro fr ch ov := ⟨x_up_eq, by rw [x_up_ne (by omega)]; exact md_tx M, by rw [x_up_ne (by omega)]; exact md_st M, by rw [x_up_ne (by omega)]; exact md_de M, by rw [x_up_ne (by omega)]; exact md_im M, by rw [x_up_ne (by omega)]; exact md_se M, by rw [x_up_ne (by omega)]; exact md_kp M, by rw [x_up_ne (by omega)]; exact md_su M, by rw [x_up_ne (by omega)]; exact md_wa M, by rw [x_up_ne (by omega)]; exact md_fc M, by rw [x_up_ne (by omega)]; exact md_po M, by rw [x_up_ne (by omega)]; exact md_ro M, by rw [x_up_ne (by omega)]; exact md_ch M, by rw [x_up_ne (by omega)]; exact md_ov M⟩
theorem md_dp_s (M : Md dA h b tx ln fa st de dm sd im se kp pl wr dp su wa fc po ro fr ch ov) (v : Int32) : Md dA (x_up h b (.inr (5, List.set [.ref (b + 1), .int ln, .int fa, .ref (b + 2), .ref (b + 3), .int dm, .long sd, .ref (b + 4), .ref (b + 5), .ref (b + 6), .int pl, .int wr, .int dp, .ref (b + 7), .ref (b + 8), .ref (b + 9), .ref (b + 10), .ref (b + 11), .int fr, .ref (b + 12), .ref (b + 13)] 12 (.int v)))) b tx ln fa st de dm sd im se kp pl wr v su wa fc po ro fr ch ov := ⟨x_up_eq, by rw [x_up_ne (by omega)]; exact md_tx M, by rw [x_up_ne (by omega)]; exact md_st M, by rw [x_up_ne (by omega)]; exact md_de M, by rw [x_up_ne (by omega)]; exact md_im M, by rw [x_up_ne (by omega)]; exact md_se M, by rw [x_up_ne (by omega)]; exact md_kp M, by rw [x_up_ne (by omega)]; exact md_su M, by rw [x_up_ne (by omega)]; exact md_wa M, by rw [x_up_ne (by omega)]; exact md_fc M, by rw [x_up_ne (by omega)]; exact md_po M, by rw [x_up_ne (by omega)]; exact md_ro M, by rw [x_up_ne (by omega)]; exact md_ch M, by rw [x_up_ne (by omega)]; exact md_ov M⟩
theorem md_fr_s (M : Md dA h b tx ln fa st de dm sd im se kp pl wr dp su wa fc po ro fr ch ov) (v : Int32) : Md dA (x_up h b (.inr (5, List.set [.ref (b + 1), .int ln, .int fa, .ref (b + 2), .ref (b + 3), .int dm, .long sd, .ref (b + 4), .ref (b + 5), .ref (b + 6), .int pl, .int wr, .int dp, .ref (b + 7), .ref (b + 8), .ref (b + 9), .ref (b + 10), .ref (b + 11), .int fr, .ref (b + 12), .ref (b + 13)] 18 (.int v)))) b tx ln fa st de dm sd im se kp pl wr dp su wa fc po ro v ch ov := ⟨x_up_eq, by rw [x_up_ne (by omega)]; exact md_tx M, by rw [x_up_ne (by omega)]; exact md_st M, by rw [x_up_ne (by omega)]; exact md_de M, by rw [x_up_ne (by omega)]; exact md_im M, by rw [x_up_ne (by omega)]; exact md_se M, by rw [x_up_ne (by omega)]; exact md_kp M, by rw [x_up_ne (by omega)]; exact md_su M, by rw [x_up_ne (by omega)]; exact md_wa M, by rw [x_up_ne (by omega)]; exact md_fc M, by rw [x_up_ne (by omega)]; exact md_po M, by rw [x_up_ne (by omega)]; exact md_ro M, by rw [x_up_ne (by omega)]; exact md_ch M, by rw [x_up_ne (by omega)]; exact md_ov M⟩
theorem md_tx_s (M : Md dA h b tx ln fa st de dm sd im se kp pl wr dp su wa fc po ro fr ch ov) (v : Nat → Int32) : Md dA (x_up h (b + 1) (.inl (dA 0, 60, .inl v))) b v ln fa st de dm sd im se kp pl wr dp su wa fc po ro fr ch ov := ⟨by rw [x_up_ne (by omega)]; exact M.1, x_up_eq, by rw [x_up_ne (by omega)]; exact md_st M, by rw [x_up_ne (by omega)]; exact md_de M, by rw [x_up_ne (by omega)]; exact md_im M, by rw [x_up_ne (by omega)]; exact md_se M, by rw [x_up_ne (by omega)]; exact md_kp M, by rw [x_up_ne (by omega)]; exact md_su M, by rw [x_up_ne (by omega)]; exact md_wa M, by rw [x_up_ne (by omega)]; exact md_fc M, by rw [x_up_ne (by omega)]; exact md_po M, by rw [x_up_ne (by omega)]; exact md_ro M, by rw [x_up_ne (by omega)]; exact md_ch M, by rw [x_up_ne (by omega)]; exact md_ov M⟩
theorem md_st_s (M : Md dA h b tx ln fa st de dm sd im se kp pl wr dp su wa fc po ro fr ch ov) (v : Nat → Int32) : Md dA (x_up h (b + 2) (.inl (dA 0, 69, .inl v))) b tx ln fa v de dm sd im se kp pl wr dp su wa fc po ro fr ch ov := ⟨by rw [x_up_ne (by omega)]; exact M.1, by rw [x_up_ne (by omega)]; exact md_tx M, x_up_eq, by rw [x_up_ne (by omega)]; exact md_de M, by rw [x_up_ne (by omega)]; exact md_im M, by rw [x_up_ne (by omega)]; exact md_se M, by rw [x_up_ne (by omega)]; exact md_kp M, by rw [x_up_ne (by omega)]; exact md_su M, by rw [x_up_ne (by omega)]; exact md_wa M, by rw [x_up_ne (by omega)]; exact md_fc M, by rw [x_up_ne (by omega)]; exact md_po M, by rw [x_up_ne (by omega)]; exact md_ro M, by rw [x_up_ne (by omega)]; exact md_ch M, by rw [x_up_ne (by omega)]; exact md_ov M⟩
theorem md_de_s (M : Md dA h b tx ln fa st de dm sd im se kp pl wr dp su wa fc po ro fr ch ov) (v : Nat → Int32) : Md dA (x_up h (b + 3) (.inl (dA 0, 1380, .inl v))) b tx ln fa st v dm sd im se kp pl wr dp su wa fc po ro fr ch ov := ⟨by rw [x_up_ne (by omega)]; exact M.1, by rw [x_up_ne (by omega)]; exact md_tx M, by rw [x_up_ne (by omega)]; exact md_st M, x_up_eq, by rw [x_up_ne (by omega)]; exact md_im M, by rw [x_up_ne (by omega)]; exact md_se M, by rw [x_up_ne (by omega)]; exact md_kp M, by rw [x_up_ne (by omega)]; exact md_su M, by rw [x_up_ne (by omega)]; exact md_wa M, by rw [x_up_ne (by omega)]; exact md_fc M, by rw [x_up_ne (by omega)]; exact md_po M, by rw [x_up_ne (by omega)]; exact md_ro M, by rw [x_up_ne (by omega)]; exact md_ch M, by rw [x_up_ne (by omega)]; exact md_ov M⟩
theorem md_im_s (M : Md dA h b tx ln fa st de dm sd im se kp pl wr dp su wa fc po ro fr ch ov) (v : Nat → Int32) : Md dA (x_up h (b + 4) (.inl (dA 0, 138, .inl v))) b tx ln fa st de dm sd v se kp pl wr dp su wa fc po ro fr ch ov := ⟨by rw [x_up_ne (by omega)]; exact M.1, by rw [x_up_ne (by omega)]; exact md_tx M, by rw [x_up_ne (by omega)]; exact md_st M, by rw [x_up_ne (by omega)]; exact md_de M, x_up_eq, by rw [x_up_ne (by omega)]; exact md_se M, by rw [x_up_ne (by omega)]; exact md_kp M, by rw [x_up_ne (by omega)]; exact md_su M, by rw [x_up_ne (by omega)]; exact md_wa M, by rw [x_up_ne (by omega)]; exact md_fc M, by rw [x_up_ne (by omega)]; exact md_po M, by rw [x_up_ne (by omega)]; exact md_ro M, by rw [x_up_ne (by omega)]; exact md_ch M, by rw [x_up_ne (by omega)]; exact md_ov M⟩
theorem md_se_s (M : Md dA h b tx ln fa st de dm sd im se kp pl wr dp su wa fc po ro fr ch ov) (v : Nat → Int64) : Md dA (x_up h (b + 5) (.inl (dA 1, 2, .inr (.inl v)))) b tx ln fa st de dm sd im v kp pl wr dp su wa fc po ro fr ch ov := ⟨by rw [x_up_ne (by omega)]; exact M.1, by rw [x_up_ne (by omega)]; exact md_tx M, by rw [x_up_ne (by omega)]; exact md_st M, by rw [x_up_ne (by omega)]; exact md_de M, by rw [x_up_ne (by omega)]; exact md_im M, x_up_eq, by rw [x_up_ne (by omega)]; exact md_kp M, by rw [x_up_ne (by omega)]; exact md_su M, by rw [x_up_ne (by omega)]; exact md_wa M, by rw [x_up_ne (by omega)]; exact md_fc M, by rw [x_up_ne (by omega)]; exact md_po M, by rw [x_up_ne (by omega)]; exact md_ro M, by rw [x_up_ne (by omega)]; exact md_ch M, by rw [x_up_ne (by omega)]; exact md_ov M⟩
theorem md_kp_s (M : Md dA h b tx ln fa st de dm sd im se kp pl wr dp su wa fc po ro fr ch ov) (v : Nat → Int32) : Md dA (x_up h (b + 6) (.inl (dA 2, 2, .inl v))) b tx ln fa st de dm sd im se v pl wr dp su wa fc po ro fr ch ov := ⟨by rw [x_up_ne (by omega)]; exact M.1, by rw [x_up_ne (by omega)]; exact md_tx M, by rw [x_up_ne (by omega)]; exact md_st M, by rw [x_up_ne (by omega)]; exact md_de M, by rw [x_up_ne (by omega)]; exact md_im M, by rw [x_up_ne (by omega)]; exact md_se M, x_up_eq, by rw [x_up_ne (by omega)]; exact md_su M, by rw [x_up_ne (by omega)]; exact md_wa M, by rw [x_up_ne (by omega)]; exact md_fc M, by rw [x_up_ne (by omega)]; exact md_po M, by rw [x_up_ne (by omega)]; exact md_ro M, by rw [x_up_ne (by omega)]; exact md_ch M, by rw [x_up_ne (by omega)]; exact md_ov M⟩
theorem md_su_s (M : Md dA h b tx ln fa st de dm sd im se kp pl wr dp su wa fc po ro fr ch ov) (v : Nat → Int32) : Md dA (x_up h (b + 7) (.inl (dA 0, 70, .inl v))) b tx ln fa st de dm sd im se kp pl wr dp v wa fc po ro fr ch ov := ⟨by rw [x_up_ne (by omega)]; exact M.1, by rw [x_up_ne (by omega)]; exact md_tx M, by rw [x_up_ne (by omega)]; exact md_st M, by rw [x_up_ne (by omega)]; exact md_de M, by rw [x_up_ne (by omega)]; exact md_im M, by rw [x_up_ne (by omega)]; exact md_se M, by rw [x_up_ne (by omega)]; exact md_kp M, x_up_eq, by rw [x_up_ne (by omega)]; exact md_wa M, by rw [x_up_ne (by omega)]; exact md_fc M, by rw [x_up_ne (by omega)]; exact md_po M, by rw [x_up_ne (by omega)]; exact md_ro M, by rw [x_up_ne (by omega)]; exact md_ch M, by rw [x_up_ne (by omega)]; exact md_ov M⟩
theorem md_wa_s (M : Md dA h b tx ln fa st de dm sd im se kp pl wr dp su wa fc po ro fr ch ov) (v : Nat → Int32) : Md dA (x_up h (b + 8) (.inl (dA 0, 7, .inl v))) b tx ln fa st de dm sd im se kp pl wr dp su v fc po ro fr ch ov := ⟨by rw [x_up_ne (by omega)]; exact M.1, by rw [x_up_ne (by omega)]; exact md_tx M, by rw [x_up_ne (by omega)]; exact md_st M, by rw [x_up_ne (by omega)]; exact md_de M, by rw [x_up_ne (by omega)]; exact md_im M, by rw [x_up_ne (by omega)]; exact md_se M, by rw [x_up_ne (by omega)]; exact md_kp M, by rw [x_up_ne (by omega)]; exact md_su M, x_up_eq, by rw [x_up_ne (by omega)]; exact md_fc M, by rw [x_up_ne (by omega)]; exact md_po M, by rw [x_up_ne (by omega)]; exact md_ro M, by rw [x_up_ne (by omega)]; exact md_ch M, by rw [x_up_ne (by omega)]; exact md_ov M⟩
theorem md_fc_s (M : Md dA h b tx ln fa st de dm sd im se kp pl wr dp su wa fc po ro fr ch ov) (v : Nat → Int32) : Md dA (x_up h (b + 9) (.inl (dA 0, 10, .inl v))) b tx ln fa st de dm sd im se kp pl wr dp su wa v po ro fr ch ov := ⟨by rw [x_up_ne (by omega)]; exact M.1, by rw [x_up_ne (by omega)]; exact md_tx M, by rw [x_up_ne (by omega)]; exact md_st M, by rw [x_up_ne (by omega)]; exact md_de M, by rw [x_up_ne (by omega)]; exact md_im M, by rw [x_up_ne (by omega)]; exact md_se M, by rw [x_up_ne (by omega)]; exact md_kp M, by rw [x_up_ne (by omega)]; exact md_su M, by rw [x_up_ne (by omega)]; exact md_wa M, x_up_eq, by rw [x_up_ne (by omega)]; exact md_po M, by rw [x_up_ne (by omega)]; exact md_ro M, by rw [x_up_ne (by omega)]; exact md_ch M, by rw [x_up_ne (by omega)]; exact md_ov M⟩
theorem md_po_s (M : Md dA h b tx ln fa st de dm sd im se kp pl wr dp su wa fc po ro fr ch ov) (v : Nat → Int32) : Md dA (x_up h (b + 10) (.inl (dA 0, 10, .inl v))) b tx ln fa st de dm sd im se kp pl wr dp su wa fc v ro fr ch ov := ⟨by rw [x_up_ne (by omega)]; exact M.1, by rw [x_up_ne (by omega)]; exact md_tx M, by rw [x_up_ne (by omega)]; exact md_st M, by rw [x_up_ne (by omega)]; exact md_de M, by rw [x_up_ne (by omega)]; exact md_im M, by rw [x_up_ne (by omega)]; exact md_se M, by rw [x_up_ne (by omega)]; exact md_kp M, by rw [x_up_ne (by omega)]; exact md_su M, by rw [x_up_ne (by omega)]; exact md_wa M, by rw [x_up_ne (by omega)]; exact md_fc M, x_up_eq, by rw [x_up_ne (by omega)]; exact md_ro M, by rw [x_up_ne (by omega)]; exact md_ch M, by rw [x_up_ne (by omega)]; exact md_ov M⟩
theorem md_ro_s (M : Md dA h b tx ln fa st de dm sd im se kp pl wr dp su wa fc po ro fr ch ov) (v : Nat → Int64) : Md dA (x_up h (b + 11) (.inl (dA 1, 36, .inr (.inl v)))) b tx ln fa st de dm sd im se kp pl wr dp su wa fc po v fr ch ov := ⟨by rw [x_up_ne (by omega)]; exact M.1, by rw [x_up_ne (by omega)]; exact md_tx M, by rw [x_up_ne (by omega)]; exact md_st M, by rw [x_up_ne (by omega)]; exact md_de M, by rw [x_up_ne (by omega)]; exact md_im M, by rw [x_up_ne (by omega)]; exact md_se M, by rw [x_up_ne (by omega)]; exact md_kp M, by rw [x_up_ne (by omega)]; exact md_su M, by rw [x_up_ne (by omega)]; exact md_wa M, by rw [x_up_ne (by omega)]; exact md_fc M, by rw [x_up_ne (by omega)]; exact md_po M, x_up_eq, by rw [x_up_ne (by omega)]; exact md_ch M, by rw [x_up_ne (by omega)]; exact md_ov M⟩
theorem md_ch_s (M : Md dA h b tx ln fa st de dm sd im se kp pl wr dp su wa fc po ro fr ch ov) (v : Nat → Int64) : Md dA (x_up h (b + 12) (.inl (dA 1, 24, .inr (.inl v)))) b tx ln fa st de dm sd im se kp pl wr dp su wa fc po ro fr v ov := ⟨by rw [x_up_ne (by omega)]; exact M.1, by rw [x_up_ne (by omega)]; exact md_tx M, by rw [x_up_ne (by omega)]; exact md_st M, by rw [x_up_ne (by omega)]; exact md_de M, by rw [x_up_ne (by omega)]; exact md_im M, by rw [x_up_ne (by omega)]; exact md_se M, by rw [x_up_ne (by omega)]; exact md_kp M, by rw [x_up_ne (by omega)]; exact md_su M, by rw [x_up_ne (by omega)]; exact md_wa M, by rw [x_up_ne (by omega)]; exact md_fc M, by rw [x_up_ne (by omega)]; exact md_po M, by rw [x_up_ne (by omega)]; exact md_ro M, x_up_eq, by rw [x_up_ne (by omega)]; exact md_ov M⟩
theorem md_ov_s (M : Md dA h b tx ln fa st de dm sd im se kp pl wr dp su wa fc po ro fr ch ov) (v : Nat → Int64) : Md dA (x_up h (b + 13) (.inl (dA 1, 6, .inr (.inl v)))) b tx ln fa st de dm sd im se kp pl wr dp su wa fc po ro fr ch v := ⟨by rw [x_up_ne (by omega)]; exact M.1, by rw [x_up_ne (by omega)]; exact md_tx M, by rw [x_up_ne (by omega)]; exact md_st M, by rw [x_up_ne (by omega)]; exact md_de M, by rw [x_up_ne (by omega)]; exact md_im M, by rw [x_up_ne (by omega)]; exact md_se M, by rw [x_up_ne (by omega)]; exact md_kp M, by rw [x_up_ne (by omega)]; exact md_su M, by rw [x_up_ne (by omega)]; exact md_wa M, by rw [x_up_ne (by omega)]; exact md_fc M, by rw [x_up_ne (by omega)]; exact md_po M, by rw [x_up_ne (by omega)]; exact md_ro M, by rw [x_up_ne (by omega)]; exact md_ch M, x_up_eq⟩
end MD
end
section
/-- a row less another one so often, of its first j numbers -/
def tk_row (r : Nat → Int64) (i o : Nat) (t : Int64) (j : Nat) : Nat → Int64 := fun k => if 6 * i ≤ k ∧ k < 6 * i + j then r k - t * r (6 * o + (k - 6 * i)) else r k
theorem tk_row_0 (r : Nat → Int64) (i o : Nat) (t : Int64) : tk_row r i o t 0 = r := by
  funext k
  unfold tk_row
  rw [if_neg (by omega)]
theorem tk_row_at {r : Nat → Int64} {i o : Nat} {t : Int64} {j : Nat} : tk_row r i o t j (6 * i + j) = r (6 * i + j) := by
  unfold tk_row
  rw [if_neg (by omega)]
theorem tk_row_o {r : Nat → Int64} {i o : Nat} {t : Int64} {j : Nat} (hj : j < 6) : tk_row r i o t j (6 * o + j) = r (6 * o + j) := by
  unfold tk_row
  rw [if_neg (by omega)]
theorem tk_row_s {r : Nat → Int64} {i o : Nat} {t : Int64} {j : Nat} (hj : j < 6) : vp_updL (tk_row r i o t j) (6 * i + j) (tk_row r i o t j (6 * i + j) - t * tk_row r i o t j (6 * o + j)) = tk_row r i o t (j + 1) := by
  rw [tk_row_at, tk_row_o hj]
  funext k
  unfold vp_updL
  by_cases e : k = 6 * i + j
  · subst e
    rw [if_pos rfl]
    unfold tk_row
    rw [if_pos (by omega), show 6 * o + (6 * i + j - 6 * i) = 6 * o + j by omega]
  · rw [if_neg e]
    unfold tk_row
    by_cases e2 : 6 * i ≤ k ∧ k < 6 * i + j
    · rw [if_pos e2, if_pos (by omega)]
    · rw [if_neg e2, if_neg (by omega)]

theorem inX5_takes_5 : ∀ w ∈ wsX50, w ∈ wsX5_takes := by decide +kernel
set_option maxRecDepth 100000 in
set_option maxHeartbeats 4000000 in
/-- takes: row i and its number less row o's, t times -/
theorem c_takes (l : Launch) (D : va_G) {dA : Nat → ClassId} {b : Nat} {tx : Nat → Int32} {ln : Int32} {fa : Int32} {st : Nat → Int32} {de : Nat → Int32} {dm : Int32} {sd : Int64} {im : Nat → Int32} {se : Nat → Int64} {kp : Nat → Int32} {pl : Int32} {wr : Int32} {dp : Int32} {su : Nat → Int32} {wa : Nat → Int32} {fc : Nat → Int32} {po : Nat → Int32} {ro : Nat → Int64} {fr : Int32} {ch : Nat → Int64} {ov : Nat → Int64} {i o : Nat} {t : Int64} {h : xH} {sz : Nat} {Post : Option Value → xH → Nat → Prop} (hi : i < 6) (ho : o < 6) (M : Md dA h b tx ln fa st de dm sd im se kp pl wr dp su wa fc po ro fr ch ov) (hpost : ∀ (h1 : xH) (sz1 : Nat), Md dA h1 b tx ln fa st de dm sd im se kp pl wr dp su wa fc po (tk_row ro i o t 6) fr ch (vp_updL ov i (ov i - t * ov o)) → xF b (b + 14) h h1 → Post none h1 sz1) : xMet l yX5_takes wsX5_takes 0 0 0 0 D dA [.ref b, .int (nI i), .int (nI o), .long t] h sz Post := by
  refine x_open (cc := cX5_takes) (maxL := 6) (ret := none) (by decide) rfl (Nat.le_of_ble_eq_true rfl) ?_
  intro p e s m args below meth c G _
  have inX5 : ∀ w ∈ wsX50, w ∈ wsX5_takes := inX5_takes_5
  refine x_iconstV (v := nI 0) G dX5_takes_0 (by decide) ?_
  refine x_istore G dX5_takes_1 (by decide) ?_
  refine x_loop (σ := Unit) (fun j _ => [(0, .ref b), (1, .int (nI i)), (2, .int (nI o)), (3, .long t), (5, .int (nI j))]) 6 (fun j _ h1 sz1 => Md dA h1 b tx ln fa st de dm sd im se kp pl wr dp su wa fc po (tk_row ro i o t j) fr ch ov ∧ xF b (b + 14) h h1) ?_ ?_ 0 () h sz (Nat.zero_le _) ⟨by rw [tk_row_0]; exact M, xF_rf⟩
  · intro j _ h1 sz1 hj hI nx
    try dsimp only at hI nx ⊢
    obtain ⟨M, F⟩ := hI
    refine x_iload G dX5_takes_3 rfl ?_
    refine x_bipushV (v := nI 6) G dX5_takes_5 (by decide) ?_
    refine x_icmp_ge G 45 dX5_takes_7 (by decide) (fun c_7 => ?_) (fun c_7 => ?_)
    · exact absurd c_7 (nI_ge hj (by omega))
    · refine x_aload_n G dX5_takes_10 rfl ?_
      refine x_get G kX5 inX5 17 (by decide) (by decide +kernel) dX5_takes_11 (md_o M) rfl ?_
      refine x_bipushV (v := nI 6) G dX5_takes_14 (by decide) ?_
      refine x_iload_n G dX5_takes_16 rfl ?_
      refine x_imul G dX5_takes_17 ?_
      refine x_iload G dX5_takes_18 rfl ?_
      refine x_iadd G dX5_takes_20 ?_
      refine x_topE (y := nI (6 * i + j)) (by rw [pk_mul, nI_add]) ?_
      refine x_dup2 G dX5_takes_21 rfl rfl ?_
      refine x_laldN G dX5_takes_22 (md_ro M) (by omega) (by decide) ?_
      refine x_lload_n G dX5_takes_23 rfl ?_
      refine x_aload_n G dX5_takes_24 rfl ?_
      refine x_get G kX5 inX5 17 (by decide) (by decide +kernel) dX5_takes_25 (md_o M) rfl ?_
      refine x_bipushV (v := nI 6) G dX5_takes_28 (by decide) ?_
      refine x_iload_n G dX5_takes_30 rfl ?_
      refine x_imul G dX5_takes_31 ?_
      refine x_iload G dX5_takes_32 rfl ?_
      refine x_iadd G dX5_takes_34 ?_
      refine x_topE (y := nI (6 * o + j)) (by rw [pk_mul, nI_add]) ?_
      refine x_laldN G dX5_takes_35 (md_ro M) (by omega) (by decide) ?_
      refine x_lmul G dX5_takes_36 ?_
      refine x_lsub G dX5_takes_37 ?_
      refine x_lastN G dX5_takes_38 (md_ro M) (by omega) (by decide) ?_
      rw [tk_row_s hj]
      have M := md_ro_s M (tk_row ro i o t (j + 1))
      have F := xF_up (a := b + 11) (e := .inl (dA 1, 36, .inr (.inl (tk_row ro i o t (j + 1))))) F (by omega) (by omega)
      refine x_iinc G dX5_takes_39 rfl (by decide) ?_
      refine x_locE (lv2 := [(0, .ref b), (1, .int (nI i)), (2, .int (nI o)), (3, .long t), (5, .int (nI (j + 1)))]) (by rw [nI_succ j]; rfl) ?_
      refine x_goto G 3 dX5_takes_42 (by decide) ?_
      exact nx () _ _ ⟨M, F⟩
  · intro _ h1 sz1 hI
    try dsimp only at hI ⊢
    obtain ⟨M, F⟩ := hI
    refine x_iload G dX5_takes_3 rfl ?_
    refine x_bipushV (v := nI 6) G dX5_takes_5 (by decide) ?_
    refine x_icmp_ge G 45 dX5_takes_7 (by decide) (fun c_7 => ?_) (fun c_7 => ?_)
    · refine x_aload_n G dX5_takes_45 rfl ?_
      refine x_get G kX5 inX5 20 (by decide) (by decide +kernel) dX5_takes_46 (md_o M) rfl ?_
      refine x_iload_n G dX5_takes_49 rfl ?_
      refine x_dup2 G dX5_takes_50 rfl rfl ?_
      refine x_laldN G dX5_takes_51 (md_ov M) hi (by decide) ?_
      refine x_lload_n G dX5_takes_52 rfl ?_
      refine x_aload_n G dX5_takes_53 rfl ?_
      refine x_get G kX5 inX5 20 (by decide) (by decide +kernel) dX5_takes_54 (md_o M) rfl ?_
      refine x_iload_n G dX5_takes_57 rfl ?_
      refine x_laldN G dX5_takes_58 (md_ov M) ho (by decide) ?_
      refine x_lmul G dX5_takes_59 ?_
      refine x_lsub G dX5_takes_60 ?_
      refine x_lastN G dX5_takes_61 (md_ov M) hi (by decide) ?_
      have M := md_ov_s M (vp_updL ov i (ov i - t * ov o))
      have F := xF_up (a := b + 13) (e := .inl (dA 1, 6, .inr (.inl (vp_updL ov i (ov i - t * ov o))))) F (by omega) (by omega)
      exact x_vret G dX5_takes_62 (hpost _ _ M F)
    · exact absurd (nI_le (Nat.le_refl _) (by omega)) c_7
end
section
/-- a truth as a number -/
def x_b (q : Prop) [Decidable q] : Int32 := if q then 1 else 0
theorem x_b_t {q : Prop} [Decidable q] (k : q) : x_b q = 1 := if_pos k
theorem x_b_f {q : Prop} [Decidable q] (k : ¬ q) : x_b q = 0 := if_neg k
theorem x_b_0 {q : Prop} [Decidable q] : x_b q = 0 ↔ ¬ q := by
  by_cases k : q
  · rw [x_b_t k]; exact ⟨fun j => absurd j (by decide), fun j => absurd k j⟩
  · rw [x_b_f k]; exact ⟨fun _ => k, fun _ => rfl⟩
theorem x_b_n {q : Prop} [Decidable q] : ¬ x_b q = 0 ↔ q := by
  rw [x_b_0]
  exact Decidable.not_not
theorem x_b_z {q : Prop} [Decidable q] : narrow .boolean (.int (x_b q)) = .int (x_b q) := by
  by_cases k : q
  · rw [x_b_t k]; rfl
  · rw [x_b_f k]; rfl
set_option maxRecDepth 100000 in
set_option maxHeartbeats 4000000 in
/-- in -/
theorem c_in (l : Launch) (D : va_G) {dA : Nat → ClassId} {v lo hi : Int32} {h : xH} {sz : Nat} {Post : Option Value → xH → Nat → Prop}  (hpost : Post (some (.int (x_b (lo ≤ v ∧ v ≤ hi)))) h sz) : xMet l yX5_in wsX5_in 0 0 0 0 D dA [.int v, .int lo, .int hi] h sz Post := by
  refine x_open (cc := cX5_in) (maxL := 3) (ret := (some .boolean)) (by decide) rfl (Nat.le_of_ble_eq_true rfl) ?_
  intro p e s m args below meth c G _
  refine x_iload_n G dX5_in_0 rfl ?_
  refine x_iload_n G dX5_in_1 rfl ?_
  refine x_icmp_lt G 14 dX5_in_2 (by decide) (fun c_2 => ?_) (fun c_2 => ?_)
  · refine x_iconstV (v := 0) G dX5_in_14 (by decide) ?_
    exact x_zret G dX5_in_15 rfl (by rw [x_b_f (fun q => Int32.not_le.mpr c_2 q.1)] at hpost; exact hpost)
  · refine x_iload_n G dX5_in_5 rfl ?_
    refine x_iload_n G dX5_in_6 rfl ?_
    refine x_icmp_gt G 14 dX5_in_7 (by decide) (fun c_7 => ?_) (fun c_7 => ?_)
    · refine x_iconstV (v := 0) G dX5_in_14 (by decide) ?_
      exact x_zret G dX5_in_15 rfl (by rw [x_b_f (fun q => Int32.not_le.mpr c_7 q.2)] at hpost; exact hpost)
    · refine x_iconstV (v := 1) G dX5_in_10 (by decide) ?_
      refine x_goto G 15 dX5_in_11 (by decide) ?_
      exact x_zret G dX5_in_15 rfl (by rw [x_b_t ⟨Int32.not_lt.mp c_2, Int32.not_lt.mp c_7⟩] at hpost; exact hpost)
def r_abs (v : Int64) : Int64 := if v < 0 then -v else v
set_option maxRecDepth 100000 in
set_option maxHeartbeats 4000000 in
/-- sizeOf -/
theorem c_sizeOf (l : Launch) (D : va_G) {dA : Nat → ClassId} {v : Int64} {h : xH} {sz : Nat} {Post : Option Value → xH → Nat → Prop}  (hpost : Post (some (.long (r_abs v))) h sz) : xMet l yX5_sizeOf wsX5_sizeOf 0 0 0 0 D dA [.long v] h sz Post := by
  refine x_open (cc := cX5_sizeOf) (maxL := 2) (ret := (some .long)) (by decide) rfl (Nat.le_of_ble_eq_true rfl) ?_
  intro p e s m args below meth c G _
  refine x_lload_n G dX5_sizeOf_0 rfl ?_
  refine x_lconstV (v := 0) G dX5_sizeOf_1 (by decide) ?_
  refine x_lcmp G dX5_sizeOf_2 ?_
  refine x_if_ge G 11 dX5_sizeOf_3 (by decide) (fun c_3 => ?_) (fun c_3 => ?_)
  · have hq : r_abs v = v := if_neg (Int64.not_lt.mpr ((x_lgge v 0).mp c_3))
    rw [hq] at hpost
    refine x_lload_n G dX5_sizeOf_11 rfl ?_
    exact x_lret G dX5_sizeOf_12 hpost
  · have hq : r_abs v = -v := if_pos (Int64.not_le.mp (fun q => c_3 ((x_lgge v 0).mpr q)))
    rw [hq] at hpost
    refine x_lload_n G dX5_sizeOf_6 rfl ?_
    refine x_lneg G dX5_sizeOf_7 ?_
    refine x_goto G 12 dX5_sizeOf_8 (by decide) ?_
    exact x_lret G dX5_sizeOf_12 hpost
def r_floor (a b : Int64) : Int64 := if ¬ (a - a / b * b = 0) ∧ ¬ (a < 0 ↔ b < 0) then a / b - 1 else a / b
set_option maxRecDepth 100000 in
set_option maxHeartbeats 4000000 in
/-- floor -/
theorem c_floor (l : Launch) (D : va_G) {dA : Nat → ClassId} {a b : Int64} {h : xH} {sz : Nat} {Post : Option Value → xH → Nat → Prop} (hb : ¬ b = 0) (hpost : Post (some (.long (r_floor a b))) h sz) : xMet l yX5_floor wsX5_floor 0 0 0 0 D dA [.long a, .long b] h sz Post := by
  refine x_open (cc := cX5_floor) (maxL := 6) (ret := (some .long)) (by decide) rfl (Nat.le_of_ble_eq_true rfl) ?_
  intro p e s m args below meth c G _
  refine x_lload_n G dX5_floor_0 rfl ?_
  refine x_lload_n G dX5_floor_1 rfl ?_
  refine x_ldiv G dX5_floor_2 hb ?_
  refine x_lstore G dX5_floor_3 (by decide) ?_
  refine x_lload_n G dX5_floor_5 rfl ?_
  refine x_lload_n G dX5_floor_6 rfl ?_
  refine x_lrem G dX5_floor_7 hb ?_
  refine x_lconstV (v := 0) G dX5_floor_8 (by decide) ?_
  refine x_lcmp G dX5_floor_9 ?_
  refine x_if_eq G 45 dX5_floor_10 (by decide) (fun c_10 => ?_) (fun c_10 => ?_)
  · have hq : r_floor a b = a / b := if_neg (fun q => q.1 ((x_lgeq _ _).mp c_10))
    rw [hq] at hpost
    refine x_lload G dX5_floor_45 rfl ?_
    exact x_lret G dX5_floor_47 hpost
  · have h10 : ¬ (a - a / b * b = 0) := fun q => c_10 ((x_lgeq _ _).mpr q)
    refine x_lload_n G dX5_floor_13 rfl ?_
    refine x_lconstV (v := 0) G dX5_floor_14 (by decide) ?_
    refine x_lcmp G dX5_floor_15 ?_
    refine x_if_ge G 23 dX5_floor_16 (by decide) (fun c_16 => ?_) (fun c_16 => ?_)
    · have ha : ¬ a < 0 := Int64.not_lt.mpr ((x_lgge a 0).mp c_16)
      refine x_iconstV (v := nI 0) G dX5_floor_23 (by decide) ?_
      refine x_lload_n G dX5_floor_24 rfl ?_
      refine x_lconstV (v := 0) G dX5_floor_25 (by decide) ?_
      refine x_lcmp G dX5_floor_26 ?_
      refine x_if_ge G 34 dX5_floor_27 (by decide) (fun c_27 => ?_) (fun c_27 => ?_)
      · have hb0 : ¬ b < 0 := Int64.not_lt.mpr ((x_lgge b 0).mp c_27)
        refine x_iconstV (v := nI 0) G dX5_floor_34 (by decide) ?_
        refine x_icmp_eq G 45 dX5_floor_35 (by decide) (fun c_35 => ?_) (fun c_35 => ?_)
        · have hq : r_floor a b = a / b := if_neg (fun q => q.2 (by first | exact ⟨fun _ => hb0, fun _ => ha⟩ | exact ⟨fun z => absurd z ha, fun z => absurd z hb0⟩ | exact absurd c_35 (by decide)))
          rw [hq] at hpost
          refine x_lload G dX5_floor_45 rfl ?_
          exact x_lret G dX5_floor_47 hpost
        · have hq : r_floor a b = a / b - 1 := if_pos ⟨h10, fun q => (by first | exact absurd (q.mp ha) hb0 | exact absurd (q.mpr hb0) ha | exact c_35 rfl)⟩
          rw [hq] at hpost
          refine x_lload G dX5_floor_38 rfl ?_
          refine x_lconstV (v := 1) G dX5_floor_40 (by decide) ?_
          refine x_lsub G dX5_floor_41 ?_
          refine x_goto G 47 dX5_floor_42 (by decide) ?_
          exact x_lret G dX5_floor_47 hpost
      · have hb0 : b < 0 := Int64.not_le.mp (fun q => c_27 ((x_lgge b 0).mpr q))
        refine x_iconstV (v := nI 1) G dX5_floor_30 (by decide) ?_
        refine x_goto G 35 dX5_floor_31 (by decide) ?_
        refine x_icmp_eq G 45 dX5_floor_35 (by decide) (fun c_35 => ?_) (fun c_35 => ?_)
        · have hq : r_floor a b = a / b := if_neg (fun q => q.2 (by first | exact ⟨fun _ => hb0, fun _ => ha⟩ | exact ⟨fun z => absurd z ha, fun z => absurd z hb0⟩ | exact absurd c_35 (by decide)))
          rw [hq] at hpost
          refine x_lload G dX5_floor_45 rfl ?_
          exact x_lret G dX5_floor_47 hpost
        · have hq : r_floor a b = a / b - 1 := if_pos ⟨h10, fun q => (by first | exact absurd (q.mp ha) hb0 | exact absurd (q.mpr hb0) ha | exact c_35 rfl)⟩
          rw [hq] at hpost
          refine x_lload G dX5_floor_38 rfl ?_
          refine x_lconstV (v := 1) G dX5_floor_40 (by decide) ?_
          refine x_lsub G dX5_floor_41 ?_
          refine x_goto G 47 dX5_floor_42 (by decide) ?_
          exact x_lret G dX5_floor_47 hpost
    · have ha : a < 0 := Int64.not_le.mp (fun q => c_16 ((x_lgge a 0).mpr q))
      refine x_iconstV (v := nI 1) G dX5_floor_19 (by decide) ?_
      refine x_goto G 24 dX5_floor_20 (by decide) ?_
      refine x_lload_n G dX5_floor_24 rfl ?_
      refine x_lconstV (v := 0) G dX5_floor_25 (by decide) ?_
      refine x_lcmp G dX5_floor_26 ?_
      refine x_if_ge G 34 dX5_floor_27 (by decide) (fun c_27 => ?_) (fun c_27 => ?_)
      · have hb0 : ¬ b < 0 := Int64.not_lt.mpr ((x_lgge b 0).mp c_27)
        refine x_iconstV (v := nI 0) G dX5_floor_34 (by decide) ?_
        refine x_icmp_eq G 45 dX5_floor_35 (by decide) (fun c_35 => ?_) (fun c_35 => ?_)
        · have hq : r_floor a b = a / b := if_neg (fun q => q.2 (by first | exact ⟨fun _ => hb0, fun _ => ha⟩ | exact ⟨fun z => absurd z ha, fun z => absurd z hb0⟩ | exact absurd c_35 (by decide)))
          rw [hq] at hpost
          refine x_lload G dX5_floor_45 rfl ?_
          exact x_lret G dX5_floor_47 hpost
        · have hq : r_floor a b = a / b - 1 := if_pos ⟨h10, fun q => (by first | exact absurd (q.mp ha) hb0 | exact absurd (q.mpr hb0) ha | exact c_35 rfl)⟩
          rw [hq] at hpost
          refine x_lload G dX5_floor_38 rfl ?_
          refine x_lconstV (v := 1) G dX5_floor_40 (by decide) ?_
          refine x_lsub G dX5_floor_41 ?_
          refine x_goto G 47 dX5_floor_42 (by decide) ?_
          exact x_lret G dX5_floor_47 hpost
      · have hb0 : b < 0 := Int64.not_le.mp (fun q => c_27 ((x_lgge b 0).mpr q))
        refine x_iconstV (v := nI 1) G dX5_floor_30 (by decide) ?_
        refine x_goto G 35 dX5_floor_31 (by decide) ?_
        refine x_icmp_eq G 45 dX5_floor_35 (by decide) (fun c_35 => ?_) (fun c_35 => ?_)
        · have hq : r_floor a b = a / b := if_neg (fun q => q.2 (by first | exact ⟨fun _ => hb0, fun _ => ha⟩ | exact ⟨fun z => absurd z ha, fun z => absurd z hb0⟩ | exact absurd c_35 (by decide)))
          rw [hq] at hpost
          refine x_lload G dX5_floor_45 rfl ?_
          exact x_lret G dX5_floor_47 hpost
        · have hq : r_floor a b = a / b - 1 := if_pos ⟨h10, fun q => (by first | exact absurd (q.mp ha) hb0 | exact absurd (q.mpr hb0) ha | exact c_35 rfl)⟩
          rw [hq] at hpost
          refine x_lload G dX5_floor_38 rfl ?_
          refine x_lconstV (v := 1) G dX5_floor_40 (by decide) ?_
          refine x_lsub G dX5_floor_41 ?_
          refine x_goto G 47 dX5_floor_42 (by decide) ?_
          exact x_lret G dX5_floor_47 hpost
set_option maxRecDepth 100000 in
set_option maxHeartbeats 4000000 in
/-- has -/
theorem c_has (l : Launch) (D : va_G) {dA : Nat → ClassId} {x k : Int32} {h : xH} {sz : Nat} {Post : Option Value → xH → Nat → Prop}  (hpost : Post (some (.int (x_b ((x >>> (k &&& 31)) &&& nI 1 = nI 1)))) h sz) : xMet l yX5_has wsX5_has 0 0 0 0 D dA [.int x, .int k] h sz Post := by
  refine x_open (cc := cX5_has) (maxL := 2) (ret := (some .boolean)) (by decide) rfl (Nat.le_of_ble_eq_true rfl) ?_
  intro p e s m args below meth c G _
  refine x_iload_n G dX5_has_0 rfl ?_
  refine x_iload_n G dX5_has_1 rfl ?_
  refine x_ishr G dX5_has_2 ?_
  refine x_iconstV (v := nI 1) G dX5_has_3 (by decide) ?_
  refine x_iand G dX5_has_4 ?_
  refine x_iconstV (v := nI 1) G dX5_has_5 (by decide) ?_
  refine x_icmp_ne G 13 dX5_has_6 (by decide) (fun c_6 => ?_) (fun c_6 => ?_)
  · have hq : x_b ((x >>> (k &&& 31)) &&& nI 1 = nI 1) = 0 := x_b_f c_6
    rw [hq] at hpost
    refine x_iconstV (v := nI 0) G dX5_has_13 (by decide) ?_
    exact x_zret G dX5_has_14 (by decide) hpost
  · have hq : x_b ((x >>> (k &&& 31)) &&& nI 1 = nI 1) = 1 := x_b_t c_6
    rw [hq] at hpost
    refine x_iconstV (v := nI 1) G dX5_has_9 (by decide) ?_
    refine x_goto G 14 dX5_has_10 (by decide) ?_
    exact x_zret G dX5_has_14 (by decide) hpost
def r_bits (n : Nat) : Nat := n % 2 + n / 2 % 2 + n / 4 % 2 + n / 8 % 2 + n / 16 % 2 + n / 32 % 2
theorem r_bits_s : ∀ n : Fin 64, n.val ≠ 0 → (n.val &&& (n.val - 1)) < n.val ∧ r_bits (n.val &&& (n.val - 1)) + 1 = r_bits n.val ∧ nI n.val &&& (nI n.val - nI 1) = nI (n.val &&& (n.val - 1)) ∧ ¬ nI n.val = 0 := by decide +kernel
set_option maxRecDepth 100000 in
set_option maxHeartbeats 4000000 in
/-- bits -/
theorem c_bits (l : Launch) (D : va_G) {dA : Nat → ClassId} {n : Nat} {h : xH} {sz : Nat} {Post : Option Value → xH → Nat → Prop} (hn : n < 64) (hpost : Post (some (.int (nI (r_bits n)))) h sz) : xMet l yX5_bits wsX5_bits 0 0 0 0 D dA [.int (nI n)] h sz Post := by
  refine x_open (cc := cX5_bits) (maxL := 3) (ret := (some .int)) (by decide) rfl (Nat.le_of_ble_eq_true rfl) ?_
  intro p e s m args below meth c G _
  refine x_iconstV (v := nI 0) G dX5_bits_0 (by decide) ?_
  refine x_istore_n G dX5_bits_1 (by decide) ?_
  refine x_iload_n G dX5_bits_2 rfl ?_
  refine x_istore_n G dX5_bits_3 (by decide) ?_
  refine x_while (σ := Nat × Nat) (fun u => [(0, .int (nI n)), (1, .int (nI u.1)), (2, .int (nI u.2))]) [] (fun u h1 sz1 => u.2 < 64 ∧ u.1 + r_bits u.2 = r_bits n ∧ Post (some (.int (nI (r_bits n)))) h1 sz1) (fun u => u.2) ?_ (0, n) h sz ⟨hn, Nat.zero_add _, hpost⟩
  intro u h1 sz1 hI nx
  try dsimp only at hI nx ⊢
  obtain ⟨I1, I2, hpost⟩ := hI
  refine x_iload_n G dX5_bits_4 rfl ?_
  refine x_if_eq G 20 dX5_bits_5 (by decide) (fun c_5 => ?_) (fun c_5 => ?_)
  · rcases Nat.eq_zero_or_pos u.2 with q | q
    · have e : u.1 = r_bits n := by rw [← I2, q]; rfl
      rw [← e] at hpost
      refine x_iload_n G dX5_bits_20 rfl ?_
      exact x_iret G dX5_bits_21 hpost
    · exact absurd c_5 (r_bits_s ⟨u.2, I1⟩ (by simp only [ne_eq]; omega)).2.2.2
  · have q : u.2 ≠ 0 := fun z => c_5 (by rw [z]; rfl)
    obtain ⟨k1, k2, k3, -⟩ := r_bits_s ⟨u.2, I1⟩ q
    dsimp only at k1 k2 k3
    refine x_iinc G dX5_bits_8 rfl (by decide) ?_
    refine x_locE (lv2 := [(0, .int (nI n)), (1, .int (nI (u.1 + 1))), (2, .int (nI u.2))]) (by rw [nI_succ u.1]; rfl) ?_
    refine x_iload_n G dX5_bits_11 rfl ?_
    refine x_iload_n G dX5_bits_12 rfl ?_
    refine x_iconstV (v := nI 1) G dX5_bits_13 (by decide) ?_
    refine x_isub G dX5_bits_14 ?_
    refine x_iand G dX5_bits_15 ?_
    rw [k3]
    refine x_istore_n G dX5_bits_16 (by decide) ?_
    refine x_goto G 4 dX5_bits_17 (by decide) ?_
    exact nx (u.1 + 1, u.2 &&& (u.2 - 1)) _ _ ⟨by dsimp only; omega, by dsimp only; omega, hpost⟩ k1
theorem br_s {f g : Nat → Int32} {i j k : Nat} : upd (va_cpy f g i j k) (j + k) (f (i + k)) = va_cpy f g i j (k + 1) := by
  funext q
  unfold upd va_cpy
  by_cases e : q = j + k
  · subst e
    rw [if_pos rfl, if_pos (by omega), show i + (j + k - j) = i + k by omega]
  · rw [if_neg e]
    by_cases e2 : j ≤ q ∧ q < j + k
    · rw [if_pos e2, if_pos (by omega)]
    · rw [if_neg e2, if_neg (by omega)]
theorem br_0 {f g : Nat → Int32} {i j : Nat} : va_cpy f g i j 0 = g := by
  funext q
  unfold va_cpy
  rw [if_neg (by omega)]
set_option maxRecDepth 100000 in
set_option maxHeartbeats 4000000 in
/-- bring: n ints from place i on to place j on -/
theorem c_bring (l : Launch) (D : va_G) {dA : Nat → ClassId} {a0 a1 n0 n1 i j n : Nat} {f g : Nat → Int32} {h : xH} {sz : Nat} {Post : Option Value → xH → Nat → Prop} (hf : h a0 = some (.inl (dA 0, n0, .inl f))) (hg : h a1 = some (.inl (dA 0, n1, .inl g))) (hc : a0 ≠ a1 ∨ (a0 = a1 ∧ j ≤ i ∧ n0 = n1 ∧ f = g)) (hi : i + n ≤ n0) (hj : j + n ≤ n1) (hn0 : n0 < 2000) (hn1 : n1 < 2000) (hpost : ∀ (sz1 : Nat), Post none (x_up h a1 (.inl (dA 0, n1, .inl (va_cpy f g i j n)))) sz1) : xMet l yX5_bring wsX5_bring 0 0 0 0 D dA [.ref a0, .int (nI i), .ref a1, .int (nI j), .int (nI n)] h sz Post := by
  refine x_open (cc := cX5_bring) (maxL := 6) (ret := none) (by decide) rfl (Nat.le_of_ble_eq_true rfl) ?_
  intro p e s m args below meth c G _
  refine x_iconstV (v := nI 0) G dX5_bring_0 (by decide) ?_
  refine x_istore G dX5_bring_1 (by decide) ?_
  refine x_loop (σ := Unit) (fun k _ => [(0, .ref a0), (1, .int (nI i)), (2, .ref a1), (3, .int (nI j)), (4, .int (nI n)), (5, .int (nI k))]) n (fun k _ h1 sz1 => h1 = x_up h a1 (.inl (dA 0, n1, .inl (va_cpy f g i j k)))) ?_ ?_ 0 () h sz (Nat.zero_le _) (by rw [br_0, x_up_self hg])
  · intro k _ h1 sz1 hj hI nx
    try dsimp only at hI nx ⊢
    obtain rfl := hI
    obtain ⟨f2, hrd, hval⟩ : ∃ f2 : Nat → Int32, x_up h a1 (.inl (dA 0, n1, .inl (va_cpy f g i j k))) a0 = some (.inl (dA 0, n0, .inl f2)) ∧ f2 (i + k) = f (i + k) := by
      rcases hc with hc | ⟨rfl, hij, rfl, rfl⟩
      · exact ⟨f, by rw [x_up_ne hc]; exact hf, rfl⟩
      · exact ⟨_, x_up_eq, pk_cpy_out (by omega)⟩
    refine x_iload G dX5_bring_3 rfl ?_
    refine x_iload G dX5_bring_5 rfl ?_
    refine x_icmp_ge G 28 dX5_bring_7 (by decide) (fun c_7 => ?_) (fun c_7 => ?_)
    · exact absurd c_7 (nI_ge hj (by omega))
    · refine x_aload_n G dX5_bring_10 rfl ?_
      refine x_iload_n G dX5_bring_11 rfl ?_
      refine x_iload G dX5_bring_12 rfl ?_
      refine x_iadd G dX5_bring_14 ?_
      refine x_topE (y := nI (j + k)) (by rw [nI_add]) ?_
      refine x_aload_n G dX5_bring_15 rfl ?_
      refine x_iload_n G dX5_bring_16 rfl ?_
      refine x_iload G dX5_bring_17 rfl ?_
      refine x_iadd G dX5_bring_19 ?_
      refine x_topE (y := nI (i + k)) (by rw [nI_add]) ?_
      refine x_ialdN G dX5_bring_20 hrd (by omega) (by omega) ?_
      refine x_topE (y := f (i + k)) hval ?_
      refine x_iastN G dX5_bring_21 x_up_eq (by omega) (by omega) ?_
      rw [x_up_up, br_s]
      refine x_iinc G dX5_bring_22 rfl (by decide) ?_
      refine x_locE (lv2 := [(0, .ref a0), (1, .int (nI i)), (2, .ref a1), (3, .int (nI j)), (4, .int (nI n)), (5, .int (nI (k + 1)))]) (by rw [nI_succ k]; rfl) ?_
      refine x_goto G 3 dX5_bring_25 (by decide) ?_
      exact nx () _ _ rfl
  · intro _ h1 sz1 hI
    try dsimp only at hI ⊢
    obtain rfl := hI
    refine x_iload G dX5_bring_3 rfl ?_
    refine x_iload G dX5_bring_5 rfl ?_
    refine x_icmp_ge G 28 dX5_bring_7 (by decide) (fun c_7 => ?_) (fun c_7 => ?_)
    · exact x_vret G dX5_bring_28 (hpost _)
    · exact absurd (nI_le (Nat.le_refl _) (by omega)) c_7
end
section
theorem inX5_swaps_5 : ∀ w ∈ wsX50, w ∈ wsX5_swaps := by decide +kernel
/-- two rows change places, of their first j numbers -/
def sw_row (r : Nat → Int64) (a d j : Nat) : Nat → Int64 := fun k => if 6 * a ≤ k ∧ k < 6 * a + j then r (6 * d + (k - 6 * a)) else if 6 * d ≤ k ∧ k < 6 * d + j then r (6 * a + (k - 6 * d)) else r k
theorem sw_row_0 (r : Nat → Int64) (a d : Nat) : sw_row r a d 0 = r := by
  funext k
  unfold sw_row
  rw [if_neg (by omega), if_neg (by omega)]
theorem sw_row_a {r : Nat → Int64} {a d j : Nat} (hj : j < 6) : sw_row r a d j (6 * a + j) = r (6 * a + j) := by
  unfold sw_row
  rw [if_neg (by omega), if_neg (by omega)]
theorem sw_row_d {r : Nat → Int64} {a d j : Nat} (hj : j < 6) : sw_row r a d j (6 * d + j) = r (6 * d + j) := by
  unfold sw_row
  rw [if_neg (by omega), if_neg (by omega)]
theorem sw_row_s {r : Nat → Int64} {a d j : Nat} (hj : j < 6) : vp_updL (vp_updL (sw_row r a d j) (6 * a + j) (sw_row r a d j (6 * d + j))) (6 * d + j) (sw_row r a d j (6 * a + j)) = sw_row r a d (j + 1) := by
  rw [sw_row_a hj, sw_row_d hj]
  funext k
  unfold vp_updL sw_row
  by_cases e : k = 6 * d + j
  · subst e
    rw [if_pos rfl]
    by_cases e2 : 6 * a ≤ 6 * d + j ∧ 6 * d + j < 6 * a + (j + 1)
    · have e3 : a = d := by omega
      subst e3
      rw [if_pos e2, show 6 * a + (6 * a + j - 6 * a) = 6 * a + j by omega]
    · rw [if_neg e2, if_pos (by omega), show 6 * a + (6 * d + j - 6 * d) = 6 * a + j by omega]
  · rw [if_neg e]
    by_cases e2 : k = 6 * a + j
    · subst e2
      rw [if_pos rfl, if_pos (by omega), show 6 * d + (6 * a + j - 6 * a) = 6 * d + j by omega]
    · rw [if_neg e2]
      by_cases e3 : 6 * a ≤ k ∧ k < 6 * a + j
      · rw [if_pos e3, if_pos (by omega)]
      · rw [if_neg e3]
        by_cases e4 : 6 * d ≤ k ∧ k < 6 * d + j
        · rw [if_pos e4, if_neg (by omega), if_pos (by omega)]
        · rw [if_neg e4, if_neg (by omega), if_neg (by omega)]
set_option maxRecDepth 100000 in
set_option maxHeartbeats 4000000 in
/-- swaps: two rows and their numbers change places -/
theorem c_swaps (l : Launch) (D : va_G) {dA : Nat → ClassId} {b : Nat} {tx : Nat → Int32} {ln : Int32} {fa : Int32} {st : Nat → Int32} {de : Nat → Int32} {dm : Int32} {sd : Int64} {im : Nat → Int32} {se : Nat → Int64} {kp : Nat → Int32} {pl : Int32} {wr : Int32} {dp : Int32} {su : Nat → Int32} {wa : Nat → Int32} {fc : Nat → Int32} {po : Nat → Int32} {ro : Nat → Int64} {fr : Int32} {ch : Nat → Int64} {ov : Nat → Int64} {i o : Nat} {h : xH} {sz : Nat} {Post : Option Value → xH → Nat → Prop} (hi : i < 6) (ho : o < 6) (M : Md dA h b tx ln fa st de dm sd im se kp pl wr dp su wa fc po ro fr ch ov) (hpost : ∀ (h1 : xH) (sz1 : Nat), Md dA h1 b tx ln fa st de dm sd im se kp pl wr dp su wa fc po (sw_row ro i o 6) fr ch (vp_updL (vp_updL ov i (ov o)) o (ov i)) → xF b (b + 14) h h1 → Post none h1 sz1) : xMet l yX5_swaps wsX5_swaps 0 0 0 0 D dA [.ref b, .int (nI i), .int (nI o)] h sz Post := by
  refine x_open (cc := cX5_swaps) (maxL := 6) (ret := none) (by decide) rfl (Nat.le_of_ble_eq_true rfl) ?_
  intro p e s m args below meth c G _
  have inX5 : ∀ w ∈ wsX50, w ∈ wsX5_swaps := inX5_swaps_5
  refine x_iconstV (v := nI 0) G dX5_swaps_0 (by decide) ?_
  refine x_istore_n G dX5_swaps_1 (by decide) ?_
  refine x_loop (σ := Unit) (fun j _ => [(0, .ref b), (1, .int (nI i)), (2, .int (nI o)), (3, .int (nI j))]) 6 (fun j _ h1 sz1 => Md dA h1 b tx ln fa st de dm sd im se kp pl wr dp su wa fc po (sw_row ro i o j) fr ch ov ∧ xF b (b + 14) h h1) ?_ ?_ 0 () h sz (Nat.zero_le _) ⟨by rw [sw_row_0]; exact M, xF_rf⟩
  · intro j _ h1 sz1 hj hI nx
    try dsimp only at hI nx ⊢
    obtain ⟨M, F⟩ := hI
    refine x_iload_n G dX5_swaps_2 rfl ?_
    refine x_bipushV (v := nI 6) G dX5_swaps_3 (by decide) ?_
    refine x_icmp_ge G 62 dX5_swaps_5 (by decide) (fun c_5 => ?_) (fun c_5 => ?_)
    · exact absurd c_5 (nI_ge hj (by omega))
    · refine x_aload_n G dX5_swaps_8 rfl ?_
      refine x_get G kX5 inX5 17 (by decide) (by decide +kernel) dX5_swaps_9 (md_o M) rfl ?_
      refine x_bipushV (v := nI 6) G dX5_swaps_12 (by decide) ?_
      refine x_iload_n G dX5_swaps_14 rfl ?_
      refine x_imul G dX5_swaps_15 ?_
      refine x_iload_n G dX5_swaps_16 rfl ?_
      refine x_iadd G dX5_swaps_17 ?_
      refine x_topE (y := nI (6 * i + j)) (by rw [pk_mul, nI_add]) ?_
      refine x_laldN G dX5_swaps_18 (md_ro M) (by omega) (by decide) ?_
      refine x_lstore G dX5_swaps_19 (by decide) ?_
      refine x_aload_n G dX5_swaps_21 rfl ?_
      refine x_get G kX5 inX5 17 (by decide) (by decide +kernel) dX5_swaps_22 (md_o M) rfl ?_
      refine x_bipushV (v := nI 6) G dX5_swaps_25 (by decide) ?_
      refine x_iload_n G dX5_swaps_27 rfl ?_
      refine x_imul G dX5_swaps_28 ?_
      refine x_iload_n G dX5_swaps_29 rfl ?_
      refine x_iadd G dX5_swaps_30 ?_
      refine x_topE (y := nI (6 * i + j)) (by rw [pk_mul, nI_add]) ?_
      refine x_aload_n G dX5_swaps_31 rfl ?_
      refine x_get G kX5 inX5 17 (by decide) (by decide +kernel) dX5_swaps_32 (md_o M) rfl ?_
      refine x_bipushV (v := nI 6) G dX5_swaps_35 (by decide) ?_
      refine x_iload_n G dX5_swaps_37 rfl ?_
      refine x_imul G dX5_swaps_38 ?_
      refine x_iload_n G dX5_swaps_39 rfl ?_
      refine x_iadd G dX5_swaps_40 ?_
      refine x_topE (y := nI (6 * o + j)) (by rw [pk_mul, nI_add]) ?_
      refine x_laldN G dX5_swaps_41 (md_ro M) (by omega) (by decide) ?_
      refine x_lastN G dX5_swaps_42 (md_ro M) (by omega) (by decide) ?_
      have M := md_ro_s M (vp_updL (sw_row ro i o j) (6 * i + j) (sw_row ro i o j (6 * o + j)))
      have F := xF_up (a := b + 11) (e := .inl (dA 1, 36, .inr (.inl (vp_updL (sw_row ro i o j) (6 * i + j) (sw_row ro i o j (6 * o + j)))))) F (by omega) (by omega)
      refine x_aload_n G dX5_swaps_43 rfl ?_
      refine x_get G kX5 inX5 17 (by decide) (by decide +kernel) dX5_swaps_44 (md_o M) rfl ?_
      refine x_bipushV (v := nI 6) G dX5_swaps_47 (by decide) ?_
      refine x_iload_n G dX5_swaps_49 rfl ?_
      refine x_imul G dX5_swaps_50 ?_
      refine x_iload_n G dX5_swaps_51 rfl ?_
      refine x_iadd G dX5_swaps_52 ?_
      refine x_topE (y := nI (6 * o + j)) (by rw [pk_mul, nI_add]) ?_
      refine x_lload G dX5_swaps_53 rfl ?_
      refine x_lastN G dX5_swaps_55 (md_ro M) (by omega) (by decide) ?_
      rw [sw_row_s hj]
      have M := md_ro_s M (sw_row ro i o (j + 1))
      have F := xF_up (a := b + 11) (e := .inl (dA 1, 36, .inr (.inl (sw_row ro i o (j + 1))))) F (by omega) (by omega)
      refine x_iinc G dX5_swaps_56 rfl (by decide) ?_
      refine x_keep [0, 1, 2, 3] ?_
      refine x_locE (lv2 := [(0, .ref b), (1, .int (nI i)), (2, .int (nI o)), (3, .int (nI (j + 1)))]) (by rw [nI_succ j]; rfl) ?_
      refine x_goto G 2 dX5_swaps_59 (by decide) ?_
      exact nx () _ _ ⟨M, F⟩
  · intro _ h1 sz1 hI
    try dsimp only at hI ⊢
    obtain ⟨M, F⟩ := hI
    refine x_iload_n G dX5_swaps_2 rfl ?_
    refine x_bipushV (v := nI 6) G dX5_swaps_3 (by decide) ?_
    refine x_icmp_ge G 62 dX5_swaps_5 (by decide) (fun c_5 => ?_) (fun c_5 => ?_)
    · refine x_aload_n G dX5_swaps_62 rfl ?_
      refine x_get G kX5 inX5 20 (by decide) (by decide +kernel) dX5_swaps_63 (md_o M) rfl ?_
      refine x_iload_n G dX5_swaps_66 rfl ?_
      refine x_laldN G dX5_swaps_67 (md_ov M) hi (by decide) ?_
      refine x_lstore_n G dX5_swaps_68 (by decide) ?_
      refine x_aload_n G dX5_swaps_69 rfl ?_
      refine x_get G kX5 inX5 20 (by decide) (by decide +kernel) dX5_swaps_70 (md_o M) rfl ?_
      refine x_iload_n G dX5_swaps_73 rfl ?_
      refine x_aload_n G dX5_swaps_74 rfl ?_
      refine x_get G kX5 inX5 20 (by decide) (by decide +kernel) dX5_swaps_75 (md_o M) rfl ?_
      refine x_iload_n G dX5_swaps_78 rfl ?_
      refine x_laldN G dX5_swaps_79 (md_ov M) ho (by decide) ?_
      refine x_lastN G dX5_swaps_80 (md_ov M) hi (by decide) ?_
      have M := md_ov_s M (vp_updL ov i (ov o))
      have F := xF_up (a := b + 13) (e := .inl (dA 1, 6, .inr (.inl (vp_updL ov i (ov o))))) F (by omega) (by omega)
      refine x_aload_n G dX5_swaps_81 rfl ?_
      refine x_get G kX5 inX5 20 (by decide) (by decide +kernel) dX5_swaps_82 (md_o M) rfl ?_
      refine x_iload_n G dX5_swaps_85 rfl ?_
      refine x_lload_n G dX5_swaps_86 rfl ?_
      refine x_lastN G dX5_swaps_87 (md_ov M) ho (by decide) ?_
      have M := md_ov_s M (vp_updL (vp_updL ov i (ov o)) o (ov i))
      have F := xF_up (a := b + 13) (e := .inl (dA 1, 6, .inr (.inl (vp_updL (vp_updL ov i (ov o)) o (ov i))))) F (by omega) (by omega)
      exact x_vret G dX5_swaps_88 (hpost _ _ M F)
    · exact absurd (nI_le (Nat.le_refl _) (by omega)) c_5
end
section
theorem inX5_gathers_5 : ∀ w ∈ wsX50, w ∈ wsX5_gathers := by decide +kernel
/-- the least number that is not 0, of those from f on -/
def gl (ov : Nat → Int64) (f : Nat) : Nat → Option Nat
  | 0 => none
  | k + 1 => match gl ov f k with
    | none => if ov (f + k) = 0 then none else some (f + k)
    | some r => if ¬ ov (f + k) = 0 ∧ r_abs (ov (f + k)) < r_abs (ov r) then some (f + k) else some r
theorem gl_lt {ov : Nat → Int64} {f : Nat} : ∀ {k r : Nat}, gl ov f k = some r → f ≤ r ∧ r < f + k ∧ ¬ ov r = 0
  | 0, r, q => by cases q
  | k + 1, r, q => by
    unfold gl at q
    cases hg : gl ov f k with
    | none =>
      rw [hg] at q
      dsimp only at q
      by_cases z : ov (f + k) = 0
      · rw [if_pos z] at q; cases q
      · rw [if_neg z] at q
        cases q
        exact ⟨by omega, by omega, z⟩
    | some r2 =>
      rw [hg] at q
      dsimp only at q
      by_cases z : ¬ ov (f + k) = 0 ∧ r_abs (ov (f + k)) < r_abs (ov r2)
      · rw [if_pos z] at q
        cases q
        exact ⟨by omega, by omega, z.1⟩
      · rw [if_neg z] at q
        cases q
        have := gl_lt hg
        exact ⟨this.1, by omega, this.2.2⟩
def gi (r : Option Nat) : Int32 := match r with
  | none => -1
  | some r => nI r
/-- the rows and numbers behind the first k takings of row f -/
def gtS (ro ov : Nat → Int64) (f : Nat) : Nat → (Nat → Int64) × (Nat → Int64)
  | 0 => (ro, ov)
  | k + 1 => (tk_row (gtS ro ov f k).1 (f + 1 + k) f ((gtS ro ov f k).2 (f + 1 + k) / (gtS ro ov f k).2 f) 6, vp_updL (gtS ro ov f k).2 (f + 1 + k) ((gtS ro ov f k).2 (f + 1 + k) - (gtS ro ov f k).2 (f + 1 + k) / (gtS ro ov f k).2 f * (gtS ro ov f k).2 f))
theorem gtS_f {ro ov : Nat → Int64} {f : Nat} : ∀ k : Nat, (gtS ro ov f k).2 f = ov f
  | 0 => rfl
  | k + 1 => by
    show vp_updL _ _ _ f = _
    rw [pk_uLn (by omega)]
    exact gtS_f k
def gm (ro ov : Nat → Int64) (f : Nat) : Nat → Bool
  | 0 => false
  | k + 1 => gm ro ov f k || !((gtS ro ov f (k + 1)).2 (f + 1 + k) == 0)
def gsw (ov : Nat → Int64) (f r : Nat) : Nat → Int64 := vp_updL (vp_updL ov f (ov r)) r (ov f)
/-- gathers, with fuel -/
def r_ga : Nat → (Nat → Int64) → (Nat → Int64) → Nat → Nat → Option (Bool × (Nat → Int64) × (Nat → Int64))
  | 0, _, _, _, _ => none
  | g + 1, ro, ov, f, n => match gl ov f n with
    | none => some (false, ro, ov)
    | some r => if gm (sw_row ro f r 6) (gsw ov f r) f (n - 1) = true then r_ga g (gtS (sw_row ro f r 6) (gsw ov f r) f (n - 1)).1 (gtS (sw_row ro f r 6) (gsw ov f r) f (n - 1)).2 f n else some (true, (gtS (sw_row ro f r 6) (gsw ov f r) f (n - 1)).1, (gtS (sw_row ro f r 6) (gsw ov f r) f (n - 1)).2)
theorem gsw_f {ov : Nat → Int64} {f r : Nat} : gsw ov f r f = ov r := by
  unfold gsw vp_updL
  by_cases e : f = r
  · rw [if_pos e, e]
  · rw [if_neg e, if_pos rfl]
set_option maxRecDepth 100000 in
set_option maxHeartbeats 4000000 in
/-- gathers -/
theorem c_gathers (l : Launch) (D : va_G) {dA : Nat → ClassId} {b : Nat} {tx : Nat → Int32} {ln : Int32} {fa : Int32} {st : Nat → Int32} {de : Nat → Int32} {dm : Int32} {sd : Int64} {im : Nat → Int32} {se : Nat → Int64} {kp : Nat → Int32} {pl : Int32} {wr : Int32} {dp : Int32} {su : Nat → Int32} {wa : Nat → Int32} {fc : Nat → Int32} {po : Nat → Int32} {ro : Nat → Int64} {fr : Int32} {ch : Nat → Int64} {ov : Nat → Int64} {f n g : Nat} {res : Bool} {ro2 ov2 : Nat → Int64} {h : xH} {sz : Nat} {Post : Option Value → xH → Nat → Prop} (hfn : f + n ≤ 6) (hg : r_ga g ro ov f n = some (res, ro2, ov2)) (M : Md dA h b tx ln fa st de dm sd im se kp pl wr dp su wa fc po ro fr ch ov) (hpost : ∀ (h1 : xH) (sz1 : Nat), Md dA h1 b tx ln fa st de dm sd im se kp pl wr dp su wa fc po ro2 fr ch ov2 → xF b (b + 14) h h1 → Post (some (.int (x_b (res = true)))) h1 sz1) : xMet l yX5_gathers wsX5_gathers 1 25 0 0 D dA [.ref b, .int (nI f), .int (nI n)] h sz Post := by
  refine x_open (cc := cX5_gathers) (maxL := 6) (ret := (some .boolean)) (by decide) rfl (Nat.le_of_ble_eq_true rfl) ?_
  intro p e s m args below meth c G _
  have inX5 : ∀ w ∈ wsX50, w ∈ wsX5_gathers := inX5_gathers_5
  refine x_iconstV (v := nI 1) G dX5_gathers_0 (by decide) ?_
  refine x_istore_n G dX5_gathers_1 (by decide) ?_
  refine x_while (σ := Nat × (Nat → Int64) × (Nat → Int64)) (fun u => [(0, .ref b), (1, .int (nI f)), (2, .int (nI n)), (3, .int (nI 1))]) [] (fun u h1 sz1 => r_ga u.1 u.2.1 u.2.2 f n = some (res, ro2, ov2) ∧ Md dA h1 b tx ln fa st de dm sd im se kp pl wr dp su wa fc po u.2.1 fr ch u.2.2 ∧ xF b (b + 14) h h1) (fun u => u.1) ?_ (g, ro, ov) h sz ⟨hg, M, xF_rf⟩
  intro u h1 sz1 hI nx
  obtain ⟨g0, ro9, ov9⟩ := u
  obtain ⟨hg, M, F⟩ := hI
  obtain ⟨g, rfl⟩ : ∃ g, g0 = g + 1 := by
    cases g0 with
    | zero => cases hg
    | succ g => exact ⟨g, rfl⟩
  dsimp only at hg M nx ⊢
  refine x_iload_n G dX5_gathers_2 rfl ?_
  refine x_if_eq G 152 dX5_gathers_3 (by decide) (fun q => absurd q (by decide)) (fun _ => ?_)
  refine x_iconstV (v := (-1)) G dX5_gathers_6 (by decide) ?_
  refine x_istore G dX5_gathers_7 (by decide) ?_
  refine x_iload_n G dX5_gathers_9 rfl ?_
  refine x_istore G dX5_gathers_10 (by decide) ?_
  refine x_loop (σ := Unit) (fun k _ => [(0, .ref b), (1, .int (nI f)), (2, .int (nI n)), (3, .int (nI 1)), (4, .int (gi (gl ov9 f k))), (5, .int (nI (f + k)))]) n (fun k _ h1 sz1 => Md dA h1 b tx ln fa st de dm sd im se kp pl wr dp su wa fc po ro9 fr ch ov9 ∧ xF b (b + 14) h h1) ?_ ?_ 0 () _ _ (Nat.zero_le _) ⟨M, F⟩
  · intro k _ h1 sz1 hk hI nx
    obtain ⟨M, F⟩ := hI
    rcases hg9 : gl ov9 f k with _ | r
    · try dsimp only
      try rw [hg9]
      refine x_iload G dX5_gathers_12 rfl ?_
      refine x_iload_n G dX5_gathers_14 rfl ?_
      refine x_iload_n G dX5_gathers_15 rfl ?_
      refine x_iadd G dX5_gathers_16 ?_
      refine x_topE (y := nI (f + n)) (by rw [nI_add]) ?_
      refine x_icmp_ge G 71 dX5_gathers_17 (by decide) (fun c_17 => ?_) (fun c_17 => ?_)
      · exact absurd c_17 (nI_ge (by omega) (by omega))
      · refine x_aload_n G dX5_gathers_20 rfl ?_
        refine x_get G kX5 inX5 20 (by decide) (by decide +kernel) dX5_gathers_21 (md_o M) rfl ?_
        refine x_iload G dX5_gathers_24 rfl ?_
        refine x_laldN G dX5_gathers_26 (md_ov M) (by omega) (by decide) ?_
        refine x_lconstV (v := 0) G dX5_gathers_27 (by decide) ?_
        refine x_lcmp G dX5_gathers_28 ?_
        refine x_if_eq G 65 dX5_gathers_29 (by decide) (fun c_29 => ?_) (fun c_29 => ?_)
        · have hgl : gl ov9 f (k + 1) = none := by
            unfold gl
            rw [hg9]
            dsimp only
            rw [if_pos ((x_lgeq _ _).mp c_29)]
          refine x_iinc G dX5_gathers_65 rfl (by decide) ?_
          refine x_locE (lv2 := [(0, .ref b), (1, .int (nI f)), (2, .int (nI n)), (3, .int (nI 1)), (4, .int (gi (gl ov9 f (k + 1)))), (5, .int (nI (f + (k + 1))))]) (by rw [hgl, show f + (k + 1) = f + k + 1 from rfl, nI_succ (f + k)]; rfl) ?_
          refine x_goto G 12 dX5_gathers_68 (by decide) ?_
          exact nx () _ _ ⟨M, F⟩
        · have hgl : gl ov9 f (k + 1) = some (f + k) := by
            unfold gl
            rw [hg9]
            dsimp only
            rw [if_neg (fun q => c_29 ((x_lgeq _ _).mpr q))]
          refine x_iload G dX5_gathers_32 rfl ?_
          refine x_if_lt G 61 dX5_gathers_34 (by decide) (fun c_34 => ?_) (fun c_34 => ?_)
          · refine x_iload G dX5_gathers_61 rfl ?_
            refine x_istore G dX5_gathers_63 (by decide) ?_
            refine x_iinc G dX5_gathers_65 rfl (by decide) ?_
            refine x_locE (lv2 := [(0, .ref b), (1, .int (nI f)), (2, .int (nI n)), (3, .int (nI 1)), (4, .int (gi (gl ov9 f (k + 1)))), (5, .int (nI (f + (k + 1))))]) (by rw [hgl, show f + (k + 1) = f + k + 1 from rfl, nI_succ (f + k)]; rfl) ?_
            refine x_goto G 12 dX5_gathers_68 (by decide) ?_
            exact nx () _ _ ⟨M, F⟩
          · exact absurd (by decide) c_34
    · try dsimp only
      try rw [hg9]
      obtain ⟨hr1, hr2, hr3⟩ := gl_lt hg9
      refine x_iload G dX5_gathers_12 rfl ?_
      refine x_iload_n G dX5_gathers_14 rfl ?_
      refine x_iload_n G dX5_gathers_15 rfl ?_
      refine x_iadd G dX5_gathers_16 ?_
      refine x_topE (y := nI (f + n)) (by rw [nI_add]) ?_
      refine x_icmp_ge G 71 dX5_gathers_17 (by decide) (fun c_17 => ?_) (fun c_17 => ?_)
      · exact absurd c_17 (nI_ge (by omega) (by omega))
      · refine x_aload_n G dX5_gathers_20 rfl ?_
        refine x_get G kX5 inX5 20 (by decide) (by decide +kernel) dX5_gathers_21 (md_o M) rfl ?_
        refine x_iload G dX5_gathers_24 rfl ?_
        refine x_laldN G dX5_gathers_26 (md_ov M) (by omega) (by decide) ?_
        refine x_lconstV (v := 0) G dX5_gathers_27 (by decide) ?_
        refine x_lcmp G dX5_gathers_28 ?_
        refine x_if_eq G 65 dX5_gathers_29 (by decide) (fun c_29 => ?_) (fun c_29 => ?_)
        · have hgl : gl ov9 f (k + 1) = some r := by
            unfold gl
            rw [hg9]
            dsimp only
            rw [if_neg (fun q => q.1 ((x_lgeq _ _).mp c_29))]
          refine x_iinc G dX5_gathers_65 rfl (by decide) ?_
          refine x_locE (lv2 := [(0, .ref b), (1, .int (nI f)), (2, .int (nI n)), (3, .int (nI 1)), (4, .int (gi (gl ov9 f (k + 1)))), (5, .int (nI (f + (k + 1))))]) (by rw [hgl, show f + (k + 1) = f + k + 1 from rfl, nI_succ (f + k)]; rfl) ?_
          refine x_goto G 12 dX5_gathers_68 (by decide) ?_
          exact nx () _ _ ⟨M, F⟩
        · refine x_iload G dX5_gathers_32 rfl ?_
          refine x_if_lt G 61 dX5_gathers_34 (by decide) (fun c_34 => ?_) (fun c_34 => ?_)
          · exact absurd c_34 (nI_pos (by omega))
          · refine x_aload_n G dX5_gathers_37 rfl ?_
            refine x_get G kX5 inX5 20 (by decide) (by decide +kernel) dX5_gathers_38 (md_o M) rfl ?_
            refine x_iload G dX5_gathers_41 rfl ?_
            refine x_laldN G dX5_gathers_43 (md_ov M) (by omega) (by decide) ?_
            refine x_callS (n := 1) (rest := []) (As := [.long (ov9 (f + k))]) G (c_sizeOf (Post := fun r7 h7 sz7 => r7 = some (.long (r_abs (ov9 (f + k)))) ∧ h1 = h7 ∧ sz1 = sz7) l D ⟨rfl, rfl, rfl⟩) gX5_gathers_X5_sizeOf rfl ⟨by decide +kernel, by decide +kernel, by decide +kernel⟩ ⟨by decide, by decide⟩ dX5_gathers_44 rfl rfl (Nat.le_of_ble_eq_true rfl) ⟨by decide, by decide⟩ ?_
            rintro _ _ _ ⟨rfl, rfl, rfl⟩
            try dsimp only [Option.toList, List.cons_append, List.nil_append]
            refine x_aload_n G dX5_gathers_47 rfl ?_
            refine x_get G kX5 inX5 20 (by decide) (by decide +kernel) dX5_gathers_48 (md_o M) rfl ?_
            refine x_iload G dX5_gathers_51 rfl ?_
            refine x_laldN G dX5_gathers_53 (md_ov M) (by omega) (by decide) ?_
            refine x_callS (n := 1) (rest := [.long (r_abs (ov9 (f + k)))]) (As := [.long (ov9 r)]) G (c_sizeOf (Post := fun r7 h7 sz7 => r7 = some (.long (r_abs (ov9 r))) ∧ h1 = h7 ∧ sz1 = sz7) l D ⟨rfl, rfl, rfl⟩) gX5_gathers_X5_sizeOf rfl ⟨by decide +kernel, by decide +kernel, by decide +kernel⟩ ⟨by decide, by decide⟩ dX5_gathers_54 rfl rfl (Nat.le_of_ble_eq_true rfl) ⟨by decide, by decide⟩ ?_
            rintro _ _ _ ⟨rfl, rfl, rfl⟩
            try dsimp only [Option.toList, List.cons_append, List.nil_append]
            refine x_lcmp G dX5_gathers_57 ?_
            refine x_if_ge G 65 dX5_gathers_58 (by decide) (fun c_58 => ?_) (fun c_58 => ?_)
            · have hgl : gl ov9 f (k + 1) = some r := by
                unfold gl
                rw [hg9]
                dsimp only
                rw [if_neg (fun q => Int64.not_le.mpr q.2 ((x_lgge _ _).mp c_58))]
              refine x_iinc G dX5_gathers_65 rfl (by decide) ?_
              refine x_locE (lv2 := [(0, .ref b), (1, .int (nI f)), (2, .int (nI n)), (3, .int (nI 1)), (4, .int (gi (gl ov9 f (k + 1)))), (5, .int (nI (f + (k + 1))))]) (by rw [hgl, show f + (k + 1) = f + k + 1 from rfl, nI_succ (f + k)]; rfl) ?_
              refine x_goto G 12 dX5_gathers_68 (by decide) ?_
              exact nx () _ _ ⟨M, F⟩
            · have hgl : gl ov9 f (k + 1) = some (f + k) := by
                unfold gl
                rw [hg9]
                dsimp only
                rw [if_pos ⟨fun q => c_29 ((x_lgeq _ _).mpr q), Int64.not_le.mp (fun q => c_58 ((x_lgge _ _).mpr q))⟩]
              refine x_iload G dX5_gathers_61 rfl ?_
              refine x_istore G dX5_gathers_63 (by decide) ?_
              refine x_iinc G dX5_gathers_65 rfl (by decide) ?_
              refine x_locE (lv2 := [(0, .ref b), (1, .int (nI f)), (2, .int (nI n)), (3, .int (nI 1)), (4, .int (gi (gl ov9 f (k + 1)))), (5, .int (nI (f + (k + 1))))]) (by rw [hgl, show f + (k + 1) = f + k + 1 from rfl, nI_succ (f + k)]; rfl) ?_
              refine x_goto G 12 dX5_gathers_68 (by decide) ?_
              exact nx () _ _ ⟨M, F⟩
  · intro _ h1 sz1 hI
    obtain ⟨M, F⟩ := hI
    try dsimp only
    refine x_iload G dX5_gathers_12 rfl ?_
    refine x_iload_n G dX5_gathers_14 rfl ?_
    refine x_iload_n G dX5_gathers_15 rfl ?_
    refine x_iadd G dX5_gathers_16 ?_
    refine x_topE (y := nI (f + n)) (by rw [nI_add]) ?_
    refine x_icmp_ge G 71 dX5_gathers_17 (by decide) (fun c_17 => ?_) (fun c_17 => ?_)
    · rcases hr : gl ov9 f n with _ | r
      · try rw [hr]
        refine x_iload G dX5_gathers_71 rfl ?_
        refine x_if_ge G 78 dX5_gathers_73 (by decide) (fun q => absurd q (by decide)) (fun _ => ?_)
        refine x_iconstV (v := 0) G dX5_gathers_76 (by decide) ?_
        unfold r_ga at hg
        rw [hr] at hg
        cases hg
        exact x_zret G dX5_gathers_77 rfl (hpost _ _ M F)
      · try rw [hr]
        obtain ⟨hr1, hr2, hr3⟩ := gl_lt hr
        refine x_iload G dX5_gathers_71 rfl ?_
        refine x_if_ge G 78 dX5_gathers_73 (by decide) (fun _ => ?_) (fun q => absurd (nI_pos' (by omega)) q)
        refine x_aload_n G dX5_gathers_78 rfl ?_
        refine x_iload_n G dX5_gathers_79 rfl ?_
        refine x_iload G dX5_gathers_80 rfl ?_
        refine x_callV (n := 2) (rest := []) (As := [.int (nI f), .int (nI r)]) G (ci := 5) (c_swaps (Post := fun r2 h2 sz2 => r2 = none ∧ Md dA h2 b tx ln fa st de dm sd im se kp pl wr dp su wa fc po (sw_row ro9 f r 6) fr ch (gsw ov9 f r) ∧ xF b (b + 14) h1 h2) (i := f) (o := r) l D (by omega) (by omega) M (fun h2 sz2 q1 q2 => ⟨rfl, q1, q2⟩)) gX5_gathers_X5_swaps rfl ⟨rfl, by decide +kernel, by decide +kernel, by decide +kernel⟩ ⟨by decide, by decide⟩ rfl rfl (md_o M) dX5_gathers_82 rfl rfl (Nat.le_of_ble_eq_true rfl) ⟨by decide, by decide⟩ ?_
        rintro _ h2 sz2 ⟨rfl, q1, q2⟩
        try dsimp only [Option.toList, List.cons_append, List.nil_append]
        have M := q1
        have F := xF_tr F q2
        refine x_iconstV (v := nI 0) G dX5_gathers_85 (by decide) ?_
        refine x_istore_n G dX5_gathers_86 (by decide) ?_
        refine x_iload_n G dX5_gathers_87 rfl ?_
        refine x_iconstV (v := nI 1) G dX5_gathers_88 (by decide) ?_
        refine x_iadd G dX5_gathers_89 ?_
        refine x_topE (y := nI (f + 1)) (nI_1 f) ?_
        refine x_istore G dX5_gathers_90 (by decide) ?_
        have hne : ¬ gsw ov9 f r f = 0 := by rw [gsw_f]; exact hr3
        generalize hro1 : sw_row ro9 f r 6 = ro1 at M hg
        generalize hov1 : gsw ov9 f r = ov1 at M hg hne
        refine x_loop (σ := Unit) (fun k _ => [(0, .ref b), (1, .int (nI f)), (2, .int (nI n)), (3, .int (x_b (gm ro1 ov1 f k = true))), (4, .int (nI r)), (5, .int (nI (f + 1 + k)))]) (n - 1) (fun k _ h1 sz1 => Md dA h1 b tx ln fa st de dm sd im se kp pl wr dp su wa fc po ((gtS ro1 ov1 f k).1) fr ch ((gtS ro1 ov1 f k).2) ∧ xF b (b + 14) h h1) ?_ ?_ 0 () _ _ (Nat.zero_le _) ⟨M, F⟩
        · intro k _ h1 sz1 hk hI nx2
          obtain ⟨M, F⟩ := hI
          refine x_iload G dX5_gathers_92 rfl ?_
          refine x_iload_n G dX5_gathers_94 rfl ?_
          refine x_iload_n G dX5_gathers_95 rfl ?_
          refine x_iadd G dX5_gathers_96 ?_
          refine x_topE (y := nI (f + n)) (by rw [nI_add]) ?_
          refine x_icmp_ge G 149 dX5_gathers_97 (by decide) (fun c_97 => ?_) (fun c_97 => ?_)
          · exact absurd c_97 (nI_ge (by omega) (by omega))
          · refine x_aload_n G dX5_gathers_100 rfl ?_
            refine x_iload G dX5_gathers_101 rfl ?_
            refine x_iload_n G dX5_gathers_103 rfl ?_
            refine x_aload_n G dX5_gathers_104 rfl ?_
            refine x_get G kX5 inX5 20 (by decide) (by decide +kernel) dX5_gathers_105 (md_o M) rfl ?_
            refine x_iload G dX5_gathers_108 rfl ?_
            refine x_laldN G dX5_gathers_110 (md_ov M) (by omega) (by decide) ?_
            refine x_aload_n G dX5_gathers_111 rfl ?_
            refine x_get G kX5 inX5 20 (by decide) (by decide +kernel) dX5_gathers_112 (md_o M) rfl ?_
            refine x_iload_n G dX5_gathers_115 rfl ?_
            refine x_laldN G dX5_gathers_116 (md_ov M) (by omega) (by decide) ?_
            refine x_ldiv G dX5_gathers_117 (by rw [gtS_f]; exact hne) ?_
            refine x_callV (n := 3) (rest := []) (As := [.int (nI (f + 1 + k)), .int (nI f), .long ((gtS ro1 ov1 f k).2 (f + 1 + k) / (gtS ro1 ov1 f k).2 f)]) G (ci := 5) (c_takes (Post := fun r2 h2 sz2 => r2 = none ∧ Md dA h2 b tx ln fa st de dm sd im se kp pl wr dp su wa fc po ((gtS ro1 ov1 f (k + 1)).1) fr ch ((gtS ro1 ov1 f (k + 1)).2) ∧ xF b (b + 14) h1 h2) (i := f + 1 + k) (o := f) l D (by omega) (by omega) M (fun h2 sz2 q1 q2 => ⟨rfl, q1, q2⟩)) gX5_gathers_X5_takes rfl ⟨rfl, by decide +kernel, by decide +kernel, by decide +kernel⟩ ⟨by decide, by decide⟩ rfl rfl (md_o M) dX5_gathers_118 rfl rfl (Nat.le_of_ble_eq_true rfl) ⟨by decide, by decide⟩ ?_
            rintro _ h2 sz2 ⟨rfl, q1, q2⟩
            try dsimp only [Option.toList, List.cons_append, List.nil_append]
            have M := q1
            have F := xF_tr F q2
            refine x_iload_n G dX5_gathers_121 rfl ?_
            refine x_if_ne G 137 dX5_gathers_122 (by decide) (fun c_122 => ?_) (fun c_122 => ?_)
            · have hgm : x_b (gm ro1 ov1 f (k + 1) = true) = nI 1 := by
                rw [x_b_t ?_]
                · rfl
                · show (gm ro1 ov1 f k || _) = true
                  rw [Bool.or_eq_true]
                  left
                  exact x_b_n.mp c_122
              refine x_iconstV (v := nI 1) G dX5_gathers_137 (by decide) ?_
              refine x_goto G 142 dX5_gathers_138 (by decide) ?_
              refine x_istore_n G dX5_gathers_142 (by decide) ?_
              refine x_iinc G dX5_gathers_143 rfl (by decide) ?_
              refine x_locE (lv2 := [(0, .ref b), (1, .int (nI f)), (2, .int (nI n)), (3, .int (x_b (gm ro1 ov1 f (k + 1) = true))), (4, .int (nI r)), (5, .int (nI (f + 1 + (k + 1))))]) (by rw [hgm, show f + 1 + (k + 1) = f + 1 + k + 1 from rfl, nI_succ (f + 1 + k)]; rfl) ?_
              refine x_goto G 92 dX5_gathers_146 (by decide) ?_
              exact nx2 () _ _ ⟨M, F⟩
            · refine x_aload_n G dX5_gathers_125 rfl ?_
              refine x_get G kX5 inX5 20 (by decide) (by decide +kernel) dX5_gathers_126 (md_o M) rfl ?_
              refine x_iload G dX5_gathers_129 rfl ?_
              refine x_laldN G dX5_gathers_131 (md_ov M) (by omega) (by decide) ?_
              refine x_lconstV (v := 0) G dX5_gathers_132 (by decide) ?_
              refine x_lcmp G dX5_gathers_133 ?_
              refine x_if_eq G 141 dX5_gathers_134 (by decide) (fun c_134 => ?_) (fun c_134 => ?_)
              · have hgm : x_b (gm ro1 ov1 f (k + 1) = true) = nI 0 := by
                  rw [x_b_f (fun z => ?_)]
                  · rfl
                  · replace z : (gm ro1 ov1 f k || !((gtS ro1 ov1 f (k + 1)).2 (f + 1 + k) == 0)) = true := z
                    rw [Bool.or_eq_true] at z
                    rcases z with z | z
                    · exact absurd z (x_b_0.mp c_122)
                    · rw [(x_lgeq _ _).mp c_134] at z
                      exact absurd z (by decide)
                refine x_iconstV (v := nI 0) G dX5_gathers_141 (by decide) ?_
                refine x_istore_n G dX5_gathers_142 (by decide) ?_
                refine x_iinc G dX5_gathers_143 rfl (by decide) ?_
                refine x_locE (lv2 := [(0, .ref b), (1, .int (nI f)), (2, .int (nI n)), (3, .int (x_b (gm ro1 ov1 f (k + 1) = true))), (4, .int (nI r)), (5, .int (nI (f + 1 + (k + 1))))]) (by rw [hgm, show f + 1 + (k + 1) = f + 1 + k + 1 from rfl, nI_succ (f + 1 + k)]; rfl) ?_
                refine x_goto G 92 dX5_gathers_146 (by decide) ?_
                exact nx2 () _ _ ⟨M, F⟩
              · have hgm : x_b (gm ro1 ov1 f (k + 1) = true) = nI 1 := by
                  rw [x_b_t ?_]
                  · rfl
                  · show (gm ro1 ov1 f k || !((gtS ro1 ov1 f (k + 1)).2 (f + 1 + k) == 0)) = true
                    rw [Bool.or_eq_true]
                    right
                    rw [Bool.not_eq_true', beq_eq_false_iff_ne]
                    exact fun q => c_134 ((x_lgeq _ _).mpr q)
                refine x_iconstV (v := nI 1) G dX5_gathers_137 (by decide) ?_
                refine x_goto G 142 dX5_gathers_138 (by decide) ?_
                refine x_istore_n G dX5_gathers_142 (by decide) ?_
                refine x_iinc G dX5_gathers_143 rfl (by decide) ?_
                refine x_locE (lv2 := [(0, .ref b), (1, .int (nI f)), (2, .int (nI n)), (3, .int (x_b (gm ro1 ov1 f (k + 1) = true))), (4, .int (nI r)), (5, .int (nI (f + 1 + (k + 1))))]) (by rw [hgm, show f + 1 + (k + 1) = f + 1 + k + 1 from rfl, nI_succ (f + 1 + k)]; rfl) ?_
                refine x_goto G 92 dX5_gathers_146 (by decide) ?_
                exact nx2 () _ _ ⟨M, F⟩
        · intro _ h1 sz1 hI
          obtain ⟨M, F⟩ := hI
          refine x_iload G dX5_gathers_92 rfl ?_
          refine x_iload_n G dX5_gathers_94 rfl ?_
          refine x_iload_n G dX5_gathers_95 rfl ?_
          refine x_iadd G dX5_gathers_96 ?_
          refine x_topE (y := nI (f + n)) (by rw [nI_add]) ?_
          refine x_icmp_ge G 149 dX5_gathers_97 (by decide) (fun c_97 => ?_) (fun c_97 => ?_)
          · refine x_goto G 2 dX5_gathers_149 (by decide) ?_
            rw [show r_ga (g + 1) ro9 ov9 f n = _ from rfl] at hg
            unfold r_ga at hg
            rw [hr] at hg
            dsimp only at hg
            rw [hro1, hov1] at hg
            by_cases z : gm ro1 ov1 f (n - 1) = true
            · rw [if_pos z] at hg
              refine x_keep [0, 1, 2, 3] ?_
              refine x_locE (lv2 := [(0, .ref b), (1, .int (nI f)), (2, .int (nI n)), (3, .int (nI 1))]) (by rw [x_b_t z]; rfl) ?_
              exact nx (g, (gtS ro1 ov1 f (n - 1)).1, (gtS ro1 ov1 f (n - 1)).2) _ _ ⟨hg, M, F⟩ (by dsimp only; omega)
            · rw [if_neg z] at hg
              cases hg
              refine x_iload_n G dX5_gathers_2 rfl ?_
              refine x_if_eq G 152 dX5_gathers_3 (by decide) (fun _ => ?_) (fun q => absurd (x_b_f z) q)
              refine x_iconstV (v := 1) G dX5_gathers_152 (by decide) ?_
              exact x_zret G dX5_gathers_153 rfl (hpost _ _ M F)
          · exact absurd (nI_le (by omega) (by omega)) c_97
    · exact absurd (nI_le (Nat.le_refl _) (by omega)) c_17
end
section
/-- z and the products of ints and longs, j of them, from the left on -/
def r_dot (z : Int64) (p : Nat → Int32) (a : Nat) (r : Nat → Int64) (q : Nat) : Nat → Int64
  | 0 => z
  | j + 1 => r_dot z p a r q j + (p (a + j)).toInt64 * r (q + j)
theorem inX5_sumOf_5 : ∀ w ∈ wsX50, w ∈ wsX5_sumOf := by decide +kernel
set_option maxRecDepth 100000 in
set_option maxHeartbeats 4000000 in
/-- sumOf -/
theorem c_sumOf (l : Launch) (D : va_G) {dA : Nat → ClassId} {b a n q i : Nat} {po1 : Nat → Int32} {tx : Nat → Int32} {ln : Int32} {fa : Int32} {st : Nat → Int32} {de : Nat → Int32} {dm : Int32} {sd : Int64} {im : Nat → Int32} {se : Nat → Int64} {kp : Nat → Int32} {pl : Int32} {wr : Int32} {dp : Int32} {su : Nat → Int32} {wa : Nat → Int32} {fc : Nat → Int32} {po : Nat → Int32} {ro : Nat → Int64} {fr : Int32} {ch : Nat → Int64} {ov : Nat → Int64} {h : xH} {sz : Nat} {Post : Option Value → xH → Nat → Prop} (hi : i < 6) (hq : q + 6 ≤ n) (hn : n < 2000) (hp : h a = some (.inl (dA 0, n, .inl po1))) (M : Md dA h b tx ln fa st de dm sd im se kp pl wr dp su wa fc po ro fr ch ov) (hpost : Post (some (.long (r_dot 0 po1 q ro (6 * i) 6))) h sz) : xMet l yX5_sumOf wsX5_sumOf 0 0 0 0 D dA [.ref b, .ref a, .int (nI q), .int (nI i)] h sz Post := by
  refine x_open (cc := cX5_sumOf) (maxL := 7) (ret := (some .long)) (by decide) rfl (Nat.le_of_ble_eq_true rfl) ?_
  intro p e s m args below meth c G _
  have inX5 : ∀ w ∈ wsX50, w ∈ wsX5_sumOf := inX5_sumOf_5
  refine x_lconstV (v := 0) G dX5_sumOf_0 (by decide) ?_
  refine x_lstore G dX5_sumOf_1 (by decide) ?_
  refine x_iconstV (v := nI 0) G dX5_sumOf_3 (by decide) ?_
  refine x_istore G dX5_sumOf_4 (by decide) ?_
  refine x_loop (σ := Unit) (fun j _ => [(0, .ref b), (1, .ref a), (2, .int (nI q)), (3, .int (nI i)), (4, .long (r_dot 0 po1 q ro (6 * i) j)), (6, .int (nI j))]) 6 (fun j _ h1 sz1 => h = h1 ∧ sz = sz1) ?_ ?_ 0 () h sz (Nat.zero_le _) ⟨rfl, rfl⟩
  · intro j _ h1 sz1 hj hI nx
    try dsimp only at hI nx ⊢
    obtain ⟨rfl, rfl⟩ := hI
    refine x_iload G dX5_sumOf_6 rfl ?_
    refine x_bipushV (v := nI 6) G dX5_sumOf_8 (by decide) ?_
    refine x_icmp_ge G 44 dX5_sumOf_10 (by decide) (fun c_10 => ?_) (fun c_10 => ?_)
    · exact absurd c_10 (nI_ge hj (by omega))
    · refine x_lload G dX5_sumOf_13 rfl ?_
      refine x_aload_n G dX5_sumOf_15 rfl ?_
      refine x_iload_n G dX5_sumOf_16 rfl ?_
      refine x_iload G dX5_sumOf_17 rfl ?_
      refine x_iadd G dX5_sumOf_19 ?_
      refine x_topE (y := nI (q + j)) (by rw [nI_add]) ?_
      refine x_ialdN G dX5_sumOf_20 hp (by omega) (by omega) ?_
      refine x_i2l G dX5_sumOf_21 ?_
      refine x_aload_n G dX5_sumOf_22 rfl ?_
      refine x_get G kX5 inX5 17 (by decide) (by decide +kernel) dX5_sumOf_23 (md_o M) rfl ?_
      refine x_bipushV (v := nI 6) G dX5_sumOf_26 (by decide) ?_
      refine x_iload_n G dX5_sumOf_28 rfl ?_
      refine x_imul G dX5_sumOf_29 ?_
      refine x_iload G dX5_sumOf_30 rfl ?_
      refine x_iadd G dX5_sumOf_32 ?_
      refine x_topE (y := nI (6 * i + j)) (by rw [pk_mul, nI_add]) ?_
      refine x_laldN G dX5_sumOf_33 (md_ro M) (by omega) (by decide) ?_
      refine x_lmul G dX5_sumOf_34 ?_
      refine x_ladd G dX5_sumOf_35 ?_
      refine x_lstore G dX5_sumOf_36 (by decide) ?_
      refine x_iinc G dX5_sumOf_38 rfl (by decide) ?_
      refine x_locE (lv2 := [(0, .ref b), (1, .ref a), (2, .int (nI q)), (3, .int (nI i)), (4, .long (r_dot 0 po1 q ro (6 * i) (j + 1))), (6, .int (nI (j + 1)))]) (by rw [nI_succ j]; rfl) ?_
      refine x_goto G 6 dX5_sumOf_41 (by decide) ?_
      exact nx () _ _ ⟨rfl, rfl⟩
  · intro _ h1 sz1 hI
    try dsimp only at hI ⊢
    obtain ⟨rfl, rfl⟩ := hI
    refine x_iload G dX5_sumOf_6 rfl ?_
    refine x_bipushV (v := nI 6) G dX5_sumOf_8 (by decide) ?_
    refine x_icmp_ge G 44 dX5_sumOf_10 (by decide) (fun c_10 => ?_) (fun c_10 => ?_)
    · refine x_lload G dX5_sumOf_44 rfl ?_
      exact x_lret G dX5_sumOf_46 hpost
    · exact absurd (nI_le (Nat.le_refl _) (by omega)) c_10
theorem inX5_restOf_5 : ∀ w ∈ wsX50, w ∈ wsX5_restOf := by decide +kernel
set_option maxRecDepth 100000 in
set_option maxHeartbeats 4000000 in
/-- restOf -/
theorem c_restOf (l : Launch) (D : va_G) {dA : Nat → ClassId} {b a n q i : Nat} {po1 : Nat → Int32} {tx : Nat → Int32} {ln : Int32} {fa : Int32} {st : Nat → Int32} {de : Nat → Int32} {dm : Int32} {sd : Int64} {im : Nat → Int32} {se : Nat → Int64} {kp : Nat → Int32} {pl : Int32} {wr : Int32} {dp : Int32} {su : Nat → Int32} {wa : Nat → Int32} {fc : Nat → Int32} {po : Nat → Int32} {ro : Nat → Int64} {fr : Int32} {ch : Nat → Int64} {ov : Nat → Int64} {h : xH} {sz : Nat} {Post : Option Value → xH → Nat → Prop} (hi : i < 4) (hq : q + 10 ≤ n) (hn : n < 2000) (hp : h a = some (.inl (dA 0, n, .inl po1))) (M : Md dA h b tx ln fa st de dm sd im se kp pl wr dp su wa fc po ro fr ch ov) (hpost : Post (some (.long (r_dot (po1 (q + 6 + i)).toInt64 po1 q ch (6 * i) 6))) h sz) : xMet l yX5_restOf wsX5_restOf 0 0 0 0 D dA [.ref b, .ref a, .int (nI q), .int (nI i)] h sz Post := by
  refine x_open (cc := cX5_restOf) (maxL := 7) (ret := (some .long)) (by decide) rfl (Nat.le_of_ble_eq_true rfl) ?_
  intro p e s m args below meth c G _
  have inX5 : ∀ w ∈ wsX50, w ∈ wsX5_restOf := inX5_restOf_5
  refine x_aload_n G dX5_restOf_0 rfl ?_
  refine x_iload_n G dX5_restOf_1 rfl ?_
  refine x_bipushV (v := nI 6) G dX5_restOf_2 (by decide) ?_
  refine x_iadd G dX5_restOf_4 ?_
  refine x_iload_n G dX5_restOf_5 rfl ?_
  refine x_iadd G dX5_restOf_6 ?_
  refine x_topE (y := nI (q + 6 + i)) (by rw [nI_add, nI_add]) ?_
  refine x_ialdN G dX5_restOf_7 hp (by omega) (by omega) ?_
  refine x_i2l G dX5_restOf_8 ?_
  refine x_lstore G dX5_restOf_9 (by decide) ?_
  refine x_iconstV (v := nI 0) G dX5_restOf_11 (by decide) ?_
  refine x_istore G dX5_restOf_12 (by decide) ?_
  refine x_loop (σ := Unit) (fun j _ => [(0, .ref b), (1, .ref a), (2, .int (nI q)), (3, .int (nI i)), (4, .long (r_dot (po1 (q + 6 + i)).toInt64 po1 q ch (6 * i) j)), (6, .int (nI j))]) 6 (fun j _ h1 sz1 => h = h1 ∧ sz = sz1) ?_ ?_ 0 () h sz (Nat.zero_le _) ⟨rfl, rfl⟩
  · intro j _ h1 sz1 hj hI nx
    try dsimp only at hI nx ⊢
    obtain ⟨rfl, rfl⟩ := hI
    refine x_iload G dX5_restOf_14 rfl ?_
    refine x_bipushV (v := nI 6) G dX5_restOf_16 (by decide) ?_
    refine x_icmp_ge G 52 dX5_restOf_18 (by decide) (fun c_18 => ?_) (fun c_18 => ?_)
    · exact absurd c_18 (nI_ge hj (by omega))
    · refine x_lload G dX5_restOf_21 rfl ?_
      refine x_aload_n G dX5_restOf_23 rfl ?_
      refine x_iload_n G dX5_restOf_24 rfl ?_
      refine x_iload G dX5_restOf_25 rfl ?_
      refine x_iadd G dX5_restOf_27 ?_
      refine x_topE (y := nI (q + j)) (by rw [nI_add]) ?_
      refine x_ialdN G dX5_restOf_28 hp (by omega) (by omega) ?_
      refine x_i2l G dX5_restOf_29 ?_
      refine x_aload_n G dX5_restOf_30 rfl ?_
      refine x_get G kX5 inX5 19 (by decide) (by decide +kernel) dX5_restOf_31 (md_o M) rfl ?_
      refine x_bipushV (v := nI 6) G dX5_restOf_34 (by decide) ?_
      refine x_iload_n G dX5_restOf_36 rfl ?_
      refine x_imul G dX5_restOf_37 ?_
      refine x_iload G dX5_restOf_38 rfl ?_
      refine x_iadd G dX5_restOf_40 ?_
      refine x_topE (y := nI (6 * i + j)) (by rw [pk_mul, nI_add]) ?_
      refine x_laldN G dX5_restOf_41 (md_ch M) (by omega) (by decide) ?_
      refine x_lmul G dX5_restOf_42 ?_
      refine x_ladd G dX5_restOf_43 ?_
      refine x_lstore G dX5_restOf_44 (by decide) ?_
      refine x_iinc G dX5_restOf_46 rfl (by decide) ?_
      refine x_locE (lv2 := [(0, .ref b), (1, .ref a), (2, .int (nI q)), (3, .int (nI i)), (4, .long (r_dot (po1 (q + 6 + i)).toInt64 po1 q ch (6 * i) (j + 1))), (6, .int (nI (j + 1)))]) (by rw [nI_succ j]; rfl) ?_
      refine x_goto G 14 dX5_restOf_49 (by decide) ?_
      exact nx () _ _ ⟨rfl, rfl⟩
  · intro _ h1 sz1 hI
    try dsimp only at hI ⊢
    obtain ⟨rfl, rfl⟩ := hI
    refine x_iload G dX5_restOf_14 rfl ?_
    refine x_bipushV (v := nI 6) G dX5_restOf_16 (by decide) ?_
    refine x_icmp_ge G 52 dX5_restOf_18 (by decide) (fun c_18 => ?_) (fun c_18 => ?_)
    · refine x_lload G dX5_restOf_52 rfl ?_
      exact x_lret G dX5_restOf_54 hpost
    · exact absurd (nI_le (Nat.le_refl _) (by omega)) c_18
theorem inX5_headOf_5 : ∀ w ∈ wsX50, w ∈ wsX5_headOf := by decide +kernel
/-- the first place from j on, of k, where it is not 0 -/
def r_hd (r : Nat → Int64) (q : Nat) : Nat → Nat → Nat
  | j, 0 => j
  | j, k + 1 => if r (q + j) = 0 then r_hd r q (j + 1) k else j
set_option maxRecDepth 100000 in
set_option maxHeartbeats 4000000 in
/-- headOf -/
theorem c_headOf (l : Launch) (D : va_G) {dA : Nat → ClassId} {b i : Nat} {tx : Nat → Int32} {ln : Int32} {fa : Int32} {st : Nat → Int32} {de : Nat → Int32} {dm : Int32} {sd : Int64} {im : Nat → Int32} {se : Nat → Int64} {kp : Nat → Int32} {pl : Int32} {wr : Int32} {dp : Int32} {su : Nat → Int32} {wa : Nat → Int32} {fc : Nat → Int32} {po : Nat → Int32} {ro : Nat → Int64} {fr : Int32} {ch : Nat → Int64} {ov : Nat → Int64} {h : xH} {sz : Nat} {Post : Option Value → xH → Nat → Prop} (hi : i < 6) (M : Md dA h b tx ln fa st de dm sd im se kp pl wr dp su wa fc po ro fr ch ov) (hpost : Post (some (.int (nI (r_hd ro (6 * i) 0 6)))) h sz) : xMet l yX5_headOf wsX5_headOf 0 0 0 0 D dA [.ref b, .int (nI i)] h sz Post := by
  refine x_open (cc := cX5_headOf) (maxL := 3) (ret := (some .int)) (by decide) rfl (Nat.le_of_ble_eq_true rfl) ?_
  intro p e s m args below meth c G _
  have inX5 : ∀ w ∈ wsX50, w ∈ wsX5_headOf := inX5_headOf_5
  refine x_iconstV (v := nI 0) G dX5_headOf_0 (by decide) ?_
  refine x_istore_n G dX5_headOf_1 (by decide) ?_
  refine x_while (σ := Nat) (fun u => [(0, .ref b), (1, .int (nI i)), (2, .int (nI u))]) [] (fun u h1 sz1 => u ≤ 6 ∧ r_hd ro (6 * i) u (6 - u) = r_hd ro (6 * i) 0 6 ∧ h = h1 ∧ sz = sz1) (fun u => 6 - u) ?_ 0 h sz ⟨by omega, rfl, rfl, rfl⟩
  intro u h1 sz1 hI nx
  obtain ⟨hu6, hI, rfl, rfl⟩ := hI
  refine x_iload_n G dX5_headOf_2 rfl ?_
  refine x_bipushV (v := nI 6) G dX5_headOf_3 (by decide) ?_
  refine x_icmp_ge G 30 dX5_headOf_5 (by decide) (fun c_5 => ?_) (fun c_5 => ?_)
  · have hu : u = 6 := by
      rcases Nat.lt_or_ge u 6 with z | z
      · exact absurd c_5 (nI_ge z (by decide))
      · omega
    subst hu
    have e : r_hd ro (6 * i) 0 6 = 6 := hI.symm
    rw [e] at hpost
    refine x_iload_n G dX5_headOf_30 rfl ?_
    exact x_iret G dX5_headOf_31 hpost
  · have hu : u < 6 := by
      rcases Nat.lt_or_ge u 6 with z | z
      · exact z
      · exact absurd (nI_le z (by omega)) c_5
    refine x_aload_n G dX5_headOf_8 rfl ?_
    refine x_get G kX5 inX5 17 (by decide) (by decide +kernel) dX5_headOf_9 (md_o M) rfl ?_
    refine x_bipushV (v := nI 6) G dX5_headOf_12 (by decide) ?_
    refine x_iload_n G dX5_headOf_14 rfl ?_
    refine x_imul G dX5_headOf_15 ?_
    refine x_iload_n G dX5_headOf_16 rfl ?_
    refine x_iadd G dX5_headOf_17 ?_
    refine x_topE (y := nI (6 * i + u)) (by rw [pk_mul, nI_add]) ?_
    refine x_laldN G dX5_headOf_18 (md_ro M) (by omega) (by decide) ?_
    refine x_lconstV (v := 0) G dX5_headOf_19 (by decide) ?_
    refine x_lcmp G dX5_headOf_20 ?_
    refine x_if_ne G 30 dX5_headOf_21 (by decide) (fun c_21 => ?_) (fun c_21 => ?_)
    · have e : r_hd ro (6 * i) u (6 - u) = u := by
        rw [show 6 - u = (5 - u) + 1 by omega]
        unfold r_hd
        rw [if_neg (fun z => c_21 ((x_lgeq _ _).mpr z))]
      rw [← hI, e] at hpost
      refine x_iload_n G dX5_headOf_30 rfl ?_
      exact x_iret G dX5_headOf_31 hpost
    · have e : r_hd ro (6 * i) u (6 - u) = r_hd ro (6 * i) (u + 1) (6 - (u + 1)) := by
        rw [show 6 - u = (6 - (u + 1)) + 1 by omega]
        show (if ro (6 * i + u) = 0 then _ else _) = _
        rw [if_pos ((x_lgeq _ _).mp c_21)]
      refine x_iinc G dX5_headOf_24 rfl (by decide) ?_
      refine x_locE (lv2 := [(0, .ref b), (1, .int (nI i)), (2, .int (nI (u + 1)))]) (by rw [nI_succ u]; rfl) ?_
      refine x_goto G 2 dX5_headOf_27 (by decide) ?_
      exact nx (u + 1) _ _ ⟨by omega, by rw [← e]; exact hI, rfl, rfl⟩ (by omega)
theorem inX5_startsFree_5 : ∀ w ∈ wsX50, w ∈ wsX5_startsFree := by decide +kernel
def r_id (r : Nat → Int64) (n : Nat) : Nat → Int64 := fun k => if k < n then (if k % 7 = 0 then 1 else 0) else r k
def r_ze (r : Nat → Int64) (n : Nat) : Nat → Int64 := fun k => if k < n then 0 else r k
theorem r_id_0 (r : Nat → Int64) : r_id r 0 = r := by
  funext k
  unfold r_id
  rw [if_neg (by omega)]
theorem r_ze_0 (r : Nat → Int64) : r_ze r 0 = r := by
  funext k
  unfold r_ze
  rw [if_neg (by omega)]
theorem r_id_s {r : Nat → Int64} {n : Nat} {x : Int64} (hx : x = if n % 7 = 0 then 1 else 0) : vp_updL (r_id r n) n x = r_id r (n + 1) := by
  funext k
  unfold vp_updL r_id
  by_cases e : k = n
  · subst e
    rw [if_pos rfl, if_pos (by omega), hx]
  · rw [if_neg e]
    by_cases e2 : k < n
    · rw [if_pos e2, if_pos (show k < n + 1 by omega)]
    · rw [if_neg e2, if_neg (show ¬ k < n + 1 by omega)]
theorem r_ze_s {r : Nat → Int64} {n : Nat} : vp_updL (r_ze r n) n 0 = r_ze r (n + 1) := by
  funext k
  unfold vp_updL r_ze
  by_cases e : k = n
  · subst e
    rw [if_pos rfl, if_pos (by omega)]
  · rw [if_neg e]
    by_cases e2 : k < n
    · rw [if_pos e2, if_pos (by omega)]
    · rw [if_neg e2, if_neg (by omega)]
set_option maxRecDepth 100000 in
set_option maxHeartbeats 4000000 in
/-- startsFree -/
theorem c_startsFree (l : Launch) (D : va_G) {dA : Nat → ClassId} {b : Nat} {tx : Nat → Int32} {ln : Int32} {fa : Int32} {st : Nat → Int32} {de : Nat → Int32} {dm : Int32} {sd : Int64} {im : Nat → Int32} {se : Nat → Int64} {kp : Nat → Int32} {pl : Int32} {wr : Int32} {dp : Int32} {su : Nat → Int32} {wa : Nat → Int32} {fc : Nat → Int32} {po : Nat → Int32} {ro : Nat → Int64} {fr : Int32} {ch : Nat → Int64} {ov : Nat → Int64} {h : xH} {sz : Nat} {Post : Option Value → xH → Nat → Prop} (M : Md dA h b tx ln fa st de dm sd im se kp pl wr dp su wa fc po ro fr ch ov) (hpost : ∀ (h1 : xH) (sz1 : Nat), Md dA h1 b tx ln fa st de dm sd im se kp pl wr dp su wa fc po (r_id ro 36) (nI 6) (r_ze ch 24) ov → xF b (b + 14) h h1 → Post none h1 sz1) : xMet l yX5_startsFree wsX5_startsFree 0 0 0 0 D dA [.ref b] h sz Post := by
  refine x_open (cc := cX5_startsFree) (maxL := 2) (ret := none) (by decide) rfl (Nat.le_of_ble_eq_true rfl) ?_
  intro p e s m args below meth c G _
  have inX5 : ∀ w ∈ wsX50, w ∈ wsX5_startsFree := inX5_startsFree_5
  have F := xF_rf (lo := b) (hi := b + 14) (h := h)
  refine x_aload_n G dX5_startsFree_0 rfl ?_
  refine x_bipushV (v := nI 6) G dX5_startsFree_1 (by decide) ?_
  refine x_put G kX5 inX5 18 (by decide) (by decide +kernel) rfl dX5_startsFree_3 (md_o M) rfl rfl (Nat.le_of_ble_eq_true rfl) ?_
  have M := md_fr_s M (nI 6)
  have F := xF_up (a := b) (e := .inr (5, List.set [.ref (b + 1), .int (ln), .int (fa), .ref (b + 2), .ref (b + 3), .int (dm), .long (sd), .ref (b + 4), .ref (b + 5), .ref (b + 6), .int (pl), .int (wr), .int (dp), .ref (b + 7), .ref (b + 8), .ref (b + 9), .ref (b + 10), .ref (b + 11), .int (fr), .ref (b + 12), .ref (b + 13)] 18 (.int (nI 6)))) F (by omega) (by omega)
  refine x_iconstV (v := nI 0) G dX5_startsFree_6 (by decide) ?_
  refine x_istore_n G dX5_startsFree_7 (by decide) ?_
  refine x_loop (σ := Unit) (fun j _ => [(0, .ref b), (1, .int (nI j))]) 36 (fun j _ h1 sz1 => Md dA h1 b tx ln fa st de dm sd im se kp pl wr dp su wa fc po (r_id ro j) (nI 6) ch ov ∧ xF b (b + 14) h h1) ?_ ?_ 0 () _ _ (Nat.zero_le _) ⟨by rw [r_id_0]; exact M, F⟩
  · intro j _ h1 sz1 hj hI nx
    try dsimp only at hI nx ⊢
    obtain ⟨M, F⟩ := hI
    refine x_iload_n G dX5_startsFree_8 rfl ?_
    refine x_bipushV (v := nI 36) G dX5_startsFree_9 (by decide) ?_
    refine x_icmp_ge G 38 dX5_startsFree_11 (by decide) (fun c_11 => ?_) (fun c_11 => ?_)
    · exact absurd c_11 (nI_ge hj (by omega))
    · refine x_aload_n G dX5_startsFree_14 rfl ?_
      refine x_get G kX5 inX5 17 (by decide) (by decide +kernel) dX5_startsFree_15 (md_o M) rfl ?_
      refine x_iload_n G dX5_startsFree_18 rfl ?_
      refine x_iload_n G dX5_startsFree_19 rfl ?_
      refine x_bipushV (v := nI 7) G dX5_startsFree_20 (by decide) ?_
      refine x_irem G dX5_startsFree_22 (by decide) ?_
      refine x_topE (y := nI (j % 7)) (pk_rem (by omega) (by decide) (by decide)) ?_
      refine x_if_ne G 30 dX5_startsFree_23 (by decide) (fun c_23 => ?_) (fun c_23 => ?_)
      · have hx : (0 : Int64) = if j % 7 = 0 then 1 else 0 := by
          rw [if_neg (fun z => c_23 (by rw [z]; rfl))]
        refine x_lconstV (v := 0) G dX5_startsFree_30 (by decide) ?_
        refine x_lastN G dX5_startsFree_31 (md_ro M) (by omega) (by decide) ?_
        rw [r_id_s hx]
        have M := md_ro_s M (r_id ro (j + 1))
        have F := xF_up (a := b + 11) (e := .inl (dA 1, 36, .inr (.inl (r_id ro (j + 1))))) F (by omega) (by omega)
        refine x_iinc G dX5_startsFree_32 rfl (by decide) ?_
        refine x_locE (lv2 := [(0, .ref b), (1, .int (nI (j + 1)))]) (by rw [nI_succ j]; rfl) ?_
        refine x_goto G 8 dX5_startsFree_35 (by decide) ?_
        exact nx () _ _ ⟨M, F⟩
      · have hx : (1 : Int64) = if j % 7 = 0 then 1 else 0 := by
          rw [if_pos]
          rcases Nat.eq_zero_or_pos (j % 7) with z | z
          · exact z
          · exact absurd c_23 (nI_ne0 z (by omega))
        refine x_lconstV (v := 1) G dX5_startsFree_26 (by decide) ?_
        refine x_goto G 31 dX5_startsFree_27 (by decide) ?_
        refine x_lastN G dX5_startsFree_31 (md_ro M) (by omega) (by decide) ?_
        rw [r_id_s hx]
        have M := md_ro_s M (r_id ro (j + 1))
        have F := xF_up (a := b + 11) (e := .inl (dA 1, 36, .inr (.inl (r_id ro (j + 1))))) F (by omega) (by omega)
        refine x_iinc G dX5_startsFree_32 rfl (by decide) ?_
        refine x_locE (lv2 := [(0, .ref b), (1, .int (nI (j + 1)))]) (by rw [nI_succ j]; rfl) ?_
        refine x_goto G 8 dX5_startsFree_35 (by decide) ?_
        exact nx () _ _ ⟨M, F⟩
  · intro _ h1 sz1 hI
    try dsimp only at hI ⊢
    obtain ⟨M, F⟩ := hI
    refine x_iload_n G dX5_startsFree_8 rfl ?_
    refine x_bipushV (v := nI 36) G dX5_startsFree_9 (by decide) ?_
    refine x_icmp_ge G 38 dX5_startsFree_11 (by decide) (fun c_11 => ?_) (fun c_11 => ?_)
    · refine x_iconstV (v := nI 0) G dX5_startsFree_38 (by decide) ?_
      refine x_istore_n G dX5_startsFree_39 (by decide) ?_
      refine x_loop (σ := Unit) (fun j _ => [(0, .ref b), (1, .int (nI j))]) 24 (fun j _ h1 sz1 => Md dA h1 b tx ln fa st de dm sd im se kp pl wr dp su wa fc po (r_id ro 36) (nI 6) (r_ze ch j) ov ∧ xF b (b + 14) h h1) ?_ ?_ 0 () _ _ (Nat.zero_le _) ⟨by rw [r_ze_0]; exact M, F⟩
      · intro j _ h1 sz1 hj hI nx
        try dsimp only at hI nx ⊢
        obtain ⟨M, F⟩ := hI
        refine x_iload_n G dX5_startsFree_40 rfl ?_
        refine x_bipushV (v := nI 24) G dX5_startsFree_41 (by decide) ?_
        refine x_icmp_ge G 59 dX5_startsFree_43 (by decide) (fun c_43 => ?_) (fun c_43 => ?_)
        · exact absurd c_43 (nI_ge hj (by omega))
        · refine x_aload_n G dX5_startsFree_46 rfl ?_
          refine x_get G kX5 inX5 19 (by decide) (by decide +kernel) dX5_startsFree_47 (md_o M) rfl ?_
          refine x_iload_n G dX5_startsFree_50 rfl ?_
          refine x_lconstV (v := 0) G dX5_startsFree_51 (by decide) ?_
          refine x_lastN G dX5_startsFree_52 (md_ch M) (by omega) (by decide) ?_
          rw [r_ze_s]
          have M := md_ch_s M (r_ze ch (j + 1))
          have F := xF_up (a := b + 12) (e := .inl (dA 1, 24, .inr (.inl (r_ze ch (j + 1))))) F (by omega) (by omega)
          refine x_iinc G dX5_startsFree_53 rfl (by decide) ?_
          refine x_locE (lv2 := [(0, .ref b), (1, .int (nI (j + 1)))]) (by rw [nI_succ j]; rfl) ?_
          refine x_goto G 40 dX5_startsFree_56 (by decide) ?_
          exact nx () _ _ ⟨M, F⟩
      · intro _ h1 sz1 hI
        try dsimp only at hI ⊢
        obtain ⟨M, F⟩ := hI
        refine x_iload_n G dX5_startsFree_40 rfl ?_
        refine x_bipushV (v := nI 24) G dX5_startsFree_41 (by decide) ?_
        refine x_icmp_ge G 59 dX5_startsFree_43 (by decide) (fun c_43 => ?_) (fun c_43 => ?_)
        · exact x_vret G dX5_startsFree_59 (hpost _ _ M F)
        · exact absurd (nI_le (Nat.le_refl _) (by omega)) c_43
    · exact absurd (nI_le (Nat.le_refl _) (by omega)) c_11
end
