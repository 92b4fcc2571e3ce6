section
-- ===== PART A: goes FIRST, ahead of the names: the tables' words, and 'selects' of the private methods out of them =====
/-- a private method of a class that the tables say can be made, by its rows of tables_1 -/
def lw_okq (q : MethodName × Nat) : Prop := (q.1.cls ≠ "java/lang/invoke/MethodHandle" ∧ q.1.cls ≠ "java/lang/invoke/VarHandle") ∧ Cond.instantiable q.1.cls q.2 ∈ tables_1 ∧ Cond.privateMethod q.1 ∈ tables_1 ∧ Cond.instanceMethod q.1 ∈ tables_1
theorem lw_p0 : lw_okq (⟨"DumplingBand$Scroll", "expect", "(I)V"⟩, 4) := ⟨⟨by decide +kernel, by decide +kernel⟩, List.mem_of_getElem? (i := 20) (by decide +kernel), List.mem_of_getElem? (i := 246) (by decide +kernel), List.mem_of_getElem? (i := 247) (by decide +kernel)⟩
theorem lw_p1 : lw_okq (⟨"DumplingBand$Scroll", "peek", "()I"⟩, 4) := ⟨⟨by decide +kernel, by decide +kernel⟩, List.mem_of_getElem? (i := 20) (by decide +kernel), List.mem_of_getElem? (i := 250) (by decide +kernel), List.mem_of_getElem? (i := 251) (by decide +kernel)⟩
theorem lw_p2 : lw_okq (⟨"DumplingBand$Scroll", "figure", "(II)I"⟩, 4) := ⟨⟨by decide +kernel, by decide +kernel⟩, List.mem_of_getElem? (i := 20) (by decide +kernel), List.mem_of_getElem? (i := 254) (by decide +kernel), List.mem_of_getElem? (i := 255) (by decide +kernel)⟩
theorem lw_p3 : lw_okq (⟨"DumplingBand$Scroll", "readPart", "(LDumplingBand$Road;)V"⟩, 4) := ⟨⟨by decide +kernel, by decide +kernel⟩, List.mem_of_getElem? (i := 20) (by decide +kernel), List.mem_of_getElem? (i := 258) (by decide +kernel), List.mem_of_getElem? (i := 259) (by decide +kernel)⟩
theorem lw_p4 : lw_okq (⟨"DumplingBand$Scroll", "readBeast", "(LDumplingBand$Road;)V"⟩, 4) := ⟨⟨by decide +kernel, by decide +kernel⟩, List.mem_of_getElem? (i := 20) (by decide +kernel), List.mem_of_getElem? (i := 262) (by decide +kernel), List.mem_of_getElem? (i := 263) (by decide +kernel)⟩
theorem lw_p5 : lw_okq (⟨"DumplingBand$Scroll", "readEnemies", "(LDumplingBand$Road;)V"⟩, 4) := ⟨⟨by decide +kernel, by decide +kernel⟩, List.mem_of_getElem? (i := 20) (by decide +kernel), List.mem_of_getElem? (i := 290) (by decide +kernel), List.mem_of_getElem? (i := 291) (by decide +kernel)⟩
theorem lw_p6 : lw_okq (⟨"DumplingBand$Scroll", "figureOf", "(I)I"⟩, 4) := ⟨⟨by decide +kernel, by decide +kernel⟩, List.mem_of_getElem? (i := 20) (by decide +kernel), List.mem_of_getElem? (i := 295) (by decide +kernel), List.mem_of_getElem? (i := 296) (by decide +kernel)⟩
theorem lw_p7 : lw_okq (⟨"DumplingBand$Scroll", "readGate", "(LDumplingBand$Road;)V"⟩, 4) := ⟨⟨by decide +kernel, by decide +kernel⟩, List.mem_of_getElem? (i := 20) (by decide +kernel), List.mem_of_getElem? (i := 304) (by decide +kernel), List.mem_of_getElem? (i := 305) (by decide +kernel)⟩
theorem lw_p8 : lw_okq (⟨"DumplingBand$Road", "sumOf", "([II)I"⟩, 10) := ⟨⟨by decide +kernel, by decide +kernel⟩, List.mem_of_getElem? (i := 41) (by decide +kernel), List.mem_of_getElem? (i := 332) (by decide +kernel), List.mem_of_getElem? (i := 333) (by decide +kernel)⟩
theorem lw_p9 : lw_okq (⟨"DumplingBand$March", "mostGiven", "()I"⟩, 7) := ⟨⟨by decide +kernel, by decide +kernel⟩, List.mem_of_getElem? (i := 98) (by decide +kernel), List.mem_of_getElem? (i := 362) (by decide +kernel), List.mem_of_getElem? (i := 363) (by decide +kernel)⟩
theorem lw_p10 : lw_okq (⟨"DumplingBand$Acts", "placeOf", "(I)I"⟩, 3) := ⟨⟨by decide +kernel, by decide +kernel⟩, List.mem_of_getElem? (i := 132) (by decide +kernel), List.mem_of_getElem? (i := 396) (by decide +kernel), List.mem_of_getElem? (i := 397) (by decide +kernel)⟩
theorem lw_p11 : lw_okq (⟨"DumplingBand$March", "quarrel", "(I)I"⟩, 7) := ⟨⟨by decide +kernel, by decide +kernel⟩, List.mem_of_getElem? (i := 98) (by decide +kernel), List.mem_of_getElem? (i := 409) (by decide +kernel), List.mem_of_getElem? (i := 410) (by decide +kernel)⟩
theorem lw_p12 : lw_okq (⟨"DumplingBand", "isToCome", "(I)Z"⟩, 14) := ⟨⟨by decide +kernel, by decide +kernel⟩, List.mem_of_getElem? (i := 12) (by decide +kernel), List.mem_of_getElem? (i := 460) (by decide +kernel), List.mem_of_getElem? (i := 461) (by decide +kernel)⟩
theorem lw_p13 : lw_okq (⟨"DumplingBand", "costOfTaking", "(I)I"⟩, 14) := ⟨⟨by decide +kernel, by decide +kernel⟩, List.mem_of_getElem? (i := 12) (by decide +kernel), List.mem_of_getElem? (i := 468) (by decide +kernel), List.mem_of_getElem? (i := 469) (by decide +kernel)⟩
theorem lw_p14 : lw_okq (⟨"DumplingBand$Rows", "waysOf", "(LDumplingBand$Road;I)I"⟩, 1) := ⟨⟨by decide +kernel, by decide +kernel⟩, List.mem_of_getElem? (i := 169) (by decide +kernel), List.mem_of_getElem? (i := 506) (by decide +kernel), List.mem_of_getElem? (i := 507) (by decide +kernel)⟩
theorem lw_p15 : lw_okq (⟨"DumplingBand$Rows", "isContent", "(LDumplingBand$Road;II)Z"⟩, 1) := ⟨⟨by decide +kernel, by decide +kernel⟩, List.mem_of_getElem? (i := 169) (by decide +kernel), List.mem_of_getElem? (i := 510) (by decide +kernel), List.mem_of_getElem? (i := 511) (by decide +kernel)⟩
def lw_privs_1 : List (MethodName × Nat) := [(⟨"DumplingBand$Scroll", "expect", "(I)V"⟩, 4), (⟨"DumplingBand$Scroll", "peek", "()I"⟩, 4), (⟨"DumplingBand$Scroll", "figure", "(II)I"⟩, 4), (⟨"DumplingBand$Scroll", "readPart", "(LDumplingBand$Road;)V"⟩, 4), (⟨"DumplingBand$Scroll", "readBeast", "(LDumplingBand$Road;)V"⟩, 4), (⟨"DumplingBand$Scroll", "readEnemies", "(LDumplingBand$Road;)V"⟩, 4), (⟨"DumplingBand$Scroll", "figureOf", "(I)I"⟩, 4), (⟨"DumplingBand$Scroll", "readGate", "(LDumplingBand$Road;)V"⟩, 4), (⟨"DumplingBand$Road", "sumOf", "([II)I"⟩, 10), (⟨"DumplingBand$March", "mostGiven", "()I"⟩, 7), (⟨"DumplingBand$Acts", "placeOf", "(I)I"⟩, 3), (⟨"DumplingBand$March", "quarrel", "(I)I"⟩, 7), (⟨"DumplingBand", "isToCome", "(I)Z"⟩, 14), (⟨"DumplingBand", "costOfTaking", "(I)I"⟩, 14), (⟨"DumplingBand$Rows", "waysOf", "(LDumplingBand$Road;I)I"⟩, 1), (⟨"DumplingBand$Rows", "isContent", "(LDumplingBand$Road;II)Z"⟩, 1)]
theorem lw_r1 : ∀ q ∈ lw_privs_1, lw_okq q := List.forall_mem_cons.mpr ⟨lw_p0, List.forall_mem_cons.mpr ⟨lw_p1, List.forall_mem_cons.mpr ⟨lw_p2, List.forall_mem_cons.mpr ⟨lw_p3, List.forall_mem_cons.mpr ⟨lw_p4, List.forall_mem_cons.mpr ⟨lw_p5, List.forall_mem_cons.mpr ⟨lw_p6, List.forall_mem_cons.mpr ⟨lw_p7, List.forall_mem_cons.mpr ⟨lw_p8, List.forall_mem_cons.mpr ⟨lw_p9, List.forall_mem_cons.mpr ⟨lw_p10, List.forall_mem_cons.mpr ⟨lw_p11, List.forall_mem_cons.mpr ⟨lw_p12, List.forall_mem_cons.mpr ⟨lw_p13, List.forall_mem_cons.mpr ⟨lw_p14, List.forall_mem_cons.mpr ⟨lw_p15, fun _ h => absurd h List.not_mem_nil⟩⟩⟩⟩⟩⟩⟩⟩⟩⟩⟩⟩⟩⟩⟩⟩
theorem lw_p16 : lw_okq (⟨"DumplingBand$Ferry", "enter", "(II)V"⟩, 3) := ⟨⟨by decide +kernel, by decide +kernel⟩, List.mem_of_getElem? (i := 152) (by decide +kernel), List.mem_of_getElem? (i := 554) (by decide +kernel), List.mem_of_getElem? (i := 555) (by decide +kernel)⟩
theorem lw_p17 : lw_okq (⟨"DumplingBand$Ferry", "rowFrom", "(LDumplingBand$Road;III)V"⟩, 3) := ⟨⟨by decide +kernel, by decide +kernel⟩, List.mem_of_getElem? (i := 152) (by decide +kernel), List.mem_of_getElem? (i := 558) (by decide +kernel), List.mem_of_getElem? (i := 559) (by decide +kernel)⟩
theorem lw_p18 : lw_okq (⟨"DumplingBand", "shareOf", "(II)I"⟩, 14) := ⟨⟨by decide +kernel, by decide +kernel⟩, List.mem_of_getElem? (i := 12) (by decide +kernel), List.mem_of_getElem? (i := 574) (by decide +kernel), List.mem_of_getElem? (i := 575) (by decide +kernel)⟩
theorem lw_p19 : lw_okq (⟨"DumplingBand", "isAsTold", "(I)Z"⟩, 14) := ⟨⟨by decide +kernel, by decide +kernel⟩, List.mem_of_getElem? (i := 12) (by decide +kernel), List.mem_of_getElem? (i := 590) (by decide +kernel), List.mem_of_getElem? (i := 591) (by decide +kernel)⟩
theorem lw_p20 : lw_okq (⟨"DumplingBandModel", "readRoad", "()I"⟩, 28) := ⟨⟨by decide +kernel, by decide +kernel⟩, List.mem_of_getElem? (i := 629) (by decide +kernel), List.mem_of_getElem? (i := 736) (by decide +kernel), List.mem_of_getElem? (i := 737) (by decide +kernel)⟩
theorem lw_p21 : lw_okq (⟨"DumplingBandModel", "figure", "(II)I"⟩, 28) := ⟨⟨by decide +kernel, by decide +kernel⟩, List.mem_of_getElem? (i := 629) (by decide +kernel), List.mem_of_getElem? (i := 740) (by decide +kernel), List.mem_of_getElem? (i := 741) (by decide +kernel)⟩
theorem lw_p22 : lw_okq (⟨"DumplingBandModel", "readPart", "()Z"⟩, 28) := ⟨⟨by decide +kernel, by decide +kernel⟩, List.mem_of_getElem? (i := 629) (by decide +kernel), List.mem_of_getElem? (i := 744) (by decide +kernel), List.mem_of_getElem? (i := 745) (by decide +kernel)⟩
theorem lw_p23 : lw_okq (⟨"DumplingBandModel", "hasOpen", "()Z"⟩, 28) := ⟨⟨by decide +kernel, by decide +kernel⟩, List.mem_of_getElem? (i := 629) (by decide +kernel), List.mem_of_getElem? (i := 748) (by decide +kernel), List.mem_of_getElem? (i := 749) (by decide +kernel)⟩
theorem lw_p24 : lw_okq (⟨"DumplingBandModel", "openOf", "(I)I"⟩, 28) := ⟨⟨by decide +kernel, by decide +kernel⟩, List.mem_of_getElem? (i := 629) (by decide +kernel), List.mem_of_getElem? (i := 752) (by decide +kernel), List.mem_of_getElem? (i := 753) (by decide +kernel)⟩
theorem lw_p25 : lw_okq (⟨"DumplingBandModel", "readBeast", "()Z"⟩, 28) := ⟨⟨by decide +kernel, by decide +kernel⟩, List.mem_of_getElem? (i := 629) (by decide +kernel), List.mem_of_getElem? (i := 756) (by decide +kernel), List.mem_of_getElem? (i := 757) (by decide +kernel)⟩
theorem lw_p26 : lw_okq (⟨"DumplingBandModel", "readEnemies", "()Z"⟩, 28) := ⟨⟨by decide +kernel, by decide +kernel⟩, List.mem_of_getElem? (i := 629) (by decide +kernel), List.mem_of_getElem? (i := 760) (by decide +kernel), List.mem_of_getElem? (i := 761) (by decide +kernel)⟩
theorem lw_p27 : lw_okq (⟨"DumplingBandModel", "readGate", "()Z"⟩, 28) := ⟨⟨by decide +kernel, by decide +kernel⟩, List.mem_of_getElem? (i := 629) (by decide +kernel), List.mem_of_getElem? (i := 767) (by decide +kernel), List.mem_of_getElem? (i := 768) (by decide +kernel)⟩
theorem lw_p28 : lw_okq (⟨"DumplingBandModel", "strengthOf", "(I)I"⟩, 28) := ⟨⟨by decide +kernel, by decide +kernel⟩, List.mem_of_getElem? (i := 629) (by decide +kernel), List.mem_of_getElem? (i := 779) (by decide +kernel), List.mem_of_getElem? (i := 780) (by decide +kernel)⟩
theorem lw_p29 : lw_okq (⟨"DumplingBandModel", "skillsOf", "(I)I"⟩, 28) := ⟨⟨by decide +kernel, by decide +kernel⟩, List.mem_of_getElem? (i := 629) (by decide +kernel), List.mem_of_getElem? (i := 783) (by decide +kernel), List.mem_of_getElem? (i := 784) (by decide +kernel)⟩
theorem lw_p30 : lw_okq (⟨"DumplingBandModel", "noBeast", "(I)Z"⟩, 28) := ⟨⟨by decide +kernel, by decide +kernel⟩, List.mem_of_getElem? (i := 629) (by decide +kernel), List.mem_of_getElem? (i := 791) (by decide +kernel), List.mem_of_getElem? (i := 792) (by decide +kernel)⟩
theorem lw_p31 : lw_okq (⟨"DumplingBandModel", "asks", "([II)I"⟩, 28) := ⟨⟨by decide +kernel, by decide +kernel⟩, List.mem_of_getElem? (i := 629) (by decide +kernel), List.mem_of_getElem? (i := 796) (by decide +kernel), List.mem_of_getElem? (i := 797) (by decide +kernel)⟩
def lw_privs_2 : List (MethodName × Nat) := [(⟨"DumplingBand$Ferry", "enter", "(II)V"⟩, 3), (⟨"DumplingBand$Ferry", "rowFrom", "(LDumplingBand$Road;III)V"⟩, 3), (⟨"DumplingBand", "shareOf", "(II)I"⟩, 14), (⟨"DumplingBand", "isAsTold", "(I)Z"⟩, 14), (⟨"DumplingBandModel", "readRoad", "()I"⟩, 28), (⟨"DumplingBandModel", "figure", "(II)I"⟩, 28), (⟨"DumplingBandModel", "readPart", "()Z"⟩, 28), (⟨"DumplingBandModel", "hasOpen", "()Z"⟩, 28), (⟨"DumplingBandModel", "openOf", "(I)I"⟩, 28), (⟨"DumplingBandModel", "readBeast", "()Z"⟩, 28), (⟨"DumplingBandModel", "readEnemies", "()Z"⟩, 28), (⟨"DumplingBandModel", "readGate", "()Z"⟩, 28), (⟨"DumplingBandModel", "strengthOf", "(I)I"⟩, 28), (⟨"DumplingBandModel", "skillsOf", "(I)I"⟩, 28), (⟨"DumplingBandModel", "noBeast", "(I)Z"⟩, 28), (⟨"DumplingBandModel", "asks", "([II)I"⟩, 28)]
theorem lw_r2 : ∀ q ∈ lw_privs_2, lw_okq q := List.forall_mem_cons.mpr ⟨lw_p16, List.forall_mem_cons.mpr ⟨lw_p17, List.forall_mem_cons.mpr ⟨lw_p18, List.forall_mem_cons.mpr ⟨lw_p19, List.forall_mem_cons.mpr ⟨lw_p20, List.forall_mem_cons.mpr ⟨lw_p21, List.forall_mem_cons.mpr ⟨lw_p22, List.forall_mem_cons.mpr ⟨lw_p23, List.forall_mem_cons.mpr ⟨lw_p24, List.forall_mem_cons.mpr ⟨lw_p25, List.forall_mem_cons.mpr ⟨lw_p26, List.forall_mem_cons.mpr ⟨lw_p27, List.forall_mem_cons.mpr ⟨lw_p28, List.forall_mem_cons.mpr ⟨lw_p29, List.forall_mem_cons.mpr ⟨lw_p30, List.forall_mem_cons.mpr ⟨lw_p31, fun _ h => absurd h List.not_mem_nil⟩⟩⟩⟩⟩⟩⟩⟩⟩⟩⟩⟩⟩⟩⟩⟩
theorem lw_p32 : lw_okq (⟨"DumplingBandModel", "noGate", "(I)Z"⟩, 28) := ⟨⟨by decide +kernel, by decide +kernel⟩, List.mem_of_getElem? (i := 629) (by decide +kernel), List.mem_of_getElem? (i := 804) (by decide +kernel), List.mem_of_getElem? (i := 805) (by decide +kernel)⟩
theorem lw_p33 : lw_okq (⟨"DumplingBandModel", "canGive", "([I)Z"⟩, 28) := ⟨⟨by decide +kernel, by decide +kernel⟩, List.mem_of_getElem? (i := 629) (by decide +kernel), List.mem_of_getElem? (i := 812) (by decide +kernel), List.mem_of_getElem? (i := 813) (by decide +kernel)⟩
theorem lw_p34 : lw_okq (⟨"DumplingBandModel", "note", "()V"⟩, 28) := ⟨⟨by decide +kernel, by decide +kernel⟩, List.mem_of_getElem? (i := 629) (by decide +kernel), List.mem_of_getElem? (i := 816) (by decide +kernel), List.mem_of_getElem? (i := 817) (by decide +kernel)⟩
theorem lw_p35 : lw_okq (⟨"DumplingBandModel", "goGive", "([I)I"⟩, 28) := ⟨⟨by decide +kernel, by decide +kernel⟩, List.mem_of_getElem? (i := 629) (by decide +kernel), List.mem_of_getElem? (i := 820) (by decide +kernel), List.mem_of_getElem? (i := 821) (by decide +kernel)⟩
theorem lw_p36 : lw_okq (⟨"DumplingBandModel", "goDusk", "([I)I"⟩, 28) := ⟨⟨by decide +kernel, by decide +kernel⟩, List.mem_of_getElem? (i := 629) (by decide +kernel), List.mem_of_getElem? (i := 832) (by decide +kernel), List.mem_of_getElem? (i := 833) (by decide +kernel)⟩
theorem lw_p37 : lw_okq (⟨"DumplingBandModel", "canOpen", "([I)Z"⟩, 28) := ⟨⟨by decide +kernel, by decide +kernel⟩, List.mem_of_getElem? (i := 629) (by decide +kernel), List.mem_of_getElem? (i := 840) (by decide +kernel), List.mem_of_getElem? (i := 841) (by decide +kernel)⟩
theorem lw_p38 : lw_okq (⟨"DumplingBandModel", "opens", "(II)Z"⟩, 28) := ⟨⟨by decide +kernel, by decide +kernel⟩, List.mem_of_getElem? (i := 629) (by decide +kernel), List.mem_of_getElem? (i := 844) (by decide +kernel), List.mem_of_getElem? (i := 845) (by decide +kernel)⟩
theorem lw_p39 : lw_okq (⟨"DumplingBandModel", "noSet", "(I)Z"⟩, 28) := ⟨⟨by decide +kernel, by decide +kernel⟩, List.mem_of_getElem? (i := 629) (by decide +kernel), List.mem_of_getElem? (i := 856) (by decide +kernel), List.mem_of_getElem? (i := 857) (by decide +kernel)⟩
theorem lw_p40 : lw_okq (⟨"DumplingBandModel", "take", "(I)I"⟩, 28) := ⟨⟨by decide +kernel, by decide +kernel⟩, List.mem_of_getElem? (i := 629) (by decide +kernel), List.mem_of_getElem? (i := 861) (by decide +kernel), List.mem_of_getElem? (i := 862) (by decide +kernel)⟩
theorem lw_p41 : lw_okq (⟨"DumplingBandModel", "begin", "()V"⟩, 28) := ⟨⟨by decide +kernel, by decide +kernel⟩, List.mem_of_getElem? (i := 629) (by decide +kernel), List.mem_of_getElem? (i := 865) (by decide +kernel), List.mem_of_getElem? (i := 866) (by decide +kernel)⟩
theorem lw_p42 : lw_okq (⟨"DumplingBandModel", "mayCome", "(II)Z"⟩, 28) := ⟨⟨by decide +kernel, by decide +kernel⟩, List.mem_of_getElem? (i := 629) (by decide +kernel), List.mem_of_getElem? (i := 892) (by decide +kernel), List.mem_of_getElem? (i := 893) (by decide +kernel)⟩
theorem lw_p43 : lw_okq (⟨"DumplingBandModel", "hasSkill", "(II)Z"⟩, 28) := ⟨⟨by decide +kernel, by decide +kernel⟩, List.mem_of_getElem? (i := 629) (by decide +kernel), List.mem_of_getElem? (i := 908) (by decide +kernel), List.mem_of_getElem? (i := 909) (by decide +kernel)⟩
theorem lw_p44 : lw_okq (⟨"DumplingBandModel", "isQuiet", "(I)Z"⟩, 28) := ⟨⟨by decide +kernel, by decide +kernel⟩, List.mem_of_getElem? (i := 629) (by decide +kernel), List.mem_of_getElem? (i := 926) (by decide +kernel), List.mem_of_getElem? (i := 927) (by decide +kernel)⟩
theorem lw_p45 : lw_okq (⟨"DumplingBandModel", "shareOf", "(II)I"⟩, 28) := ⟨⟨by decide +kernel, by decide +kernel⟩, List.mem_of_getElem? (i := 629) (by decide +kernel), List.mem_of_getElem? (i := 935) (by decide +kernel), List.mem_of_getElem? (i := 936) (by decide +kernel)⟩
def lw_privs_3 : List (MethodName × Nat) := [(⟨"DumplingBandModel", "noGate", "(I)Z"⟩, 28), (⟨"DumplingBandModel", "canGive", "([I)Z"⟩, 28), (⟨"DumplingBandModel", "note", "()V"⟩, 28), (⟨"DumplingBandModel", "goGive", "([I)I"⟩, 28), (⟨"DumplingBandModel", "goDusk", "([I)I"⟩, 28), (⟨"DumplingBandModel", "canOpen", "([I)Z"⟩, 28), (⟨"DumplingBandModel", "opens", "(II)Z"⟩, 28), (⟨"DumplingBandModel", "noSet", "(I)Z"⟩, 28), (⟨"DumplingBandModel", "take", "(I)I"⟩, 28), (⟨"DumplingBandModel", "begin", "()V"⟩, 28), (⟨"DumplingBandModel", "mayCome", "(II)Z"⟩, 28), (⟨"DumplingBandModel", "hasSkill", "(II)Z"⟩, 28), (⟨"DumplingBandModel", "isQuiet", "(I)Z"⟩, 28), (⟨"DumplingBandModel", "shareOf", "(II)I"⟩, 28)]
theorem lw_r3 : ∀ q ∈ lw_privs_3, lw_okq q := List.forall_mem_cons.mpr ⟨lw_p32, List.forall_mem_cons.mpr ⟨lw_p33, List.forall_mem_cons.mpr ⟨lw_p34, List.forall_mem_cons.mpr ⟨lw_p35, List.forall_mem_cons.mpr ⟨lw_p36, List.forall_mem_cons.mpr ⟨lw_p37, List.forall_mem_cons.mpr ⟨lw_p38, List.forall_mem_cons.mpr ⟨lw_p39, List.forall_mem_cons.mpr ⟨lw_p40, List.forall_mem_cons.mpr ⟨lw_p41, List.forall_mem_cons.mpr ⟨lw_p42, List.forall_mem_cons.mpr ⟨lw_p43, List.forall_mem_cons.mpr ⟨lw_p44, List.forall_mem_cons.mpr ⟨lw_p45, fun _ h => absurd h List.not_mem_nil⟩⟩⟩⟩⟩⟩⟩⟩⟩⟩⟩⟩⟩⟩
def lw_privs : List (MethodName × Nat) := lw_privs_1 ++ (lw_privs_2 ++ (lw_privs_3))
def lw_tbl : List Cond := k2_sels lw_privs ++ tables_1
theorem lw_privs_ok : ∀ q ∈ lw_privs, lw_okq q := by
  show ∀ q ∈ lw_privs_1 ++ (lw_privs_2 ++ (lw_privs_3)), lw_okq q
  exact List.forall_mem_append.mpr ⟨lw_r1, List.forall_mem_append.mpr ⟨lw_r2, lw_r3⟩⟩
end
section
/-! the program as lists: classes, methods, instructions with what they link, and that the tables say so -/
def mj_T0 : u_T := fun k => match k with
  | 0 => ("DumplingBand$Acts", "before", "[LDumplingBand$March;", true)
  | 1 => ("DumplingBand$Acts", "oldest", "I", false)
  | _ => ("DumplingBand$Acts", "count", "I", false)
def mj_T1 : u_T := fun k => match k with
  | 0 => ("DumplingBand$Ferry", "trips", "[I", true)
  | 1 => ("DumplingBand$Ferry", "queue", "[I", true)
  | _ => ("DumplingBand$Ferry", "queued", "I", false)
def mj_T2 : u_T := fun k => match k with
  | 0 => ("DumplingBand$March", "road", "LDumplingBand$Road;", true)
  | 1 => ("DumplingBand$March", "pouch", "I", false)
  | 2 => ("DumplingBand$March", "band", "I", false)
  | 3 => ("DumplingBand$March", "day", "I", false)
  | 4 => ("DumplingBand$March", "next", "I", false)
  | 5 => ("DumplingBand$March", "opened", "I", false)
  | _ => ("DumplingBand$March", "given", "[I", true)
def mj_T3 : u_T := fun k => match k with
  | 0 => ("DumplingBand$Road", "dumplings", "I", false)
  | 1 => ("DumplingBand$Road", "beasts", "I", false)
  | 2 => ("DumplingBand$Road", "gates", "I", false)
  | 3 => ("DumplingBand$Road", "kind", "[I", true)
  | 4 => ("DumplingBand$Road", "price", "[I", true)
  | 5 => ("DumplingBand$Road", "strength", "[I", true)
  | 6 => ("DumplingBand$Road", "skill", "[I", true)
  | 7 => ("DumplingBand$Road", "enemies", "[I", true)
  | 8 => ("DumplingBand$Road", "gateSkill", "[I", true)
  | _ => ("DumplingBand$Road", "gateStrength", "[I", true)
def mj_T4 : u_T := fun k => match k with
  | _ => ("DumplingBand$Rows", "ways", "[I", true)
def mj_T5 : u_T := fun k => match k with
  | 0 => ("DumplingBand$Scroll", "letters", "[I", true)
  | 1 => ("DumplingBand$Scroll", "length", "I", false)
  | 2 => ("DumplingBand$Scroll", "at", "I", false)
  | _ => ("DumplingBand$Scroll", "isStopped", "Z", false)
def mj_T6 : u_T := fun k => match k with
  | 0 => ("DumplingBand", "scroll", "LDumplingBand$Scroll;", true)
  | 1 => ("DumplingBand", "road", "LDumplingBand$Road;", true)
  | 2 => ("DumplingBand", "draft", "LDumplingBand$Road;", true)
  | 3 => ("DumplingBand", "march", "LDumplingBand$March;", true)
  | 4 => ("DumplingBand", "trial", "LDumplingBand$March;", true)
  | 5 => ("DumplingBand", "acts", "LDumplingBand$Acts;", true)
  | 6 => ("DumplingBand", "slots", "[LDumplingBand$March;", true)
  | 7 => ("DumplingBand", "isKept", "[Z", true)
  | 8 => ("DumplingBand", "ferry", "LDumplingBand$Ferry;", true)
  | 9 => ("DumplingBand", "rows", "LDumplingBand$Rows;", true)
  | 10 => ("DumplingBand", "toldCount", "I", false)
  | 11 => ("DumplingBand", "toldAte", "I", false)
  | 12 => ("DumplingBand", "toldFasted", "I", false)
  | _ => ("DumplingBand", "grain", "J", false)
def mj_T7 : u_T := fun k => match k with
  | 0 => ("DumplingBandModel", "thrown", "I", false)
  | 1 => ("DumplingBandModel", "text", "[I", true)
  | 2 => ("DumplingBandModel", "textSize", "I", false)
  | 3 => ("DumplingBandModel", "place", "I", false)
  | 4 => ("DumplingBandModel", "beasts", "I", false)
  | 5 => ("DumplingBandModel", "gates", "I", false)
  | 6 => ("DumplingBandModel", "told", "[I", true)
  | 7 => ("DumplingBandModel", "enemy", "[I", true)
  | 8 => ("DumplingBandModel", "wants", "[I", true)
  | 9 => ("DumplingBandModel", "readBeasts", "I", false)
  | 10 => ("DumplingBandModel", "readGates", "I", false)
  | 11 => ("DumplingBandModel", "readPouch", "I", false)
  | 12 => ("DumplingBandModel", "readTold", "[I", true)
  | 13 => ("DumplingBandModel", "readEnemy", "[I", true)
  | 14 => ("DumplingBandModel", "readWants", "[I", true)
  | 15 => ("DumplingBandModel", "page", "[I", true)
  | 16 => ("DumplingBandModel", "trial", "[I", true)
  | 17 => ("DumplingBandModel", "book", "[I", true)
  | 18 => ("DumplingBandModel", "acts", "I", false)
  | 19 => ("DumplingBandModel", "kept", "[I", true)
  | 20 => ("DumplingBandModel", "isKept", "[Z", true)
  | 21 => ("DumplingBandModel", "tales", "I", false)
  | 22 => ("DumplingBandModel", "taleWho", "[I", true)
  | 23 => ("DumplingBandModel", "taleAte", "[Z", true)
  | 24 => ("DumplingBandModel", "seed", "J", false)
  | 25 => ("DumplingBandModel", "steps", "[I", true)
  | 26 => ("DumplingBandModel", "line", "[I", true)
  | _ => ("DumplingBandModel", "order", "[I", true)
def mj_ft0 : Nat → FieldType := fun k => match k with
  | 0 => (.array (.object "DumplingBand$March"))
  | 1 => .int
  | _ => .int
def mj_ft1 : Nat → FieldType := fun k => match k with
  | 0 => (.array .int)
  | 1 => (.array .int)
  | _ => .int
def mj_ft2 : Nat → FieldType := fun k => match k with
  | 0 => (.object "DumplingBand$Road")
  | 1 => .int
  | 2 => .int
  | 3 => .int
  | 4 => .int
  | 5 => .int
  | _ => (.array .int)
def mj_ft3 : Nat → FieldType := fun k => match k with
  | 0 => .int
  | 1 => .int
  | 2 => .int
  | 3 => (.array .int)
  | 4 => (.array .int)
  | 5 => (.array .int)
  | 6 => (.array .int)
  | 7 => (.array .int)
  | 8 => (.array .int)
  | _ => (.array .int)
def mj_ft4 : Nat → FieldType := fun k => match k with
  | _ => (.array .int)
def mj_ft5 : Nat → FieldType := fun k => match k with
  | 0 => (.array .int)
  | 1 => .int
  | 2 => .int
  | _ => .boolean
def mj_ft6 : Nat → FieldType := fun k => match k with
  | 0 => (.object "DumplingBand$Scroll")
  | 1 => (.object "DumplingBand$Road")
  | 2 => (.object "DumplingBand$Road")
  | 3 => (.object "DumplingBand$March")
  | 4 => (.object "DumplingBand$March")
  | 5 => (.object "DumplingBand$Acts")
  | 6 => (.array (.object "DumplingBand$March"))
  | 7 => (.array .boolean)
  | 8 => (.object "DumplingBand$Ferry")
  | 9 => (.object "DumplingBand$Rows")
  | 10 => .int
  | 11 => .int
  | 12 => .int
  | _ => .long
def mj_ft7 : Nat → FieldType := fun k => match k with
  | 0 => .int
  | 1 => (.array .int)
  | 2 => .int
  | 3 => .int
  | 4 => .int
  | 5 => .int
  | 6 => (.array .int)
  | 7 => (.array .int)
  | 8 => (.array .int)
  | 9 => .int
  | 10 => .int
  | 11 => .int
  | 12 => (.array .int)
  | 13 => (.array .int)
  | 14 => (.array .int)
  | 15 => (.array .int)
  | 16 => (.array .int)
  | 17 => (.array .int)
  | 18 => .int
  | 19 => (.array .int)
  | 20 => (.array .boolean)
  | 21 => .int
  | 22 => (.array .int)
  | 23 => (.array .boolean)
  | 24 => .long
  | 25 => (.array .int)
  | 26 => (.array .int)
  | _ => (.array .int)
def mj_ons : List String := ["DumplingBand$Acts", "DumplingBand$Ferry", "DumplingBand$March", "DumplingBand$Road", "DumplingBand$Rows", "DumplingBand$Scroll", "DumplingBand", "DumplingBandModel", "DumplingBandLaw", "java/lang/Integer", "java/lang/Math", "java/lang/Object"]
def mj_on (k : Nat) : String := mj_ons.getD k ""
abbrev mj_cl : List vw_C := [("DumplingBand$Acts", mj_T0, 3), ("DumplingBand$Ferry", mj_T1, 3), ("DumplingBand$March", mj_T2, 7), ("DumplingBand$Road", mj_T3, 10), ("DumplingBand$Rows", mj_T4, 1), ("DumplingBand$Scroll", mj_T5, 4), ("DumplingBand", mj_T6, 14), ("DumplingBandModel", mj_T7, 28)]
def mj_fts : List (Nat → FieldType) := [mj_ft0, mj_ft1, mj_ft2, mj_ft3, mj_ft4, mj_ft5, mj_ft6, mj_ft7]
def mj_ft (a b : Nat) : FieldType := (mj_fts.getD a (fun _ => .int)) b
abbrev mj_Row : Type := Nat × Instr × Nat × Nat × Nat
def mj_c0_0 : List mj_Row := [(0, .aload_n 0, 1, 0, 0), (1, .invokespecial 3, 3, 999, 1), (4, .aload_n 0, 1, 0, 0), (5, .bipush 14, 2, 0, 0), (7, .anewarray 9, 3, 2, 0), (10, .putfield 11, 3, 0, 0), (13, .iconst 0, 1, 0, 0), (14, .istore_n 2, 1, 0, 0), (15, .iload_n 2, 1, 0, 0), (16, .bipush 14, 2, 0, 0), (18, .if_icmp .ge 23, 3, 41, 0), (21, .aload_n 0, 1, 0, 0), (22, .getfield 11, 3, 0, 0), (25, .iload_n 2, 1, 0, 0), (26, .new 9, 3, 2, 0), (29, .dup, 1, 0, 0), (30, .aload_n 1, 1, 0, 0), (31, .invokespecial 17, 3, 9, 2), (34, .aastore, 1, 0, 0), (35, .iinc 2 1, 3, 0, 0), (38, .goto (-23), 3, 15, 0), (41, .return_, 1, 0, 0)]
def mj_c0 : List mj_Row := mj_c0_0
def mj_c1_0 : List mj_Row := [(0, .aload_n 0, 1, 0, 0), (1, .iconst 0, 1, 0, 0), (2, .putfield 20, 3, 0, 2), (5, .return_, 1, 0, 0)]
def mj_c1 : List mj_Row := mj_c1_0
def mj_c2_0 : List mj_Row := [(0, .aload_n 0, 1, 0, 0), (1, .getfield 11, 3, 0, 0), (4, .aload_n 0, 1, 0, 0), (5, .aload_n 0, 1, 0, 0), (6, .getfield 20, 3, 0, 2), (9, .invokevirtual 24, 3, 3, 2), (12, .aaload, 1, 0, 0), (13, .aload_n 1, 1, 0, 0), (14, .invokevirtual 28, 3, 17, 2), (17, .aload_n 0, 1, 0, 0), (18, .getfield 20, 3, 0, 2), (21, .bipush 14, 2, 0, 0), (23, .if_icmp .ge 16, 3, 39, 0), (26, .aload_n 0, 1, 0, 0), (27, .dup, 1, 0, 0), (28, .getfield 20, 3, 0, 2), (31, .iconst 1, 1, 0, 0), (32, .iadd, 1, 0, 0), (33, .putfield 20, 3, 0, 2), (36, .goto 12, 3, 48, 0), (39, .aload_n 0, 1, 0, 0), (40, .aload_n 0, 1, 0, 0), (41, .iconst 1, 1, 0, 0), (42, .invokevirtual 24, 3, 3, 2), (45, .putfield 32, 3, 0, 1), (48, .return_, 1, 0, 0)]
def mj_c2 : List mj_Row := mj_c2_0
def mj_c3_0 : List mj_Row := [(0, .aload_n 0, 1, 0, 0), (1, .getfield 32, 3, 0, 1), (4, .iload_n 1, 1, 0, 0), (5, .iadd, 1, 0, 0), (6, .bipush 14, 2, 0, 0), (8, .irem, 1, 0, 0), (9, .ireturn, 1, 0, 0)]
def mj_c3 : List mj_Row := mj_c3_0
def mj_c4_0 : List mj_Row := [(0, .aload_n 0, 1, 0, 0), (1, .getfield 20, 3, 0, 2), (4, .ifCond .gt 5, 3, 9, 0), (7, .iconst 0, 1, 0, 0), (8, .ireturn, 1, 0, 0), (9, .aload_n 0, 1, 0, 0), (10, .dup, 1, 0, 0), (11, .getfield 20, 3, 0, 2), (14, .iconst 1, 1, 0, 0), (15, .isub, 1, 0, 0), (16, .putfield 20, 3, 0, 2), (19, .aload_n 1, 1, 0, 0), (20, .aload_n 0, 1, 0, 0), (21, .getfield 11, 3, 0, 0), (24, .aload_n 0, 1, 0, 0), (25, .aload_n 0, 1, 0, 0), (26, .getfield 20, 3, 0, 2), (29, .invokevirtual 24, 3, 3, 2), (32, .aaload, 1, 0, 0), (33, .invokevirtual 28, 3, 17, 2), (36, .iconst 1, 1, 0, 0), (37, .ireturn, 1, 0, 0)]
def mj_c4 : List mj_Row := mj_c4_0
def mj_c5_0 : List mj_Row := [(0, .aload_n 0, 1, 0, 0), (1, .invokespecial 3, 3, 999, 1), (4, .aload_n 0, 1, 0, 0), (5, .sipush 128, 3, 0, 0), (8, .newarray .int, 2, 0, 0), (10, .putfield 11, 3, 1, 0), (13, .aload_n 0, 1, 0, 0), (14, .sipush 128, 3, 0, 0), (17, .newarray .int, 2, 0, 0), (19, .putfield 15, 3, 1, 1), (22, .return_, 1, 0, 0)]
def mj_c5 : List mj_Row := mj_c5_0
def mj_c6_0 : List mj_Row := [(0, .iload_n 2, 1, 0, 0), (1, .ifCond .ne 5, 3, 6, 0), (4, .iconst 0, 1, 0, 0), (5, .ireturn, 1, 0, 0), (6, .iconst 0, 1, 0, 0), (7, .istore 4, 2, 0, 0), (9, .iload 4, 2, 0, 0), (11, .sipush 128, 3, 0, 0), (14, .if_icmp .ge 18, 3, 32, 0), (17, .aload_n 0, 1, 0, 0), (18, .getfield 11, 3, 1, 0), (21, .iload 4, 2, 0, 0), (23, .bipush (-9), 2, 0, 0), (25, .iastore, 1, 0, 0), (26, .iinc 4 1, 3, 0, 0), (29, .goto (-20), 3, 9, 0), (32, .aload_n 0, 1, 0, 0), (33, .iconst 0, 1, 0, 0), (34, .putfield 18, 3, 1, 2), (37, .aload_n 0, 1, 0, 0), (38, .iload_n 2, 1, 0, 0), (39, .iconst 1, 1, 0, 0), (40, .ishl, 1, 0, 0), (41, .iconst 0, 1, 0, 0), (42, .invokevirtual 22, 3, 7, 3), (45, .iconst 0, 1, 0, 0), (46, .istore 4, 2, 0, 0), (48, .iload 4, 2, 0, 0), (50, .aload_n 0, 1, 0, 0), (51, .getfield 18, 3, 1, 2), (54, .if_icmp .ge 31, 3, 85, 0), (57, .iload 4, 2, 0, 0), (59, .sipush 128, 3, 0, 0), (62, .if_icmp .ge 23, 3, 85, 0), (65, .aload_n 0, 1, 0, 0), (66, .aload_n 1, 1, 0, 0), (67, .iload_n 2, 1, 0, 0), (68, .iload_n 3, 1, 0, 0), (69, .aload_n 0, 1, 0, 0), (70, .getfield 15, 3, 1, 1)]
def mj_c6_1 : List mj_Row := [(73, .iload 4, 2, 0, 0), (75, .iaload, 1, 0, 0), (76, .invokevirtual 26, 3, 8, 5), (79, .iinc 4 1, 3, 0, 0), (82, .goto (-34), 3, 48, 0), (85, .aload_n 0, 1, 0, 0), (86, .getfield 11, 3, 1, 0), (89, .iconst 1, 1, 0, 0), (90, .iaload, 1, 0, 0), (91, .ireturn, 1, 0, 0)]
def mj_c6 : List mj_Row := mj_c6_0 ++ (mj_c6_1)
def mj_c7_0 : List mj_Row := [(0, .iload_n 1, 1, 0, 0), (1, .ifCond .lt 58, 3, 59, 0), (4, .iload_n 1, 1, 0, 0), (5, .sipush 128, 3, 0, 0), (8, .if_icmp .ge 51, 3, 59, 0), (11, .aload_n 0, 1, 0, 0), (12, .getfield 18, 3, 1, 2), (15, .sipush 128, 3, 0, 0), (18, .if_icmp .ge 41, 3, 59, 0), (21, .aload_n 0, 1, 0, 0), (22, .getfield 11, 3, 1, 0), (25, .iload_n 1, 1, 0, 0), (26, .iaload, 1, 0, 0), (27, .bipush (-9), 2, 0, 0), (29, .if_icmp .ne 30, 3, 59, 0), (32, .aload_n 0, 1, 0, 0), (33, .getfield 11, 3, 1, 0), (36, .iload_n 1, 1, 0, 0), (37, .iload_n 2, 1, 0, 0), (38, .iastore, 1, 0, 0), (39, .aload_n 0, 1, 0, 0), (40, .getfield 15, 3, 1, 1), (43, .aload_n 0, 1, 0, 0), (44, .getfield 18, 3, 1, 2), (47, .iload_n 1, 1, 0, 0), (48, .iastore, 1, 0, 0), (49, .aload_n 0, 1, 0, 0), (50, .dup, 1, 0, 0), (51, .getfield 18, 3, 1, 2), (54, .iconst 1, 1, 0, 0), (55, .iadd, 1, 0, 0), (56, .putfield 18, 3, 1, 2), (59, .return_, 1, 0, 0)]
def mj_c7 : List mj_Row := mj_c7_0
def mj_c8_0 : List mj_Row := [(0, .iload 4, 2, 0, 0), (2, .iconst 1, 1, 0, 0), (3, .ishr, 1, 0, 0), (4, .istore 5, 2, 0, 0), (6, .iload 4, 2, 0, 0), (8, .iconst 1, 1, 0, 0), (9, .iand, 1, 0, 0), (10, .istore 6, 2, 0, 0), (12, .iload 6, 2, 0, 0), (14, .ifCond .ne 8, 3, 22, 0), (17, .iload 5, 2, 0, 0), (19, .goto 9, 3, 28, 0), (22, .iload_n 2, 1, 0, 0), (23, .iload 5, 2, 0, 0), (25, .iconst (-1), 1, 0, 0), (26, .ixor, 1, 0, 0), (27, .iand, 1, 0, 0), (28, .istore 7, 2, 0, 0), (30, .iconst 0, 1, 0, 0), (31, .istore 8, 2, 0, 0), (33, .iload 8, 2, 0, 0), (35, .iload 7, 2, 0, 0), (37, .if_icmp .gt 79, 3, 116, 0), (40, .iload 8, 2, 0, 0), (42, .iload 7, 2, 0, 0), (44, .iconst (-1), 1, 0, 0), (45, .ixor, 1, 0, 0), (46, .iand, 1, 0, 0), (47, .ifCond .ne 16, 3, 63, 0), (50, .iload 8, 2, 0, 0), (52, .invokestatic 30, 3, 166, 1), (55, .iload_n 3, 1, 0, 0), (56, .if_icmp .gt 7, 3, 63, 0), (59, .iconst 1, 1, 0, 0), (60, .goto 4, 3, 64, 0), (63, .iconst 0, 1, 0, 0), (64, .istore 9, 2, 0, 0), (66, .iload 9, 2, 0, 0), (68, .ifCond .eq 42, 3, 110, 0), (71, .aload_n 1, 1, 0, 0)]
def mj_c8_1 : List mj_Row := [(72, .iload 7, 2, 0, 0), (74, .iload 8, 2, 0, 0), (76, .iconst (-1), 1, 0, 0), (77, .ixor, 1, 0, 0), (78, .iand, 1, 0, 0), (79, .invokevirtual 36, 3, 42, 2), (82, .ifCond .ne 28, 3, 110, 0), (85, .aload_n 0, 1, 0, 0), (86, .iload 5, 2, 0, 0), (88, .iload 8, 2, 0, 0), (90, .ixor, 1, 0, 0), (91, .iconst 1, 1, 0, 0), (92, .ishl, 1, 0, 0), (93, .iconst 1, 1, 0, 0), (94, .iload 6, 2, 0, 0), (96, .isub, 1, 0, 0), (97, .ior, 1, 0, 0), (98, .aload_n 0, 1, 0, 0), (99, .getfield 11, 3, 1, 0), (102, .iload 4, 2, 0, 0), (104, .iaload, 1, 0, 0), (105, .iconst 1, 1, 0, 0), (106, .iadd, 1, 0, 0), (107, .invokevirtual 22, 3, 7, 3), (110, .iinc 8 1, 3, 0, 0), (113, .goto (-80), 3, 33, 0), (116, .return_, 1, 0, 0)]
def mj_c8 : List mj_Row := mj_c8_0 ++ (mj_c8_1)
def mj_c9_0 : List mj_Row := [(0, .aload_n 0, 1, 0, 0), (1, .invokespecial 3, 3, 999, 1), (4, .aload_n 0, 1, 0, 0), (5, .bipush 6, 2, 0, 0), (7, .newarray .int, 2, 0, 0), (9, .putfield 9, 3, 2, 6), (12, .aload_n 0, 1, 0, 0), (13, .aload_n 1, 1, 0, 0), (14, .putfield 15, 3, 2, 0), (17, .return_, 1, 0, 0)]
def mj_c9 : List mj_Row := mj_c9_0
def mj_c10_0 : List mj_Row := [(0, .aload_n 0, 1, 0, 0), (1, .aload_n 0, 1, 0, 0), (2, .getfield 15, 3, 2, 0), (5, .getfield 19, 3, 3, 0), (8, .putfield 25, 3, 2, 1), (11, .aload_n 0, 1, 0, 0), (12, .iconst 0, 1, 0, 0), (13, .putfield 28, 3, 2, 2), (16, .aload_n 0, 1, 0, 0), (17, .iconst 0, 1, 0, 0), (18, .putfield 31, 3, 2, 3), (21, .aload_n 0, 1, 0, 0), (22, .iconst 0, 1, 0, 0), (23, .putfield 34, 3, 2, 4), (26, .aload_n 0, 1, 0, 0), (27, .iconst 0, 1, 0, 0), (28, .putfield 37, 3, 2, 5), (31, .return_, 1, 0, 0)]
def mj_c10 : List mj_Row := mj_c10_0
def mj_c11_0 : List mj_Row := [(0, .aload_n 0, 1, 0, 0), (1, .invokevirtual 44, 3, 12, 1), (4, .ifCond .eq 10, 3, 14, 0), (7, .aload_n 0, 1, 0, 0), (8, .getfield 34, 3, 2, 4), (11, .goto 5, 3, 16, 0), (14, .bipush (-9), 2, 0, 0), (16, .ireturn, 1, 0, 0)]
def mj_c11 : List mj_Row := mj_c11_0
def mj_c12_0 : List mj_Row := [(0, .aload_n 0, 1, 0, 0), (1, .getfield 15, 3, 2, 0), (4, .aload_n 0, 1, 0, 0), (5, .getfield 34, 3, 2, 4), (8, .invokevirtual 40, 3, 31, 2), (11, .ireturn, 1, 0, 0)]
def mj_c12 : List mj_Row := mj_c12_0
def mj_c13_0 : List mj_Row := [(0, .aload_n 0, 1, 0, 0), (1, .getfield 15, 3, 2, 0), (4, .iload_n 1, 1, 0, 0), (5, .invokevirtual 48, 3, 38, 2), (8, .istore_n 2, 1, 0, 0), (9, .aload_n 0, 1, 0, 0), (10, .getfield 15, 3, 2, 0), (13, .iload_n 1, 1, 0, 0), (14, .invokevirtual 40, 3, 31, 2), (17, .ifCond .eq 20, 3, 37, 0), (20, .aload_n 0, 1, 0, 0), (21, .getfield 15, 3, 2, 0), (24, .getfield 52, 3, 3, 3), (27, .iload_n 1, 1, 0, 0), (28, .iaload, 1, 0, 0), (29, .iconst 2, 1, 0, 0), (30, .if_icmp .ne 7, 3, 37, 0), (33, .iconst 1, 1, 0, 0), (34, .goto 4, 3, 38, 0), (37, .iconst 0, 1, 0, 0), (38, .istore_n 3, 1, 0, 0), (39, .iload_n 3, 1, 0, 0), (40, .ifCond .eq 14, 3, 54, 0), (43, .iload_n 2, 1, 0, 0), (44, .aload_n 0, 1, 0, 0), (45, .invokevirtual 55, 3, 14, 1), (48, .invokestatic 59, 3, 998, 2), (51, .goto 4, 3, 55, 0), (54, .iload_n 2, 1, 0, 0), (55, .ireturn, 1, 0, 0)]
def mj_c13 : List mj_Row := mj_c13_0
def mj_c14_0 : List mj_Row := [(0, .iconst 0, 1, 0, 0), (1, .istore_n 1, 1, 0, 0), (2, .iconst 0, 1, 0, 0), (3, .istore_n 2, 1, 0, 0), (4, .iload_n 2, 1, 0, 0), (5, .aload_n 0, 1, 0, 0), (6, .getfield 15, 3, 2, 0), (9, .getfield 65, 3, 3, 1), (12, .if_icmp .ge 28, 3, 40, 0), (15, .aload_n 0, 1, 0, 0), (16, .iload_n 2, 1, 0, 0), (17, .invokevirtual 68, 3, 15, 2), (20, .ifCond .eq 14, 3, 34, 0), (23, .iload_n 1, 1, 0, 0), (24, .aload_n 0, 1, 0, 0), (25, .getfield 9, 3, 2, 6), (28, .iload_n 2, 1, 0, 0), (29, .iaload, 1, 0, 0), (30, .invokestatic 59, 3, 998, 2), (33, .istore_n 1, 1, 0, 0), (34, .iinc 2 1, 3, 0, 0), (37, .goto (-33), 3, 4, 0), (40, .iload_n 1, 1, 0, 0), (41, .ireturn, 1, 0, 0)]
def mj_c14 : List mj_Row := mj_c14_0
def mj_c15_0 : List mj_Row := [(0, .aload_n 0, 1, 0, 0), (1, .getfield 28, 3, 2, 2), (4, .iconst 1, 1, 0, 0), (5, .iload_n 1, 1, 0, 0), (6, .ishl, 1, 0, 0), (7, .iand, 1, 0, 0), (8, .ifCond .eq 7, 3, 15, 0), (11, .iconst 1, 1, 0, 0), (12, .goto 4, 3, 16, 0), (15, .iconst 0, 1, 0, 0), (16, .ireturn, 1, 0, 0)]
def mj_c15 : List mj_Row := mj_c15_0
def mj_c16_0 : List mj_Row := [(0, .aload_n 0, 1, 0, 0), (1, .invokevirtual 44, 3, 12, 1), (4, .ifCond .eq 22, 3, 26, 0), (7, .aload_n 0, 1, 0, 0), (8, .aload_n 0, 1, 0, 0), (9, .getfield 34, 3, 2, 4), (12, .invokevirtual 71, 3, 13, 2), (15, .aload_n 0, 1, 0, 0), (16, .getfield 25, 3, 2, 1), (19, .if_icmp .gt 7, 3, 26, 0), (22, .iconst 1, 1, 0, 0), (23, .goto 4, 3, 27, 0), (26, .iconst 0, 1, 0, 0), (27, .ireturn, 1, 0, 0)]
def mj_c16 : List mj_Row := mj_c16_0
def mj_c17_0 : List mj_Row := [(0, .aload_n 0, 1, 0, 0), (1, .aload_n 1, 1, 0, 0), (2, .getfield 25, 3, 2, 1), (5, .putfield 25, 3, 2, 1), (8, .aload_n 0, 1, 0, 0), (9, .aload_n 1, 1, 0, 0), (10, .getfield 28, 3, 2, 2), (13, .putfield 28, 3, 2, 2), (16, .aload_n 0, 1, 0, 0), (17, .aload_n 1, 1, 0, 0), (18, .getfield 31, 3, 2, 3), (21, .putfield 31, 3, 2, 3), (24, .aload_n 0, 1, 0, 0), (25, .aload_n 1, 1, 0, 0), (26, .getfield 34, 3, 2, 4), (29, .putfield 34, 3, 2, 4), (32, .aload_n 0, 1, 0, 0), (33, .aload_n 1, 1, 0, 0), (34, .getfield 37, 3, 2, 5), (37, .putfield 37, 3, 2, 5), (40, .iconst 0, 1, 0, 0), (41, .istore_n 2, 1, 0, 0), (42, .iload_n 2, 1, 0, 0), (43, .bipush 6, 2, 0, 0), (45, .if_icmp .ge 21, 3, 66, 0), (48, .aload_n 0, 1, 0, 0), (49, .getfield 9, 3, 2, 6), (52, .iload_n 2, 1, 0, 0), (53, .aload_n 1, 1, 0, 0), (54, .getfield 9, 3, 2, 6), (57, .iload_n 2, 1, 0, 0), (58, .iaload, 1, 0, 0), (59, .iastore, 1, 0, 0), (60, .iinc 2 1, 3, 0, 0), (63, .goto (-21), 3, 42, 0), (66, .return_, 1, 0, 0)]
def mj_c17 : List mj_Row := mj_c17_0
def mj_c18_0 : List mj_Row := [(0, .aload_n 0, 1, 0, 0), (1, .invokevirtual 74, 3, 16, 1), (4, .ifCond .ne 5, 3, 9, 0), (7, .iconst 0, 1, 0, 0), (8, .ireturn, 1, 0, 0), (9, .aload_n 0, 1, 0, 0), (10, .getfield 34, 3, 2, 4), (13, .istore_n 1, 1, 0, 0), (14, .aload_n 0, 1, 0, 0), (15, .iload_n 1, 1, 0, 0), (16, .invokevirtual 71, 3, 13, 2), (19, .istore_n 2, 1, 0, 0), (20, .aload_n 0, 1, 0, 0), (21, .dup, 1, 0, 0), (22, .getfield 25, 3, 2, 1), (25, .iload_n 2, 1, 0, 0), (26, .isub, 1, 0, 0), (27, .putfield 25, 3, 2, 1), (30, .aload_n 0, 1, 0, 0), (31, .getfield 9, 3, 2, 6), (34, .iload_n 1, 1, 0, 0), (35, .iload_n 2, 1, 0, 0), (36, .iastore, 1, 0, 0), (37, .aload_n 0, 1, 0, 0), (38, .dup, 1, 0, 0), (39, .getfield 28, 3, 2, 2), (42, .iconst 1, 1, 0, 0), (43, .iload_n 1, 1, 0, 0), (44, .ishl, 1, 0, 0), (45, .ior, 1, 0, 0), (46, .putfield 28, 3, 2, 2), (49, .aload_n 0, 1, 0, 0), (50, .dup, 1, 0, 0), (51, .getfield 34, 3, 2, 4), (54, .iconst 1, 1, 0, 0), (55, .iadd, 1, 0, 0), (56, .putfield 34, 3, 2, 4), (59, .aload_n 0, 1, 0, 0), (60, .iload_n 1, 1, 0, 0), (61, .invokevirtual 77, 3, 19, 2)]
def mj_c18_1 : List mj_Row := [(64, .ireturn, 1, 0, 0)]
def mj_c18 : List mj_Row := mj_c18_0 ++ (mj_c18_1)
def mj_c19_0 : List mj_Row := [(0, .aload_n 0, 1, 0, 0), (1, .getfield 28, 3, 2, 2), (4, .istore_n 2, 1, 0, 0), (5, .iconst 0, 1, 0, 0), (6, .istore_n 3, 1, 0, 0), (7, .iload_n 3, 1, 0, 0), (8, .aload_n 0, 1, 0, 0), (9, .getfield 15, 3, 2, 0), (12, .getfield 65, 3, 3, 1), (15, .if_icmp .ge 84, 3, 99, 0), (18, .aload_n 0, 1, 0, 0), (19, .iload_n 1, 1, 0, 0), (20, .invokevirtual 68, 3, 15, 2), (23, .ifCond .eq 76, 3, 99, 0), (26, .aload_n 0, 1, 0, 0), (27, .iload_n 3, 1, 0, 0), (28, .invokevirtual 68, 3, 15, 2), (31, .ifCond .eq 62, 3, 93, 0), (34, .aload_n 0, 1, 0, 0), (35, .getfield 15, 3, 2, 0), (38, .getfield 80, 3, 3, 7), (41, .iload_n 1, 1, 0, 0), (42, .iaload, 1, 0, 0), (43, .iconst 1, 1, 0, 0), (44, .iload_n 3, 1, 0, 0), (45, .ishl, 1, 0, 0), (46, .iand, 1, 0, 0), (47, .ifCond .eq 46, 3, 93, 0), (50, .aload_n 0, 1, 0, 0), (51, .getfield 15, 3, 2, 0), (54, .getfield 83, 3, 3, 5), (57, .iload_n 3, 1, 0, 0), (58, .iaload, 1, 0, 0), (59, .aload_n 0, 1, 0, 0), (60, .getfield 15, 3, 2, 0), (63, .getfield 83, 3, 3, 5), (66, .iload_n 1, 1, 0, 0), (67, .iaload, 1, 0, 0), (68, .if_icmp .ge 7, 3, 75, 0), (71, .iload_n 3, 1, 0, 0)]
def mj_c19_1 : List mj_Row := [(72, .goto 4, 3, 76, 0), (75, .iload_n 1, 1, 0, 0), (76, .istore 4, 2, 0, 0), (78, .aload_n 0, 1, 0, 0), (79, .dup, 1, 0, 0), (80, .getfield 28, 3, 2, 2), (83, .iconst 1, 1, 0, 0), (84, .iload 4, 2, 0, 0), (86, .ishl, 1, 0, 0), (87, .iconst (-1), 1, 0, 0), (88, .ixor, 1, 0, 0), (89, .iand, 1, 0, 0), (90, .putfield 28, 3, 2, 2), (93, .iinc 3 1, 3, 0, 0), (96, .goto (-89), 3, 7, 0), (99, .iload_n 2, 1, 0, 0), (100, .aload_n 0, 1, 0, 0), (101, .getfield 28, 3, 2, 2), (104, .iconst (-1), 1, 0, 0), (105, .ixor, 1, 0, 0), (106, .iand, 1, 0, 0), (107, .ireturn, 1, 0, 0)]
def mj_c19 : List mj_Row := mj_c19_0 ++ (mj_c19_1)
def mj_c20_0 : List mj_Row := [(0, .aload_n 0, 1, 0, 0), (1, .invokevirtual 44, 3, 12, 1), (4, .ifCond .eq 13, 3, 17, 0), (7, .aload_n 0, 1, 0, 0), (8, .dup, 1, 0, 0), (9, .getfield 34, 3, 2, 4), (12, .iconst 1, 1, 0, 0), (13, .iadd, 1, 0, 0), (14, .putfield 34, 3, 2, 4), (17, .return_, 1, 0, 0)]
def mj_c20 : List mj_Row := mj_c20_0
def mj_c21_0 : List mj_Row := [(0, .aload_n 0, 1, 0, 0), (1, .getfield 28, 3, 2, 2), (4, .istore_n 1, 1, 0, 0), (5, .iconst 0, 1, 0, 0), (6, .istore_n 2, 1, 0, 0), (7, .iconst 0, 1, 0, 0), (8, .istore_n 3, 1, 0, 0), (9, .iload_n 3, 1, 0, 0), (10, .aload_n 0, 1, 0, 0), (11, .getfield 15, 3, 2, 0), (14, .getfield 65, 3, 3, 1), (17, .if_icmp .ge 70, 3, 87, 0), (20, .aload_n 0, 1, 0, 0), (21, .iload_n 3, 1, 0, 0), (22, .invokevirtual 68, 3, 15, 2), (25, .ifCond .eq 23, 3, 48, 0), (28, .aload_n 0, 1, 0, 0), (29, .getfield 25, 3, 2, 1), (32, .ifCond .le 16, 3, 48, 0), (35, .aload_n 0, 1, 0, 0), (36, .dup, 1, 0, 0), (37, .getfield 25, 3, 2, 1), (40, .iconst 1, 1, 0, 0), (41, .isub, 1, 0, 0), (42, .putfield 25, 3, 2, 1), (45, .goto 17, 3, 62, 0), (48, .aload_n 0, 1, 0, 0), (49, .dup, 1, 0, 0), (50, .getfield 28, 3, 2, 2), (53, .iconst 1, 1, 0, 0), (54, .iload_n 3, 1, 0, 0), (55, .ishl, 1, 0, 0), (56, .iconst (-1), 1, 0, 0), (57, .ixor, 1, 0, 0), (58, .iand, 1, 0, 0), (59, .putfield 28, 3, 2, 2), (62, .aload_n 0, 1, 0, 0), (63, .getfield 15, 3, 2, 0), (66, .getfield 52, 3, 3, 3), (69, .iload_n 3, 1, 0, 0)]
def mj_c21_1 : List mj_Row := [(70, .iaload, 1, 0, 0), (71, .iconst 3, 1, 0, 0), (72, .if_icmp .ne 9, 3, 81, 0), (75, .iload_n 2, 1, 0, 0), (76, .iconst 1, 1, 0, 0), (77, .iload_n 3, 1, 0, 0), (78, .ishl, 1, 0, 0), (79, .ior, 1, 0, 0), (80, .istore_n 2, 1, 0, 0), (81, .iinc 3 1, 3, 0, 0), (84, .goto (-75), 3, 9, 0), (87, .aload_n 0, 1, 0, 0), (88, .dup, 1, 0, 0), (89, .getfield 28, 3, 2, 2), (92, .iload_n 2, 1, 0, 0), (93, .iconst (-1), 1, 0, 0), (94, .ixor, 1, 0, 0), (95, .iand, 1, 0, 0), (96, .putfield 28, 3, 2, 2), (99, .aload_n 0, 1, 0, 0), (100, .dup, 1, 0, 0), (101, .getfield 31, 3, 2, 3), (104, .iconst 1, 1, 0, 0), (105, .iadd, 1, 0, 0), (106, .putfield 31, 3, 2, 3), (109, .iload_n 1, 1, 0, 0), (110, .aload_n 0, 1, 0, 0), (111, .getfield 28, 3, 2, 2), (114, .iconst (-1), 1, 0, 0), (115, .ixor, 1, 0, 0), (116, .iand, 1, 0, 0), (117, .ireturn, 1, 0, 0)]
def mj_c21 : List mj_Row := mj_c21_0 ++ (mj_c21_1)
def mj_c22_0 : List mj_Row := [(0, .aload_n 0, 1, 0, 0), (1, .getfield 15, 3, 2, 0), (4, .aload_n 0, 1, 0, 0), (5, .getfield 28, 3, 2, 2), (8, .aload_n 0, 1, 0, 0), (9, .getfield 37, 3, 2, 5), (12, .invokevirtual 86, 3, 40, 3), (15, .ireturn, 1, 0, 0)]
def mj_c22 : List mj_Row := mj_c22_0
def mj_c23_0 : List mj_Row := [(0, .aload_n 0, 1, 0, 0), (1, .getfield 37, 3, 2, 5), (4, .istore_n 1, 1, 0, 0), (5, .aload_n 0, 1, 0, 0), (6, .dup, 1, 0, 0), (7, .getfield 37, 3, 2, 5), (10, .iconst 1, 1, 0, 0), (11, .iadd, 1, 0, 0), (12, .putfield 37, 3, 2, 5), (15, .iload_n 1, 1, 0, 0), (16, .ireturn, 1, 0, 0)]
def mj_c23 : List mj_Row := mj_c23_0
def mj_c24_0 : List mj_Row := [(0, .iload_n 1, 1, 0, 0), (1, .ifCond .ne 10, 3, 11, 0), (4, .aload_n 0, 1, 0, 0), (5, .invokevirtual 44, 3, 12, 1), (8, .ifCond .ne 32, 3, 40, 0), (11, .iload_n 1, 1, 0, 0), (12, .iconst 1, 1, 0, 0), (13, .if_icmp .ne 10, 3, 23, 0), (16, .aload_n 0, 1, 0, 0), (17, .invokevirtual 74, 3, 16, 1), (20, .ifCond .ne 20, 3, 40, 0), (23, .iload_n 1, 1, 0, 0), (24, .iconst 2, 1, 0, 0), (25, .if_icmp .eq 15, 3, 40, 0), (28, .iload_n 1, 1, 0, 0), (29, .iconst 3, 1, 0, 0), (30, .if_icmp .ne 14, 3, 44, 0), (33, .aload_n 0, 1, 0, 0), (34, .invokevirtual 90, 3, 22, 1), (37, .ifCond .eq 7, 3, 44, 0), (40, .iconst 1, 1, 0, 0), (41, .goto 4, 3, 45, 0), (44, .iconst 0, 1, 0, 0), (45, .istore_n 2, 1, 0, 0), (46, .iload_n 2, 1, 0, 0), (47, .ifCond .eq 57, 3, 104, 0), (50, .iload_n 1, 1, 0, 0), (51, .tableswitch 48 0 2 #[25, 32, 40], 25, 0, 0), (76, .aload_n 0, 1, 0, 0), (77, .invokevirtual 93, 3, 20, 1), (80, .goto 24, 3, 104, 0), (83, .aload_n 0, 1, 0, 0), (84, .invokevirtual 96, 3, 18, 1), (87, .pop, 1, 0, 0), (88, .goto 16, 3, 104, 0), (91, .aload_n 0, 1, 0, 0), (92, .invokevirtual 99, 3, 21, 1), (95, .pop, 1, 0, 0), (96, .goto 8, 3, 104, 0), (99, .aload_n 0, 1, 0, 0)]
def mj_c24_1 : List mj_Row := [(100, .invokevirtual 102, 3, 23, 1), (103, .pop, 1, 0, 0), (104, .iload_n 2, 1, 0, 0), (105, .ireturn, 1, 0, 0)]
def mj_c24 : List mj_Row := mj_c24_0 ++ (mj_c24_1)
def mj_c25_0 : List mj_Row := [(0, .aload_n 0, 1, 0, 0), (1, .invokespecial 3, 3, 999, 1), (4, .aload_n 0, 1, 0, 0), (5, .bipush 6, 2, 0, 0), (7, .newarray .int, 2, 0, 0), (9, .putfield 9, 3, 3, 3), (12, .aload_n 0, 1, 0, 0), (13, .bipush 6, 2, 0, 0), (15, .newarray .int, 2, 0, 0), (17, .putfield 15, 3, 3, 4), (20, .aload_n 0, 1, 0, 0), (21, .bipush 6, 2, 0, 0), (23, .newarray .int, 2, 0, 0), (25, .putfield 18, 3, 3, 5), (28, .aload_n 0, 1, 0, 0), (29, .bipush 6, 2, 0, 0), (31, .newarray .int, 2, 0, 0), (33, .putfield 21, 3, 3, 6), (36, .aload_n 0, 1, 0, 0), (37, .bipush 6, 2, 0, 0), (39, .newarray .int, 2, 0, 0), (41, .putfield 24, 3, 3, 7), (44, .aload_n 0, 1, 0, 0), (45, .iconst 3, 1, 0, 0), (46, .newarray .int, 2, 0, 0), (48, .putfield 27, 3, 3, 8), (51, .aload_n 0, 1, 0, 0), (52, .iconst 3, 1, 0, 0), (53, .newarray .int, 2, 0, 0), (55, .putfield 30, 3, 3, 9), (58, .return_, 1, 0, 0)]
def mj_c25 : List mj_Row := mj_c25_0
def mj_c26_0 : List mj_Row := [(0, .aload_n 0, 1, 0, 0), (1, .iconst 0, 1, 0, 0), (2, .putfield 33, 3, 3, 0), (5, .aload_n 0, 1, 0, 0), (6, .iconst 0, 1, 0, 0), (7, .putfield 37, 3, 3, 1), (10, .aload_n 0, 1, 0, 0), (11, .iconst 0, 1, 0, 0), (12, .putfield 40, 3, 3, 2), (15, .return_, 1, 0, 0)]
def mj_c26 : List mj_Row := mj_c26_0
def mj_c27_0 : List mj_Row := [(0, .aload_n 0, 1, 0, 0), (1, .getfield 37, 3, 3, 1), (4, .bipush 6, 2, 0, 0), (6, .if_icmp .ge 64, 3, 70, 0), (9, .aload_n 0, 1, 0, 0), (10, .getfield 9, 3, 3, 3), (13, .aload_n 0, 1, 0, 0), (14, .getfield 37, 3, 3, 1), (17, .iload_n 1, 1, 0, 0), (18, .iastore, 1, 0, 0), (19, .aload_n 0, 1, 0, 0), (20, .getfield 15, 3, 3, 4), (23, .aload_n 0, 1, 0, 0), (24, .getfield 37, 3, 3, 1), (27, .iload_n 2, 1, 0, 0), (28, .iastore, 1, 0, 0), (29, .aload_n 0, 1, 0, 0), (30, .getfield 18, 3, 3, 5), (33, .aload_n 0, 1, 0, 0), (34, .getfield 37, 3, 3, 1), (37, .iload_n 3, 1, 0, 0), (38, .iastore, 1, 0, 0), (39, .aload_n 0, 1, 0, 0), (40, .getfield 21, 3, 3, 6), (43, .aload_n 0, 1, 0, 0), (44, .getfield 37, 3, 3, 1), (47, .iload 4, 2, 0, 0), (49, .iastore, 1, 0, 0), (50, .aload_n 0, 1, 0, 0), (51, .getfield 24, 3, 3, 7), (54, .aload_n 0, 1, 0, 0), (55, .getfield 37, 3, 3, 1), (58, .iconst 0, 1, 0, 0), (59, .iastore, 1, 0, 0), (60, .aload_n 0, 1, 0, 0), (61, .dup, 1, 0, 0), (62, .getfield 37, 3, 3, 1), (65, .iconst 1, 1, 0, 0), (66, .iadd, 1, 0, 0), (67, .putfield 37, 3, 3, 1)]
def mj_c27_1 : List mj_Row := [(70, .return_, 1, 0, 0)]
def mj_c27 : List mj_Row := mj_c27_0 ++ (mj_c27_1)
def mj_c28_0 : List mj_Row := [(0, .aload_n 0, 1, 0, 0), (1, .invokevirtual 47, 3, 29, 1), (4, .ifCond .eq 7, 3, 11, 0), (7, .iconst 1, 1, 0, 0), (8, .goto 4, 3, 12, 0), (11, .iconst 0, 1, 0, 0), (12, .ireturn, 1, 0, 0)]
def mj_c28 : List mj_Row := mj_c28_0
def mj_c29_0 : List mj_Row := [(0, .iconst 0, 1, 0, 0), (1, .istore_n 1, 1, 0, 0), (2, .iconst 0, 1, 0, 0), (3, .istore_n 2, 1, 0, 0), (4, .iload_n 2, 1, 0, 0), (5, .aload_n 0, 1, 0, 0), (6, .getfield 37, 3, 3, 1), (9, .if_icmp .ge 23, 3, 32, 0), (12, .aload_n 0, 1, 0, 0), (13, .iload_n 2, 1, 0, 0), (14, .invokevirtual 51, 3, 30, 2), (17, .ifCond .eq 9, 3, 26, 0), (20, .iload_n 1, 1, 0, 0), (21, .iconst 1, 1, 0, 0), (22, .iload_n 2, 1, 0, 0), (23, .ishl, 1, 0, 0), (24, .ior, 1, 0, 0), (25, .istore_n 1, 1, 0, 0), (26, .iinc 2 1, 3, 0, 0), (29, .goto (-25), 3, 4, 0), (32, .iload_n 1, 1, 0, 0), (33, .ireturn, 1, 0, 0)]
def mj_c29 : List mj_Row := mj_c29_0
def mj_c30_0 : List mj_Row := [(0, .aload_n 0, 1, 0, 0), (1, .iload_n 1, 1, 0, 0), (2, .invokevirtual 43, 3, 31, 2), (5, .ifCond .eq 25, 3, 30, 0), (8, .aload_n 0, 1, 0, 0), (9, .invokevirtual 55, 3, 32, 1), (12, .aload_n 0, 1, 0, 0), (13, .getfield 24, 3, 3, 7), (16, .iload_n 1, 1, 0, 0), (17, .iaload, 1, 0, 0), (18, .iconst (-1), 1, 0, 0), (19, .ixor, 1, 0, 0), (20, .iand, 1, 0, 0), (21, .iconst 1, 1, 0, 0), (22, .iload_n 1, 1, 0, 0), (23, .ishl, 1, 0, 0), (24, .iconst (-1), 1, 0, 0), (25, .ixor, 1, 0, 0), (26, .iand, 1, 0, 0), (27, .goto 4, 3, 31, 0), (30, .iconst 0, 1, 0, 0), (31, .ireturn, 1, 0, 0)]
def mj_c30 : List mj_Row := mj_c30_0
def mj_c31_0 : List mj_Row := [(0, .iload_n 1, 1, 0, 0), (1, .ifCond .lt 15, 3, 16, 0), (4, .iload_n 1, 1, 0, 0), (5, .aload_n 0, 1, 0, 0), (6, .getfield 37, 3, 3, 1), (9, .if_icmp .ge 7, 3, 16, 0), (12, .iconst 1, 1, 0, 0), (13, .goto 4, 3, 17, 0), (16, .iconst 0, 1, 0, 0), (17, .ireturn, 1, 0, 0)]
def mj_c31 : List mj_Row := mj_c31_0
def mj_c32_0 : List mj_Row := [(0, .iconst 1, 1, 0, 0), (1, .aload_n 0, 1, 0, 0), (2, .getfield 37, 3, 3, 1), (5, .ishl, 1, 0, 0), (6, .iconst 1, 1, 0, 0), (7, .isub, 1, 0, 0), (8, .ireturn, 1, 0, 0)]
def mj_c32 : List mj_Row := mj_c32_0
def mj_c33_0 : List mj_Row := [(0, .aload_n 0, 1, 0, 0), (1, .iload_n 1, 1, 0, 0), (2, .invokevirtual 43, 3, 31, 2), (5, .ifCond .eq 35, 3, 40, 0), (8, .aload_n 0, 1, 0, 0), (9, .iload_n 2, 1, 0, 0), (10, .invokevirtual 43, 3, 31, 2), (13, .ifCond .eq 27, 3, 40, 0), (16, .aload_n 0, 1, 0, 0), (17, .getfield 24, 3, 3, 7), (20, .iload_n 1, 1, 0, 0), (21, .dup2, 1, 0, 0), (22, .iaload, 1, 0, 0), (23, .iconst 1, 1, 0, 0), (24, .iload_n 2, 1, 0, 0), (25, .ishl, 1, 0, 0), (26, .ior, 1, 0, 0), (27, .iastore, 1, 0, 0), (28, .aload_n 0, 1, 0, 0), (29, .getfield 24, 3, 3, 7), (32, .iload_n 2, 1, 0, 0), (33, .dup2, 1, 0, 0), (34, .iaload, 1, 0, 0), (35, .iconst 1, 1, 0, 0), (36, .iload_n 1, 1, 0, 0), (37, .ishl, 1, 0, 0), (38, .ior, 1, 0, 0), (39, .iastore, 1, 0, 0), (40, .return_, 1, 0, 0)]
def mj_c33 : List mj_Row := mj_c33_0
def mj_c34_0 : List mj_Row := [(0, .aload_n 0, 1, 0, 0), (1, .getfield 40, 3, 3, 2), (4, .iconst 3, 1, 0, 0), (5, .if_icmp .ge 33, 3, 38, 0), (8, .aload_n 0, 1, 0, 0), (9, .getfield 27, 3, 3, 8), (12, .aload_n 0, 1, 0, 0), (13, .getfield 40, 3, 3, 2), (16, .iload_n 1, 1, 0, 0), (17, .iastore, 1, 0, 0), (18, .aload_n 0, 1, 0, 0), (19, .getfield 30, 3, 3, 9), (22, .aload_n 0, 1, 0, 0), (23, .getfield 40, 3, 3, 2), (26, .iload_n 2, 1, 0, 0), (27, .iastore, 1, 0, 0), (28, .aload_n 0, 1, 0, 0), (29, .dup, 1, 0, 0), (30, .getfield 40, 3, 3, 2), (33, .iconst 1, 1, 0, 0), (34, .iadd, 1, 0, 0), (35, .putfield 40, 3, 3, 2), (38, .return_, 1, 0, 0)]
def mj_c34 : List mj_Row := mj_c34_0
def mj_c35_0 : List mj_Row := [(0, .aload_n 0, 1, 0, 0), (1, .aload_n 0, 1, 0, 0), (2, .getfield 18, 3, 3, 5), (5, .iload_n 1, 1, 0, 0), (6, .invokevirtual 58, 3, 36, 3), (9, .ireturn, 1, 0, 0)]
def mj_c35 : List mj_Row := mj_c35_0
def mj_c36_0 : List mj_Row := [(0, .iconst 0, 1, 0, 0), (1, .istore_n 3, 1, 0, 0), (2, .iconst 0, 1, 0, 0), (3, .istore 4, 2, 0, 0), (5, .iload 4, 2, 0, 0), (7, .aload_n 0, 1, 0, 0), (8, .getfield 37, 3, 3, 1), (11, .if_icmp .ge 32, 3, 43, 0), (14, .iload 4, 2, 0, 0), (16, .aload_n 1, 1, 0, 0), (17, .arraylength, 1, 0, 0), (18, .if_icmp .ge 25, 3, 43, 0), (21, .iload_n 2, 1, 0, 0), (22, .iconst 1, 1, 0, 0), (23, .iload 4, 2, 0, 0), (25, .ishl, 1, 0, 0), (26, .iand, 1, 0, 0), (27, .ifCond .eq 10, 3, 37, 0), (30, .iload_n 3, 1, 0, 0), (31, .aload_n 1, 1, 0, 0), (32, .iload 4, 2, 0, 0), (34, .iaload, 1, 0, 0), (35, .iadd, 1, 0, 0), (36, .istore_n 3, 1, 0, 0), (37, .iinc 4 1, 3, 0, 0), (40, .goto (-35), 3, 5, 0), (43, .iload_n 3, 1, 0, 0), (44, .ireturn, 1, 0, 0)]
def mj_c36 : List mj_Row := mj_c36_0
def mj_c37_0 : List mj_Row := [(0, .iconst 0, 1, 0, 0), (1, .istore_n 2, 1, 0, 0), (2, .iconst 0, 1, 0, 0), (3, .istore_n 3, 1, 0, 0), (4, .iload_n 3, 1, 0, 0), (5, .aload_n 0, 1, 0, 0), (6, .getfield 37, 3, 3, 1), (9, .if_icmp .ge 28, 3, 37, 0), (12, .iload_n 1, 1, 0, 0), (13, .iconst 1, 1, 0, 0), (14, .iload_n 3, 1, 0, 0), (15, .ishl, 1, 0, 0), (16, .iand, 1, 0, 0), (17, .ifCond .eq 14, 3, 31, 0), (20, .iload_n 2, 1, 0, 0), (21, .iconst 1, 1, 0, 0), (22, .aload_n 0, 1, 0, 0), (23, .getfield 21, 3, 3, 6), (26, .iload_n 3, 1, 0, 0), (27, .iaload, 1, 0, 0), (28, .ishl, 1, 0, 0), (29, .ior, 1, 0, 0), (30, .istore_n 2, 1, 0, 0), (31, .iinc 3 1, 3, 0, 0), (34, .goto (-30), 3, 4, 0), (37, .iload_n 2, 1, 0, 0), (38, .ireturn, 1, 0, 0)]
def mj_c37 : List mj_Row := mj_c37_0
def mj_c38_0 : List mj_Row := [(0, .aload_n 0, 1, 0, 0), (1, .iload_n 1, 1, 0, 0), (2, .invokevirtual 43, 3, 31, 2), (5, .ifCond .ne 5, 3, 10, 0), (8, .iconst 0, 1, 0, 0), (9, .ireturn, 1, 0, 0), (10, .aload_n 0, 1, 0, 0), (11, .getfield 9, 3, 3, 3), (14, .iload_n 1, 1, 0, 0), (15, .iaload, 1, 0, 0), (16, .iconst 1, 1, 0, 0), (17, .if_icmp .ne 16, 3, 33, 0), (20, .aload_n 0, 1, 0, 0), (21, .getfield 15, 3, 3, 4), (24, .iload_n 1, 1, 0, 0), (25, .iaload, 1, 0, 0), (26, .iconst 1, 1, 0, 0), (27, .iadd, 1, 0, 0), (28, .iconst 2, 1, 0, 0), (29, .idiv, 1, 0, 0), (30, .goto 9, 3, 39, 0), (33, .aload_n 0, 1, 0, 0), (34, .getfield 15, 3, 3, 4), (37, .iload_n 1, 1, 0, 0), (38, .iaload, 1, 0, 0), (39, .ireturn, 1, 0, 0)]
def mj_c38 : List mj_Row := mj_c38_0
def mj_c39_0 : List mj_Row := [(0, .iload_n 1, 1, 0, 0), (1, .ifCond .lt 15, 3, 16, 0), (4, .iload_n 1, 1, 0, 0), (5, .aload_n 0, 1, 0, 0), (6, .getfield 40, 3, 3, 2), (9, .if_icmp .ge 7, 3, 16, 0), (12, .iconst 1, 1, 0, 0), (13, .goto 4, 3, 17, 0), (16, .iconst 0, 1, 0, 0), (17, .ireturn, 1, 0, 0)]
def mj_c39 : List mj_Row := mj_c39_0
def mj_c40_0 : List mj_Row := [(0, .aload_n 0, 1, 0, 0), (1, .iload_n 2, 1, 0, 0), (2, .invokevirtual 62, 3, 39, 2), (5, .ifCond .eq 38, 3, 43, 0), (8, .aload_n 0, 1, 0, 0), (9, .iload_n 1, 1, 0, 0), (10, .invokevirtual 65, 3, 37, 2), (13, .iconst 1, 1, 0, 0), (14, .aload_n 0, 1, 0, 0), (15, .getfield 27, 3, 3, 8), (18, .iload_n 2, 1, 0, 0), (19, .iaload, 1, 0, 0), (20, .ishl, 1, 0, 0), (21, .iand, 1, 0, 0), (22, .ifCond .eq 21, 3, 43, 0), (25, .aload_n 0, 1, 0, 0), (26, .iload_n 1, 1, 0, 0), (27, .invokevirtual 68, 3, 35, 2), (30, .aload_n 0, 1, 0, 0), (31, .getfield 30, 3, 3, 9), (34, .iload_n 2, 1, 0, 0), (35, .iaload, 1, 0, 0), (36, .if_icmp .lt 7, 3, 43, 0), (39, .iconst 1, 1, 0, 0), (40, .goto 4, 3, 44, 0), (43, .iconst 0, 1, 0, 0), (44, .ireturn, 1, 0, 0)]
def mj_c40 : List mj_Row := mj_c40_0
def mj_c41_0 : List mj_Row := [(0, .iload_n 1, 1, 0, 0), (1, .aload_n 0, 1, 0, 0), (2, .invokevirtual 55, 3, 32, 1), (5, .iconst (-1), 1, 0, 0), (6, .ixor, 1, 0, 0), (7, .iand, 1, 0, 0), (8, .ifCond .ne 7, 3, 15, 0), (11, .iconst 1, 1, 0, 0), (12, .goto 4, 3, 16, 0), (15, .iconst 0, 1, 0, 0), (16, .ireturn, 1, 0, 0)]
def mj_c41 : List mj_Row := mj_c41_0
def mj_c42_0 : List mj_Row := [(0, .iconst 0, 1, 0, 0), (1, .istore_n 2, 1, 0, 0), (2, .iconst 0, 1, 0, 0), (3, .istore_n 3, 1, 0, 0), (4, .iload_n 3, 1, 0, 0), (5, .aload_n 0, 1, 0, 0), (6, .getfield 37, 3, 3, 1), (9, .if_icmp .ge 26, 3, 35, 0), (12, .iload_n 1, 1, 0, 0), (13, .iconst 1, 1, 0, 0), (14, .iload_n 3, 1, 0, 0), (15, .ishl, 1, 0, 0), (16, .iand, 1, 0, 0), (17, .ifCond .eq 12, 3, 29, 0), (20, .iload_n 2, 1, 0, 0), (21, .aload_n 0, 1, 0, 0), (22, .getfield 24, 3, 3, 7), (25, .iload_n 3, 1, 0, 0), (26, .iaload, 1, 0, 0), (27, .ior, 1, 0, 0), (28, .istore_n 2, 1, 0, 0), (29, .iinc 3 1, 3, 0, 0), (32, .goto (-28), 3, 4, 0), (35, .iload_n 1, 1, 0, 0), (36, .iload_n 2, 1, 0, 0), (37, .iand, 1, 0, 0), (38, .ifCond .eq 7, 3, 45, 0), (41, .iconst 1, 1, 0, 0), (42, .goto 4, 3, 46, 0), (45, .iconst 0, 1, 0, 0), (46, .ireturn, 1, 0, 0)]
def mj_c42 : List mj_Row := mj_c42_0
def mj_c43_0 : List mj_Row := [(0, .aload_n 0, 1, 0, 0), (1, .aload_n 0, 1, 0, 0), (2, .getfield 15, 3, 3, 4), (5, .iload_n 1, 1, 0, 0), (6, .invokevirtual 58, 3, 36, 3), (9, .ireturn, 1, 0, 0)]
def mj_c43 : List mj_Row := mj_c43_0
def mj_c44_0 : List mj_Row := [(0, .aload_n 0, 1, 0, 0), (1, .invokespecial 3, 3, 999, 1), (4, .aload_n 0, 1, 0, 0), (5, .bipush 64, 2, 0, 0), (7, .newarray .int, 2, 0, 0), (9, .putfield 9, 3, 4, 0), (12, .return_, 1, 0, 0)]
def mj_c44 : List mj_Row := mj_c44_0
def mj_c45_0 : List mj_Row := [(0, .iload_n 2, 1, 0, 0), (1, .ifCond .lt 12, 3, 13, 0), (4, .iload_n 2, 1, 0, 0), (5, .aload_n 0, 1, 0, 0), (6, .getfield 9, 3, 4, 0), (9, .arraylength, 1, 0, 0), (10, .if_icmp .lt 5, 3, 15, 0), (13, .iconst 0, 1, 0, 0), (14, .ireturn, 1, 0, 0), (15, .aload_n 0, 1, 0, 0), (16, .getfield 9, 3, 4, 0), (19, .iconst 0, 1, 0, 0), (20, .iconst 1, 1, 0, 0), (21, .iastore, 1, 0, 0), (22, .iconst 1, 1, 0, 0), (23, .istore_n 3, 1, 0, 0), (24, .iload_n 3, 1, 0, 0), (25, .iload_n 2, 1, 0, 0), (26, .if_icmp .gt 33, 3, 59, 0), (29, .aload_n 0, 1, 0, 0), (30, .getfield 9, 3, 4, 0), (33, .iload_n 3, 1, 0, 0), (34, .iload_n 3, 1, 0, 0), (35, .iload_n 2, 1, 0, 0), (36, .iconst (-1), 1, 0, 0), (37, .ixor, 1, 0, 0), (38, .iand, 1, 0, 0), (39, .ifCond .ne 12, 3, 51, 0), (42, .aload_n 0, 1, 0, 0), (43, .aload_n 1, 1, 0, 0), (44, .iload_n 3, 1, 0, 0), (45, .invokevirtual 15, 3, 46, 3), (48, .goto 4, 3, 52, 0), (51, .iconst 0, 1, 0, 0), (52, .iastore, 1, 0, 0), (53, .iinc 3 1, 3, 0, 0), (56, .goto (-32), 3, 24, 0), (59, .aload_n 0, 1, 0, 0), (60, .getfield 9, 3, 4, 0), (63, .iload_n 2, 1, 0, 0)]
def mj_c45_1 : List mj_Row := [(64, .iaload, 1, 0, 0), (65, .ireturn, 1, 0, 0)]
def mj_c45 : List mj_Row := mj_c45_0 ++ (mj_c45_1)
def mj_c46_0 : List mj_Row := [(0, .iconst 0, 1, 0, 0), (1, .istore_n 3, 1, 0, 0), (2, .iconst 0, 1, 0, 0), (3, .istore 4, 2, 0, 0), (5, .iload 4, 2, 0, 0), (7, .aload_n 1, 1, 0, 0), (8, .getfield 19, 3, 3, 1), (11, .if_icmp .ge 47, 3, 58, 0), (14, .iload_n 2, 1, 0, 0), (15, .iconst 1, 1, 0, 0), (16, .iload 4, 2, 0, 0), (18, .ishl, 1, 0, 0), (19, .iconst (-1), 1, 0, 0), (20, .ixor, 1, 0, 0), (21, .iand, 1, 0, 0), (22, .istore 5, 2, 0, 0), (24, .iload 5, 2, 0, 0), (26, .iload_n 2, 1, 0, 0), (27, .if_icmp .eq 25, 3, 52, 0), (30, .aload_n 0, 1, 0, 0), (31, .aload_n 1, 1, 0, 0), (32, .iload 4, 2, 0, 0), (34, .iload 5, 2, 0, 0), (36, .invokevirtual 25, 3, 47, 4), (39, .ifCond .eq 13, 3, 52, 0), (42, .iload_n 3, 1, 0, 0), (43, .aload_n 0, 1, 0, 0), (44, .getfield 9, 3, 4, 0), (47, .iload 5, 2, 0, 0), (49, .iaload, 1, 0, 0), (50, .iadd, 1, 0, 0), (51, .istore_n 3, 1, 0, 0), (52, .iinc 4 1, 3, 0, 0), (55, .goto (-50), 3, 5, 0), (58, .iload_n 3, 1, 0, 0), (59, .ireturn, 1, 0, 0)]
def mj_c46 : List mj_Row := mj_c46_0
def mj_c47_0 : List mj_Row := [(0, .aload_n 1, 1, 0, 0), (1, .getfield 29, 3, 3, 3), (4, .iload_n 2, 1, 0, 0), (5, .iaload, 1, 0, 0), (6, .iconst 2, 1, 0, 0), (7, .if_icmp .eq 5, 3, 12, 0), (10, .iconst 1, 1, 0, 0), (11, .ireturn, 1, 0, 0), (12, .iconst 0, 1, 0, 0), (13, .istore 4, 2, 0, 0), (15, .iload 4, 2, 0, 0), (17, .aload_n 1, 1, 0, 0), (18, .getfield 19, 3, 3, 1), (21, .if_icmp .ge 35, 3, 56, 0), (24, .iload_n 3, 1, 0, 0), (25, .iconst 1, 1, 0, 0), (26, .iload 4, 2, 0, 0), (28, .ishl, 1, 0, 0), (29, .iand, 1, 0, 0), (30, .ifCond .eq 20, 3, 50, 0), (33, .aload_n 1, 1, 0, 0), (34, .iload 4, 2, 0, 0), (36, .invokevirtual 32, 3, 38, 2), (39, .aload_n 1, 1, 0, 0), (40, .getfield 36, 3, 3, 4), (43, .iload_n 2, 1, 0, 0), (44, .iaload, 1, 0, 0), (45, .if_icmp .le 5, 3, 50, 0), (48, .iconst 0, 1, 0, 0), (49, .ireturn, 1, 0, 0), (50, .iinc 4 1, 3, 0, 0), (53, .goto (-38), 3, 15, 0), (56, .iconst 1, 1, 0, 0), (57, .ireturn, 1, 0, 0)]
def mj_c47 : List mj_Row := mj_c47_0
def mj_c48_0 : List mj_Row := [(0, .aload_n 0, 1, 0, 0), (1, .invokespecial 3, 3, 999, 1), (4, .aload_n 0, 1, 0, 0), (5, .bipush 64, 2, 0, 0), (7, .newarray .int, 2, 0, 0), (9, .putfield 9, 3, 5, 0), (12, .return_, 1, 0, 0)]
def mj_c48 : List mj_Row := mj_c48_0
def mj_c49_0 : List mj_Row := [(0, .aload_n 0, 1, 0, 0), (1, .getfield 15, 3, 5, 1), (4, .bipush 64, 2, 0, 0), (6, .if_icmp .lt 5, 3, 11, 0), (9, .iconst 0, 1, 0, 0), (10, .ireturn, 1, 0, 0), (11, .aload_n 0, 1, 0, 0), (12, .getfield 9, 3, 5, 0), (15, .aload_n 0, 1, 0, 0), (16, .getfield 15, 3, 5, 1), (19, .iload_n 1, 1, 0, 0), (20, .iastore, 1, 0, 0), (21, .aload_n 0, 1, 0, 0), (22, .dup, 1, 0, 0), (23, .getfield 15, 3, 5, 1), (26, .iconst 1, 1, 0, 0), (27, .iadd, 1, 0, 0), (28, .putfield 15, 3, 5, 1), (31, .iconst 1, 1, 0, 0), (32, .ireturn, 1, 0, 0)]
def mj_c49 : List mj_Row := mj_c49_0
def mj_c50_0 : List mj_Row := [(0, .aload_n 0, 1, 0, 0), (1, .iconst 0, 1, 0, 0), (2, .putfield 19, 3, 5, 2), (5, .aload_n 0, 1, 0, 0), (6, .iconst 0, 1, 0, 0), (7, .putfield 22, 3, 5, 3), (10, .aload_n 1, 1, 0, 0), (11, .invokevirtual 26, 3, 26, 1), (14, .aload_n 0, 1, 0, 0), (15, .bipush 82, 2, 0, 0), (17, .invokevirtual 31, 3, 51, 2), (20, .aload_n 0, 1, 0, 0), (21, .iconst 0, 1, 0, 0), (22, .bipush 9, 2, 0, 0), (24, .invokevirtual 35, 3, 53, 3), (27, .istore_n 2, 1, 0, 0), (28, .aload_n 0, 1, 0, 0), (29, .iconst 0, 1, 0, 0), (30, .bipush 9, 2, 0, 0), (32, .invokevirtual 35, 3, 53, 3), (35, .istore_n 3, 1, 0, 0), (36, .aload_n 1, 1, 0, 0), (37, .bipush 10, 2, 0, 0), (39, .iload_n 2, 1, 0, 0), (40, .imul, 1, 0, 0), (41, .iload_n 3, 1, 0, 0), (42, .iadd, 1, 0, 0), (43, .putfield 39, 3, 3, 0), (46, .iconst 0, 1, 0, 0), (47, .istore 4, 2, 0, 0), (49, .iload 4, 2, 0, 0), (51, .bipush 64, 2, 0, 0), (53, .if_icmp .ge 32, 3, 85, 0), (56, .aload_n 0, 1, 0, 0), (57, .getfield 22, 3, 5, 3), (60, .ifCond .ne 25, 3, 85, 0), (63, .aload_n 0, 1, 0, 0), (64, .getfield 19, 3, 5, 2), (67, .aload_n 0, 1, 0, 0), (68, .getfield 15, 3, 5, 1)]
def mj_c50_1 : List mj_Row := [(71, .if_icmp .ge 14, 3, 85, 0), (74, .aload_n 0, 1, 0, 0), (75, .aload_n 1, 1, 0, 0), (76, .invokevirtual 42, 3, 54, 2), (79, .iinc 4 1, 3, 0, 0), (82, .goto (-33), 3, 49, 0), (85, .aload_n 0, 1, 0, 0), (86, .getfield 22, 3, 5, 3), (89, .ifCond .eq 10, 3, 99, 0), (92, .aload_n 0, 1, 0, 0), (93, .getfield 19, 3, 5, 2), (96, .goto 5, 3, 101, 0), (99, .bipush (-9), 2, 0, 0), (101, .ireturn, 1, 0, 0)]
def mj_c50 : List mj_Row := mj_c50_0 ++ (mj_c50_1)
def mj_c51_0 : List mj_Row := [(0, .aload_n 0, 1, 0, 0), (1, .getfield 22, 3, 5, 3), (4, .ifCond .ne 24, 3, 28, 0), (7, .aload_n 0, 1, 0, 0), (8, .invokevirtual 46, 3, 52, 1), (11, .iload_n 1, 1, 0, 0), (12, .if_icmp .ne 16, 3, 28, 0), (15, .aload_n 0, 1, 0, 0), (16, .dup, 1, 0, 0), (17, .getfield 19, 3, 5, 2), (20, .iconst 1, 1, 0, 0), (21, .iadd, 1, 0, 0), (22, .putfield 19, 3, 5, 2), (25, .goto 8, 3, 33, 0), (28, .aload_n 0, 1, 0, 0), (29, .iconst 1, 1, 0, 0), (30, .putfield 22, 3, 5, 3), (33, .return_, 1, 0, 0)]
def mj_c51 : List mj_Row := mj_c51_0
def mj_c52_0 : List mj_Row := [(0, .aload_n 0, 1, 0, 0), (1, .getfield 19, 3, 5, 2), (4, .ifCond .lt 35, 3, 39, 0), (7, .aload_n 0, 1, 0, 0), (8, .getfield 19, 3, 5, 2), (11, .aload_n 0, 1, 0, 0), (12, .getfield 15, 3, 5, 1), (15, .if_icmp .ge 24, 3, 39, 0), (18, .aload_n 0, 1, 0, 0), (19, .getfield 19, 3, 5, 2), (22, .bipush 64, 2, 0, 0), (24, .if_icmp .ge 15, 3, 39, 0), (27, .aload_n 0, 1, 0, 0), (28, .getfield 9, 3, 5, 0), (31, .aload_n 0, 1, 0, 0), (32, .getfield 19, 3, 5, 2), (35, .iaload, 1, 0, 0), (36, .goto 5, 3, 41, 0), (39, .bipush (-9), 2, 0, 0), (41, .ireturn, 1, 0, 0)]
def mj_c52 : List mj_Row := mj_c52_0
def mj_c53_0 : List mj_Row := [(0, .aload_n 0, 1, 0, 0), (1, .invokevirtual 46, 3, 52, 1), (4, .bipush 48, 2, 0, 0), (6, .isub, 1, 0, 0), (7, .istore_n 3, 1, 0, 0), (8, .aload_n 0, 1, 0, 0), (9, .getfield 22, 3, 5, 3), (12, .ifCond .ne 13, 3, 25, 0), (15, .iload_n 3, 1, 0, 0), (16, .iload_n 1, 1, 0, 0), (17, .if_icmp .lt 8, 3, 25, 0), (20, .iload_n 3, 1, 0, 0), (21, .iload_n 2, 1, 0, 0), (22, .if_icmp .le 10, 3, 32, 0), (25, .aload_n 0, 1, 0, 0), (26, .iconst 1, 1, 0, 0), (27, .putfield 22, 3, 5, 3), (30, .iload_n 1, 1, 0, 0), (31, .ireturn, 1, 0, 0), (32, .aload_n 0, 1, 0, 0), (33, .dup, 1, 0, 0), (34, .getfield 19, 3, 5, 2), (37, .iconst 1, 1, 0, 0), (38, .iadd, 1, 0, 0), (39, .putfield 19, 3, 5, 2), (42, .iload_n 3, 1, 0, 0), (43, .ireturn, 1, 0, 0)]
def mj_c53 : List mj_Row := mj_c53_0
def mj_c54_0 : List mj_Row := [(0, .aload_n 0, 1, 0, 0), (1, .invokevirtual 46, 3, 52, 1), (4, .istore_n 2, 1, 0, 0), (5, .iload_n 2, 1, 0, 0), (6, .bipush 66, 2, 0, 0), (8, .if_icmp .ne 20, 3, 28, 0), (11, .aload_n 1, 1, 0, 0), (12, .getfield 50, 3, 3, 1), (15, .bipush 6, 2, 0, 0), (17, .if_icmp .ge 11, 3, 28, 0), (20, .aload_n 0, 1, 0, 0), (21, .aload_n 1, 1, 0, 0), (22, .invokevirtual 53, 3, 55, 2), (25, .goto 51, 3, 76, 0), (28, .iload_n 2, 1, 0, 0), (29, .bipush 69, 2, 0, 0), (31, .if_icmp .ne 18, 3, 49, 0), (34, .aload_n 1, 1, 0, 0), (35, .invokevirtual 56, 3, 28, 1), (38, .ifCond .eq 11, 3, 49, 0), (41, .aload_n 0, 1, 0, 0), (42, .aload_n 1, 1, 0, 0), (43, .invokevirtual 60, 3, 56, 2), (46, .goto 30, 3, 76, 0), (49, .iload_n 2, 1, 0, 0), (50, .bipush 71, 2, 0, 0), (52, .if_icmp .ne 19, 3, 71, 0), (55, .aload_n 1, 1, 0, 0), (56, .getfield 63, 3, 3, 2), (59, .iconst 3, 1, 0, 0), (60, .if_icmp .ge 11, 3, 71, 0), (63, .aload_n 0, 1, 0, 0), (64, .aload_n 1, 1, 0, 0), (65, .invokevirtual 66, 3, 58, 2), (68, .goto 8, 3, 76, 0), (71, .aload_n 0, 1, 0, 0), (72, .iconst 1, 1, 0, 0), (73, .putfield 22, 3, 5, 3), (76, .return_, 1, 0, 0)]
def mj_c54 : List mj_Row := mj_c54_0
def mj_c55_0 : List mj_Row := [(0, .aload_n 0, 1, 0, 0), (1, .bipush 66, 2, 0, 0), (3, .invokevirtual 31, 3, 51, 2), (6, .aload_n 0, 1, 0, 0), (7, .iconst 0, 1, 0, 0), (8, .iconst 3, 1, 0, 0), (9, .invokevirtual 35, 3, 53, 3), (12, .istore_n 2, 1, 0, 0), (13, .aload_n 0, 1, 0, 0), (14, .iconst 1, 1, 0, 0), (15, .bipush 9, 2, 0, 0), (17, .invokevirtual 35, 3, 53, 3), (20, .istore_n 3, 1, 0, 0), (21, .aload_n 0, 1, 0, 0), (22, .iconst 1, 1, 0, 0), (23, .bipush 9, 2, 0, 0), (25, .invokevirtual 35, 3, 53, 3), (28, .istore 4, 2, 0, 0), (30, .aload_n 0, 1, 0, 0), (31, .iconst 0, 1, 0, 0), (32, .iconst 3, 1, 0, 0), (33, .invokevirtual 35, 3, 53, 3), (36, .istore 5, 2, 0, 0), (38, .aload_n 0, 1, 0, 0), (39, .getfield 22, 3, 5, 3), (42, .ifCond .ne 13, 3, 55, 0), (45, .aload_n 1, 1, 0, 0), (46, .iload_n 2, 1, 0, 0), (47, .iload_n 3, 1, 0, 0), (48, .iload 4, 2, 0, 0), (50, .iload 5, 2, 0, 0), (52, .invokevirtual 69, 3, 27, 5), (55, .return_, 1, 0, 0)]
def mj_c55 : List mj_Row := mj_c55_0
def mj_c56_0 : List mj_Row := [(0, .aload_n 0, 1, 0, 0), (1, .bipush 69, 2, 0, 0), (3, .invokevirtual 31, 3, 51, 2), (6, .aload_n 0, 1, 0, 0), (7, .aload_n 1, 1, 0, 0), (8, .invokevirtual 73, 3, 29, 1), (11, .invokevirtual 76, 3, 57, 2), (14, .istore_n 2, 1, 0, 0), (15, .aload_n 0, 1, 0, 0), (16, .aload_n 1, 1, 0, 0), (17, .iload_n 2, 1, 0, 0), (18, .invokevirtual 80, 3, 30, 2), (21, .invokevirtual 76, 3, 57, 2), (24, .istore_n 3, 1, 0, 0), (25, .aload_n 0, 1, 0, 0), (26, .getfield 22, 3, 5, 3), (29, .ifCond .ne 9, 3, 38, 0), (32, .aload_n 1, 1, 0, 0), (33, .iload_n 2, 1, 0, 0), (34, .iload_n 3, 1, 0, 0), (35, .invokevirtual 83, 3, 33, 3), (38, .return_, 1, 0, 0)]
def mj_c56 : List mj_Row := mj_c56_0
def mj_c57_0 : List mj_Row := [(0, .aload_n 0, 1, 0, 0), (1, .invokevirtual 46, 3, 52, 1), (4, .bipush 48, 2, 0, 0), (6, .isub, 1, 0, 0), (7, .istore_n 2, 1, 0, 0), (8, .aload_n 0, 1, 0, 0), (9, .getfield 22, 3, 5, 3), (12, .ifCond .ne 21, 3, 33, 0), (15, .iload_n 2, 1, 0, 0), (16, .ifCond .lt 17, 3, 33, 0), (19, .iload_n 2, 1, 0, 0), (20, .bipush 6, 2, 0, 0), (22, .if_icmp .ge 11, 3, 33, 0), (25, .iload_n 1, 1, 0, 0), (26, .iconst 1, 1, 0, 0), (27, .iload_n 2, 1, 0, 0), (28, .ishl, 1, 0, 0), (29, .iand, 1, 0, 0), (30, .ifCond .ne 10, 3, 40, 0), (33, .aload_n 0, 1, 0, 0), (34, .iconst 1, 1, 0, 0), (35, .putfield 22, 3, 5, 3), (38, .iconst 0, 1, 0, 0), (39, .ireturn, 1, 0, 0), (40, .aload_n 0, 1, 0, 0), (41, .dup, 1, 0, 0), (42, .getfield 19, 3, 5, 2), (45, .iconst 1, 1, 0, 0), (46, .iadd, 1, 0, 0), (47, .putfield 19, 3, 5, 2), (50, .iload_n 2, 1, 0, 0), (51, .ireturn, 1, 0, 0)]
def mj_c57 : List mj_Row := mj_c57_0
def mj_c58_0 : List mj_Row := [(0, .aload_n 0, 1, 0, 0), (1, .bipush 71, 2, 0, 0), (3, .invokevirtual 31, 3, 51, 2), (6, .aload_n 0, 1, 0, 0), (7, .iconst 0, 1, 0, 0), (8, .iconst 3, 1, 0, 0), (9, .invokevirtual 35, 3, 53, 3), (12, .istore_n 2, 1, 0, 0), (13, .aload_n 0, 1, 0, 0), (14, .iconst 0, 1, 0, 0), (15, .iconst 5, 1, 0, 0), (16, .invokevirtual 35, 3, 53, 3), (19, .istore_n 3, 1, 0, 0), (20, .aload_n 0, 1, 0, 0), (21, .iload_n 3, 1, 0, 0), (22, .ifCond .ne 7, 3, 29, 0), (25, .iconst 1, 1, 0, 0), (26, .goto 4, 3, 30, 0), (29, .iconst 0, 1, 0, 0), (30, .iload_n 3, 1, 0, 0), (31, .iconst 5, 1, 0, 0), (32, .if_icmp .ne 7, 3, 39, 0), (35, .iconst 4, 1, 0, 0), (36, .goto 5, 3, 41, 0), (39, .bipush 9, 2, 0, 0), (41, .invokevirtual 35, 3, 53, 3), (44, .istore 4, 2, 0, 0), (46, .aload_n 0, 1, 0, 0), (47, .getfield 22, 3, 5, 3), (50, .ifCond .ne 15, 3, 65, 0), (53, .aload_n 1, 1, 0, 0), (54, .iload_n 2, 1, 0, 0), (55, .bipush 10, 2, 0, 0), (57, .iload_n 3, 1, 0, 0), (58, .imul, 1, 0, 0), (59, .iload 4, 2, 0, 0), (61, .iadd, 1, 0, 0), (62, .invokevirtual 87, 3, 34, 3), (65, .return_, 1, 0, 0)]
def mj_c58 : List mj_Row := mj_c58_0
def mj_c59_0 : List mj_Row := [(0, .aload_n 0, 1, 0, 0), (1, .invokespecial 1, 3, 999, 1), (4, .aload_n 0, 1, 0, 0), (5, .new 7, 3, 5, 0), (8, .dup, 1, 0, 0), (9, .invokespecial 9, 3, 48, 1), (12, .putfield 10, 3, 6, 0), (15, .aload_n 0, 1, 0, 0), (16, .new 16, 3, 3, 0), (19, .dup, 1, 0, 0), (20, .invokespecial 18, 3, 25, 1), (23, .putfield 19, 3, 6, 1), (26, .aload_n 0, 1, 0, 0), (27, .new 16, 3, 3, 0), (30, .dup, 1, 0, 0), (31, .invokespecial 18, 3, 25, 1), (34, .putfield 23, 3, 6, 2), (37, .aload_n 0, 1, 0, 0), (38, .new 26, 3, 2, 0), (41, .dup, 1, 0, 0), (42, .aload_n 0, 1, 0, 0), (43, .getfield 19, 3, 6, 1), (46, .invokespecial 28, 3, 9, 2), (49, .putfield 31, 3, 6, 3), (52, .aload_n 0, 1, 0, 0), (53, .new 26, 3, 2, 0), (56, .dup, 1, 0, 0), (57, .aload_n 0, 1, 0, 0), (58, .getfield 19, 3, 6, 1), (61, .invokespecial 28, 3, 9, 2), (64, .putfield 35, 3, 6, 4), (67, .aload_n 0, 1, 0, 0), (68, .new 38, 3, 0, 0), (71, .dup, 1, 0, 0), (72, .aload_n 0, 1, 0, 0), (73, .getfield 19, 3, 6, 1), (76, .invokespecial 40, 3, 0, 2), (79, .putfield 41, 3, 6, 5), (82, .aload_n 0, 1, 0, 0), (83, .iconst 2, 1, 0, 0)]
def mj_c59_1 : List mj_Row := [(84, .anewarray 26, 3, 2, 0), (87, .putfield 45, 3, 6, 6), (90, .aload_n 0, 1, 0, 0), (91, .iconst 2, 1, 0, 0), (92, .newarray .boolean, 2, 0, 0), (94, .putfield 49, 3, 6, 7), (97, .aload_n 0, 1, 0, 0), (98, .new 53, 3, 1, 0), (101, .dup, 1, 0, 0), (102, .invokespecial 55, 3, 5, 1), (105, .putfield 56, 3, 6, 8), (108, .aload_n 0, 1, 0, 0), (109, .new 60, 3, 4, 0), (112, .dup, 1, 0, 0), (113, .invokespecial 62, 3, 44, 1), (116, .putfield 63, 3, 6, 9), (119, .iconst 0, 1, 0, 0), (120, .istore_n 1, 1, 0, 0), (121, .iload_n 1, 1, 0, 0), (122, .iconst 2, 1, 0, 0), (123, .if_icmp .ge 26, 3, 149, 0), (126, .aload_n 0, 1, 0, 0), (127, .getfield 45, 3, 6, 6), (130, .iload_n 1, 1, 0, 0), (131, .new 26, 3, 2, 0), (134, .dup, 1, 0, 0), (135, .aload_n 0, 1, 0, 0), (136, .getfield 19, 3, 6, 1), (139, .invokespecial 28, 3, 9, 2), (142, .aastore, 1, 0, 0), (143, .iinc 1 1, 3, 0, 0), (146, .goto (-25), 3, 121, 0), (149, .return_, 1, 0, 0)]
def mj_c59 : List mj_Row := mj_c59_0 ++ (mj_c59_1)
def mj_c60_0 : List mj_Row := [(0, .iload_n 1, 1, 0, 0), (1, .ifCond .lt 10, 3, 11, 0), (4, .iload_n 1, 1, 0, 0), (5, .sipush 255, 3, 0, 0), (8, .if_icmp .le 6, 3, 14, 0), (11, .bipush (-2), 2, 0, 0), (13, .ireturn, 1, 0, 0), (14, .aload_n 0, 1, 0, 0), (15, .getfield 10, 3, 6, 0), (18, .iload_n 1, 1, 0, 0), (19, .invokevirtual 67, 3, 49, 2), (22, .ifCond .eq 13, 3, 35, 0), (25, .aload_n 0, 1, 0, 0), (26, .getfield 10, 3, 6, 0), (29, .getfield 71, 3, 5, 1), (32, .goto 5, 3, 37, 0), (35, .bipush (-4), 2, 0, 0), (37, .ireturn, 1, 0, 0)]
def mj_c60 : List mj_Row := mj_c60_0
def mj_c61_0 : List mj_Row := [(0, .aload_n 0, 1, 0, 0), (1, .getfield 10, 3, 6, 0), (4, .getfield 71, 3, 5, 1), (7, .istore_n 1, 1, 0, 0), (8, .aload_n 0, 1, 0, 0), (9, .getfield 10, 3, 6, 0), (12, .iconst 0, 1, 0, 0), (13, .putfield 71, 3, 5, 1), (16, .iload_n 1, 1, 0, 0), (17, .ireturn, 1, 0, 0)]
def mj_c61 : List mj_Row := mj_c61_0
def mj_c62_0 : List mj_Row := [(0, .aload_n 0, 1, 0, 0), (1, .getfield 10, 3, 6, 0), (4, .aload_n 0, 1, 0, 0), (5, .getfield 23, 3, 6, 2), (8, .invokevirtual 75, 3, 50, 2), (11, .ireturn, 1, 0, 0)]
def mj_c62 : List mj_Row := mj_c62_0
def mj_c63_0 : List mj_Row := [(0, .aload_n 0, 1, 0, 0), (1, .getfield 10, 3, 6, 0), (4, .aload_n 0, 1, 0, 0), (5, .getfield 23, 3, 6, 2), (8, .invokevirtual 75, 3, 50, 2), (11, .bipush (-9), 2, 0, 0), (13, .if_icmp .eq 6, 3, 19, 0), (16, .bipush (-3), 2, 0, 0), (18, .ireturn, 1, 0, 0), (19, .aload_n 0, 1, 0, 0), (20, .getfield 10, 3, 6, 0), (23, .aload_n 0, 1, 0, 0), (24, .getfield 19, 3, 6, 1), (27, .invokevirtual 75, 3, 50, 2), (30, .pop, 1, 0, 0), (31, .aload_n 0, 1, 0, 0), (32, .getfield 31, 3, 6, 3), (35, .invokevirtual 79, 3, 10, 1), (38, .aload_n 0, 1, 0, 0), (39, .getfield 41, 3, 6, 5), (42, .invokevirtual 82, 3, 1, 1), (45, .iconst 0, 1, 0, 0), (46, .istore_n 1, 1, 0, 0), (47, .iload_n 1, 1, 0, 0), (48, .iconst 2, 1, 0, 0), (49, .if_icmp .ge 16, 3, 65, 0), (52, .aload_n 0, 1, 0, 0), (53, .getfield 49, 3, 6, 7), (56, .iload_n 1, 1, 0, 0), (57, .iconst 0, 1, 0, 0), (58, .bastore, 1, 0, 0), (59, .iinc 1 1, 3, 0, 0), (62, .goto (-15), 3, 47, 0), (65, .aload_n 0, 1, 0, 0), (66, .getfield 19, 3, 6, 1), (69, .getfield 85, 3, 3, 1), (72, .ireturn, 1, 0, 0)]
def mj_c63 : List mj_Row := mj_c63_0
def mj_c64_0 : List mj_Row := [(0, .iload_n 1, 1, 0, 0), (1, .tableswitch 170 0 11 #[63, 71, 79, 87, 102, 110, 118, 126, 134, 142, 147, 155], 63, 0, 0), (64, .aload_n 0, 1, 0, 0), (65, .getfield 19, 3, 6, 1), (68, .getfield 85, 3, 3, 1), (71, .ireturn, 1, 0, 0), (72, .aload_n 0, 1, 0, 0), (73, .getfield 31, 3, 6, 3), (76, .getfield 88, 3, 2, 1), (79, .ireturn, 1, 0, 0), (80, .aload_n 0, 1, 0, 0), (81, .getfield 31, 3, 6, 3), (84, .getfield 91, 3, 2, 2), (87, .ireturn, 1, 0, 0), (88, .aload_n 0, 1, 0, 0), (89, .getfield 19, 3, 6, 1), (92, .aload_n 0, 1, 0, 0), (93, .getfield 31, 3, 6, 3), (96, .getfield 91, 3, 2, 2), (99, .invokevirtual 94, 3, 35, 2), (102, .ireturn, 1, 0, 0), (103, .aload_n 0, 1, 0, 0), (104, .getfield 31, 3, 6, 3), (107, .getfield 98, 3, 2, 3), (110, .ireturn, 1, 0, 0), (111, .aload_n 0, 1, 0, 0), (112, .getfield 31, 3, 6, 3), (115, .invokevirtual 101, 3, 11, 1), (118, .ireturn, 1, 0, 0), (119, .aload_n 0, 1, 0, 0), (120, .getfield 19, 3, 6, 1), (123, .getfield 105, 3, 3, 2), (126, .ireturn, 1, 0, 0), (127, .aload_n 0, 1, 0, 0), (128, .getfield 31, 3, 6, 3), (131, .getfield 108, 3, 2, 5), (134, .ireturn, 1, 0, 0), (135, .aload_n 0, 1, 0, 0), (136, .getfield 41, 3, 6, 5), (139, .getfield 111, 3, 0, 2)]
def mj_c64_1 : List mj_Row := [(142, .ireturn, 1, 0, 0), (143, .aload_n 0, 1, 0, 0), (144, .getfield 114, 3, 6, 10), (147, .ireturn, 1, 0, 0), (148, .aload_n 0, 1, 0, 0), (149, .getfield 10, 3, 6, 0), (152, .getfield 71, 3, 5, 1), (155, .ireturn, 1, 0, 0), (156, .aload_n 0, 1, 0, 0), (157, .getfield 19, 3, 6, 1), (160, .aload_n 0, 1, 0, 0), (161, .getfield 31, 3, 6, 3), (164, .getfield 91, 3, 2, 2), (167, .invokevirtual 117, 3, 37, 2), (170, .ireturn, 1, 0, 0), (171, .bipush (-2), 2, 0, 0), (173, .ireturn, 1, 0, 0)]
def mj_c64 : List mj_Row := mj_c64_0 ++ (mj_c64_1)
def mj_c65_0 : List mj_Row := [(0, .aload_n 0, 1, 0, 0), (1, .getfield 19, 3, 6, 1), (4, .iload_n 1, 1, 0, 0), (5, .invokevirtual 120, 3, 31, 2), (8, .ifCond .ne 5, 3, 13, 0), (11, .iconst (-1), 1, 0, 0), (12, .ireturn, 1, 0, 0), (13, .iload_n 2, 1, 0, 0), (14, .tableswitch 127 0 6 #[42, 52, 62, 72, 82, 92, 101], 42, 0, 0), (56, .aload_n 0, 1, 0, 0), (57, .getfield 19, 3, 6, 1), (60, .getfield 123, 3, 3, 3), (63, .iload_n 1, 1, 0, 0), (64, .iaload, 1, 0, 0), (65, .ireturn, 1, 0, 0), (66, .aload_n 0, 1, 0, 0), (67, .getfield 19, 3, 6, 1), (70, .getfield 127, 3, 3, 4), (73, .iload_n 1, 1, 0, 0), (74, .iaload, 1, 0, 0), (75, .ireturn, 1, 0, 0), (76, .aload_n 0, 1, 0, 0), (77, .getfield 19, 3, 6, 1), (80, .getfield 130, 3, 3, 5), (83, .iload_n 1, 1, 0, 0), (84, .iaload, 1, 0, 0), (85, .ireturn, 1, 0, 0), (86, .aload_n 0, 1, 0, 0), (87, .getfield 19, 3, 6, 1), (90, .getfield 133, 3, 3, 6), (93, .iload_n 1, 1, 0, 0), (94, .iaload, 1, 0, 0), (95, .ireturn, 1, 0, 0), (96, .aload_n 0, 1, 0, 0), (97, .getfield 19, 3, 6, 1), (100, .getfield 136, 3, 3, 7), (103, .iload_n 1, 1, 0, 0), (104, .iaload, 1, 0, 0), (105, .ireturn, 1, 0, 0), (106, .aload_n 0, 1, 0, 0)]
def mj_c65_1 : List mj_Row := [(107, .getfield 31, 3, 6, 3), (110, .iload_n 1, 1, 0, 0), (111, .invokevirtual 139, 3, 13, 2), (114, .ireturn, 1, 0, 0), (115, .aload_n 0, 1, 0, 0), (116, .getfield 31, 3, 6, 3), (119, .iload_n 1, 1, 0, 0), (120, .invokevirtual 142, 3, 15, 2), (123, .ifCond .eq 15, 3, 138, 0), (126, .aload_n 0, 1, 0, 0), (127, .getfield 31, 3, 6, 3), (130, .getfield 145, 3, 2, 6), (133, .iload_n 1, 1, 0, 0), (134, .iaload, 1, 0, 0), (135, .goto 5, 3, 140, 0), (138, .bipush (-9), 2, 0, 0), (140, .ireturn, 1, 0, 0), (141, .bipush (-2), 2, 0, 0), (143, .ireturn, 1, 0, 0)]
def mj_c65 : List mj_Row := mj_c65_0 ++ (mj_c65_1)
def mj_c66_0 : List mj_Row := [(0, .aload_n 0, 1, 0, 0), (1, .getfield 19, 3, 6, 1), (4, .iload_n 1, 1, 0, 0), (5, .invokevirtual 148, 3, 39, 2), (8, .ifCond .ne 5, 3, 13, 0), (11, .iconst (-1), 1, 0, 0), (12, .ireturn, 1, 0, 0), (13, .iload_n 2, 1, 0, 0), (14, .tableswitch 63 0 2 #[26, 36, 46], 26, 0, 0), (40, .aload_n 0, 1, 0, 0), (41, .getfield 19, 3, 6, 1), (44, .getfield 151, 3, 3, 8), (47, .iload_n 1, 1, 0, 0), (48, .iaload, 1, 0, 0), (49, .ireturn, 1, 0, 0), (50, .aload_n 0, 1, 0, 0), (51, .getfield 19, 3, 6, 1), (54, .getfield 154, 3, 3, 9), (57, .iload_n 1, 1, 0, 0), (58, .iaload, 1, 0, 0), (59, .ireturn, 1, 0, 0), (60, .iload_n 1, 1, 0, 0), (61, .aload_n 0, 1, 0, 0), (62, .getfield 31, 3, 6, 3), (65, .getfield 108, 3, 2, 5), (68, .if_icmp .ge 7, 3, 75, 0), (71, .iconst 1, 1, 0, 0), (72, .goto 4, 3, 76, 0), (75, .iconst 0, 1, 0, 0), (76, .ireturn, 1, 0, 0), (77, .bipush (-2), 2, 0, 0), (79, .ireturn, 1, 0, 0)]
def mj_c66 : List mj_Row := mj_c66_0
def mj_c67_0 : List mj_Row := [(0, .aload_n 0, 1, 0, 0), (1, .getfield 31, 3, 6, 3), (4, .invokevirtual 157, 3, 12, 1), (7, .ifCond .ne 6, 3, 13, 0), (10, .bipush (-3), 2, 0, 0), (12, .ireturn, 1, 0, 0), (13, .aload_n 0, 1, 0, 0), (14, .getfield 31, 3, 6, 3), (17, .invokevirtual 161, 3, 16, 1), (20, .ifCond .ne 6, 3, 26, 0), (23, .bipush (-4), 2, 0, 0), (25, .ireturn, 1, 0, 0), (26, .aload_n 0, 1, 0, 0), (27, .getfield 41, 3, 6, 5), (30, .aload_n 0, 1, 0, 0), (31, .getfield 31, 3, 6, 3), (34, .invokevirtual 164, 3, 2, 2), (37, .aload_n 0, 1, 0, 0), (38, .getfield 31, 3, 6, 3), (41, .invokevirtual 168, 3, 18, 1), (44, .ireturn, 1, 0, 0)]
def mj_c67 : List mj_Row := mj_c67_0
def mj_c68_0 : List mj_Row := [(0, .aload_n 0, 1, 0, 0), (1, .getfield 31, 3, 6, 3), (4, .invokevirtual 157, 3, 12, 1), (7, .ifCond .ne 6, 3, 13, 0), (10, .bipush (-3), 2, 0, 0), (12, .ireturn, 1, 0, 0), (13, .aload_n 0, 1, 0, 0), (14, .getfield 41, 3, 6, 5), (17, .aload_n 0, 1, 0, 0), (18, .getfield 31, 3, 6, 3), (21, .invokevirtual 164, 3, 2, 2), (24, .aload_n 0, 1, 0, 0), (25, .getfield 31, 3, 6, 3), (28, .invokevirtual 171, 3, 20, 1), (31, .aload_n 0, 1, 0, 0), (32, .getfield 31, 3, 6, 3), (35, .invokevirtual 101, 3, 11, 1), (38, .ireturn, 1, 0, 0)]
def mj_c68 : List mj_Row := mj_c68_0
def mj_c69_0 : List mj_Row := [(0, .aload_n 0, 1, 0, 0), (1, .getfield 41, 3, 6, 5), (4, .aload_n 0, 1, 0, 0), (5, .getfield 31, 3, 6, 3), (8, .invokevirtual 164, 3, 2, 2), (11, .aload_n 0, 1, 0, 0), (12, .getfield 31, 3, 6, 3), (15, .invokevirtual 174, 3, 21, 1), (18, .ireturn, 1, 0, 0)]
def mj_c69 : List mj_Row := mj_c69_0
def mj_c70_0 : List mj_Row := [(0, .aload_n 0, 1, 0, 0), (1, .getfield 31, 3, 6, 3), (4, .invokevirtual 177, 3, 22, 1), (7, .ifCond .ne 6, 3, 13, 0), (10, .bipush (-3), 2, 0, 0), (12, .ireturn, 1, 0, 0), (13, .aload_n 0, 1, 0, 0), (14, .getfield 41, 3, 6, 5), (17, .aload_n 0, 1, 0, 0), (18, .getfield 31, 3, 6, 3), (21, .invokevirtual 164, 3, 2, 2), (24, .aload_n 0, 1, 0, 0), (25, .getfield 31, 3, 6, 3), (28, .invokevirtual 180, 3, 23, 1), (31, .ireturn, 1, 0, 0)]
def mj_c70 : List mj_Row := mj_c70_0
def mj_c71_0 : List mj_Row := [(0, .aload_n 0, 1, 0, 0), (1, .getfield 41, 3, 6, 5), (4, .aload_n 0, 1, 0, 0), (5, .getfield 31, 3, 6, 3), (8, .invokevirtual 183, 3, 4, 2), (11, .ifCond .eq 13, 3, 24, 0), (14, .aload_n 0, 1, 0, 0), (15, .getfield 41, 3, 6, 5), (18, .getfield 111, 3, 0, 2), (21, .goto 5, 3, 26, 0), (24, .bipush (-3), 2, 0, 0), (26, .ireturn, 1, 0, 0)]
def mj_c71 : List mj_Row := mj_c71_0
def mj_c72_0 : List mj_Row := [(0, .aload_n 0, 1, 0, 0), (1, .iload_n 1, 1, 0, 0), (2, .invokevirtual 187, 3, 73, 2), (5, .ifCond .eq 12, 3, 17, 0), (8, .iload_n 2, 1, 0, 0), (9, .ifCond .lt 8, 3, 17, 0), (12, .iload_n 2, 1, 0, 0), (13, .iconst 2, 1, 0, 0), (14, .if_icmp .le 6, 3, 20, 0), (17, .bipush (-2), 2, 0, 0), (19, .ireturn, 1, 0, 0), (20, .aload_n 0, 1, 0, 0), (21, .iload_n 1, 1, 0, 0), (22, .invokevirtual 190, 3, 74, 2), (25, .istore_n 3, 1, 0, 0), (26, .iload_n 3, 1, 0, 0), (27, .bipush (-9), 2, 0, 0), (29, .if_icmp .ne 6, 3, 35, 0), (32, .bipush (-9), 2, 0, 0), (34, .ireturn, 1, 0, 0), (35, .iload_n 2, 1, 0, 0), (36, .ifCond .ne 7, 3, 43, 0), (39, .iload_n 3, 1, 0, 0), (40, .goto 25, 3, 65, 0), (43, .iload_n 2, 1, 0, 0), (44, .iconst 1, 1, 0, 0), (45, .if_icmp .ne 13, 3, 58, 0), (48, .aload_n 0, 1, 0, 0), (49, .getfield 35, 3, 6, 4), (52, .getfield 91, 3, 2, 2), (55, .goto 10, 3, 65, 0), (58, .aload_n 0, 1, 0, 0), (59, .getfield 35, 3, 6, 4), (62, .getfield 108, 3, 2, 5), (65, .ireturn, 1, 0, 0)]
def mj_c72 : List mj_Row := mj_c72_0
def mj_c73_0 : List mj_Row := [(0, .iconst 1, 1, 0, 0), (1, .aload_n 0, 1, 0, 0), (2, .getfield 31, 3, 6, 3), (5, .getfield 256, 3, 2, 4), (8, .ishl, 1, 0, 0), (9, .iconst 1, 1, 0, 0), (10, .isub, 1, 0, 0), (11, .istore_n 2, 1, 0, 0), (12, .aload_n 0, 1, 0, 0), (13, .getfield 19, 3, 6, 1), (16, .iload_n 1, 1, 0, 0), (17, .invokevirtual 206, 3, 41, 2), (20, .ifCond .eq 13, 3, 33, 0), (23, .iload_n 1, 1, 0, 0), (24, .iload_n 2, 1, 0, 0), (25, .iand, 1, 0, 0), (26, .ifCond .ne 7, 3, 33, 0), (29, .iconst 1, 1, 0, 0), (30, .goto 4, 3, 34, 0), (33, .iconst 0, 1, 0, 0), (34, .ireturn, 1, 0, 0)]
def mj_c73 : List mj_Row := mj_c73_0
def mj_c74_0 : List mj_Row := [(0, .aload_n 0, 1, 0, 0), (1, .getfield 35, 3, 6, 4), (4, .aload_n 0, 1, 0, 0), (5, .getfield 31, 3, 6, 3), (8, .invokevirtual 200, 3, 17, 2), (11, .aload_n 0, 1, 0, 0), (12, .getfield 31, 3, 6, 3), (15, .getfield 256, 3, 2, 4), (18, .istore_n 2, 1, 0, 0), (19, .iload_n 2, 1, 0, 0), (20, .aload_n 0, 1, 0, 0), (21, .getfield 19, 3, 6, 1), (24, .getfield 85, 3, 3, 1), (27, .if_icmp .ge 51, 3, 78, 0), (30, .iload_n 1, 1, 0, 0), (31, .iconst 1, 1, 0, 0), (32, .iload_n 2, 1, 0, 0), (33, .ishl, 1, 0, 0), (34, .iand, 1, 0, 0), (35, .ifCond .ne 13, 3, 48, 0), (38, .aload_n 0, 1, 0, 0), (39, .getfield 35, 3, 6, 4), (42, .invokevirtual 171, 3, 20, 1), (45, .goto 27, 3, 72, 0), (48, .aload_n 0, 1, 0, 0), (49, .getfield 35, 3, 6, 4), (52, .invokevirtual 161, 3, 16, 1), (55, .ifCond .eq 14, 3, 69, 0), (58, .aload_n 0, 1, 0, 0), (59, .getfield 35, 3, 6, 4), (62, .invokevirtual 168, 3, 18, 1), (65, .pop, 1, 0, 0), (66, .goto 6, 3, 72, 0), (69, .bipush (-9), 2, 0, 0), (71, .ireturn, 1, 0, 0), (72, .iinc 2 1, 3, 0, 0), (75, .goto (-56), 3, 19, 0), (78, .iconst 0, 1, 0, 0), (79, .istore_n 2, 1, 0, 0), (80, .iload_n 2, 1, 0, 0)]
def mj_c74_1 : List mj_Row := [(81, .aload_n 0, 1, 0, 0), (82, .getfield 19, 3, 6, 1), (85, .getfield 105, 3, 3, 2), (88, .if_icmp .ge 27, 3, 115, 0), (91, .aload_n 0, 1, 0, 0), (92, .getfield 35, 3, 6, 4), (95, .invokevirtual 177, 3, 22, 1), (98, .ifCond .eq 17, 3, 115, 0), (101, .aload_n 0, 1, 0, 0), (102, .getfield 35, 3, 6, 4), (105, .invokevirtual 180, 3, 23, 1), (108, .pop, 1, 0, 0), (109, .iinc 2 1, 3, 0, 0), (112, .goto (-32), 3, 80, 0), (115, .aload_n 0, 1, 0, 0), (116, .getfield 31, 3, 6, 3), (119, .getfield 88, 3, 2, 1), (122, .aload_n 0, 1, 0, 0), (123, .getfield 35, 3, 6, 4), (126, .getfield 88, 3, 2, 1), (129, .isub, 1, 0, 0), (130, .ireturn, 1, 0, 0)]
def mj_c74 : List mj_Row := mj_c74_0 ++ (mj_c74_1)
def mj_c75_0 : List mj_Row := [(0, .iload_n 1, 1, 0, 0), (1, .ifCond .lt 8, 3, 9, 0), (4, .iload_n 1, 1, 0, 0), (5, .iconst 1, 1, 0, 0), (6, .if_icmp .le 6, 3, 12, 0), (9, .bipush (-2), 2, 0, 0), (11, .ireturn, 1, 0, 0), (12, .bipush (-9), 2, 0, 0), (14, .istore_n 2, 1, 0, 0), (15, .bipush (-9), 2, 0, 0), (17, .istore_n 3, 1, 0, 0), (18, .iconst 0, 1, 0, 0), (19, .istore 4, 2, 0, 0), (21, .iload 4, 2, 0, 0), (23, .aload_n 0, 1, 0, 0), (24, .getfield 19, 3, 6, 1), (27, .invokevirtual 193, 3, 32, 1), (30, .if_icmp .gt 73, 3, 103, 0), (33, .aload_n 0, 1, 0, 0), (34, .iload 4, 2, 0, 0), (36, .invokevirtual 187, 3, 73, 2), (39, .ifCond .eq 12, 3, 51, 0), (42, .aload_n 0, 1, 0, 0), (43, .iload 4, 2, 0, 0), (45, .invokevirtual 190, 3, 74, 2), (48, .goto 5, 3, 53, 0), (51, .bipush (-9), 2, 0, 0), (53, .istore 5, 2, 0, 0), (55, .iload 5, 2, 0, 0), (57, .bipush (-9), 2, 0, 0), (59, .if_icmp .eq 38, 3, 97, 0), (62, .aload_n 0, 1, 0, 0), (63, .getfield 35, 3, 6, 4), (66, .getfield 108, 3, 2, 5), (69, .aload_n 0, 1, 0, 0), (70, .getfield 19, 3, 6, 1), (73, .getfield 105, 3, 3, 2), (76, .if_icmp .ne 21, 3, 97, 0), (79, .iload_n 2, 1, 0, 0), (80, .bipush (-9), 2, 0, 0)]
def mj_c75_1 : List mj_Row := [(82, .if_icmp .eq 9, 3, 91, 0), (85, .iload 5, 2, 0, 0), (87, .iload_n 3, 1, 0, 0), (88, .if_icmp .ge 9, 3, 97, 0), (91, .iload 4, 2, 0, 0), (93, .istore_n 2, 1, 0, 0), (94, .iload 5, 2, 0, 0), (96, .istore_n 3, 1, 0, 0), (97, .iinc 4 1, 3, 0, 0), (100, .goto (-79), 3, 21, 0), (103, .iload_n 1, 1, 0, 0), (104, .ifCond .ne 7, 3, 111, 0), (107, .iload_n 3, 1, 0, 0), (108, .goto 4, 3, 112, 0), (111, .iload_n 2, 1, 0, 0), (112, .ireturn, 1, 0, 0)]
def mj_c75 : List mj_Row := mj_c75_0 ++ (mj_c75_1)
def mj_c76_0 : List mj_Row := [(0, .iload_n 1, 1, 0, 0), (1, .ifCond .lt 8, 3, 9, 0), (4, .iload_n 1, 1, 0, 0), (5, .iconst 2, 1, 0, 0), (6, .if_icmp .le 6, 3, 12, 0), (9, .bipush (-2), 2, 0, 0), (11, .ireturn, 1, 0, 0), (12, .bipush (-9), 2, 0, 0), (14, .istore_n 2, 1, 0, 0), (15, .bipush (-9), 2, 0, 0), (17, .istore_n 3, 1, 0, 0), (18, .bipush (-9), 2, 0, 0), (20, .istore 4, 2, 0, 0), (22, .iconst 0, 1, 0, 0), (23, .istore 5, 2, 0, 0), (25, .iload 5, 2, 0, 0), (27, .aload_n 0, 1, 0, 0), (28, .getfield 19, 3, 6, 1), (31, .invokevirtual 193, 3, 32, 1), (34, .if_icmp .gt 83, 3, 117, 0), (37, .aload_n 0, 1, 0, 0), (38, .iload 5, 2, 0, 0), (40, .invokevirtual 187, 3, 73, 2), (43, .ifCond .eq 12, 3, 55, 0), (46, .aload_n 0, 1, 0, 0), (47, .iload 5, 2, 0, 0), (49, .invokevirtual 190, 3, 74, 2), (52, .goto 5, 3, 57, 0), (55, .bipush (-9), 2, 0, 0), (57, .istore 6, 2, 0, 0), (59, .iload 6, 2, 0, 0), (61, .bipush (-9), 2, 0, 0), (63, .if_icmp .eq 48, 3, 111, 0), (66, .aload_n 0, 1, 0, 0), (67, .getfield 35, 3, 6, 4), (70, .getfield 108, 3, 2, 5), (73, .iload 4, 2, 0, 0), (75, .if_icmp .gt 21, 3, 96, 0), (78, .aload_n 0, 1, 0, 0), (79, .getfield 35, 3, 6, 4)]
def mj_c76_1 : List mj_Row := [(82, .getfield 108, 3, 2, 5), (85, .iload 4, 2, 0, 0), (87, .if_icmp .ne 24, 3, 111, 0), (90, .iload 6, 2, 0, 0), (92, .iload_n 3, 1, 0, 0), (93, .if_icmp .ge 18, 3, 111, 0), (96, .iload 5, 2, 0, 0), (98, .istore_n 2, 1, 0, 0), (99, .iload 6, 2, 0, 0), (101, .istore_n 3, 1, 0, 0), (102, .aload_n 0, 1, 0, 0), (103, .getfield 35, 3, 6, 4), (106, .getfield 108, 3, 2, 5), (109, .istore 4, 2, 0, 0), (111, .iinc 5 1, 3, 0, 0), (114, .goto (-89), 3, 25, 0), (117, .iload_n 1, 1, 0, 0), (118, .ifCond .ne 8, 3, 126, 0), (121, .iload 4, 2, 0, 0), (123, .goto 13, 3, 136, 0), (126, .iload_n 1, 1, 0, 0), (127, .iconst 1, 1, 0, 0), (128, .if_icmp .ne 7, 3, 135, 0), (131, .iload_n 3, 1, 0, 0), (132, .goto 4, 3, 136, 0), (135, .iload_n 2, 1, 0, 0), (136, .ireturn, 1, 0, 0)]
def mj_c76 : List mj_Row := mj_c76_0 ++ (mj_c76_1)
def mj_c77_0 : List mj_Row := [(0, .iload_n 1, 1, 0, 0), (1, .iconst 1, 1, 0, 0), (2, .if_icmp .lt 23, 3, 25, 0), (5, .iload_n 1, 1, 0, 0), (6, .bipush 8, 2, 0, 0), (8, .if_icmp .gt 17, 3, 25, 0), (11, .iload_n 2, 1, 0, 0), (12, .ifCond .lt 13, 3, 25, 0), (15, .iload_n 2, 1, 0, 0), (16, .bipush 10, 2, 0, 0), (18, .iload_n 1, 1, 0, 0), (19, .invokestatic 196, 3, 78, 2), (22, .if_icmp .lt 6, 3, 28, 0), (25, .bipush (-2), 2, 0, 0), (27, .ireturn, 1, 0, 0), (28, .aload_n 0, 1, 0, 0), (29, .getfield 35, 3, 6, 4), (32, .aload_n 0, 1, 0, 0), (33, .getfield 31, 3, 6, 3), (36, .invokevirtual 200, 3, 17, 2), (39, .bipush 10, 2, 0, 0), (41, .iload_n 1, 1, 0, 0), (42, .iconst 1, 1, 0, 0), (43, .isub, 1, 0, 0), (44, .invokestatic 196, 3, 78, 2), (47, .istore_n 3, 1, 0, 0), (48, .iconst 0, 1, 0, 0), (49, .istore 4, 2, 0, 0), (51, .iload 4, 2, 0, 0), (53, .iload_n 1, 1, 0, 0), (54, .if_icmp .ge 37, 3, 91, 0), (57, .iload_n 3, 1, 0, 0), (58, .ifCond .le 33, 3, 91, 0), (61, .aload_n 0, 1, 0, 0), (62, .getfield 35, 3, 6, 4), (65, .iload_n 2, 1, 0, 0), (66, .iload_n 3, 1, 0, 0), (67, .idiv, 1, 0, 0), (68, .bipush 10, 2, 0, 0), (70, .irem, 1, 0, 0)]
def mj_c77_1 : List mj_Row := [(71, .invokevirtual 203, 3, 24, 2), (74, .ifCond .ne 6, 3, 80, 0), (77, .iload 4, 2, 0, 0), (79, .ireturn, 1, 0, 0), (80, .iload_n 3, 1, 0, 0), (81, .bipush 10, 2, 0, 0), (83, .idiv, 1, 0, 0), (84, .istore_n 3, 1, 0, 0), (85, .iinc 4 1, 3, 0, 0), (88, .goto (-37), 3, 51, 0), (91, .bipush (-9), 2, 0, 0), (93, .ireturn, 1, 0, 0)]
def mj_c77 : List mj_Row := mj_c77_0 ++ (mj_c77_1)
def mj_c78_0 : List mj_Row := [(0, .iconst 1, 1, 0, 0), (1, .istore_n 2, 1, 0, 0), (2, .iconst 0, 1, 0, 0), (3, .istore_n 3, 1, 0, 0), (4, .iload_n 3, 1, 0, 0), (5, .iload_n 1, 1, 0, 0), (6, .if_icmp .ge 13, 3, 19, 0), (9, .iload_n 2, 1, 0, 0), (10, .iload_n 0, 1, 0, 0), (11, .imul, 1, 0, 0), (12, .istore_n 2, 1, 0, 0), (13, .iinc 3 1, 3, 0, 0), (16, .goto (-12), 3, 4, 0), (19, .iload_n 2, 1, 0, 0), (20, .ireturn, 1, 0, 0)]
def mj_c78 : List mj_Row := mj_c78_0
def mj_c79_0 : List mj_Row := [(0, .aload_n 0, 1, 0, 0), (1, .getfield 19, 3, 6, 1), (4, .iload_n 1, 1, 0, 0), (5, .invokevirtual 206, 3, 41, 2), (8, .ifCond .eq 18, 3, 26, 0), (11, .aload_n 0, 1, 0, 0), (12, .getfield 63, 3, 6, 9), (15, .aload_n 0, 1, 0, 0), (16, .getfield 19, 3, 6, 1), (19, .iload_n 1, 1, 0, 0), (20, .invokevirtual 209, 3, 45, 3), (23, .goto 5, 3, 28, 0), (26, .bipush (-2), 2, 0, 0), (28, .ireturn, 1, 0, 0)]
def mj_c79 : List mj_Row := mj_c79_0
def mj_c80_0 : List mj_Row := [(0, .aload_n 0, 1, 0, 0), (1, .getfield 31, 3, 6, 3), (4, .getfield 91, 3, 2, 2), (7, .ifCond .ne 6, 3, 13, 0), (10, .bipush (-9), 2, 0, 0), (12, .ireturn, 1, 0, 0), (13, .aload_n 0, 1, 0, 0), (14, .getfield 35, 3, 6, 4), (17, .aload_n 0, 1, 0, 0), (18, .getfield 31, 3, 6, 3), (21, .invokevirtual 200, 3, 17, 2), (24, .iconst 1, 1, 0, 0), (25, .istore_n 1, 1, 0, 0), (26, .iload_n 1, 1, 0, 0), (27, .bipush 99, 2, 0, 0), (29, .if_icmp .gt 21, 3, 50, 0), (32, .aload_n 0, 1, 0, 0), (33, .getfield 35, 3, 6, 4), (36, .invokevirtual 174, 3, 21, 1), (39, .ifCond .eq 5, 3, 44, 0), (42, .iload_n 1, 1, 0, 0), (43, .ireturn, 1, 0, 0), (44, .iinc 1 1, 3, 0, 0), (47, .goto (-21), 3, 26, 0), (50, .bipush (-9), 2, 0, 0), (52, .ireturn, 1, 0, 0)]
def mj_c80 : List mj_Row := mj_c80_0
def mj_c81_0 : List mj_Row := [(0, .aload_n 0, 1, 0, 0), (1, .getfield 31, 3, 6, 3), (4, .getfield 91, 3, 2, 2), (7, .invokestatic 212, 3, 166, 1), (10, .aload_n 0, 1, 0, 0), (11, .getfield 31, 3, 6, 3), (14, .getfield 88, 3, 2, 1), (17, .invokestatic 217, 3, 997, 2), (20, .ireturn, 1, 0, 0)]
def mj_c81 : List mj_Row := mj_c81_0
def mj_c82_0 : List mj_Row := [(0, .aload_n 0, 1, 0, 0), (1, .getfield 19, 3, 6, 1), (4, .iload_n 1, 1, 0, 0), (5, .invokevirtual 148, 3, 39, 2), (8, .ifCond .ne 5, 3, 13, 0), (11, .iconst (-1), 1, 0, 0), (12, .ireturn, 1, 0, 0), (13, .iconst 1, 1, 0, 0), (14, .istore_n 3, 1, 0, 0), (15, .iconst 1, 1, 0, 0), (16, .istore 4, 2, 0, 0), (18, .iconst 0, 1, 0, 0), (19, .istore 5, 2, 0, 0), (21, .iload 5, 2, 0, 0), (23, .aload_n 0, 1, 0, 0), (24, .getfield 19, 3, 6, 1), (27, .getfield 85, 3, 3, 1), (30, .if_icmp .ge 66, 3, 96, 0), (33, .aload_n 0, 1, 0, 0), (34, .getfield 31, 3, 6, 3), (37, .iload 5, 2, 0, 0), (39, .invokevirtual 142, 3, 15, 2), (42, .ifCond .eq 48, 3, 90, 0), (45, .aload_n 0, 1, 0, 0), (46, .getfield 19, 3, 6, 1), (49, .getfield 133, 3, 3, 6), (52, .iload 5, 2, 0, 0), (54, .iaload, 1, 0, 0), (55, .aload_n 0, 1, 0, 0), (56, .getfield 19, 3, 6, 1), (59, .getfield 151, 3, 3, 8), (62, .iload_n 1, 1, 0, 0), (63, .iaload, 1, 0, 0), (64, .if_icmp .ne 26, 3, 90, 0), (67, .iload_n 3, 1, 0, 0), (68, .bipush 10, 2, 0, 0), (70, .imul, 1, 0, 0), (71, .istore_n 3, 1, 0, 0), (72, .iload 4, 2, 0, 0), (74, .bipush 10, 2, 0, 0)]
def mj_c82_1 : List mj_Row := [(76, .aload_n 0, 1, 0, 0), (77, .getfield 19, 3, 6, 1), (80, .getfield 130, 3, 3, 5), (83, .iload 5, 2, 0, 0), (85, .iaload, 1, 0, 0), (86, .isub, 1, 0, 0), (87, .imul, 1, 0, 0), (88, .istore 4, 2, 0, 0), (90, .iinc 5 1, 3, 0, 0), (93, .goto (-72), 3, 21, 0), (96, .iload_n 3, 1, 0, 0), (97, .iload 4, 2, 0, 0), (99, .isub, 1, 0, 0), (100, .iload_n 3, 1, 0, 0), (101, .iload_n 2, 1, 0, 0), (102, .invokestatic 222, 3, 83, 3), (105, .ireturn, 1, 0, 0)]
def mj_c82 : List mj_Row := mj_c82_0 ++ (mj_c82_1)
def mj_c83_0 : List mj_Row := [(0, .iload_n 0, 1, 0, 0), (1, .iload_n 1, 1, 0, 0), (2, .invokestatic 268, 3, 84, 2), (5, .istore_n 3, 1, 0, 0), (6, .iload_n 2, 1, 0, 0), (7, .ifCond .eq 7, 3, 14, 0), (10, .iload_n 0, 1, 0, 0), (11, .goto 4, 3, 15, 0), (14, .iload_n 1, 1, 0, 0), (15, .istore 4, 2, 0, 0), (17, .iload_n 3, 1, 0, 0), (18, .ifCond .le 10, 3, 28, 0), (21, .iload 4, 2, 0, 0), (23, .iload_n 3, 1, 0, 0), (24, .idiv, 1, 0, 0), (25, .goto 5, 3, 30, 0), (28, .iload 4, 2, 0, 0), (30, .ireturn, 1, 0, 0)]
def mj_c83 : List mj_Row := mj_c83_0
def mj_c84_0 : List mj_Row := [(0, .iload_n 0, 1, 0, 0), (1, .istore_n 2, 1, 0, 0), (2, .iload_n 1, 1, 0, 0), (3, .istore_n 3, 1, 0, 0), (4, .iconst 0, 1, 0, 0), (5, .istore 4, 2, 0, 0), (7, .iload 4, 2, 0, 0), (9, .bipush 64, 2, 0, 0), (11, .if_icmp .ge 23, 3, 34, 0), (14, .iload_n 3, 1, 0, 0), (15, .ifCond .le 19, 3, 34, 0), (18, .iload_n 2, 1, 0, 0), (19, .iload_n 3, 1, 0, 0), (20, .irem, 1, 0, 0), (21, .istore 5, 2, 0, 0), (23, .iload_n 3, 1, 0, 0), (24, .istore_n 2, 1, 0, 0), (25, .iload 5, 2, 0, 0), (27, .istore_n 3, 1, 0, 0), (28, .iinc 4 1, 3, 0, 0), (31, .goto (-24), 3, 7, 0), (34, .iload_n 2, 1, 0, 0), (35, .ireturn, 1, 0, 0)]
def mj_c84 : List mj_Row := mj_c84_0
def mj_c85_0 : List mj_Row := [(0, .aload_n 0, 1, 0, 0), (1, .getfield 19, 3, 6, 1), (4, .iload_n 1, 1, 0, 0), (5, .invokevirtual 148, 3, 39, 2), (8, .ifCond .ne 5, 3, 13, 0), (11, .iconst (-1), 1, 0, 0), (12, .ireturn, 1, 0, 0), (13, .bipush (-9), 2, 0, 0), (15, .istore_n 2, 1, 0, 0), (16, .iconst 0, 1, 0, 0), (17, .istore_n 3, 1, 0, 0), (18, .iconst 0, 1, 0, 0), (19, .istore 4, 2, 0, 0), (21, .iload 4, 2, 0, 0), (23, .aload_n 0, 1, 0, 0), (24, .getfield 19, 3, 6, 1), (27, .getfield 85, 3, 3, 1), (30, .if_icmp .ge 83, 3, 113, 0), (33, .aload_n 0, 1, 0, 0), (34, .getfield 31, 3, 6, 3), (37, .iload 4, 2, 0, 0), (39, .invokevirtual 142, 3, 15, 2), (42, .ifCond .eq 29, 3, 71, 0), (45, .aload_n 0, 1, 0, 0), (46, .getfield 19, 3, 6, 1), (49, .getfield 133, 3, 3, 6), (52, .iload 4, 2, 0, 0), (54, .iaload, 1, 0, 0), (55, .aload_n 0, 1, 0, 0), (56, .getfield 19, 3, 6, 1), (59, .getfield 151, 3, 3, 8), (62, .iload_n 1, 1, 0, 0), (63, .iaload, 1, 0, 0), (64, .if_icmp .ne 7, 3, 71, 0), (67, .iconst 1, 1, 0, 0), (68, .goto 4, 3, 72, 0), (71, .iconst 0, 1, 0, 0), (72, .istore 5, 2, 0, 0), (74, .iload 5, 2, 0, 0), (76, .ifCond .eq 31, 3, 107, 0)]
def mj_c85_1 : List mj_Row := [(79, .aload_n 0, 1, 0, 0), (80, .getfield 19, 3, 6, 1), (83, .getfield 130, 3, 3, 5), (86, .iload 4, 2, 0, 0), (88, .iaload, 1, 0, 0), (89, .iload_n 3, 1, 0, 0), (90, .if_icmp .le 17, 3, 107, 0), (93, .iload 4, 2, 0, 0), (95, .istore_n 2, 1, 0, 0), (96, .aload_n 0, 1, 0, 0), (97, .getfield 19, 3, 6, 1), (100, .getfield 130, 3, 3, 5), (103, .iload 4, 2, 0, 0), (105, .iaload, 1, 0, 0), (106, .istore_n 3, 1, 0, 0), (107, .iinc 4 1, 3, 0, 0), (110, .goto (-89), 3, 21, 0), (113, .iload_n 2, 1, 0, 0), (114, .ireturn, 1, 0, 0)]
def mj_c85 : List mj_Row := mj_c85_0 ++ (mj_c85_1)
def mj_c86_0 : List mj_Row := [(0, .iload_n 1, 1, 0, 0), (1, .iconst 1, 1, 0, 0), (2, .if_icmp .lt 8, 3, 10, 0), (5, .iload_n 1, 1, 0, 0), (6, .iconst 3, 1, 0, 0), (7, .if_icmp .le 8, 3, 15, 0), (10, .bipush (-2), 2, 0, 0), (12, .goto 22, 3, 34, 0), (15, .aload_n 0, 1, 0, 0), (16, .getfield 56, 3, 6, 8), (19, .aload_n 0, 1, 0, 0), (20, .getfield 19, 3, 6, 1), (23, .aload_n 0, 1, 0, 0), (24, .getfield 31, 3, 6, 3), (27, .getfield 91, 3, 2, 2), (30, .iload_n 1, 1, 0, 0), (31, .invokevirtual 226, 3, 6, 4), (34, .ireturn, 1, 0, 0)]
def mj_c86 : List mj_Row := mj_c86_0
def mj_c87_0 : List mj_Row := [(0, .aload_n 0, 1, 0, 0), (1, .getfield 19, 3, 6, 1), (4, .iload_n 1, 1, 0, 0), (5, .invokevirtual 120, 3, 31, 2), (8, .ifCond .ne 5, 3, 13, 0), (11, .iconst (-1), 1, 0, 0), (12, .ireturn, 1, 0, 0), (13, .iload_n 2, 1, 0, 0), (14, .invokestatic 230, 3, 88, 1), (17, .ifCond .eq 12, 3, 29, 0), (20, .aload_n 0, 1, 0, 0), (21, .iload_n 1, 1, 0, 0), (22, .iload_n 2, 1, 0, 0), (23, .invokevirtual 233, 3, 89, 3), (26, .goto 5, 3, 31, 0), (29, .bipush (-2), 2, 0, 0), (31, .ireturn, 1, 0, 0)]
def mj_c87 : List mj_Row := mj_c87_0
def mj_c88_0 : List mj_Row := [(0, .iload_n 0, 1, 0, 0), (1, .ifCond .lt 13, 3, 14, 0), (4, .iload_n 0, 1, 0, 0), (5, .bipush 99, 2, 0, 0), (7, .if_icmp .gt 7, 3, 14, 0), (10, .iconst 1, 1, 0, 0), (11, .goto 4, 3, 15, 0), (14, .iconst 0, 1, 0, 0), (15, .ireturn, 1, 0, 0)]
def mj_c88 : List mj_Row := mj_c88_0
def mj_c89_0 : List mj_Row := [(0, .aload_n 0, 1, 0, 0), (1, .getfield 19, 3, 6, 1), (4, .aload_n 0, 1, 0, 0), (5, .getfield 31, 3, 6, 3), (8, .getfield 91, 3, 2, 2), (11, .invokevirtual 94, 3, 35, 2), (14, .istore_n 3, 1, 0, 0), (15, .aload_n 0, 1, 0, 0), (16, .getfield 31, 3, 6, 3), (19, .iload_n 1, 1, 0, 0), (20, .invokevirtual 142, 3, 15, 2), (23, .ifCond .eq 23, 3, 46, 0), (26, .iload_n 3, 1, 0, 0), (27, .ifCond .le 19, 3, 46, 0), (30, .iload_n 2, 1, 0, 0), (31, .aload_n 0, 1, 0, 0), (32, .getfield 19, 3, 6, 1), (35, .getfield 130, 3, 3, 5), (38, .iload_n 1, 1, 0, 0), (39, .iaload, 1, 0, 0), (40, .imul, 1, 0, 0), (41, .iload_n 3, 1, 0, 0), (42, .idiv, 1, 0, 0), (43, .goto 4, 3, 47, 0), (46, .iconst 0, 1, 0, 0), (47, .ireturn, 1, 0, 0)]
def mj_c89 : List mj_Row := mj_c89_0
def mj_c90_0 : List mj_Row := [(0, .iload_n 1, 1, 0, 0), (1, .invokestatic 230, 3, 88, 1), (4, .ifCond .ne 6, 3, 10, 0), (7, .bipush (-2), 2, 0, 0), (9, .ireturn, 1, 0, 0), (10, .iconst 0, 1, 0, 0), (11, .istore_n 2, 1, 0, 0), (12, .iconst 0, 1, 0, 0), (13, .istore_n 3, 1, 0, 0), (14, .iload_n 3, 1, 0, 0), (15, .aload_n 0, 1, 0, 0), (16, .getfield 19, 3, 6, 1), (19, .getfield 85, 3, 3, 1), (22, .if_icmp .ge 44, 3, 66, 0), (25, .aload_n 0, 1, 0, 0), (26, .getfield 31, 3, 6, 3), (29, .iload_n 3, 1, 0, 0), (30, .invokevirtual 142, 3, 15, 2), (33, .ifCond .eq 27, 3, 60, 0), (36, .aload_n 0, 1, 0, 0), (37, .iload_n 3, 1, 0, 0), (38, .iload_n 1, 1, 0, 0), (39, .invokevirtual 233, 3, 89, 3), (42, .aload_n 0, 1, 0, 0), (43, .getfield 31, 3, 6, 3), (46, .getfield 145, 3, 2, 6), (49, .iload_n 3, 1, 0, 0), (50, .iaload, 1, 0, 0), (51, .if_icmp .ge 9, 3, 60, 0), (54, .iload_n 2, 1, 0, 0), (55, .iconst 1, 1, 0, 0), (56, .iload_n 3, 1, 0, 0), (57, .ishl, 1, 0, 0), (58, .ior, 1, 0, 0), (59, .istore_n 2, 1, 0, 0), (60, .iinc 3 1, 3, 0, 0), (63, .goto (-49), 3, 14, 0), (66, .iload_n 2, 1, 0, 0), (67, .ireturn, 1, 0, 0)]
def mj_c90 : List mj_Row := mj_c90_0
def mj_c91_0 : List mj_Row := [(0, .iload_n 1, 1, 0, 0), (1, .ifCond .lt 18, 3, 19, 0), (4, .iload_n 1, 1, 0, 0), (5, .bipush 60, 2, 0, 0), (7, .if_icmp .gt 12, 3, 19, 0), (10, .iload_n 2, 1, 0, 0), (11, .ifCond .lt 8, 3, 19, 0), (14, .iload_n 2, 1, 0, 0), (15, .iconst 1, 1, 0, 0), (16, .if_icmp .le 6, 3, 22, 0), (19, .bipush (-2), 2, 0, 0), (21, .ireturn, 1, 0, 0), (22, .iconst 0, 1, 0, 0), (23, .istore_n 3, 1, 0, 0), (24, .aload_n 0, 1, 0, 0), (25, .getfield 19, 3, 6, 1), (28, .invokevirtual 193, 3, 32, 1), (31, .istore 4, 2, 0, 0), (33, .iconst 0, 1, 0, 0), (34, .istore 5, 2, 0, 0), (36, .iload 5, 2, 0, 0), (38, .aload_n 0, 1, 0, 0), (39, .getfield 19, 3, 6, 1), (42, .invokevirtual 193, 3, 32, 1), (45, .if_icmp .gt 41, 3, 86, 0), (48, .aload_n 0, 1, 0, 0), (49, .getfield 19, 3, 6, 1), (52, .iload 5, 2, 0, 0), (54, .invokevirtual 236, 3, 43, 2), (57, .iload_n 1, 1, 0, 0), (58, .if_icmp .ne 22, 3, 80, 0), (61, .aload_n 0, 1, 0, 0), (62, .iload 5, 2, 0, 0), (64, .invokevirtual 239, 3, 92, 2), (67, .ifCond .eq 13, 3, 80, 0), (70, .iinc 3 1, 3, 0, 0), (73, .iload 4, 2, 0, 0), (75, .iload 5, 2, 0, 0), (77, .iand, 1, 0, 0), (78, .istore 4, 2, 0, 0)]
def mj_c91_1 : List mj_Row := [(80, .iinc 5 1, 3, 0, 0), (83, .goto (-47), 3, 36, 0), (86, .iload_n 2, 1, 0, 0), (87, .ifCond .ne 5, 3, 92, 0), (90, .iload_n 3, 1, 0, 0), (91, .ireturn, 1, 0, 0), (92, .iload_n 3, 1, 0, 0), (93, .ifCond .ne 8, 3, 101, 0), (96, .bipush (-9), 2, 0, 0), (98, .goto 5, 3, 103, 0), (101, .iload 4, 2, 0, 0), (103, .ireturn, 1, 0, 0)]
def mj_c91 : List mj_Row := mj_c91_0 ++ (mj_c91_1)
def mj_c92_0 : List mj_Row := [(0, .aload_n 0, 1, 0, 0), (1, .getfield 242, 3, 6, 11), (4, .aload_n 0, 1, 0, 0), (5, .getfield 19, 3, 6, 1), (8, .invokevirtual 193, 3, 32, 1), (11, .iand, 1, 0, 0), (12, .istore_n 2, 1, 0, 0), (13, .iload_n 1, 1, 0, 0), (14, .iload_n 2, 1, 0, 0), (15, .iand, 1, 0, 0), (16, .iload_n 2, 1, 0, 0), (17, .if_icmp .ne 16, 3, 33, 0), (20, .iload_n 1, 1, 0, 0), (21, .aload_n 0, 1, 0, 0), (22, .getfield 245, 3, 6, 12), (25, .iand, 1, 0, 0), (26, .ifCond .ne 7, 3, 33, 0), (29, .iconst 1, 1, 0, 0), (30, .goto 4, 3, 34, 0), (33, .iconst 0, 1, 0, 0), (34, .ireturn, 1, 0, 0)]
def mj_c92 : List mj_Row := mj_c92_0
def mj_c93_0 : List mj_Row := [(0, .aload_n 0, 1, 0, 0), (1, .getfield 19, 3, 6, 1), (4, .iload_n 1, 1, 0, 0), (5, .invokevirtual 120, 3, 31, 2), (8, .ifCond .ne 5, 3, 13, 0), (11, .iconst (-1), 1, 0, 0), (12, .ireturn, 1, 0, 0), (13, .aload_n 0, 1, 0, 0), (14, .getfield 114, 3, 6, 10), (17, .bipush 6, 2, 0, 0), (19, .if_icmp .lt 6, 3, 25, 0), (22, .bipush (-4), 2, 0, 0), (24, .ireturn, 1, 0, 0), (25, .iload_n 2, 1, 0, 0), (26, .ifCond .eq 18, 3, 44, 0), (29, .aload_n 0, 1, 0, 0), (30, .dup, 1, 0, 0), (31, .getfield 242, 3, 6, 11), (34, .iconst 1, 1, 0, 0), (35, .iload_n 1, 1, 0, 0), (36, .ishl, 1, 0, 0), (37, .ior, 1, 0, 0), (38, .putfield 242, 3, 6, 11), (41, .goto 15, 3, 56, 0), (44, .aload_n 0, 1, 0, 0), (45, .dup, 1, 0, 0), (46, .getfield 245, 3, 6, 12), (49, .iconst 1, 1, 0, 0), (50, .iload_n 1, 1, 0, 0), (51, .ishl, 1, 0, 0), (52, .ior, 1, 0, 0), (53, .putfield 245, 3, 6, 12), (56, .aload_n 0, 1, 0, 0), (57, .dup, 1, 0, 0), (58, .getfield 114, 3, 6, 10), (61, .iconst 1, 1, 0, 0), (62, .iadd, 1, 0, 0), (63, .putfield 114, 3, 6, 10), (66, .aload_n 0, 1, 0, 0), (67, .getfield 114, 3, 6, 10)]
def mj_c93_1 : List mj_Row := [(70, .ireturn, 1, 0, 0)]
def mj_c93 : List mj_Row := mj_c93_0 ++ (mj_c93_1)
def mj_c94_0 : List mj_Row := [(0, .aload_n 0, 1, 0, 0), (1, .getfield 114, 3, 6, 10), (4, .istore_n 1, 1, 0, 0), (5, .aload_n 0, 1, 0, 0), (6, .iconst 0, 1, 0, 0), (7, .putfield 114, 3, 6, 10), (10, .aload_n 0, 1, 0, 0), (11, .iconst 0, 1, 0, 0), (12, .putfield 242, 3, 6, 11), (15, .aload_n 0, 1, 0, 0), (16, .iconst 0, 1, 0, 0), (17, .putfield 245, 3, 6, 12), (20, .iload_n 1, 1, 0, 0), (21, .ireturn, 1, 0, 0)]
def mj_c94 : List mj_Row := mj_c94_0
def mj_c95_0 : List mj_Row := [(0, .aload_n 0, 1, 0, 0), (1, .getfield 19, 3, 6, 1), (4, .iload_n 1, 1, 0, 0), (5, .invokevirtual 148, 3, 39, 2), (8, .ifCond .ne 5, 3, 13, 0), (11, .iconst (-1), 1, 0, 0), (12, .ireturn, 1, 0, 0), (13, .iload_n 2, 1, 0, 0), (14, .ifCond .lt 9, 3, 23, 0), (17, .iload_n 2, 1, 0, 0), (18, .bipush 10, 2, 0, 0), (20, .if_icmp .le 6, 3, 26, 0), (23, .bipush (-2), 2, 0, 0), (25, .ireturn, 1, 0, 0), (26, .iconst 0, 1, 0, 0), (27, .istore 4, 2, 0, 0), (29, .iconst 0, 1, 0, 0), (30, .istore 5, 2, 0, 0), (32, .iload 5, 2, 0, 0), (34, .aload_n 0, 1, 0, 0), (35, .getfield 31, 3, 6, 3), (38, .getfield 91, 3, 2, 2), (41, .if_icmp .gt 78, 3, 119, 0), (44, .iload 5, 2, 0, 0), (46, .aload_n 0, 1, 0, 0), (47, .getfield 31, 3, 6, 3), (50, .getfield 91, 3, 2, 2), (53, .iconst (-1), 1, 0, 0), (54, .ixor, 1, 0, 0), (55, .iand, 1, 0, 0), (56, .ifCond .ne 57, 3, 113, 0), (59, .aload_n 0, 1, 0, 0), (60, .getfield 19, 3, 6, 1), (63, .iload 5, 2, 0, 0), (65, .iload_n 1, 1, 0, 0), (66, .invokevirtual 248, 3, 40, 3), (69, .ifCond .eq 44, 3, 113, 0), (72, .aload_n 0, 1, 0, 0), (73, .getfield 31, 3, 6, 3), (76, .getfield 91, 3, 2, 2)]
def mj_c95_1 : List mj_Row := [(79, .iload 5, 2, 0, 0), (81, .iconst (-1), 1, 0, 0), (82, .ixor, 1, 0, 0), (83, .iand, 1, 0, 0), (84, .istore 6, 2, 0, 0), (86, .iload 4, 2, 0, 0), (88, .bipush 10, 2, 0, 0), (90, .iload_n 2, 1, 0, 0), (91, .isub, 1, 0, 0), (92, .iload 5, 2, 0, 0), (94, .invokestatic 212, 3, 166, 1), (97, .invokestatic 196, 3, 78, 2), (100, .iload_n 2, 1, 0, 0), (101, .iload 6, 2, 0, 0), (103, .invokestatic 212, 3, 166, 1), (106, .invokestatic 196, 3, 78, 2), (109, .imul, 1, 0, 0), (110, .iadd, 1, 0, 0), (111, .istore 4, 2, 0, 0), (113, .iinc 5 1, 3, 0, 0), (116, .goto (-84), 3, 32, 0), (119, .iload 4, 2, 0, 0), (121, .bipush 10, 2, 0, 0), (123, .aload_n 0, 1, 0, 0), (124, .getfield 31, 3, 6, 3), (127, .getfield 91, 3, 2, 2), (130, .invokestatic 212, 3, 166, 1), (133, .invokestatic 196, 3, 78, 2), (136, .iload_n 3, 1, 0, 0), (137, .invokestatic 222, 3, 83, 3), (140, .ireturn, 1, 0, 0)]
def mj_c95 : List mj_Row := mj_c95_0 ++ (mj_c95_1)
def mj_c96_0 : List mj_Row := [(0, .aload_n 0, 1, 0, 0), (1, .getfield 252, 3, 6, 13), (4, .lstore_n 3, 1, 0, 0), (5, .aload_n 0, 1, 0, 0), (6, .lload_n 1, 1, 0, 0), (7, .putfield 252, 3, 6, 13), (10, .lload_n 3, 1, 0, 0), (11, .lreturn, 1, 0, 0)]
def mj_c96 : List mj_Row := mj_c96_0
def mj_c97_0 : List mj_Row := [(0, .iload_n 1, 1, 0, 0), (1, .ifCond .lt 9, 3, 10, 0), (4, .iload_n 1, 1, 0, 0), (5, .bipush 10, 2, 0, 0), (7, .if_icmp .le 6, 3, 13, 0), (10, .bipush (-2), 2, 0, 0), (12, .ireturn, 1, 0, 0), (13, .aload_n 0, 1, 0, 0), (14, .getfield 35, 3, 6, 4), (17, .aload_n 0, 1, 0, 0), (18, .getfield 31, 3, 6, 3), (21, .invokevirtual 200, 3, 17, 2), (24, .aload_n 0, 1, 0, 0), (25, .getfield 31, 3, 6, 3), (28, .getfield 256, 3, 2, 4), (31, .istore_n 2, 1, 0, 0), (32, .iload_n 2, 1, 0, 0), (33, .aload_n 0, 1, 0, 0), (34, .getfield 19, 3, 6, 1), (37, .getfield 85, 3, 3, 1), (40, .if_icmp .ge 70, 3, 110, 0), (43, .aload_n 0, 1, 0, 0), (44, .aload_n 0, 1, 0, 0), (45, .getfield 252, 3, 6, 13), (48, .ldc2_w 259, 3, 7, 0), (51, .lmul, 1, 0, 0), (52, .ldc2_w 261, 3, 1, 0), (55, .ladd, 1, 0, 0), (56, .putfield 252, 3, 6, 13), (59, .aload_n 0, 1, 0, 0), (60, .getfield 252, 3, 6, 13), (63, .bipush 33, 2, 0, 0), (65, .lushr, 1, 0, 0), (66, .ldc2_w 263, 3, 0, 0), (69, .lrem, 1, 0, 0), (70, .iload_n 1, 1, 0, 0), (71, .i2l, 1, 0, 0), (72, .lcmp, 1, 0, 0), (73, .ifCond .ge 24, 3, 97, 0), (76, .aload_n 0, 1, 0, 0)]
def mj_c97_1 : List mj_Row := [(77, .getfield 35, 3, 6, 4), (80, .invokevirtual 161, 3, 16, 1), (83, .ifCond .eq 14, 3, 97, 0), (86, .aload_n 0, 1, 0, 0), (87, .getfield 35, 3, 6, 4), (90, .invokevirtual 168, 3, 18, 1), (93, .pop, 1, 0, 0), (94, .goto 10, 3, 104, 0), (97, .aload_n 0, 1, 0, 0), (98, .getfield 35, 3, 6, 4), (101, .invokevirtual 171, 3, 20, 1), (104, .iinc 2 1, 3, 0, 0), (107, .goto (-75), 3, 32, 0), (110, .aload_n 0, 1, 0, 0), (111, .getfield 35, 3, 6, 4), (114, .getfield 91, 3, 2, 2), (117, .ireturn, 1, 0, 0)]
def mj_c97 : List mj_Row := mj_c97_0 ++ (mj_c97_1)
def mj_c98_0 : List mj_Row := [(0, .iload_n 1, 1, 0, 0), (1, .invokestatic 265, 3, 99, 1), (4, .ifCond .ne 5, 3, 9, 0), (7, .iconst (-1), 1, 0, 0), (8, .ireturn, 1, 0, 0), (9, .aload_n 0, 1, 0, 0), (10, .getfield 45, 3, 6, 6), (13, .iload_n 1, 1, 0, 0), (14, .aaload, 1, 0, 0), (15, .aload_n 0, 1, 0, 0), (16, .getfield 31, 3, 6, 3), (19, .invokevirtual 200, 3, 17, 2), (22, .aload_n 0, 1, 0, 0), (23, .getfield 49, 3, 6, 7), (26, .iload_n 1, 1, 0, 0), (27, .iconst 1, 1, 0, 0), (28, .bastore, 1, 0, 0), (29, .aload_n 0, 1, 0, 0), (30, .getfield 31, 3, 6, 3), (33, .getfield 91, 3, 2, 2), (36, .invokestatic 212, 3, 166, 1), (39, .ireturn, 1, 0, 0)]
def mj_c98 : List mj_Row := mj_c98_0
def mj_c99_0 : List mj_Row := [(0, .iload_n 0, 1, 0, 0), (1, .ifCond .lt 12, 3, 13, 0), (4, .iload_n 0, 1, 0, 0), (5, .iconst 2, 1, 0, 0), (6, .if_icmp .ge 7, 3, 13, 0), (9, .iconst 1, 1, 0, 0), (10, .goto 4, 3, 14, 0), (13, .iconst 0, 1, 0, 0), (14, .ireturn, 1, 0, 0)]
def mj_c99 : List mj_Row := mj_c99_0
def mj_c100_0 : List mj_Row := [(0, .iload_n 1, 1, 0, 0), (1, .invokestatic 265, 3, 99, 1), (4, .ifCond .ne 5, 3, 9, 0), (7, .iconst (-1), 1, 0, 0), (8, .ireturn, 1, 0, 0), (9, .aload_n 0, 1, 0, 0), (10, .getfield 49, 3, 6, 7), (13, .iload_n 1, 1, 0, 0), (14, .baload, 1, 0, 0), (15, .ifCond .ne 6, 3, 21, 0), (18, .bipush (-3), 2, 0, 0), (20, .ireturn, 1, 0, 0), (21, .aload_n 0, 1, 0, 0), (22, .getfield 31, 3, 6, 3), (25, .aload_n 0, 1, 0, 0), (26, .getfield 45, 3, 6, 6), (29, .iload_n 1, 1, 0, 0), (30, .aaload, 1, 0, 0), (31, .invokevirtual 200, 3, 17, 2), (34, .aload_n 0, 1, 0, 0), (35, .getfield 41, 3, 6, 5), (38, .invokevirtual 82, 3, 1, 1), (41, .aload_n 0, 1, 0, 0), (42, .getfield 31, 3, 6, 3), (45, .getfield 91, 3, 2, 2), (48, .invokestatic 212, 3, 166, 1), (51, .ireturn, 1, 0, 0)]
def mj_c100 : List mj_Row := mj_c100_0
def mj_c101_0 : List mj_Row := [(0, .aload_n 0, 1, 0, 0), (1, .invokespecial 1, 3, 999, 1), (4, .aload_n 0, 1, 0, 0), (5, .bipush 64, 2, 0, 0), (7, .newarray .int, 2, 0, 0), (9, .putfield 7, 3, 7, 1), (12, .aload_n 0, 1, 0, 0), (13, .bipush 24, 2, 0, 0), (15, .newarray .int, 2, 0, 0), (17, .putfield 13, 3, 7, 6), (20, .aload_n 0, 1, 0, 0), (21, .bipush 6, 2, 0, 0), (23, .newarray .int, 2, 0, 0), (25, .putfield 16, 3, 7, 7), (28, .aload_n 0, 1, 0, 0), (29, .bipush 6, 2, 0, 0), (31, .newarray .int, 2, 0, 0), (33, .putfield 19, 3, 7, 8), (36, .aload_n 0, 1, 0, 0), (37, .bipush 24, 2, 0, 0), (39, .newarray .int, 2, 0, 0), (41, .putfield 22, 3, 7, 12), (44, .aload_n 0, 1, 0, 0), (45, .bipush 6, 2, 0, 0), (47, .newarray .int, 2, 0, 0), (49, .putfield 25, 3, 7, 13), (52, .aload_n 0, 1, 0, 0), (53, .bipush 6, 2, 0, 0), (55, .newarray .int, 2, 0, 0), (57, .putfield 28, 3, 7, 14), (60, .aload_n 0, 1, 0, 0), (61, .bipush 11, 2, 0, 0), (63, .newarray .int, 2, 0, 0), (65, .putfield 31, 3, 7, 15), (68, .aload_n 0, 1, 0, 0), (69, .bipush 11, 2, 0, 0), (71, .newarray .int, 2, 0, 0), (73, .putfield 34, 3, 7, 16), (76, .aload_n 0, 1, 0, 0), (77, .sipush 154, 3, 0, 0)]
def mj_c101_1 : List mj_Row := [(80, .newarray .int, 2, 0, 0), (82, .putfield 37, 3, 7, 17), (85, .aload_n 0, 1, 0, 0), (86, .bipush 22, 2, 0, 0), (88, .newarray .int, 2, 0, 0), (90, .putfield 40, 3, 7, 19), (93, .aload_n 0, 1, 0, 0), (94, .iconst 2, 1, 0, 0), (95, .newarray .boolean, 2, 0, 0), (97, .putfield 43, 3, 7, 20), (100, .aload_n 0, 1, 0, 0), (101, .bipush 6, 2, 0, 0), (103, .newarray .int, 2, 0, 0), (105, .putfield 47, 3, 7, 22), (108, .aload_n 0, 1, 0, 0), (109, .bipush 6, 2, 0, 0), (111, .newarray .boolean, 2, 0, 0), (113, .putfield 50, 3, 7, 23), (116, .aload_n 0, 1, 0, 0), (117, .sipush 128, 3, 0, 0), (120, .newarray .int, 2, 0, 0), (122, .putfield 53, 3, 7, 25), (125, .aload_n 0, 1, 0, 0), (126, .sipush 128, 3, 0, 0), (129, .newarray .int, 2, 0, 0), (131, .putfield 56, 3, 7, 26), (134, .aload_n 0, 1, 0, 0), (135, .bipush 6, 2, 0, 0), (137, .newarray .int, 2, 0, 0), (139, .putfield 59, 3, 7, 27), (142, .return_, 1, 0, 0)]
def mj_c101 : List mj_Row := mj_c101_0 ++ (mj_c101_1)
def mj_c102_0 : List mj_Row := [(0, .aload_n 0, 1, 0, 0), (1, .iconst 0, 1, 0, 0), (2, .putfield 62, 3, 7, 0), (5, .iload_n 1, 1, 0, 0), (6, .i2l, 1, 0, 0), (7, .lconst 0, 1, 0, 0), (8, .ldc2_w 76, 3, 3, 0), (11, .invokestatic 69, 3, 103, 3), (14, .ifCond .ne 6, 3, 20, 0), (17, .bipush (-2), 2, 0, 0), (19, .ireturn, 1, 0, 0), (20, .aload_n 0, 1, 0, 0), (21, .getfield 78, 3, 7, 2), (24, .bipush 64, 2, 0, 0), (26, .if_icmp .ne 6, 3, 32, 0), (29, .bipush (-4), 2, 0, 0), (31, .ireturn, 1, 0, 0), (32, .aload_n 0, 1, 0, 0), (33, .getfield 7, 3, 7, 1), (36, .aload_n 0, 1, 0, 0), (37, .getfield 78, 3, 7, 2), (40, .iload_n 1, 1, 0, 0), (41, .iastore, 1, 0, 0), (42, .aload_n 0, 1, 0, 0), (43, .dup, 1, 0, 0), (44, .getfield 78, 3, 7, 2), (47, .iconst 1, 1, 0, 0), (48, .iadd, 1, 0, 0), (49, .putfield 78, 3, 7, 2), (52, .aload_n 0, 1, 0, 0), (53, .getfield 78, 3, 7, 2), (56, .ireturn, 1, 0, 0)]
def mj_c102 : List mj_Row := mj_c102_0
def mj_c103_0 : List mj_Row := [(0, .lload_n 0, 1, 0, 0), (1, .lload_n 2, 1, 0, 0), (2, .lcmp, 1, 0, 0), (3, .ifCond .lt 14, 3, 17, 0), (6, .lload_n 0, 1, 0, 0), (7, .lload 4, 2, 0, 0), (9, .lcmp, 1, 0, 0), (10, .ifCond .gt 7, 3, 17, 0), (13, .iconst 1, 1, 0, 0), (14, .goto 4, 3, 18, 0), (17, .iconst 0, 1, 0, 0), (18, .ireturn, 1, 0, 0)]
def mj_c103 : List mj_Row := mj_c103_0
def mj_c104_0 : List mj_Row := [(0, .aload_n 0, 1, 0, 0), (1, .iconst 0, 1, 0, 0), (2, .putfield 62, 3, 7, 0), (5, .aload_n 0, 1, 0, 0), (6, .getfield 78, 3, 7, 2), (9, .istore_n 1, 1, 0, 0), (10, .aload_n 0, 1, 0, 0), (11, .iconst 0, 1, 0, 0), (12, .putfield 78, 3, 7, 2), (15, .iload_n 1, 1, 0, 0), (16, .ireturn, 1, 0, 0)]
def mj_c104 : List mj_Row := mj_c104_0
def mj_c105_0 : List mj_Row := [(0, .aload_n 0, 1, 0, 0), (1, .iconst 0, 1, 0, 0), (2, .putfield 62, 3, 7, 0), (5, .aload_n 0, 1, 0, 0), (6, .invokevirtual 121, 3, 106, 1), (9, .ireturn, 1, 0, 0)]
def mj_c105 : List mj_Row := mj_c105_0
def mj_c106_0 : List mj_Row := [(0, .aload_n 0, 1, 0, 0), (1, .iconst 0, 1, 0, 0), (2, .putfield 81, 3, 7, 3), (5, .aload_n 0, 1, 0, 0), (6, .iconst 0, 1, 0, 0), (7, .putfield 88, 3, 7, 9), (10, .aload_n 0, 1, 0, 0), (11, .iconst 0, 1, 0, 0), (12, .putfield 99, 3, 7, 10), (15, .aload_n 0, 1, 0, 0), (16, .getfield 78, 3, 7, 2), (19, .ifCond .eq 14, 3, 33, 0), (22, .aload_n 0, 1, 0, 0), (23, .getfield 7, 3, 7, 1), (26, .iconst 0, 1, 0, 0), (27, .iaload, 1, 0, 0), (28, .bipush 82, 2, 0, 0), (30, .if_icmp .eq 5, 3, 35, 0), (33, .iconst 0, 1, 0, 0), (34, .ireturn, 1, 0, 0), (35, .aload_n 0, 1, 0, 0), (36, .iconst 1, 1, 0, 0), (37, .putfield 81, 3, 7, 3), (40, .aload_n 0, 1, 0, 0), (41, .iconst 0, 1, 0, 0), (42, .bipush 9, 2, 0, 0), (44, .invokevirtual 84, 3, 107, 3), (47, .istore_n 1, 1, 0, 0), (48, .iload_n 1, 1, 0, 0), (49, .bipush (-9), 2, 0, 0), (51, .if_icmp .ne 8, 3, 59, 0), (54, .bipush (-9), 2, 0, 0), (56, .goto 10, 3, 66, 0), (59, .aload_n 0, 1, 0, 0), (60, .iconst 0, 1, 0, 0), (61, .bipush 9, 2, 0, 0), (63, .invokevirtual 84, 3, 107, 3), (66, .istore_n 2, 1, 0, 0), (67, .iload_n 2, 1, 0, 0), (68, .bipush (-9), 2, 0, 0)]
def mj_c106_1 : List mj_Row := [(70, .if_icmp .ne 8, 3, 78, 0), (73, .aload_n 0, 1, 0, 0), (74, .getfield 81, 3, 7, 3), (77, .ireturn, 1, 0, 0), (78, .aload_n 0, 1, 0, 0), (79, .bipush 10, 2, 0, 0), (81, .iload_n 1, 1, 0, 0), (82, .imul, 1, 0, 0), (83, .iload_n 2, 1, 0, 0), (84, .iadd, 1, 0, 0), (85, .putfield 115, 3, 7, 11), (88, .aload_n 0, 1, 0, 0), (89, .getfield 81, 3, 7, 3), (92, .aload_n 0, 1, 0, 0), (93, .getfield 78, 3, 7, 2), (96, .if_icmp .ge 15, 3, 111, 0), (99, .aload_n 0, 1, 0, 0), (100, .invokevirtual 118, 3, 108, 1), (103, .ifCond .ne (-15), 3, 88, 0), (106, .aload_n 0, 1, 0, 0), (107, .getfield 81, 3, 7, 3), (110, .ireturn, 1, 0, 0), (111, .bipush (-9), 2, 0, 0), (113, .ireturn, 1, 0, 0)]
def mj_c106 : List mj_Row := mj_c106_0 ++ (mj_c106_1)
def mj_c107_0 : List mj_Row := [(0, .aload_n 0, 1, 0, 0), (1, .getfield 81, 3, 7, 3), (4, .aload_n 0, 1, 0, 0), (5, .getfield 78, 3, 7, 2), (8, .if_icmp .eq 26, 3, 34, 0), (11, .aload_n 0, 1, 0, 0), (12, .getfield 7, 3, 7, 1), (15, .aload_n 0, 1, 0, 0), (16, .getfield 81, 3, 7, 3), (19, .iaload, 1, 0, 0), (20, .bipush 48, 2, 0, 0), (22, .isub, 1, 0, 0), (23, .i2l, 1, 0, 0), (24, .iload_n 1, 1, 0, 0), (25, .i2l, 1, 0, 0), (26, .iload_n 2, 1, 0, 0), (27, .i2l, 1, 0, 0), (28, .invokestatic 69, 3, 103, 3), (31, .ifCond .ne 6, 3, 37, 0), (34, .bipush (-9), 2, 0, 0), (36, .ireturn, 1, 0, 0), (37, .aload_n 0, 1, 0, 0), (38, .dup, 1, 0, 0), (39, .getfield 81, 3, 7, 3), (42, .iconst 1, 1, 0, 0), (43, .iadd, 1, 0, 0), (44, .putfield 81, 3, 7, 3), (47, .aload_n 0, 1, 0, 0), (48, .getfield 7, 3, 7, 1), (51, .aload_n 0, 1, 0, 0), (52, .getfield 81, 3, 7, 3), (55, .iconst 1, 1, 0, 0), (56, .isub, 1, 0, 0), (57, .iaload, 1, 0, 0), (58, .bipush 48, 2, 0, 0), (60, .isub, 1, 0, 0), (61, .ireturn, 1, 0, 0)]
def mj_c107 : List mj_Row := mj_c107_0
def mj_c108_0 : List mj_Row := [(0, .aload_n 0, 1, 0, 0), (1, .getfield 7, 3, 7, 1), (4, .aload_n 0, 1, 0, 0), (5, .getfield 81, 3, 7, 3), (8, .iaload, 1, 0, 0), (9, .istore_n 1, 1, 0, 0), (10, .iload_n 1, 1, 0, 0), (11, .bipush 66, 2, 0, 0), (13, .if_icmp .ne 16, 3, 29, 0), (16, .aload_n 0, 1, 0, 0), (17, .getfield 88, 3, 7, 9), (20, .bipush 6, 2, 0, 0), (22, .if_icmp .ge 7, 3, 29, 0), (25, .iconst 1, 1, 0, 0), (26, .goto 4, 3, 30, 0), (29, .iconst 0, 1, 0, 0), (30, .istore_n 2, 1, 0, 0), (31, .iload_n 1, 1, 0, 0), (32, .bipush 69, 2, 0, 0), (34, .if_icmp .ne 14, 3, 48, 0), (37, .aload_n 0, 1, 0, 0), (38, .invokevirtual 102, 3, 109, 1), (41, .ifCond .eq 7, 3, 48, 0), (44, .iconst 1, 1, 0, 0), (45, .goto 4, 3, 49, 0), (48, .iconst 0, 1, 0, 0), (49, .istore_n 3, 1, 0, 0), (50, .iload_n 1, 1, 0, 0), (51, .bipush 71, 2, 0, 0), (53, .if_icmp .ne 15, 3, 68, 0), (56, .aload_n 0, 1, 0, 0), (57, .getfield 99, 3, 7, 10), (60, .iconst 3, 1, 0, 0), (61, .if_icmp .ge 7, 3, 68, 0), (64, .iconst 1, 1, 0, 0), (65, .goto 4, 3, 69, 0), (68, .iconst 0, 1, 0, 0), (69, .istore 4, 2, 0, 0), (71, .iload_n 2, 1, 0, 0), (72, .ifCond .ne 14, 3, 86, 0)]
def mj_c108_1 : List mj_Row := [(75, .iload_n 3, 1, 0, 0), (76, .ifCond .ne 10, 3, 86, 0), (79, .iload 4, 2, 0, 0), (81, .ifCond .ne 5, 3, 86, 0), (84, .iconst 0, 1, 0, 0), (85, .ireturn, 1, 0, 0), (86, .aload_n 0, 1, 0, 0), (87, .dup, 1, 0, 0), (88, .getfield 81, 3, 7, 3), (91, .iconst 1, 1, 0, 0), (92, .iadd, 1, 0, 0), (93, .putfield 81, 3, 7, 3), (96, .iload_n 2, 1, 0, 0), (97, .ifCond .eq 10, 3, 107, 0), (100, .aload_n 0, 1, 0, 0), (101, .invokevirtual 106, 3, 111, 1), (104, .goto 18, 3, 122, 0), (107, .iload_n 3, 1, 0, 0), (108, .ifCond .eq 10, 3, 118, 0), (111, .aload_n 0, 1, 0, 0), (112, .invokevirtual 109, 3, 112, 1), (115, .goto 7, 3, 122, 0), (118, .aload_n 0, 1, 0, 0), (119, .invokevirtual 112, 3, 114, 1), (122, .ireturn, 1, 0, 0)]
def mj_c108 : List mj_Row := mj_c108_0 ++ (mj_c108_1)
def mj_c109_0 : List mj_Row := [(0, .iconst 0, 1, 0, 0), (1, .istore_n 1, 1, 0, 0), (2, .iconst 0, 1, 0, 0), (3, .istore_n 2, 1, 0, 0), (4, .iload_n 2, 1, 0, 0), (5, .aload_n 0, 1, 0, 0), (6, .getfield 88, 3, 7, 9), (9, .if_icmp .ge 27, 3, 36, 0), (12, .iload_n 1, 1, 0, 0), (13, .ifCond .ne 11, 3, 24, 0), (16, .aload_n 0, 1, 0, 0), (17, .iload_n 2, 1, 0, 0), (18, .invokevirtual 91, 3, 110, 2), (21, .ifCond .eq 7, 3, 28, 0), (24, .iconst 1, 1, 0, 0), (25, .goto 4, 3, 29, 0), (28, .iconst 0, 1, 0, 0), (29, .istore_n 1, 1, 0, 0), (30, .iinc 2 1, 3, 0, 0), (33, .goto (-29), 3, 4, 0), (36, .iload_n 1, 1, 0, 0), (37, .ireturn, 1, 0, 0)]
def mj_c109 : List mj_Row := mj_c109_0
def mj_c110_0 : List mj_Row := [(0, .iconst 1, 1, 0, 0), (1, .aload_n 0, 1, 0, 0), (2, .getfield 88, 3, 7, 9), (5, .ishl, 1, 0, 0), (6, .iconst 1, 1, 0, 0), (7, .isub, 1, 0, 0), (8, .iconst 1, 1, 0, 0), (9, .iload_n 1, 1, 0, 0), (10, .ishl, 1, 0, 0), (11, .iconst (-1), 1, 0, 0), (12, .ixor, 1, 0, 0), (13, .iand, 1, 0, 0), (14, .aload_n 0, 1, 0, 0), (15, .getfield 25, 3, 7, 13), (18, .iload_n 1, 1, 0, 0), (19, .iaload, 1, 0, 0), (20, .iconst (-1), 1, 0, 0), (21, .ixor, 1, 0, 0), (22, .iand, 1, 0, 0), (23, .ireturn, 1, 0, 0)]
def mj_c110 : List mj_Row := mj_c110_0
def mj_c111_0 : List mj_Row := [(0, .iconst 0, 1, 0, 0), (1, .istore_n 1, 1, 0, 0), (2, .iload_n 1, 1, 0, 0), (3, .iconst 4, 1, 0, 0), (4, .if_icmp .ge 57, 3, 61, 0), (7, .iload_n 1, 1, 0, 0), (8, .ifCond .eq 8, 3, 16, 0), (11, .iload_n 1, 1, 0, 0), (12, .iconst 3, 1, 0, 0), (13, .if_icmp .ne 12, 3, 25, 0), (16, .aload_n 0, 1, 0, 0), (17, .iconst 0, 1, 0, 0), (18, .iconst 3, 1, 0, 0), (19, .invokevirtual 84, 3, 107, 3), (22, .goto 10, 3, 32, 0), (25, .aload_n 0, 1, 0, 0), (26, .iconst 1, 1, 0, 0), (27, .bipush 9, 2, 0, 0), (29, .invokevirtual 84, 3, 107, 3), (32, .istore_n 2, 1, 0, 0), (33, .iload_n 2, 1, 0, 0), (34, .bipush (-9), 2, 0, 0), (36, .if_icmp .ne 5, 3, 41, 0), (39, .iconst 0, 1, 0, 0), (40, .ireturn, 1, 0, 0), (41, .aload_n 0, 1, 0, 0), (42, .getfield 22, 3, 7, 12), (45, .iconst 4, 1, 0, 0), (46, .aload_n 0, 1, 0, 0), (47, .getfield 88, 3, 7, 9), (50, .imul, 1, 0, 0), (51, .iload_n 1, 1, 0, 0), (52, .iadd, 1, 0, 0), (53, .iload_n 2, 1, 0, 0), (54, .iastore, 1, 0, 0), (55, .iinc 1 1, 3, 0, 0), (58, .goto (-56), 3, 2, 0), (61, .aload_n 0, 1, 0, 0), (62, .getfield 25, 3, 7, 13), (65, .aload_n 0, 1, 0, 0)]
def mj_c111_1 : List mj_Row := [(66, .getfield 88, 3, 7, 9), (69, .iconst 0, 1, 0, 0), (70, .iastore, 1, 0, 0), (71, .aload_n 0, 1, 0, 0), (72, .dup, 1, 0, 0), (73, .getfield 88, 3, 7, 9), (76, .iconst 1, 1, 0, 0), (77, .iadd, 1, 0, 0), (78, .putfield 88, 3, 7, 9), (81, .iconst 1, 1, 0, 0), (82, .ireturn, 1, 0, 0)]
def mj_c111 : List mj_Row := mj_c111_0 ++ (mj_c111_1)
def mj_c112_0 : List mj_Row := [(0, .aload_n 0, 1, 0, 0), (1, .getfield 81, 3, 7, 3), (4, .aload_n 0, 1, 0, 0), (5, .getfield 78, 3, 7, 2), (8, .if_icmp .ge 18, 3, 26, 0), (11, .aload_n 0, 1, 0, 0), (12, .getfield 7, 3, 7, 1), (15, .aload_n 0, 1, 0, 0), (16, .getfield 81, 3, 7, 3), (19, .iaload, 1, 0, 0), (20, .bipush 48, 2, 0, 0), (22, .isub, 1, 0, 0), (23, .goto 5, 3, 28, 0), (26, .bipush (-9), 2, 0, 0), (28, .istore_n 1, 1, 0, 0), (29, .iload_n 1, 1, 0, 0), (30, .i2l, 1, 0, 0), (31, .lconst 0, 1, 0, 0), (32, .aload_n 0, 1, 0, 0), (33, .getfield 88, 3, 7, 9), (36, .iconst 1, 1, 0, 0), (37, .isub, 1, 0, 0), (38, .i2l, 1, 0, 0), (39, .invokestatic 69, 3, 103, 3), (42, .ifCond .eq 11, 3, 53, 0), (45, .aload_n 0, 1, 0, 0), (46, .iload_n 1, 1, 0, 0), (47, .invokevirtual 91, 3, 110, 2), (50, .ifCond .ne 5, 3, 55, 0), (53, .iconst 0, 1, 0, 0), (54, .ireturn, 1, 0, 0), (55, .aload_n 0, 1, 0, 0), (56, .dup, 1, 0, 0), (57, .getfield 81, 3, 7, 3), (60, .iconst 1, 1, 0, 0), (61, .iadd, 1, 0, 0), (62, .putfield 81, 3, 7, 3), (65, .aload_n 0, 1, 0, 0), (66, .getfield 81, 3, 7, 3), (69, .aload_n 0, 1, 0, 0)]
def mj_c112_1 : List mj_Row := [(70, .getfield 78, 3, 7, 2), (73, .if_icmp .ge 18, 3, 91, 0), (76, .aload_n 0, 1, 0, 0), (77, .getfield 7, 3, 7, 1), (80, .aload_n 0, 1, 0, 0), (81, .getfield 81, 3, 7, 3), (84, .iaload, 1, 0, 0), (85, .bipush 48, 2, 0, 0), (87, .isub, 1, 0, 0), (88, .goto 5, 3, 93, 0), (91, .bipush (-9), 2, 0, 0), (93, .istore_n 2, 1, 0, 0), (94, .iload_n 2, 1, 0, 0), (95, .i2l, 1, 0, 0), (96, .lconst 0, 1, 0, 0), (97, .aload_n 0, 1, 0, 0), (98, .getfield 88, 3, 7, 9), (101, .iconst 1, 1, 0, 0), (102, .isub, 1, 0, 0), (103, .i2l, 1, 0, 0), (104, .invokestatic 69, 3, 103, 3), (107, .ifCond .eq 15, 3, 122, 0), (110, .aload_n 0, 1, 0, 0), (111, .iload_n 1, 1, 0, 0), (112, .invokevirtual 91, 3, 110, 2), (115, .iload_n 2, 1, 0, 0), (116, .invokestatic 95, 3, 113, 2), (119, .ifCond .ne 5, 3, 124, 0), (122, .iconst 0, 1, 0, 0), (123, .ireturn, 1, 0, 0), (124, .aload_n 0, 1, 0, 0), (125, .dup, 1, 0, 0), (126, .getfield 81, 3, 7, 3), (129, .iconst 1, 1, 0, 0), (130, .iadd, 1, 0, 0), (131, .putfield 81, 3, 7, 3), (134, .aload_n 0, 1, 0, 0), (135, .getfield 25, 3, 7, 13), (138, .iload_n 1, 1, 0, 0), (139, .dup2, 1, 0, 0)]
def mj_c112_2 : List mj_Row := [(140, .iaload, 1, 0, 0), (141, .iconst 1, 1, 0, 0), (142, .iload_n 2, 1, 0, 0), (143, .ishl, 1, 0, 0), (144, .ior, 1, 0, 0), (145, .iastore, 1, 0, 0), (146, .aload_n 0, 1, 0, 0), (147, .getfield 25, 3, 7, 13), (150, .iload_n 2, 1, 0, 0), (151, .dup2, 1, 0, 0), (152, .iaload, 1, 0, 0), (153, .iconst 1, 1, 0, 0), (154, .iload_n 1, 1, 0, 0), (155, .ishl, 1, 0, 0), (156, .ior, 1, 0, 0), (157, .iastore, 1, 0, 0), (158, .iconst 1, 1, 0, 0), (159, .ireturn, 1, 0, 0)]
def mj_c112 : List mj_Row := mj_c112_0 ++ (mj_c112_1 ++ (mj_c112_2))
def mj_c113_0 : List mj_Row := [(0, .iload_n 0, 1, 0, 0), (1, .iload_n 1, 1, 0, 0), (2, .ishr, 1, 0, 0), (3, .iconst 1, 1, 0, 0), (4, .iand, 1, 0, 0), (5, .iconst 1, 1, 0, 0), (6, .if_icmp .ne 7, 3, 13, 0), (9, .iconst 1, 1, 0, 0), (10, .goto 4, 3, 14, 0), (13, .iconst 0, 1, 0, 0), (14, .ireturn, 1, 0, 0)]
def mj_c113 : List mj_Row := mj_c113_0
def mj_c114_0 : List mj_Row := [(0, .aload_n 0, 1, 0, 0), (1, .iconst 0, 1, 0, 0), (2, .iconst 3, 1, 0, 0), (3, .invokevirtual 84, 3, 107, 3), (6, .istore_n 1, 1, 0, 0), (7, .iload_n 1, 1, 0, 0), (8, .bipush (-9), 2, 0, 0), (10, .if_icmp .ne 8, 3, 18, 0), (13, .bipush (-9), 2, 0, 0), (15, .goto 9, 3, 24, 0), (18, .aload_n 0, 1, 0, 0), (19, .iconst 0, 1, 0, 0), (20, .iconst 5, 1, 0, 0), (21, .invokevirtual 84, 3, 107, 3), (24, .istore_n 2, 1, 0, 0), (25, .iload_n 2, 1, 0, 0), (26, .bipush (-9), 2, 0, 0), (28, .if_icmp .ne 8, 3, 36, 0), (31, .bipush (-9), 2, 0, 0), (33, .goto 27, 3, 60, 0), (36, .aload_n 0, 1, 0, 0), (37, .iload_n 2, 1, 0, 0), (38, .ifCond .ne 7, 3, 45, 0), (41, .iconst 1, 1, 0, 0), (42, .goto 4, 3, 46, 0), (45, .iconst 0, 1, 0, 0), (46, .iload_n 2, 1, 0, 0), (47, .iconst 5, 1, 0, 0), (48, .if_icmp .ne 7, 3, 55, 0), (51, .iconst 4, 1, 0, 0), (52, .goto 5, 3, 57, 0), (55, .bipush 9, 2, 0, 0), (57, .invokevirtual 84, 3, 107, 3), (60, .istore_n 3, 1, 0, 0), (61, .iload_n 3, 1, 0, 0), (62, .bipush (-9), 2, 0, 0), (64, .if_icmp .ne 5, 3, 69, 0), (67, .iconst 0, 1, 0, 0), (68, .ireturn, 1, 0, 0), (69, .aload_n 0, 1, 0, 0)]
def mj_c114_1 : List mj_Row := [(70, .getfield 28, 3, 7, 14), (73, .iconst 2, 1, 0, 0), (74, .aload_n 0, 1, 0, 0), (75, .getfield 99, 3, 7, 10), (78, .imul, 1, 0, 0), (79, .iload_n 1, 1, 0, 0), (80, .iastore, 1, 0, 0), (81, .aload_n 0, 1, 0, 0), (82, .getfield 28, 3, 7, 14), (85, .iconst 2, 1, 0, 0), (86, .aload_n 0, 1, 0, 0), (87, .getfield 99, 3, 7, 10), (90, .imul, 1, 0, 0), (91, .iconst 1, 1, 0, 0), (92, .iadd, 1, 0, 0), (93, .bipush 10, 2, 0, 0), (95, .iload_n 2, 1, 0, 0), (96, .imul, 1, 0, 0), (97, .iload_n 3, 1, 0, 0), (98, .iadd, 1, 0, 0), (99, .iastore, 1, 0, 0), (100, .aload_n 0, 1, 0, 0), (101, .dup, 1, 0, 0), (102, .getfield 99, 3, 7, 10), (105, .iconst 1, 1, 0, 0), (106, .iadd, 1, 0, 0), (107, .putfield 99, 3, 7, 10), (110, .iconst 1, 1, 0, 0), (111, .ireturn, 1, 0, 0)]
def mj_c114 : List mj_Row := mj_c114_0 ++ (mj_c114_1)
def mj_c115_0 : List mj_Row := [(0, .aload_n 0, 1, 0, 0), (1, .iconst 0, 1, 0, 0), (2, .putfield 62, 3, 7, 0), (5, .aload_n 0, 1, 0, 0), (6, .invokevirtual 121, 3, 106, 1), (9, .bipush (-9), 2, 0, 0), (11, .if_icmp .eq 6, 3, 17, 0), (14, .bipush (-3), 2, 0, 0), (16, .ireturn, 1, 0, 0), (17, .aload_n 0, 1, 0, 0), (18, .aload_n 0, 1, 0, 0), (19, .getfield 88, 3, 7, 9), (22, .putfield 66, 3, 7, 4), (25, .aload_n 0, 1, 0, 0), (26, .aload_n 0, 1, 0, 0), (27, .getfield 99, 3, 7, 10), (30, .putfield 73, 3, 7, 5), (33, .iconst 0, 1, 0, 0), (34, .istore_n 1, 1, 0, 0), (35, .iload_n 1, 1, 0, 0), (36, .iconst 4, 1, 0, 0), (37, .aload_n 0, 1, 0, 0), (38, .getfield 66, 3, 7, 4), (41, .imul, 1, 0, 0), (42, .if_icmp .ge 21, 3, 63, 0), (45, .aload_n 0, 1, 0, 0), (46, .getfield 13, 3, 7, 6), (49, .iload_n 1, 1, 0, 0), (50, .aload_n 0, 1, 0, 0), (51, .getfield 22, 3, 7, 12), (54, .iload_n 1, 1, 0, 0), (55, .iaload, 1, 0, 0), (56, .iastore, 1, 0, 0), (57, .iinc 1 1, 3, 0, 0), (60, .goto (-25), 3, 35, 0), (63, .iconst 0, 1, 0, 0), (64, .istore_n 1, 1, 0, 0), (65, .iload_n 1, 1, 0, 0), (66, .aload_n 0, 1, 0, 0), (67, .getfield 66, 3, 7, 4)]
def mj_c115_1 : List mj_Row := [(70, .if_icmp .ge 21, 3, 91, 0), (73, .aload_n 0, 1, 0, 0), (74, .getfield 16, 3, 7, 7), (77, .iload_n 1, 1, 0, 0), (78, .aload_n 0, 1, 0, 0), (79, .getfield 25, 3, 7, 13), (82, .iload_n 1, 1, 0, 0), (83, .iaload, 1, 0, 0), (84, .iastore, 1, 0, 0), (85, .iinc 1 1, 3, 0, 0), (88, .goto (-23), 3, 65, 0), (91, .iconst 0, 1, 0, 0), (92, .istore_n 1, 1, 0, 0), (93, .iload_n 1, 1, 0, 0), (94, .iconst 2, 1, 0, 0), (95, .aload_n 0, 1, 0, 0), (96, .getfield 73, 3, 7, 5), (99, .imul, 1, 0, 0), (100, .if_icmp .ge 21, 3, 121, 0), (103, .aload_n 0, 1, 0, 0), (104, .getfield 19, 3, 7, 8), (107, .iload_n 1, 1, 0, 0), (108, .aload_n 0, 1, 0, 0), (109, .getfield 28, 3, 7, 14), (112, .iload_n 1, 1, 0, 0), (113, .iaload, 1, 0, 0), (114, .iastore, 1, 0, 0), (115, .iinc 1 1, 3, 0, 0), (118, .goto (-25), 3, 93, 0), (121, .iconst 0, 1, 0, 0), (122, .istore_n 1, 1, 0, 0), (123, .iload_n 1, 1, 0, 0), (124, .bipush 11, 2, 0, 0), (126, .if_icmp .ge 16, 3, 142, 0), (129, .aload_n 0, 1, 0, 0), (130, .getfield 31, 3, 7, 15), (133, .iload_n 1, 1, 0, 0), (134, .iconst 0, 1, 0, 0), (135, .iastore, 1, 0, 0), (136, .iinc 1 1, 3, 0, 0)]
def mj_c115_2 : List mj_Row := [(139, .goto (-16), 3, 123, 0), (142, .aload_n 0, 1, 0, 0), (143, .getfield 31, 3, 7, 15), (146, .iconst 0, 1, 0, 0), (147, .aload_n 0, 1, 0, 0), (148, .getfield 115, 3, 7, 11), (151, .iastore, 1, 0, 0), (152, .aload_n 0, 1, 0, 0), (153, .iconst 0, 1, 0, 0), (154, .putfield 125, 3, 7, 18), (157, .aload_n 0, 1, 0, 0), (158, .getfield 43, 3, 7, 20), (161, .iconst 0, 1, 0, 0), (162, .iconst 0, 1, 0, 0), (163, .bastore, 1, 0, 0), (164, .aload_n 0, 1, 0, 0), (165, .getfield 43, 3, 7, 20), (168, .iconst 1, 1, 0, 0), (169, .iconst 0, 1, 0, 0), (170, .bastore, 1, 0, 0), (171, .aload_n 0, 1, 0, 0), (172, .getfield 66, 3, 7, 4), (175, .ireturn, 1, 0, 0)]
def mj_c115 : List mj_Row := mj_c115_0 ++ (mj_c115_1 ++ (mj_c115_2))
def mj_c116_0 : List mj_Row := [(0, .aload_n 0, 1, 0, 0), (1, .iconst 0, 1, 0, 0), (2, .putfield 62, 3, 7, 0), (5, .iload_n 1, 1, 0, 0), (6, .tableswitch 162 0 11 #[62, 67, 74, 81, 92, 99, 124, 129, 136, 141, 146, 151], 62, 0, 0), (68, .aload_n 0, 1, 0, 0), (69, .getfield 66, 3, 7, 4), (72, .ireturn, 1, 0, 0), (73, .aload_n 0, 1, 0, 0), (74, .getfield 31, 3, 7, 15), (77, .iconst 0, 1, 0, 0), (78, .iaload, 1, 0, 0), (79, .ireturn, 1, 0, 0), (80, .aload_n 0, 1, 0, 0), (81, .getfield 31, 3, 7, 15), (84, .iconst 1, 1, 0, 0), (85, .iaload, 1, 0, 0), (86, .ireturn, 1, 0, 0), (87, .aload_n 0, 1, 0, 0), (88, .aload_n 0, 1, 0, 0), (89, .getfield 31, 3, 7, 15), (92, .iconst 1, 1, 0, 0), (93, .iaload, 1, 0, 0), (94, .invokevirtual 128, 3, 117, 2), (97, .ireturn, 1, 0, 0), (98, .aload_n 0, 1, 0, 0), (99, .getfield 31, 3, 7, 15), (102, .iconst 2, 1, 0, 0), (103, .iaload, 1, 0, 0), (104, .ireturn, 1, 0, 0), (105, .aload_n 0, 1, 0, 0), (106, .getfield 31, 3, 7, 15), (109, .iconst 3, 1, 0, 0), (110, .iaload, 1, 0, 0), (111, .aload_n 0, 1, 0, 0), (112, .getfield 66, 3, 7, 4), (115, .if_icmp .ge 12, 3, 127, 0), (118, .aload_n 0, 1, 0, 0), (119, .getfield 31, 3, 7, 15), (122, .iconst 3, 1, 0, 0)]
def mj_c116_1 : List mj_Row := [(123, .iaload, 1, 0, 0), (124, .goto 5, 3, 129, 0), (127, .bipush (-9), 2, 0, 0), (129, .ireturn, 1, 0, 0), (130, .aload_n 0, 1, 0, 0), (131, .getfield 73, 3, 7, 5), (134, .ireturn, 1, 0, 0), (135, .aload_n 0, 1, 0, 0), (136, .getfield 31, 3, 7, 15), (139, .iconst 4, 1, 0, 0), (140, .iaload, 1, 0, 0), (141, .ireturn, 1, 0, 0), (142, .aload_n 0, 1, 0, 0), (143, .getfield 125, 3, 7, 18), (146, .ireturn, 1, 0, 0), (147, .aload_n 0, 1, 0, 0), (148, .getfield 131, 3, 7, 21), (151, .ireturn, 1, 0, 0), (152, .aload_n 0, 1, 0, 0), (153, .getfield 78, 3, 7, 2), (156, .ireturn, 1, 0, 0), (157, .aload_n 0, 1, 0, 0), (158, .aload_n 0, 1, 0, 0), (159, .getfield 31, 3, 7, 15), (162, .iconst 1, 1, 0, 0), (163, .iaload, 1, 0, 0), (164, .invokevirtual 134, 3, 118, 2), (167, .ireturn, 1, 0, 0), (168, .bipush (-2), 2, 0, 0), (170, .ireturn, 1, 0, 0)]
def mj_c116 : List mj_Row := mj_c116_0 ++ (mj_c116_1)
def mj_c117_0 : List mj_Row := [(0, .iconst 0, 1, 0, 0), (1, .istore_n 2, 1, 0, 0), (2, .iconst 0, 1, 0, 0), (3, .istore_n 3, 1, 0, 0), (4, .iload_n 3, 1, 0, 0), (5, .aload_n 0, 1, 0, 0), (6, .getfield 66, 3, 7, 4), (9, .if_icmp .ge 34, 3, 43, 0), (12, .iload_n 2, 1, 0, 0), (13, .iload_n 1, 1, 0, 0), (14, .iload_n 3, 1, 0, 0), (15, .invokestatic 95, 3, 113, 2), (18, .ifCond .eq 16, 3, 34, 0), (21, .aload_n 0, 1, 0, 0), (22, .getfield 13, 3, 7, 6), (25, .iconst 4, 1, 0, 0), (26, .iload_n 3, 1, 0, 0), (27, .imul, 1, 0, 0), (28, .iconst 2, 1, 0, 0), (29, .iadd, 1, 0, 0), (30, .iaload, 1, 0, 0), (31, .goto 4, 3, 35, 0), (34, .iconst 0, 1, 0, 0), (35, .iadd, 1, 0, 0), (36, .istore_n 2, 1, 0, 0), (37, .iinc 3 1, 3, 0, 0), (40, .goto (-36), 3, 4, 0), (43, .iload_n 2, 1, 0, 0), (44, .ireturn, 1, 0, 0)]
def mj_c117 : List mj_Row := mj_c117_0
def mj_c118_0 : List mj_Row := [(0, .iconst 0, 1, 0, 0), (1, .istore_n 2, 1, 0, 0), (2, .iconst 0, 1, 0, 0), (3, .istore_n 3, 1, 0, 0), (4, .iload_n 3, 1, 0, 0), (5, .aload_n 0, 1, 0, 0), (6, .getfield 66, 3, 7, 4), (9, .if_icmp .ge 36, 3, 45, 0), (12, .iload_n 2, 1, 0, 0), (13, .iload_n 1, 1, 0, 0), (14, .iload_n 3, 1, 0, 0), (15, .invokestatic 95, 3, 113, 2), (18, .ifCond .eq 18, 3, 36, 0), (21, .iconst 1, 1, 0, 0), (22, .aload_n 0, 1, 0, 0), (23, .getfield 13, 3, 7, 6), (26, .iconst 4, 1, 0, 0), (27, .iload_n 3, 1, 0, 0), (28, .imul, 1, 0, 0), (29, .iconst 3, 1, 0, 0), (30, .iadd, 1, 0, 0), (31, .iaload, 1, 0, 0), (32, .ishl, 1, 0, 0), (33, .goto 4, 3, 37, 0), (36, .iconst 0, 1, 0, 0), (37, .ior, 1, 0, 0), (38, .istore_n 2, 1, 0, 0), (39, .iinc 3 1, 3, 0, 0), (42, .goto (-38), 3, 4, 0), (45, .iload_n 2, 1, 0, 0), (46, .ireturn, 1, 0, 0)]
def mj_c118 : List mj_Row := mj_c118_0
def mj_c119_0 : List mj_Row := [(0, .aload_n 0, 1, 0, 0), (1, .iconst 0, 1, 0, 0), (2, .putfield 62, 3, 7, 0), (5, .aload_n 0, 1, 0, 0), (6, .iload_n 1, 1, 0, 0), (7, .invokevirtual 137, 3, 120, 2), (10, .ifCond .eq 5, 3, 15, 0), (13, .iconst (-1), 1, 0, 0), (14, .ireturn, 1, 0, 0), (15, .iload_n 2, 1, 0, 0), (16, .i2l, 1, 0, 0), (17, .lconst 0, 1, 0, 0), (18, .ldc2_w 141, 3, 4, 0), (21, .invokestatic 69, 3, 103, 3), (24, .ifCond .eq 14, 3, 38, 0), (27, .aload_n 0, 1, 0, 0), (28, .getfield 13, 3, 7, 6), (31, .iconst 4, 1, 0, 0), (32, .iload_n 1, 1, 0, 0), (33, .imul, 1, 0, 0), (34, .iload_n 2, 1, 0, 0), (35, .iadd, 1, 0, 0), (36, .iaload, 1, 0, 0), (37, .ireturn, 1, 0, 0), (38, .iload_n 2, 1, 0, 0), (39, .iconst 4, 1, 0, 0), (40, .if_icmp .ne 12, 3, 52, 0), (43, .aload_n 0, 1, 0, 0), (44, .getfield 16, 3, 7, 7), (47, .iload_n 1, 1, 0, 0), (48, .iaload, 1, 0, 0), (49, .goto 57, 3, 106, 0), (52, .iload_n 2, 1, 0, 0), (53, .iconst 5, 1, 0, 0), (54, .if_icmp .ne 15, 3, 69, 0), (57, .aload_n 0, 1, 0, 0), (58, .aload_n 0, 1, 0, 0), (59, .getfield 31, 3, 7, 15), (62, .iload_n 1, 1, 0, 0), (63, .invokevirtual 143, 3, 121, 3)]
def mj_c119_1 : List mj_Row := [(66, .goto 40, 3, 106, 0), (69, .iload_n 2, 1, 0, 0), (70, .bipush 6, 2, 0, 0), (72, .if_icmp .eq 8, 3, 80, 0), (75, .bipush (-2), 2, 0, 0), (77, .goto 29, 3, 106, 0), (80, .aload_n 0, 1, 0, 0), (81, .getfield 31, 3, 7, 15), (84, .iconst 1, 1, 0, 0), (85, .iaload, 1, 0, 0), (86, .iload_n 1, 1, 0, 0), (87, .invokestatic 95, 3, 113, 2), (90, .ifCond .eq 14, 3, 104, 0), (93, .aload_n 0, 1, 0, 0), (94, .getfield 31, 3, 7, 15), (97, .iconst 5, 1, 0, 0), (98, .iload_n 1, 1, 0, 0), (99, .iadd, 1, 0, 0), (100, .iaload, 1, 0, 0), (101, .goto 5, 3, 106, 0), (104, .bipush (-9), 2, 0, 0), (106, .ireturn, 1, 0, 0)]
def mj_c119 : List mj_Row := mj_c119_0 ++ (mj_c119_1)
def mj_c120_0 : List mj_Row := [(0, .iload_n 1, 1, 0, 0), (1, .i2l, 1, 0, 0), (2, .lconst 0, 1, 0, 0), (3, .aload_n 0, 1, 0, 0), (4, .getfield 66, 3, 7, 4), (7, .iconst 1, 1, 0, 0), (8, .isub, 1, 0, 0), (9, .i2l, 1, 0, 0), (10, .invokestatic 69, 3, 103, 3), (13, .ifCond .ne 7, 3, 20, 0), (16, .iconst 1, 1, 0, 0), (17, .goto 4, 3, 21, 0), (20, .iconst 0, 1, 0, 0), (21, .ireturn, 1, 0, 0)]
def mj_c120 : List mj_Row := mj_c120_0
def mj_c121_0 : List mj_Row := [(0, .aload_n 0, 1, 0, 0), (1, .getfield 13, 3, 7, 6), (4, .iconst 4, 1, 0, 0), (5, .iload_n 2, 1, 0, 0), (6, .imul, 1, 0, 0), (7, .iconst 1, 1, 0, 0), (8, .iadd, 1, 0, 0), (9, .iaload, 1, 0, 0), (10, .istore_n 3, 1, 0, 0), (11, .aload_n 0, 1, 0, 0), (12, .getfield 13, 3, 7, 6), (15, .iconst 4, 1, 0, 0), (16, .iload_n 2, 1, 0, 0), (17, .imul, 1, 0, 0), (18, .iaload, 1, 0, 0), (19, .iconst 1, 1, 0, 0), (20, .if_icmp .ne 9, 3, 29, 0), (23, .iload_n 3, 1, 0, 0), (24, .iconst 1, 1, 0, 0), (25, .iadd, 1, 0, 0), (26, .iconst 2, 1, 0, 0), (27, .idiv, 1, 0, 0), (28, .ireturn, 1, 0, 0), (29, .iconst 0, 1, 0, 0), (30, .istore 4, 2, 0, 0), (32, .iload 4, 2, 0, 0), (34, .aload_n 0, 1, 0, 0), (35, .getfield 66, 3, 7, 4), (38, .if_icmp .ge 53, 3, 91, 0), (41, .aload_n 0, 1, 0, 0), (42, .getfield 13, 3, 7, 6), (45, .iconst 4, 1, 0, 0), (46, .iload_n 2, 1, 0, 0), (47, .imul, 1, 0, 0), (48, .iaload, 1, 0, 0), (49, .iconst 2, 1, 0, 0), (50, .if_icmp .ne 41, 3, 91, 0), (53, .aload_n 1, 1, 0, 0), (54, .iconst 1, 1, 0, 0), (55, .iaload, 1, 0, 0)]
def mj_c121_1 : List mj_Row := [(56, .iload 4, 2, 0, 0), (58, .invokestatic 95, 3, 113, 2), (61, .ifCond .eq 22, 3, 83, 0), (64, .aload_n 1, 1, 0, 0), (65, .iconst 5, 1, 0, 0), (66, .iload 4, 2, 0, 0), (68, .iadd, 1, 0, 0), (69, .iaload, 1, 0, 0), (70, .iload_n 3, 1, 0, 0), (71, .if_icmp .le 12, 3, 83, 0), (74, .aload_n 1, 1, 0, 0), (75, .iconst 5, 1, 0, 0), (76, .iload 4, 2, 0, 0), (78, .iadd, 1, 0, 0), (79, .iaload, 1, 0, 0), (80, .goto 4, 3, 84, 0), (83, .iload_n 3, 1, 0, 0), (84, .istore_n 3, 1, 0, 0), (85, .iinc 4 1, 3, 0, 0), (88, .goto (-56), 3, 32, 0), (91, .iload_n 3, 1, 0, 0), (92, .ireturn, 1, 0, 0)]
def mj_c121 : List mj_Row := mj_c121_0 ++ (mj_c121_1)
def mj_c122_0 : List mj_Row := [(0, .aload_n 0, 1, 0, 0), (1, .iconst 0, 1, 0, 0), (2, .putfield 62, 3, 7, 0), (5, .aload_n 0, 1, 0, 0), (6, .iload_n 1, 1, 0, 0), (7, .invokevirtual 147, 3, 123, 2), (10, .ifCond .eq 5, 3, 15, 0), (13, .iconst (-1), 1, 0, 0), (14, .ireturn, 1, 0, 0), (15, .iload_n 2, 1, 0, 0), (16, .i2l, 1, 0, 0), (17, .lconst 0, 1, 0, 0), (18, .lconst 1, 1, 0, 0), (19, .invokestatic 69, 3, 103, 3), (22, .ifCond .eq 16, 3, 38, 0), (25, .aload_n 0, 1, 0, 0), (26, .getfield 19, 3, 7, 8), (29, .iconst 2, 1, 0, 0), (30, .iload_n 1, 1, 0, 0), (31, .imul, 1, 0, 0), (32, .iload_n 2, 1, 0, 0), (33, .iadd, 1, 0, 0), (34, .iaload, 1, 0, 0), (35, .goto 28, 3, 63, 0), (38, .iload_n 2, 1, 0, 0), (39, .iconst 2, 1, 0, 0), (40, .if_icmp .ne 21, 3, 61, 0), (43, .iload_n 1, 1, 0, 0), (44, .aload_n 0, 1, 0, 0), (45, .getfield 31, 3, 7, 15), (48, .iconst 4, 1, 0, 0), (49, .iaload, 1, 0, 0), (50, .if_icmp .ge 7, 3, 57, 0), (53, .iconst 1, 1, 0, 0), (54, .goto 9, 3, 63, 0), (57, .iconst 0, 1, 0, 0), (58, .goto 5, 3, 63, 0), (61, .bipush (-2), 2, 0, 0), (63, .ireturn, 1, 0, 0)]
def mj_c122 : List mj_Row := mj_c122_0
def mj_c123_0 : List mj_Row := [(0, .iload_n 1, 1, 0, 0), (1, .i2l, 1, 0, 0), (2, .lconst 0, 1, 0, 0), (3, .aload_n 0, 1, 0, 0), (4, .getfield 73, 3, 7, 5), (7, .iconst 1, 1, 0, 0), (8, .isub, 1, 0, 0), (9, .i2l, 1, 0, 0), (10, .invokestatic 69, 3, 103, 3), (13, .ifCond .ne 7, 3, 20, 0), (16, .iconst 1, 1, 0, 0), (17, .goto 4, 3, 21, 0), (20, .iconst 0, 1, 0, 0), (21, .ireturn, 1, 0, 0)]
def mj_c123 : List mj_Row := mj_c123_0
def mj_c124_0 : List mj_Row := [(0, .aload_n 0, 1, 0, 0), (1, .iconst 0, 1, 0, 0), (2, .putfield 62, 3, 7, 0), (5, .aload_n 0, 1, 0, 0), (6, .getfield 31, 3, 7, 15), (9, .iconst 3, 1, 0, 0), (10, .iaload, 1, 0, 0), (11, .aload_n 0, 1, 0, 0), (12, .getfield 66, 3, 7, 4), (15, .if_icmp .lt 6, 3, 21, 0), (18, .bipush (-3), 2, 0, 0), (20, .ireturn, 1, 0, 0), (21, .aload_n 0, 1, 0, 0), (22, .aload_n 0, 1, 0, 0), (23, .getfield 31, 3, 7, 15), (26, .invokevirtual 153, 3, 125, 2), (29, .ifCond .ne 6, 3, 35, 0), (32, .bipush (-4), 2, 0, 0), (34, .ireturn, 1, 0, 0), (35, .aload_n 0, 1, 0, 0), (36, .invokevirtual 157, 3, 126, 1), (39, .aload_n 0, 1, 0, 0), (40, .aload_n 0, 1, 0, 0), (41, .getfield 31, 3, 7, 15), (44, .invokevirtual 160, 3, 127, 2), (47, .ireturn, 1, 0, 0)]
def mj_c124 : List mj_Row := mj_c124_0
def mj_c125_0 : List mj_Row := [(0, .aload_n 1, 1, 0, 0), (1, .iconst 3, 1, 0, 0), (2, .iaload, 1, 0, 0), (3, .aload_n 0, 1, 0, 0), (4, .getfield 66, 3, 7, 4), (7, .if_icmp .ge 21, 3, 28, 0), (10, .aload_n 0, 1, 0, 0), (11, .aload_n 1, 1, 0, 0), (12, .aload_n 1, 1, 0, 0), (13, .iconst 3, 1, 0, 0), (14, .iaload, 1, 0, 0), (15, .invokevirtual 143, 3, 121, 3), (18, .aload_n 1, 1, 0, 0), (19, .iconst 0, 1, 0, 0), (20, .iaload, 1, 0, 0), (21, .if_icmp .gt 7, 3, 28, 0), (24, .iconst 1, 1, 0, 0), (25, .goto 4, 3, 29, 0), (28, .iconst 0, 1, 0, 0), (29, .ireturn, 1, 0, 0)]
def mj_c125 : List mj_Row := mj_c125_0
def mj_c126_0 : List mj_Row := [(0, .aload_n 0, 1, 0, 0), (1, .getfield 125, 3, 7, 18), (4, .bipush 14, 2, 0, 0), (6, .if_icmp .ne 43, 3, 49, 0), (9, .iconst 0, 1, 0, 0), (10, .istore_n 1, 1, 0, 0), (11, .iload_n 1, 1, 0, 0), (12, .sipush 143, 3, 0, 0), (15, .if_icmp .ge 24, 3, 39, 0), (18, .aload_n 0, 1, 0, 0), (19, .getfield 37, 3, 7, 17), (22, .iload_n 1, 1, 0, 0), (23, .aload_n 0, 1, 0, 0), (24, .getfield 37, 3, 7, 17), (27, .iload_n 1, 1, 0, 0), (28, .bipush 11, 2, 0, 0), (30, .iadd, 1, 0, 0), (31, .iaload, 1, 0, 0), (32, .iastore, 1, 0, 0), (33, .iinc 1 1, 3, 0, 0), (36, .goto (-25), 3, 11, 0), (39, .aload_n 0, 1, 0, 0), (40, .dup, 1, 0, 0), (41, .getfield 125, 3, 7, 18), (44, .iconst 1, 1, 0, 0), (45, .isub, 1, 0, 0), (46, .putfield 125, 3, 7, 18), (49, .iconst 0, 1, 0, 0), (50, .istore_n 1, 1, 0, 0), (51, .iload_n 1, 1, 0, 0), (52, .bipush 11, 2, 0, 0), (54, .if_icmp .ge 29, 3, 83, 0), (57, .aload_n 0, 1, 0, 0), (58, .getfield 37, 3, 7, 17), (61, .bipush 11, 2, 0, 0), (63, .aload_n 0, 1, 0, 0), (64, .getfield 125, 3, 7, 18), (67, .imul, 1, 0, 0), (68, .iload_n 1, 1, 0, 0), (69, .iadd, 1, 0, 0)]
def mj_c126_1 : List mj_Row := [(70, .aload_n 0, 1, 0, 0), (71, .getfield 31, 3, 7, 15), (74, .iload_n 1, 1, 0, 0), (75, .iaload, 1, 0, 0), (76, .iastore, 1, 0, 0), (77, .iinc 1 1, 3, 0, 0), (80, .goto (-29), 3, 51, 0), (83, .aload_n 0, 1, 0, 0), (84, .dup, 1, 0, 0), (85, .getfield 125, 3, 7, 18), (88, .iconst 1, 1, 0, 0), (89, .iadd, 1, 0, 0), (90, .putfield 125, 3, 7, 18), (93, .return_, 1, 0, 0)]
def mj_c126 : List mj_Row := mj_c126_0 ++ (mj_c126_1)
def mj_c127_0 : List mj_Row := [(0, .aload_n 1, 1, 0, 0), (1, .iconst 3, 1, 0, 0), (2, .iaload, 1, 0, 0), (3, .istore_n 2, 1, 0, 0), (4, .iconst 0, 1, 0, 0), (5, .istore_n 3, 1, 0, 0), (6, .aload_n 1, 1, 0, 0), (7, .iconst 5, 1, 0, 0), (8, .iload_n 2, 1, 0, 0), (9, .iadd, 1, 0, 0), (10, .aload_n 0, 1, 0, 0), (11, .aload_n 1, 1, 0, 0), (12, .iload_n 2, 1, 0, 0), (13, .invokevirtual 143, 3, 121, 3), (16, .iastore, 1, 0, 0), (17, .aload_n 1, 1, 0, 0), (18, .iconst 0, 1, 0, 0), (19, .dup2, 1, 0, 0), (20, .iaload, 1, 0, 0), (21, .aload_n 1, 1, 0, 0), (22, .iconst 5, 1, 0, 0), (23, .iload_n 2, 1, 0, 0), (24, .iadd, 1, 0, 0), (25, .iaload, 1, 0, 0), (26, .isub, 1, 0, 0), (27, .iastore, 1, 0, 0), (28, .aload_n 1, 1, 0, 0), (29, .iconst 1, 1, 0, 0), (30, .dup2, 1, 0, 0), (31, .iaload, 1, 0, 0), (32, .iconst 1, 1, 0, 0), (33, .iload_n 2, 1, 0, 0), (34, .ishl, 1, 0, 0), (35, .ior, 1, 0, 0), (36, .iastore, 1, 0, 0), (37, .aload_n 1, 1, 0, 0), (38, .iconst 3, 1, 0, 0), (39, .dup2, 1, 0, 0), (40, .iaload, 1, 0, 0), (41, .iconst 1, 1, 0, 0)]
def mj_c127_1 : List mj_Row := [(42, .iadd, 1, 0, 0), (43, .iastore, 1, 0, 0), (44, .iconst 0, 1, 0, 0), (45, .istore 4, 2, 0, 0), (47, .iload 4, 2, 0, 0), (49, .aload_n 0, 1, 0, 0), (50, .getfield 66, 3, 7, 4), (53, .if_icmp .ge 94, 3, 147, 0), (56, .aload_n 1, 1, 0, 0), (57, .iconst 1, 1, 0, 0), (58, .iaload, 1, 0, 0), (59, .iload_n 2, 1, 0, 0), (60, .invokestatic 95, 3, 113, 2), (63, .ifCond .eq 84, 3, 147, 0), (66, .iload 4, 2, 0, 0), (68, .iload_n 2, 1, 0, 0), (69, .if_icmp .eq 72, 3, 141, 0), (72, .aload_n 1, 1, 0, 0), (73, .iconst 1, 1, 0, 0), (74, .iaload, 1, 0, 0), (75, .aload_n 0, 1, 0, 0), (76, .getfield 16, 3, 7, 7), (79, .iload_n 2, 1, 0, 0), (80, .iaload, 1, 0, 0), (81, .iand, 1, 0, 0), (82, .iload 4, 2, 0, 0), (84, .invokestatic 95, 3, 113, 2), (87, .ifCond .eq 54, 3, 141, 0), (90, .aload_n 0, 1, 0, 0), (91, .getfield 13, 3, 7, 6), (94, .iconst 4, 1, 0, 0), (95, .iload 4, 2, 0, 0), (97, .imul, 1, 0, 0), (98, .iconst 2, 1, 0, 0), (99, .iadd, 1, 0, 0), (100, .iaload, 1, 0, 0), (101, .aload_n 0, 1, 0, 0), (102, .getfield 13, 3, 7, 6), (105, .iconst 4, 1, 0, 0), (106, .iload_n 2, 1, 0, 0)]
def mj_c127_2 : List mj_Row := [(107, .imul, 1, 0, 0), (108, .iconst 2, 1, 0, 0), (109, .iadd, 1, 0, 0), (110, .iaload, 1, 0, 0), (111, .if_icmp .ge 8, 3, 119, 0), (114, .iload 4, 2, 0, 0), (116, .goto 4, 3, 120, 0), (119, .iload_n 2, 1, 0, 0), (120, .istore 5, 2, 0, 0), (122, .aload_n 1, 1, 0, 0), (123, .iconst 1, 1, 0, 0), (124, .dup2, 1, 0, 0), (125, .iaload, 1, 0, 0), (126, .iconst 1, 1, 0, 0), (127, .iload 5, 2, 0, 0), (129, .ishl, 1, 0, 0), (130, .iconst (-1), 1, 0, 0), (131, .ixor, 1, 0, 0), (132, .iand, 1, 0, 0), (133, .iastore, 1, 0, 0), (134, .iload_n 3, 1, 0, 0), (135, .iconst 1, 1, 0, 0), (136, .iload 5, 2, 0, 0), (138, .ishl, 1, 0, 0), (139, .ior, 1, 0, 0), (140, .istore_n 3, 1, 0, 0), (141, .iinc 4 1, 3, 0, 0), (144, .goto (-97), 3, 47, 0), (147, .iload_n 3, 1, 0, 0), (148, .ireturn, 1, 0, 0)]
def mj_c127 : List mj_Row := mj_c127_0 ++ (mj_c127_1 ++ (mj_c127_2))
def mj_c128_0 : List mj_Row := [(0, .aload_n 0, 1, 0, 0), (1, .iconst 0, 1, 0, 0), (2, .putfield 62, 3, 7, 0), (5, .aload_n 0, 1, 0, 0), (6, .getfield 31, 3, 7, 15), (9, .iconst 3, 1, 0, 0), (10, .iaload, 1, 0, 0), (11, .aload_n 0, 1, 0, 0), (12, .getfield 66, 3, 7, 4), (15, .if_icmp .lt 6, 3, 21, 0), (18, .bipush (-3), 2, 0, 0), (20, .ireturn, 1, 0, 0), (21, .aload_n 0, 1, 0, 0), (22, .invokevirtual 157, 3, 126, 1), (25, .aload_n 0, 1, 0, 0), (26, .getfield 31, 3, 7, 15), (29, .iconst 3, 1, 0, 0), (30, .dup2, 1, 0, 0), (31, .iaload, 1, 0, 0), (32, .iconst 1, 1, 0, 0), (33, .iadd, 1, 0, 0), (34, .iastore, 1, 0, 0), (35, .aload_n 0, 1, 0, 0), (36, .getfield 31, 3, 7, 15), (39, .iconst 3, 1, 0, 0), (40, .iaload, 1, 0, 0), (41, .aload_n 0, 1, 0, 0), (42, .getfield 66, 3, 7, 4), (45, .if_icmp .ge 12, 3, 57, 0), (48, .aload_n 0, 1, 0, 0), (49, .getfield 31, 3, 7, 15), (52, .iconst 3, 1, 0, 0), (53, .iaload, 1, 0, 0), (54, .goto 5, 3, 59, 0), (57, .bipush (-9), 2, 0, 0), (59, .ireturn, 1, 0, 0)]
def mj_c128 : List mj_Row := mj_c128_0
def mj_c129_0 : List mj_Row := [(0, .aload_n 0, 1, 0, 0), (1, .iconst 0, 1, 0, 0), (2, .putfield 62, 3, 7, 0), (5, .aload_n 0, 1, 0, 0), (6, .invokevirtual 157, 3, 126, 1), (9, .aload_n 0, 1, 0, 0), (10, .aload_n 0, 1, 0, 0), (11, .getfield 31, 3, 7, 15), (14, .invokevirtual 164, 3, 130, 2), (17, .ireturn, 1, 0, 0)]
def mj_c129 : List mj_Row := mj_c129_0
def mj_c130_0 : List mj_Row := [(0, .iconst 0, 1, 0, 0), (1, .istore_n 2, 1, 0, 0), (2, .iconst 0, 1, 0, 0), (3, .istore_n 3, 1, 0, 0), (4, .iload_n 3, 1, 0, 0), (5, .aload_n 0, 1, 0, 0), (6, .getfield 66, 3, 7, 4), (9, .if_icmp .ge 74, 3, 83, 0), (12, .aload_n 1, 1, 0, 0), (13, .iconst 1, 1, 0, 0), (14, .iaload, 1, 0, 0), (15, .iload_n 3, 1, 0, 0), (16, .invokestatic 95, 3, 113, 2), (19, .ifCond .eq 58, 3, 77, 0), (22, .iload_n 2, 1, 0, 0), (23, .aload_n 1, 1, 0, 0), (24, .iconst 0, 1, 0, 0), (25, .iaload, 1, 0, 0), (26, .ifCond .ne 9, 3, 35, 0), (29, .iconst 1, 1, 0, 0), (30, .iload_n 3, 1, 0, 0), (31, .ishl, 1, 0, 0), (32, .goto 4, 3, 36, 0), (35, .iconst 0, 1, 0, 0), (36, .ior, 1, 0, 0), (37, .istore_n 2, 1, 0, 0), (38, .aload_n 1, 1, 0, 0), (39, .iconst 0, 1, 0, 0), (40, .dup2, 1, 0, 0), (41, .iaload, 1, 0, 0), (42, .aload_n 1, 1, 0, 0), (43, .iconst 0, 1, 0, 0), (44, .iaload, 1, 0, 0), (45, .ifCond .ne 7, 3, 52, 0), (48, .iconst 0, 1, 0, 0), (49, .goto 4, 3, 53, 0), (52, .iconst 1, 1, 0, 0), (53, .isub, 1, 0, 0), (54, .iastore, 1, 0, 0), (55, .iload_n 2, 1, 0, 0)]
def mj_c130_1 : List mj_Row := [(56, .aload_n 0, 1, 0, 0), (57, .getfield 13, 3, 7, 6), (60, .iconst 4, 1, 0, 0), (61, .iload_n 3, 1, 0, 0), (62, .imul, 1, 0, 0), (63, .iaload, 1, 0, 0), (64, .iconst 3, 1, 0, 0), (65, .if_icmp .ne 9, 3, 74, 0), (68, .iconst 1, 1, 0, 0), (69, .iload_n 3, 1, 0, 0), (70, .ishl, 1, 0, 0), (71, .goto 4, 3, 75, 0), (74, .iconst 0, 1, 0, 0), (75, .ior, 1, 0, 0), (76, .istore_n 2, 1, 0, 0), (77, .iinc 3 1, 3, 0, 0), (80, .goto (-76), 3, 4, 0), (83, .aload_n 1, 1, 0, 0), (84, .iconst 1, 1, 0, 0), (85, .dup2, 1, 0, 0), (86, .iaload, 1, 0, 0), (87, .iload_n 2, 1, 0, 0), (88, .iconst (-1), 1, 0, 0), (89, .ixor, 1, 0, 0), (90, .iand, 1, 0, 0), (91, .iastore, 1, 0, 0), (92, .aload_n 1, 1, 0, 0), (93, .iconst 2, 1, 0, 0), (94, .dup2, 1, 0, 0), (95, .iaload, 1, 0, 0), (96, .iconst 1, 1, 0, 0), (97, .iadd, 1, 0, 0), (98, .iastore, 1, 0, 0), (99, .iload_n 2, 1, 0, 0), (100, .ireturn, 1, 0, 0)]
def mj_c130 : List mj_Row := mj_c130_0 ++ (mj_c130_1)
def mj_c131_0 : List mj_Row := [(0, .aload_n 0, 1, 0, 0), (1, .iconst 0, 1, 0, 0), (2, .putfield 62, 3, 7, 0), (5, .aload_n 0, 1, 0, 0), (6, .aload_n 0, 1, 0, 0), (7, .getfield 31, 3, 7, 15), (10, .invokevirtual 167, 3, 132, 2), (13, .ifCond .ne 6, 3, 19, 0), (16, .bipush (-3), 2, 0, 0), (18, .ireturn, 1, 0, 0), (19, .aload_n 0, 1, 0, 0), (20, .invokevirtual 157, 3, 126, 1), (23, .aload_n 0, 1, 0, 0), (24, .getfield 31, 3, 7, 15), (27, .iconst 4, 1, 0, 0), (28, .dup2, 1, 0, 0), (29, .iaload, 1, 0, 0), (30, .iconst 1, 1, 0, 0), (31, .iadd, 1, 0, 0), (32, .iastore, 1, 0, 0), (33, .aload_n 0, 1, 0, 0), (34, .getfield 31, 3, 7, 15), (37, .iconst 4, 1, 0, 0), (38, .iaload, 1, 0, 0), (39, .iconst 1, 1, 0, 0), (40, .isub, 1, 0, 0), (41, .ireturn, 1, 0, 0)]
def mj_c131 : List mj_Row := mj_c131_0
def mj_c132_0 : List mj_Row := [(0, .aload_n 1, 1, 0, 0), (1, .iconst 4, 1, 0, 0), (2, .iaload, 1, 0, 0), (3, .aload_n 0, 1, 0, 0), (4, .getfield 73, 3, 7, 5), (7, .if_icmp .ge 20, 3, 27, 0), (10, .aload_n 0, 1, 0, 0), (11, .aload_n 1, 1, 0, 0), (12, .iconst 1, 1, 0, 0), (13, .iaload, 1, 0, 0), (14, .aload_n 1, 1, 0, 0), (15, .iconst 4, 1, 0, 0), (16, .iaload, 1, 0, 0), (17, .invokevirtual 150, 3, 133, 3), (20, .ifCond .eq 7, 3, 27, 0), (23, .iconst 1, 1, 0, 0), (24, .goto 4, 3, 28, 0), (27, .iconst 0, 1, 0, 0), (28, .ireturn, 1, 0, 0)]
def mj_c132 : List mj_Row := mj_c132_0
def mj_c133_0 : List mj_Row := [(0, .aload_n 0, 1, 0, 0), (1, .iload_n 1, 1, 0, 0), (2, .invokevirtual 134, 3, 118, 2), (5, .aload_n 0, 1, 0, 0), (6, .getfield 19, 3, 7, 8), (9, .iconst 2, 1, 0, 0), (10, .iload_n 2, 1, 0, 0), (11, .imul, 1, 0, 0), (12, .iaload, 1, 0, 0), (13, .invokestatic 95, 3, 113, 2), (16, .ifCond .eq 25, 3, 41, 0), (19, .aload_n 0, 1, 0, 0), (20, .iload_n 1, 1, 0, 0), (21, .invokevirtual 128, 3, 117, 2), (24, .aload_n 0, 1, 0, 0), (25, .getfield 19, 3, 7, 8), (28, .iconst 2, 1, 0, 0), (29, .iload_n 2, 1, 0, 0), (30, .imul, 1, 0, 0), (31, .iconst 1, 1, 0, 0), (32, .iadd, 1, 0, 0), (33, .iaload, 1, 0, 0), (34, .if_icmp .lt 7, 3, 41, 0), (37, .iconst 1, 1, 0, 0), (38, .goto 4, 3, 42, 0), (41, .iconst 0, 1, 0, 0), (42, .ireturn, 1, 0, 0)]
def mj_c133 : List mj_Row := mj_c133_0
def mj_c134_0 : List mj_Row := [(0, .aload_n 0, 1, 0, 0), (1, .iconst 0, 1, 0, 0), (2, .putfield 62, 3, 7, 0), (5, .aload_n 0, 1, 0, 0), (6, .getfield 125, 3, 7, 18), (9, .ifCond .ne 6, 3, 15, 0), (12, .bipush (-3), 2, 0, 0), (14, .ireturn, 1, 0, 0), (15, .aload_n 0, 1, 0, 0), (16, .dup, 1, 0, 0), (17, .getfield 125, 3, 7, 18), (20, .iconst 1, 1, 0, 0), (21, .isub, 1, 0, 0), (22, .putfield 125, 3, 7, 18), (25, .iconst 0, 1, 0, 0), (26, .istore_n 1, 1, 0, 0), (27, .iload_n 1, 1, 0, 0), (28, .bipush 11, 2, 0, 0), (30, .if_icmp .ge 29, 3, 59, 0), (33, .aload_n 0, 1, 0, 0), (34, .getfield 31, 3, 7, 15), (37, .iload_n 1, 1, 0, 0), (38, .aload_n 0, 1, 0, 0), (39, .getfield 37, 3, 7, 17), (42, .bipush 11, 2, 0, 0), (44, .aload_n 0, 1, 0, 0), (45, .getfield 125, 3, 7, 18), (48, .imul, 1, 0, 0), (49, .iload_n 1, 1, 0, 0), (50, .iadd, 1, 0, 0), (51, .iaload, 1, 0, 0), (52, .iastore, 1, 0, 0), (53, .iinc 1 1, 3, 0, 0), (56, .goto (-29), 3, 27, 0), (59, .aload_n 0, 1, 0, 0), (60, .getfield 125, 3, 7, 18), (63, .ireturn, 1, 0, 0)]
def mj_c134 : List mj_Row := mj_c134_0
def mj_c135_0 : List mj_Row := [(0, .aload_n 0, 1, 0, 0), (1, .iconst 0, 1, 0, 0), (2, .putfield 62, 3, 7, 0), (5, .aload_n 0, 1, 0, 0), (6, .iload_n 1, 1, 0, 0), (7, .invokevirtual 173, 3, 136, 2), (10, .ifCond .ne 15, 3, 25, 0), (13, .iload_n 2, 1, 0, 0), (14, .i2l, 1, 0, 0), (15, .lconst 0, 1, 0, 0), (16, .ldc2_w 176, 3, 2, 0), (19, .invokestatic 69, 3, 103, 3), (22, .ifCond .ne 6, 3, 28, 0), (25, .bipush (-2), 2, 0, 0), (27, .ireturn, 1, 0, 0), (28, .aload_n 0, 1, 0, 0), (29, .iload_n 1, 1, 0, 0), (30, .invokevirtual 178, 3, 137, 2), (33, .istore_n 3, 1, 0, 0), (34, .iload_n 3, 1, 0, 0), (35, .bipush (-9), 2, 0, 0), (37, .if_icmp .ne 8, 3, 45, 0), (40, .bipush (-9), 2, 0, 0), (42, .goto 31, 3, 73, 0), (45, .iload_n 2, 1, 0, 0), (46, .ifCond .ne 7, 3, 53, 0), (49, .iload_n 3, 1, 0, 0), (50, .goto 23, 3, 73, 0), (53, .iload_n 2, 1, 0, 0), (54, .iconst 1, 1, 0, 0), (55, .if_icmp .ne 12, 3, 67, 0), (58, .aload_n 0, 1, 0, 0), (59, .getfield 34, 3, 7, 16), (62, .iconst 1, 1, 0, 0), (63, .iaload, 1, 0, 0), (64, .goto 9, 3, 73, 0), (67, .aload_n 0, 1, 0, 0), (68, .getfield 34, 3, 7, 16), (71, .iconst 4, 1, 0, 0), (72, .iaload, 1, 0, 0)]
def mj_c135_1 : List mj_Row := [(73, .ireturn, 1, 0, 0)]
def mj_c135 : List mj_Row := mj_c135_0 ++ (mj_c135_1)
def mj_c136_0 : List mj_Row := [(0, .iload_n 1, 1, 0, 0), (1, .i2l, 1, 0, 0), (2, .lconst 0, 1, 0, 0), (3, .iconst 1, 1, 0, 0), (4, .aload_n 0, 1, 0, 0), (5, .getfield 66, 3, 7, 4), (8, .ishl, 1, 0, 0), (9, .iconst 1, 1, 0, 0), (10, .isub, 1, 0, 0), (11, .i2l, 1, 0, 0), (12, .invokestatic 69, 3, 103, 3), (15, .ifCond .eq 18, 3, 33, 0), (18, .iload_n 1, 1, 0, 0), (19, .iconst 1, 1, 0, 0), (20, .aload_n 0, 1, 0, 0), (21, .getfield 31, 3, 7, 15), (24, .iconst 3, 1, 0, 0), (25, .iaload, 1, 0, 0), (26, .ishl, 1, 0, 0), (27, .iconst 1, 1, 0, 0), (28, .isub, 1, 0, 0), (29, .iand, 1, 0, 0), (30, .ifCond .eq 7, 3, 37, 0), (33, .iconst 1, 1, 0, 0), (34, .goto 4, 3, 38, 0), (37, .iconst 0, 1, 0, 0), (38, .ireturn, 1, 0, 0)]
def mj_c136 : List mj_Row := mj_c136_0
def mj_c137_0 : List mj_Row := [(0, .aload_n 0, 1, 0, 0), (1, .invokevirtual 170, 3, 138, 1), (4, .aload_n 0, 1, 0, 0), (5, .getfield 34, 3, 7, 16), (8, .iconst 3, 1, 0, 0), (9, .iaload, 1, 0, 0), (10, .aload_n 0, 1, 0, 0), (11, .getfield 66, 3, 7, 4), (14, .if_icmp .ge 55, 3, 69, 0), (17, .iload_n 1, 1, 0, 0), (18, .aload_n 0, 1, 0, 0), (19, .getfield 34, 3, 7, 16), (22, .iconst 3, 1, 0, 0), (23, .iaload, 1, 0, 0), (24, .invokestatic 95, 3, 113, 2), (27, .ifCond .ne 16, 3, 43, 0), (30, .aload_n 0, 1, 0, 0), (31, .getfield 34, 3, 7, 16), (34, .iconst 3, 1, 0, 0), (35, .dup2, 1, 0, 0), (36, .iaload, 1, 0, 0), (37, .iconst 1, 1, 0, 0), (38, .iadd, 1, 0, 0), (39, .iastore, 1, 0, 0), (40, .goto (-36), 3, 4, 0), (43, .aload_n 0, 1, 0, 0), (44, .aload_n 0, 1, 0, 0), (45, .getfield 34, 3, 7, 16), (48, .invokevirtual 153, 3, 125, 2), (51, .ifCond .eq 15, 3, 66, 0), (54, .aload_n 0, 1, 0, 0), (55, .aload_n 0, 1, 0, 0), (56, .getfield 34, 3, 7, 16), (59, .invokevirtual 160, 3, 127, 2), (62, .pop, 1, 0, 0), (63, .goto (-59), 3, 4, 0), (66, .bipush (-9), 2, 0, 0), (68, .ireturn, 1, 0, 0), (69, .aload_n 0, 1, 0, 0), (70, .aload_n 0, 1, 0, 0)]
def mj_c137_1 : List mj_Row := [(71, .getfield 34, 3, 7, 16), (74, .invokevirtual 167, 3, 132, 2), (77, .ifCond .eq 16, 3, 93, 0), (80, .aload_n 0, 1, 0, 0), (81, .getfield 34, 3, 7, 16), (84, .iconst 4, 1, 0, 0), (85, .dup2, 1, 0, 0), (86, .iaload, 1, 0, 0), (87, .iconst 1, 1, 0, 0), (88, .iadd, 1, 0, 0), (89, .iastore, 1, 0, 0), (90, .goto (-21), 3, 69, 0), (93, .aload_n 0, 1, 0, 0), (94, .getfield 31, 3, 7, 15), (97, .iconst 0, 1, 0, 0), (98, .iaload, 1, 0, 0), (99, .aload_n 0, 1, 0, 0), (100, .getfield 34, 3, 7, 16), (103, .iconst 0, 1, 0, 0), (104, .iaload, 1, 0, 0), (105, .isub, 1, 0, 0), (106, .ireturn, 1, 0, 0)]
def mj_c137 : List mj_Row := mj_c137_0 ++ (mj_c137_1)
def mj_c138_0 : List mj_Row := [(0, .iconst 0, 1, 0, 0), (1, .istore_n 1, 1, 0, 0), (2, .iload_n 1, 1, 0, 0), (3, .bipush 11, 2, 0, 0), (5, .if_icmp .ge 21, 3, 26, 0), (8, .aload_n 0, 1, 0, 0), (9, .getfield 34, 3, 7, 16), (12, .iload_n 1, 1, 0, 0), (13, .aload_n 0, 1, 0, 0), (14, .getfield 31, 3, 7, 15), (17, .iload_n 1, 1, 0, 0), (18, .iaload, 1, 0, 0), (19, .iastore, 1, 0, 0), (20, .iinc 1 1, 3, 0, 0), (23, .goto (-21), 3, 2, 0), (26, .return_, 1, 0, 0)]
def mj_c138 : List mj_Row := mj_c138_0
def mj_c139_0 : List mj_Row := [(0, .aload_n 0, 1, 0, 0), (1, .iconst 0, 1, 0, 0), (2, .putfield 62, 3, 7, 0), (5, .iload_n 1, 1, 0, 0), (6, .i2l, 1, 0, 0), (7, .lconst 0, 1, 0, 0), (8, .lconst 1, 1, 0, 0), (9, .invokestatic 69, 3, 103, 3), (12, .ifCond .ne 6, 3, 18, 0), (15, .bipush (-2), 2, 0, 0), (17, .ireturn, 1, 0, 0), (18, .bipush (-9), 2, 0, 0), (20, .istore_n 2, 1, 0, 0), (21, .bipush (-9), 2, 0, 0), (23, .istore_n 3, 1, 0, 0), (24, .iconst 0, 1, 0, 0), (25, .istore 4, 2, 0, 0), (27, .iload 4, 2, 0, 0), (29, .iconst 1, 1, 0, 0), (30, .aload_n 0, 1, 0, 0), (31, .getfield 66, 3, 7, 4), (34, .ishl, 1, 0, 0), (35, .if_icmp .ge 69, 3, 104, 0), (38, .aload_n 0, 1, 0, 0), (39, .iload 4, 2, 0, 0), (41, .invokevirtual 173, 3, 136, 2), (44, .ifCond .eq 8, 3, 52, 0), (47, .bipush (-9), 2, 0, 0), (49, .goto 9, 3, 58, 0), (52, .aload_n 0, 1, 0, 0), (53, .iload 4, 2, 0, 0), (55, .invokevirtual 178, 3, 137, 2), (58, .istore 5, 2, 0, 0), (60, .iload 5, 2, 0, 0), (62, .bipush (-9), 2, 0, 0), (64, .if_icmp .eq 34, 3, 98, 0), (67, .aload_n 0, 1, 0, 0), (68, .getfield 34, 3, 7, 16), (71, .iconst 4, 1, 0, 0), (72, .iaload, 1, 0, 0)]
def mj_c139_1 : List mj_Row := [(73, .aload_n 0, 1, 0, 0), (74, .getfield 73, 3, 7, 5), (77, .if_icmp .ne 21, 3, 98, 0), (80, .iload_n 2, 1, 0, 0), (81, .bipush (-9), 2, 0, 0), (83, .if_icmp .eq 9, 3, 92, 0), (86, .iload 5, 2, 0, 0), (88, .iload_n 2, 1, 0, 0), (89, .if_icmp .ge 9, 3, 98, 0), (92, .iload 5, 2, 0, 0), (94, .istore_n 2, 1, 0, 0), (95, .iload 4, 2, 0, 0), (97, .istore_n 3, 1, 0, 0), (98, .iinc 4 1, 3, 0, 0), (101, .goto (-74), 3, 27, 0), (104, .iload_n 1, 1, 0, 0), (105, .ifCond .ne 7, 3, 112, 0), (108, .iload_n 2, 1, 0, 0), (109, .goto 4, 3, 113, 0), (112, .iload_n 3, 1, 0, 0), (113, .ireturn, 1, 0, 0)]
def mj_c139 : List mj_Row := mj_c139_0 ++ (mj_c139_1)
def mj_c140_0 : List mj_Row := [(0, .aload_n 0, 1, 0, 0), (1, .iconst 0, 1, 0, 0), (2, .putfield 62, 3, 7, 0), (5, .iload_n 1, 1, 0, 0), (6, .i2l, 1, 0, 0), (7, .lconst 0, 1, 0, 0), (8, .ldc2_w 176, 3, 2, 0), (11, .invokestatic 69, 3, 103, 3), (14, .ifCond .ne 6, 3, 20, 0), (17, .bipush (-2), 2, 0, 0), (19, .ireturn, 1, 0, 0), (20, .bipush (-9), 2, 0, 0), (22, .istore_n 2, 1, 0, 0), (23, .iconst 0, 1, 0, 0), (24, .istore_n 3, 1, 0, 0), (25, .iconst 0, 1, 0, 0), (26, .istore 4, 2, 0, 0), (28, .iconst 0, 1, 0, 0), (29, .istore 5, 2, 0, 0), (31, .iload 5, 2, 0, 0), (33, .iconst 1, 1, 0, 0), (34, .aload_n 0, 1, 0, 0), (35, .getfield 66, 3, 7, 4), (38, .ishl, 1, 0, 0), (39, .if_icmp .ge 78, 3, 117, 0), (42, .aload_n 0, 1, 0, 0), (43, .iload 5, 2, 0, 0), (45, .invokevirtual 173, 3, 136, 2), (48, .ifCond .eq 8, 3, 56, 0), (51, .bipush (-9), 2, 0, 0), (53, .goto 9, 3, 62, 0), (56, .aload_n 0, 1, 0, 0), (57, .iload 5, 2, 0, 0), (59, .invokevirtual 178, 3, 137, 2), (62, .istore 6, 2, 0, 0), (64, .iload 6, 2, 0, 0), (66, .bipush (-9), 2, 0, 0), (68, .if_icmp .eq 43, 3, 111, 0), (71, .aload_n 0, 1, 0, 0), (72, .getfield 34, 3, 7, 16)]
def mj_c140_1 : List mj_Row := [(75, .iconst 4, 1, 0, 0), (76, .iaload, 1, 0, 0), (77, .iload_n 2, 1, 0, 0), (78, .if_icmp .gt 19, 3, 97, 0), (81, .aload_n 0, 1, 0, 0), (82, .getfield 34, 3, 7, 16), (85, .iconst 4, 1, 0, 0), (86, .iaload, 1, 0, 0), (87, .iload_n 2, 1, 0, 0), (88, .if_icmp .ne 23, 3, 111, 0), (91, .iload 6, 2, 0, 0), (93, .iload_n 3, 1, 0, 0), (94, .if_icmp .ge 17, 3, 111, 0), (97, .aload_n 0, 1, 0, 0), (98, .getfield 34, 3, 7, 16), (101, .iconst 4, 1, 0, 0), (102, .iaload, 1, 0, 0), (103, .istore_n 2, 1, 0, 0), (104, .iload 6, 2, 0, 0), (106, .istore_n 3, 1, 0, 0), (107, .iload 5, 2, 0, 0), (109, .istore 4, 2, 0, 0), (111, .iinc 5 1, 3, 0, 0), (114, .goto (-83), 3, 31, 0), (117, .iload_n 1, 1, 0, 0), (118, .ifCond .ne 7, 3, 125, 0), (121, .iload_n 2, 1, 0, 0), (122, .goto 14, 3, 136, 0), (125, .iload_n 1, 1, 0, 0), (126, .iconst 1, 1, 0, 0), (127, .if_icmp .ne 7, 3, 134, 0), (130, .iload_n 3, 1, 0, 0), (131, .goto 5, 3, 136, 0), (134, .iload 4, 2, 0, 0), (136, .ireturn, 1, 0, 0)]
def mj_c140 : List mj_Row := mj_c140_0 ++ (mj_c140_1)
def mj_c141_0 : List mj_Row := [(0, .aload_n 0, 1, 0, 0), (1, .iconst 0, 1, 0, 0), (2, .putfield 62, 3, 7, 0), (5, .iload_n 1, 1, 0, 0), (6, .i2l, 1, 0, 0), (7, .lconst 1, 1, 0, 0), (8, .ldc2_w 181, 3, 8, 0), (11, .invokestatic 69, 3, 103, 3), (14, .ifCond .eq 19, 3, 33, 0), (17, .iload_n 2, 1, 0, 0), (18, .i2l, 1, 0, 0), (19, .lconst 0, 1, 0, 0), (20, .iload_n 1, 1, 0, 0), (21, .invokestatic 183, 3, 142, 1), (24, .iconst 1, 1, 0, 0), (25, .isub, 1, 0, 0), (26, .i2l, 1, 0, 0), (27, .invokestatic 69, 3, 103, 3), (30, .ifCond .ne 6, 3, 36, 0), (33, .bipush (-2), 2, 0, 0), (35, .ireturn, 1, 0, 0), (36, .aload_n 0, 1, 0, 0), (37, .invokevirtual 170, 3, 138, 1), (40, .iconst 0, 1, 0, 0), (41, .istore_n 3, 1, 0, 0), (42, .iload_n 3, 1, 0, 0), (43, .iload_n 1, 1, 0, 0), (44, .if_icmp .ge 168, 3, 212, 0), (47, .iload_n 2, 1, 0, 0), (48, .iload_n 1, 1, 0, 0), (49, .iconst 1, 1, 0, 0), (50, .isub, 1, 0, 0), (51, .iload_n 3, 1, 0, 0), (52, .isub, 1, 0, 0), (53, .invokestatic 183, 3, 142, 1), (56, .idiv, 1, 0, 0), (57, .bipush 10, 2, 0, 0), (59, .irem, 1, 0, 0), (60, .istore 4, 2, 0, 0), (62, .iload 4, 2, 0, 0)]
def mj_c141_1 : List mj_Row := [(64, .ifCond .ne 24, 3, 88, 0), (67, .aload_n 0, 1, 0, 0), (68, .getfield 34, 3, 7, 16), (71, .iconst 3, 1, 0, 0), (72, .iaload, 1, 0, 0), (73, .aload_n 0, 1, 0, 0), (74, .getfield 66, 3, 7, 4), (77, .if_icmp .ge 7, 3, 84, 0), (80, .iconst 1, 1, 0, 0), (81, .goto 52, 3, 133, 0), (84, .iconst 0, 1, 0, 0), (85, .goto 48, 3, 133, 0), (88, .iload 4, 2, 0, 0), (90, .iconst 1, 1, 0, 0), (91, .if_icmp .ne 14, 3, 105, 0), (94, .aload_n 0, 1, 0, 0), (95, .aload_n 0, 1, 0, 0), (96, .getfield 34, 3, 7, 16), (99, .invokevirtual 153, 3, 125, 2), (102, .goto 31, 3, 133, 0), (105, .iload 4, 2, 0, 0), (107, .iconst 2, 1, 0, 0), (108, .if_icmp .eq 20, 3, 128, 0), (111, .iload 4, 2, 0, 0), (113, .iconst 3, 1, 0, 0), (114, .if_icmp .ne 18, 3, 132, 0), (117, .aload_n 0, 1, 0, 0), (118, .aload_n 0, 1, 0, 0), (119, .getfield 34, 3, 7, 16), (122, .invokevirtual 167, 3, 132, 2), (125, .ifCond .eq 7, 3, 132, 0), (128, .iconst 1, 1, 0, 0), (129, .goto 4, 3, 133, 0), (132, .iconst 0, 1, 0, 0), (133, .istore 5, 2, 0, 0), (135, .iload 5, 2, 0, 0), (137, .ifCond .ne 5, 3, 142, 0), (140, .iload_n 3, 1, 0, 0), (141, .ireturn, 1, 0, 0), (142, .iload 4, 2, 0, 0)]
def mj_c141_2 : List mj_Row := [(144, .ifCond .ne 16, 3, 160, 0), (147, .aload_n 0, 1, 0, 0), (148, .getfield 34, 3, 7, 16), (151, .iconst 3, 1, 0, 0), (152, .dup2, 1, 0, 0), (153, .iaload, 1, 0, 0), (154, .iconst 1, 1, 0, 0), (155, .iadd, 1, 0, 0), (156, .iastore, 1, 0, 0), (157, .goto 49, 3, 206, 0), (160, .iload 4, 2, 0, 0), (162, .iconst 1, 1, 0, 0), (163, .if_icmp .ne 15, 3, 178, 0), (166, .aload_n 0, 1, 0, 0), (167, .aload_n 0, 1, 0, 0), (168, .getfield 34, 3, 7, 16), (171, .invokevirtual 160, 3, 127, 2), (174, .pop, 1, 0, 0), (175, .goto 31, 3, 206, 0), (178, .iload 4, 2, 0, 0), (180, .iconst 2, 1, 0, 0), (181, .if_icmp .ne 15, 3, 196, 0), (184, .aload_n 0, 1, 0, 0), (185, .aload_n 0, 1, 0, 0), (186, .getfield 34, 3, 7, 16), (189, .invokevirtual 164, 3, 130, 2), (192, .pop, 1, 0, 0), (193, .goto 13, 3, 206, 0), (196, .aload_n 0, 1, 0, 0), (197, .getfield 34, 3, 7, 16), (200, .iconst 4, 1, 0, 0), (201, .dup2, 1, 0, 0), (202, .iaload, 1, 0, 0), (203, .iconst 1, 1, 0, 0), (204, .iadd, 1, 0, 0), (205, .iastore, 1, 0, 0), (206, .iinc 3 1, 3, 0, 0), (209, .goto (-167), 3, 42, 0), (212, .bipush (-9), 2, 0, 0), (214, .ireturn, 1, 0, 0)]
def mj_c141 : List mj_Row := mj_c141_0 ++ (mj_c141_1 ++ (mj_c141_2))
def mj_c142_0 : List mj_Row := [(0, .iconst 1, 1, 0, 0), (1, .istore_n 1, 1, 0, 0), (2, .iconst 0, 1, 0, 0), (3, .istore_n 2, 1, 0, 0), (4, .iload_n 2, 1, 0, 0), (5, .iload_n 0, 1, 0, 0), (6, .if_icmp .ge 14, 3, 20, 0), (9, .iload_n 1, 1, 0, 0), (10, .bipush 10, 2, 0, 0), (12, .imul, 1, 0, 0), (13, .istore_n 1, 1, 0, 0), (14, .iinc 2 1, 3, 0, 0), (17, .goto (-13), 3, 4, 0), (20, .iload_n 1, 1, 0, 0), (21, .ireturn, 1, 0, 0)]
def mj_c142 : List mj_Row := mj_c142_0
def mj_c143_0 : List mj_Row := [(0, .aload_n 0, 1, 0, 0), (1, .iconst 0, 1, 0, 0), (2, .putfield 62, 3, 7, 0), (5, .iload_n 1, 1, 0, 0), (6, .i2l, 1, 0, 0), (7, .lconst 0, 1, 0, 0), (8, .iconst 1, 1, 0, 0), (9, .aload_n 0, 1, 0, 0), (10, .getfield 66, 3, 7, 4), (13, .ishl, 1, 0, 0), (14, .iconst 1, 1, 0, 0), (15, .isub, 1, 0, 0), (16, .i2l, 1, 0, 0), (17, .invokestatic 69, 3, 103, 3), (20, .ifCond .ne 6, 3, 26, 0), (23, .bipush (-2), 2, 0, 0), (25, .ireturn, 1, 0, 0), (26, .iload_n 1, 1, 0, 0), (27, .invokestatic 186, 3, 144, 1), (30, .istore_n 2, 1, 0, 0), (31, .iload_n 2, 1, 0, 0), (32, .ifCond .ne 7, 3, 39, 0), (35, .iconst 1, 1, 0, 0), (36, .goto 4, 3, 40, 0), (39, .iconst 0, 1, 0, 0), (40, .istore_n 3, 1, 0, 0), (41, .iload_n 2, 1, 0, 0), (42, .ifCond .ne 7, 3, 49, 0), (45, .iconst (-1), 1, 0, 0), (46, .goto 4, 3, 50, 0), (49, .iconst 0, 1, 0, 0), (50, .istore 4, 2, 0, 0), (52, .aload_n 0, 1, 0, 0), (53, .getfield 59, 3, 7, 27), (56, .iconst 0, 1, 0, 0), (57, .bipush (-9), 2, 0, 0), (59, .iastore, 1, 0, 0), (60, .iload 4, 2, 0, 0), (62, .ifCond .lt 118, 3, 180, 0), (65, .aload_n 0, 1, 0, 0)]
def mj_c143_1 : List mj_Row := [(66, .getfield 59, 3, 7, 27), (69, .iload 4, 2, 0, 0), (71, .iaload, 1, 0, 0), (72, .bipush (-9), 2, 0, 0), (74, .if_icmp .ne 7, 3, 81, 0), (77, .iconst 0, 1, 0, 0), (78, .goto 12, 3, 90, 0), (81, .aload_n 0, 1, 0, 0), (82, .getfield 59, 3, 7, 27), (85, .iload 4, 2, 0, 0), (87, .iaload, 1, 0, 0), (88, .iconst 1, 1, 0, 0), (89, .iadd, 1, 0, 0), (90, .istore 5, 2, 0, 0), (92, .iload 5, 2, 0, 0), (94, .aload_n 0, 1, 0, 0), (95, .getfield 66, 3, 7, 4), (98, .if_icmp .ge 29, 3, 127, 0), (101, .iload_n 1, 1, 0, 0), (102, .iload 5, 2, 0, 0), (104, .invokestatic 95, 3, 113, 2), (107, .ifCond .eq 14, 3, 121, 0), (110, .aload_n 0, 1, 0, 0), (111, .iload 4, 2, 0, 0), (113, .iload 5, 2, 0, 0), (115, .invokevirtual 189, 3, 145, 3), (118, .ifCond .ne 9, 3, 127, 0), (121, .iinc 5 1, 3, 0, 0), (124, .goto (-32), 3, 92, 0), (127, .iload 5, 2, 0, 0), (129, .aload_n 0, 1, 0, 0), (130, .getfield 66, 3, 7, 4), (133, .if_icmp .ne 9, 3, 142, 0), (136, .iinc 4 (-1), 3, 0, 0), (139, .goto 38, 3, 177, 0), (142, .aload_n 0, 1, 0, 0), (143, .getfield 59, 3, 7, 27), (146, .iload 4, 2, 0, 0), (148, .iload 5, 2, 0, 0), (150, .iastore, 1, 0, 0)]
def mj_c143_2 : List mj_Row := [(151, .iload 4, 2, 0, 0), (153, .iload_n 2, 1, 0, 0), (154, .iconst 1, 1, 0, 0), (155, .isub, 1, 0, 0), (156, .if_icmp .ne 9, 3, 165, 0), (159, .iinc 3 1, 3, 0, 0), (162, .goto 15, 3, 177, 0), (165, .iinc 4 1, 3, 0, 0), (168, .aload_n 0, 1, 0, 0), (169, .getfield 59, 3, 7, 27), (172, .iload 4, 2, 0, 0), (174, .bipush (-9), 2, 0, 0), (176, .iastore, 1, 0, 0), (177, .goto (-117), 3, 60, 0), (180, .iload_n 3, 1, 0, 0), (181, .ireturn, 1, 0, 0)]
def mj_c143 : List mj_Row := mj_c143_0 ++ (mj_c143_1 ++ (mj_c143_2))
def mj_c144_0 : List mj_Row := [(0, .iconst 0, 1, 0, 0), (1, .istore_n 1, 1, 0, 0), (2, .iconst 0, 1, 0, 0), (3, .istore_n 2, 1, 0, 0), (4, .iload_n 2, 1, 0, 0), (5, .bipush 6, 2, 0, 0), (7, .if_icmp .ge 17, 3, 24, 0), (10, .iload_n 1, 1, 0, 0), (11, .iload_n 0, 1, 0, 0), (12, .iload_n 2, 1, 0, 0), (13, .ishr, 1, 0, 0), (14, .iconst 1, 1, 0, 0), (15, .iand, 1, 0, 0), (16, .iadd, 1, 0, 0), (17, .istore_n 1, 1, 0, 0), (18, .iinc 2 1, 3, 0, 0), (21, .goto (-17), 3, 4, 0), (24, .iload_n 1, 1, 0, 0), (25, .ireturn, 1, 0, 0)]
def mj_c144 : List mj_Row := mj_c144_0
def mj_c145_0 : List mj_Row := [(0, .iconst 0, 1, 0, 0), (1, .istore_n 3, 1, 0, 0), (2, .iconst 1, 1, 0, 0), (3, .istore 4, 2, 0, 0), (5, .iconst 0, 1, 0, 0), (6, .istore 5, 2, 0, 0), (8, .iload 5, 2, 0, 0), (10, .iload_n 1, 1, 0, 0), (11, .if_icmp .ge 93, 3, 104, 0), (14, .aload_n 0, 1, 0, 0), (15, .getfield 59, 3, 7, 27), (18, .iload 5, 2, 0, 0), (20, .iaload, 1, 0, 0), (21, .istore 6, 2, 0, 0), (23, .aload_n 0, 1, 0, 0), (24, .getfield 13, 3, 7, 6), (27, .iconst 4, 1, 0, 0), (28, .iload 6, 2, 0, 0), (30, .imul, 1, 0, 0), (31, .iaload, 1, 0, 0), (32, .iconst 1, 1, 0, 0), (33, .if_icmp .ne 21, 3, 54, 0), (36, .aload_n 0, 1, 0, 0), (37, .getfield 13, 3, 7, 6), (40, .iconst 4, 1, 0, 0), (41, .iload 6, 2, 0, 0), (43, .imul, 1, 0, 0), (44, .iconst 1, 1, 0, 0), (45, .iadd, 1, 0, 0), (46, .iaload, 1, 0, 0), (47, .iconst 1, 1, 0, 0), (48, .iadd, 1, 0, 0), (49, .iconst 2, 1, 0, 0), (50, .idiv, 1, 0, 0), (51, .goto 14, 3, 65, 0), (54, .aload_n 0, 1, 0, 0), (55, .getfield 13, 3, 7, 6), (58, .iconst 4, 1, 0, 0), (59, .iload 6, 2, 0, 0), (61, .imul, 1, 0, 0)]
def mj_c145_1 : List mj_Row := [(62, .iconst 1, 1, 0, 0), (63, .iadd, 1, 0, 0), (64, .iaload, 1, 0, 0), (65, .istore 7, 2, 0, 0), (67, .iload 7, 2, 0, 0), (69, .iload_n 3, 1, 0, 0), (70, .if_icmp .le 8, 3, 78, 0), (73, .iload 7, 2, 0, 0), (75, .goto 4, 3, 79, 0), (78, .iload_n 3, 1, 0, 0), (79, .istore_n 3, 1, 0, 0), (80, .iload 4, 2, 0, 0), (82, .ifCond .eq 13, 3, 95, 0), (85, .iload 6, 2, 0, 0), (87, .iload_n 2, 1, 0, 0), (88, .if_icmp .eq 7, 3, 95, 0), (91, .iconst 1, 1, 0, 0), (92, .goto 4, 3, 96, 0), (95, .iconst 0, 1, 0, 0), (96, .istore 4, 2, 0, 0), (98, .iinc 5 1, 3, 0, 0), (101, .goto (-93), 3, 8, 0), (104, .iload 4, 2, 0, 0), (106, .ifCond .eq 33, 3, 139, 0), (109, .aload_n 0, 1, 0, 0), (110, .getfield 13, 3, 7, 6), (113, .iconst 4, 1, 0, 0), (114, .iload_n 2, 1, 0, 0), (115, .imul, 1, 0, 0), (116, .iaload, 1, 0, 0), (117, .iconst 2, 1, 0, 0), (118, .if_icmp .ne 17, 3, 135, 0), (121, .iload_n 3, 1, 0, 0), (122, .aload_n 0, 1, 0, 0), (123, .getfield 13, 3, 7, 6), (126, .iconst 4, 1, 0, 0), (127, .iload_n 2, 1, 0, 0), (128, .imul, 1, 0, 0), (129, .iconst 1, 1, 0, 0), (130, .iadd, 1, 0, 0)]
def mj_c145_2 : List mj_Row := [(131, .iaload, 1, 0, 0), (132, .if_icmp .gt 7, 3, 139, 0), (135, .iconst 1, 1, 0, 0), (136, .goto 4, 3, 140, 0), (139, .iconst 0, 1, 0, 0), (140, .ireturn, 1, 0, 0)]
def mj_c145 : List mj_Row := mj_c145_0 ++ (mj_c145_1 ++ (mj_c145_2))
def mj_c146_0 : List mj_Row := [(0, .aload_n 0, 1, 0, 0), (1, .iconst 0, 1, 0, 0), (2, .putfield 62, 3, 7, 0), (5, .aload_n 0, 1, 0, 0), (6, .invokevirtual 170, 3, 138, 1), (9, .iconst 1, 1, 0, 0), (10, .istore_n 1, 1, 0, 0), (11, .iload_n 1, 1, 0, 0), (12, .bipush 99, 2, 0, 0), (14, .if_icmp .gt 22, 3, 36, 0), (17, .aload_n 0, 1, 0, 0), (18, .aload_n 0, 1, 0, 0), (19, .getfield 34, 3, 7, 16), (22, .invokevirtual 164, 3, 130, 2), (25, .ifCond .eq 5, 3, 30, 0), (28, .iload_n 1, 1, 0, 0), (29, .ireturn, 1, 0, 0), (30, .iinc 1 1, 3, 0, 0), (33, .goto (-22), 3, 11, 0), (36, .bipush (-9), 2, 0, 0), (38, .ireturn, 1, 0, 0)]
def mj_c146 : List mj_Row := mj_c146_0
def mj_c147_0 : List mj_Row := [(0, .aload_n 0, 1, 0, 0), (1, .iconst 0, 1, 0, 0), (2, .putfield 62, 3, 7, 0), (5, .aload_n 0, 1, 0, 0), (6, .getfield 31, 3, 7, 15), (9, .iconst 1, 1, 0, 0), (10, .iaload, 1, 0, 0), (11, .invokestatic 186, 3, 144, 1), (14, .istore_n 1, 1, 0, 0), (15, .iload_n 1, 1, 0, 0), (16, .aload_n 0, 1, 0, 0), (17, .getfield 31, 3, 7, 15), (20, .iconst 0, 1, 0, 0), (21, .iaload, 1, 0, 0), (22, .if_icmp .ge 7, 3, 29, 0), (25, .iload_n 1, 1, 0, 0), (26, .goto 9, 3, 35, 0), (29, .aload_n 0, 1, 0, 0), (30, .getfield 31, 3, 7, 15), (33, .iconst 0, 1, 0, 0), (34, .iaload, 1, 0, 0), (35, .ireturn, 1, 0, 0)]
def mj_c147 : List mj_Row := mj_c147_0
def mj_c148_0 : List mj_Row := [(0, .aload_n 0, 1, 0, 0), (1, .iconst 0, 1, 0, 0), (2, .putfield 62, 3, 7, 0), (5, .aload_n 0, 1, 0, 0), (6, .iload_n 1, 1, 0, 0), (7, .invokevirtual 147, 3, 123, 2), (10, .ifCond .eq 5, 3, 15, 0), (13, .iconst (-1), 1, 0, 0), (14, .ireturn, 1, 0, 0), (15, .iconst 1, 1, 0, 0), (16, .istore_n 3, 1, 0, 0), (17, .iconst 1, 1, 0, 0), (18, .istore 4, 2, 0, 0), (20, .iconst 0, 1, 0, 0), (21, .istore 5, 2, 0, 0), (23, .iload 5, 2, 0, 0), (25, .aload_n 0, 1, 0, 0), (26, .getfield 66, 3, 7, 4), (29, .if_icmp .ge 43, 3, 72, 0), (32, .aload_n 0, 1, 0, 0), (33, .iload 5, 2, 0, 0), (35, .iload_n 1, 1, 0, 0), (36, .invokevirtual 195, 3, 149, 3), (39, .ifCond .eq 27, 3, 66, 0), (42, .iload_n 3, 1, 0, 0), (43, .bipush 10, 2, 0, 0), (45, .aload_n 0, 1, 0, 0), (46, .getfield 13, 3, 7, 6), (49, .iconst 4, 1, 0, 0), (50, .iload 5, 2, 0, 0), (52, .imul, 1, 0, 0), (53, .iconst 2, 1, 0, 0), (54, .iadd, 1, 0, 0), (55, .iaload, 1, 0, 0), (56, .isub, 1, 0, 0), (57, .imul, 1, 0, 0), (58, .istore_n 3, 1, 0, 0), (59, .iload 4, 2, 0, 0), (61, .bipush 10, 2, 0, 0), (63, .imul, 1, 0, 0)]
def mj_c148_1 : List mj_Row := [(64, .istore 4, 2, 0, 0), (66, .iinc 5 1, 3, 0, 0), (69, .goto (-46), 3, 23, 0), (72, .iload 4, 2, 0, 0), (74, .iload_n 3, 1, 0, 0), (75, .isub, 1, 0, 0), (76, .iload 4, 2, 0, 0), (78, .iload_n 2, 1, 0, 0), (79, .invokestatic 198, 3, 150, 3), (82, .ireturn, 1, 0, 0)]
def mj_c148 : List mj_Row := mj_c148_0 ++ (mj_c148_1)
def mj_c149_0 : List mj_Row := [(0, .aload_n 0, 1, 0, 0), (1, .getfield 31, 3, 7, 15), (4, .iconst 1, 1, 0, 0), (5, .iaload, 1, 0, 0), (6, .iload_n 1, 1, 0, 0), (7, .invokestatic 95, 3, 113, 2), (10, .ifCond .eq 28, 3, 38, 0), (13, .aload_n 0, 1, 0, 0), (14, .getfield 13, 3, 7, 6), (17, .iconst 4, 1, 0, 0), (18, .iload_n 1, 1, 0, 0), (19, .imul, 1, 0, 0), (20, .iconst 3, 1, 0, 0), (21, .iadd, 1, 0, 0), (22, .iaload, 1, 0, 0), (23, .aload_n 0, 1, 0, 0), (24, .getfield 19, 3, 7, 8), (27, .iconst 2, 1, 0, 0), (28, .iload_n 2, 1, 0, 0), (29, .imul, 1, 0, 0), (30, .iaload, 1, 0, 0), (31, .if_icmp .ne 7, 3, 38, 0), (34, .iconst 1, 1, 0, 0), (35, .goto 4, 3, 39, 0), (38, .iconst 0, 1, 0, 0), (39, .ireturn, 1, 0, 0)]
def mj_c149 : List mj_Row := mj_c149_0
def mj_c150_0 : List mj_Row := [(0, .iload_n 0, 1, 0, 0), (1, .iload_n 1, 1, 0, 0), (2, .invokestatic 192, 3, 151, 2), (5, .istore_n 3, 1, 0, 0), (6, .iload_n 2, 1, 0, 0), (7, .ifCond .eq 9, 3, 16, 0), (10, .iload_n 0, 1, 0, 0), (11, .iload_n 3, 1, 0, 0), (12, .idiv, 1, 0, 0), (13, .goto 6, 3, 19, 0), (16, .iload_n 1, 1, 0, 0), (17, .iload_n 3, 1, 0, 0), (18, .idiv, 1, 0, 0), (19, .ireturn, 1, 0, 0)]
def mj_c150 : List mj_Row := mj_c150_0
def mj_c151_0 : List mj_Row := [(0, .iload_n 0, 1, 0, 0), (1, .istore_n 2, 1, 0, 0), (2, .iload_n 1, 1, 0, 0), (3, .istore_n 3, 1, 0, 0), (4, .iload_n 3, 1, 0, 0), (5, .ifCond .eq 16, 3, 21, 0), (8, .iload_n 2, 1, 0, 0), (9, .iload_n 3, 1, 0, 0), (10, .irem, 1, 0, 0), (11, .istore 4, 2, 0, 0), (13, .iload_n 3, 1, 0, 0), (14, .istore_n 2, 1, 0, 0), (15, .iload 4, 2, 0, 0), (17, .istore_n 3, 1, 0, 0), (18, .goto (-14), 3, 4, 0), (21, .iload_n 2, 1, 0, 0), (22, .ireturn, 1, 0, 0)]
def mj_c151 : List mj_Row := mj_c151_0
def mj_c152_0 : List mj_Row := [(0, .aload_n 0, 1, 0, 0), (1, .iconst 0, 1, 0, 0), (2, .putfield 62, 3, 7, 0), (5, .aload_n 0, 1, 0, 0), (6, .iload_n 1, 1, 0, 0), (7, .invokevirtual 147, 3, 123, 2), (10, .ifCond .eq 5, 3, 15, 0), (13, .iconst (-1), 1, 0, 0), (14, .ireturn, 1, 0, 0), (15, .bipush (-9), 2, 0, 0), (17, .istore_n 2, 1, 0, 0), (18, .iconst 0, 1, 0, 0), (19, .istore_n 3, 1, 0, 0), (20, .iload_n 3, 1, 0, 0), (21, .aload_n 0, 1, 0, 0), (22, .getfield 66, 3, 7, 4), (25, .if_icmp .ge 53, 3, 78, 0), (28, .aload_n 0, 1, 0, 0), (29, .iload_n 3, 1, 0, 0), (30, .iload_n 1, 1, 0, 0), (31, .invokevirtual 195, 3, 149, 3), (34, .ifCond .eq 36, 3, 70, 0), (37, .iload_n 2, 1, 0, 0), (38, .bipush (-9), 2, 0, 0), (40, .if_icmp .eq 26, 3, 66, 0), (43, .aload_n 0, 1, 0, 0), (44, .getfield 13, 3, 7, 6), (47, .iconst 4, 1, 0, 0), (48, .iload_n 3, 1, 0, 0), (49, .imul, 1, 0, 0), (50, .iconst 2, 1, 0, 0), (51, .iadd, 1, 0, 0), (52, .iaload, 1, 0, 0), (53, .aload_n 0, 1, 0, 0), (54, .getfield 13, 3, 7, 6), (57, .iconst 4, 1, 0, 0), (58, .iload_n 2, 1, 0, 0), (59, .imul, 1, 0, 0), (60, .iconst 2, 1, 0, 0), (61, .iadd, 1, 0, 0)]
def mj_c152_1 : List mj_Row := [(62, .iaload, 1, 0, 0), (63, .if_icmp .le 7, 3, 70, 0), (66, .iload_n 3, 1, 0, 0), (67, .goto 4, 3, 71, 0), (70, .iload_n 2, 1, 0, 0), (71, .istore_n 2, 1, 0, 0), (72, .iinc 3 1, 3, 0, 0), (75, .goto (-55), 3, 20, 0), (78, .iload_n 2, 1, 0, 0), (79, .ireturn, 1, 0, 0)]
def mj_c152 : List mj_Row := mj_c152_0 ++ (mj_c152_1)
def mj_c153_0 : List mj_Row := [(0, .aload_n 0, 1, 0, 0), (1, .iconst 0, 1, 0, 0), (2, .putfield 62, 3, 7, 0), (5, .iload_n 1, 1, 0, 0), (6, .i2l, 1, 0, 0), (7, .lconst 1, 1, 0, 0), (8, .ldc2_w 141, 3, 4, 0), (11, .invokestatic 69, 3, 103, 3), (14, .ifCond .ne 6, 3, 20, 0), (17, .bipush (-2), 2, 0, 0), (19, .ireturn, 1, 0, 0), (20, .aload_n 0, 1, 0, 0), (21, .getfield 31, 3, 7, 15), (24, .iconst 1, 1, 0, 0), (25, .iaload, 1, 0, 0), (26, .istore_n 2, 1, 0, 0), (27, .iload_n 2, 1, 0, 0), (28, .ifCond .ne 5, 3, 33, 0), (31, .iconst 0, 1, 0, 0), (32, .ireturn, 1, 0, 0), (33, .iconst 0, 1, 0, 0), (34, .istore_n 3, 1, 0, 0), (35, .iload_n 3, 1, 0, 0), (36, .sipush 128, 3, 0, 0), (39, .if_icmp .ge 18, 3, 57, 0), (42, .aload_n 0, 1, 0, 0), (43, .getfield 53, 3, 7, 25), (46, .iload_n 3, 1, 0, 0), (47, .sipush 9999, 3, 0, 0), (50, .iastore, 1, 0, 0), (51, .iinc 3 1, 3, 0, 0), (54, .goto (-19), 3, 35, 0), (57, .iconst 0, 1, 0, 0), (58, .istore_n 3, 1, 0, 0), (59, .iconst 1, 1, 0, 0), (60, .istore 4, 2, 0, 0), (62, .aload_n 0, 1, 0, 0), (63, .getfield 56, 3, 7, 26), (66, .iconst 0, 1, 0, 0), (67, .iload_n 2, 1, 0, 0)]
def mj_c153_1 : List mj_Row := [(68, .iastore, 1, 0, 0), (69, .aload_n 0, 1, 0, 0), (70, .getfield 53, 3, 7, 25), (73, .iload_n 2, 1, 0, 0), (74, .iconst 0, 1, 0, 0), (75, .iastore, 1, 0, 0), (76, .iload_n 3, 1, 0, 0), (77, .iload 4, 2, 0, 0), (79, .if_icmp .ge 161, 3, 240, 0), (82, .aload_n 0, 1, 0, 0), (83, .getfield 56, 3, 7, 26), (86, .iload_n 3, 1, 0, 0), (87, .iaload, 1, 0, 0), (88, .istore 5, 2, 0, 0), (90, .iinc 3 1, 3, 0, 0), (93, .iload 5, 2, 0, 0), (95, .bipush 64, 2, 0, 0), (97, .irem, 1, 0, 0), (98, .istore 6, 2, 0, 0), (100, .iload 5, 2, 0, 0), (102, .bipush 64, 2, 0, 0), (104, .if_icmp .ge 8, 3, 112, 0), (107, .iload 6, 2, 0, 0), (109, .goto 9, 3, 118, 0), (112, .iload_n 2, 1, 0, 0), (113, .iload 6, 2, 0, 0), (115, .iconst (-1), 1, 0, 0), (116, .ixor, 1, 0, 0), (117, .iand, 1, 0, 0), (118, .istore 7, 2, 0, 0), (120, .iconst 0, 1, 0, 0), (121, .istore 8, 2, 0, 0), (123, .iload 8, 2, 0, 0), (125, .bipush 64, 2, 0, 0), (127, .if_icmp .ge 110, 3, 237, 0), (130, .iload 5, 2, 0, 0), (132, .bipush 64, 2, 0, 0), (134, .if_icmp .ge 16, 3, 150, 0), (137, .bipush 64, 2, 0, 0), (139, .iload 6, 2, 0, 0)]
def mj_c153_2 : List mj_Row := [(141, .iload 8, 2, 0, 0), (143, .iconst (-1), 1, 0, 0), (144, .ixor, 1, 0, 0), (145, .iand, 1, 0, 0), (146, .iadd, 1, 0, 0), (147, .goto 8, 3, 155, 0), (150, .iload 6, 2, 0, 0), (152, .iload 8, 2, 0, 0), (154, .ior, 1, 0, 0), (155, .istore 9, 2, 0, 0), (157, .iload 8, 2, 0, 0), (159, .iload 7, 2, 0, 0), (161, .iconst (-1), 1, 0, 0), (162, .ixor, 1, 0, 0), (163, .iand, 1, 0, 0), (164, .ifCond .ne 67, 3, 231, 0), (167, .iload 8, 2, 0, 0), (169, .invokestatic 186, 3, 144, 1), (172, .iload_n 1, 1, 0, 0), (173, .if_icmp .gt 58, 3, 231, 0), (176, .aload_n 0, 1, 0, 0), (177, .iload 7, 2, 0, 0), (179, .iload 8, 2, 0, 0), (181, .iconst (-1), 1, 0, 0), (182, .ixor, 1, 0, 0), (183, .iand, 1, 0, 0), (184, .invokevirtual 202, 3, 154, 2), (187, .ifCond .eq 44, 3, 231, 0), (190, .aload_n 0, 1, 0, 0), (191, .getfield 53, 3, 7, 25), (194, .iload 9, 2, 0, 0), (196, .iaload, 1, 0, 0), (197, .sipush 9999, 3, 0, 0), (200, .if_icmp .ne 31, 3, 231, 0), (203, .aload_n 0, 1, 0, 0), (204, .getfield 53, 3, 7, 25), (207, .iload 9, 2, 0, 0), (209, .aload_n 0, 1, 0, 0), (210, .getfield 53, 3, 7, 25), (213, .iload 5, 2, 0, 0)]
def mj_c153_3 : List mj_Row := [(215, .iaload, 1, 0, 0), (216, .iconst 1, 1, 0, 0), (217, .iadd, 1, 0, 0), (218, .iastore, 1, 0, 0), (219, .aload_n 0, 1, 0, 0), (220, .getfield 56, 3, 7, 26), (223, .iload 4, 2, 0, 0), (225, .iload 9, 2, 0, 0), (227, .iastore, 1, 0, 0), (228, .iinc 4 1, 3, 0, 0), (231, .iinc 8 1, 3, 0, 0), (234, .goto (-111), 3, 123, 0), (237, .goto (-161), 3, 76, 0), (240, .aload_n 0, 1, 0, 0), (241, .getfield 53, 3, 7, 25), (244, .bipush 64, 2, 0, 0), (246, .iaload, 1, 0, 0), (247, .sipush 9999, 3, 0, 0), (250, .if_icmp .ne 8, 3, 258, 0), (253, .bipush (-9), 2, 0, 0), (255, .goto 10, 3, 265, 0), (258, .aload_n 0, 1, 0, 0), (259, .getfield 53, 3, 7, 25), (262, .bipush 64, 2, 0, 0), (264, .iaload, 1, 0, 0), (265, .ireturn, 1, 0, 0)]
def mj_c153 : List mj_Row := mj_c153_0 ++ (mj_c153_1 ++ (mj_c153_2 ++ (mj_c153_3)))
def mj_c154_0 : List mj_Row := [(0, .iconst 1, 1, 0, 0), (1, .istore_n 2, 1, 0, 0), (2, .iconst 0, 1, 0, 0), (3, .istore_n 3, 1, 0, 0), (4, .iload_n 3, 1, 0, 0), (5, .aload_n 0, 1, 0, 0), (6, .getfield 66, 3, 7, 4), (9, .if_icmp .ge 38, 3, 47, 0), (12, .iload_n 2, 1, 0, 0), (13, .ifCond .eq 26, 3, 39, 0), (16, .iload_n 1, 1, 0, 0), (17, .iload_n 3, 1, 0, 0), (18, .invokestatic 95, 3, 113, 2), (21, .ifCond .eq 14, 3, 35, 0), (24, .aload_n 0, 1, 0, 0), (25, .getfield 16, 3, 7, 7), (28, .iload_n 3, 1, 0, 0), (29, .iaload, 1, 0, 0), (30, .iload_n 1, 1, 0, 0), (31, .iand, 1, 0, 0), (32, .ifCond .ne 7, 3, 39, 0), (35, .iconst 1, 1, 0, 0), (36, .goto 4, 3, 40, 0), (39, .iconst 0, 1, 0, 0), (40, .istore_n 2, 1, 0, 0), (41, .iinc 3 1, 3, 0, 0), (44, .goto (-40), 3, 4, 0), (47, .iload_n 2, 1, 0, 0), (48, .ireturn, 1, 0, 0)]
def mj_c154 : List mj_Row := mj_c154_0
def mj_c155_0 : List mj_Row := [(0, .aload_n 0, 1, 0, 0), (1, .iconst 0, 1, 0, 0), (2, .putfield 62, 3, 7, 0), (5, .aload_n 0, 1, 0, 0), (6, .iload_n 1, 1, 0, 0), (7, .invokevirtual 137, 3, 120, 2), (10, .ifCond .eq 7, 3, 17, 0), (13, .iconst (-1), 1, 0, 0), (14, .goto 26, 3, 40, 0), (17, .iload_n 2, 1, 0, 0), (18, .i2l, 1, 0, 0), (19, .lconst 0, 1, 0, 0), (20, .ldc2_w 205, 3, 9, 0), (23, .invokestatic 69, 3, 103, 3), (26, .ifCond .eq 12, 3, 38, 0), (29, .aload_n 0, 1, 0, 0), (30, .iload_n 1, 1, 0, 0), (31, .iload_n 2, 1, 0, 0), (32, .invokevirtual 207, 3, 156, 3), (35, .goto 5, 3, 40, 0), (38, .bipush (-2), 2, 0, 0), (40, .ireturn, 1, 0, 0)]
def mj_c155 : List mj_Row := mj_c155_0
def mj_c156_0 : List mj_Row := [(0, .aload_n 0, 1, 0, 0), (1, .getfield 31, 3, 7, 15), (4, .iconst 1, 1, 0, 0), (5, .iaload, 1, 0, 0), (6, .iload_n 1, 1, 0, 0), (7, .invokestatic 95, 3, 113, 2), (10, .ifCond .eq 29, 3, 39, 0), (13, .iload_n 2, 1, 0, 0), (14, .aload_n 0, 1, 0, 0), (15, .getfield 13, 3, 7, 6), (18, .iconst 4, 1, 0, 0), (19, .iload_n 1, 1, 0, 0), (20, .imul, 1, 0, 0), (21, .iconst 2, 1, 0, 0), (22, .iadd, 1, 0, 0), (23, .iaload, 1, 0, 0), (24, .imul, 1, 0, 0), (25, .aload_n 0, 1, 0, 0), (26, .aload_n 0, 1, 0, 0), (27, .getfield 31, 3, 7, 15), (30, .iconst 1, 1, 0, 0), (31, .iaload, 1, 0, 0), (32, .invokevirtual 128, 3, 117, 2), (35, .idiv, 1, 0, 0), (36, .goto 4, 3, 40, 0), (39, .iconst 0, 1, 0, 0), (40, .ireturn, 1, 0, 0)]
def mj_c156 : List mj_Row := mj_c156_0
def mj_c157_0 : List mj_Row := [(0, .aload_n 0, 1, 0, 0), (1, .iconst 0, 1, 0, 0), (2, .putfield 62, 3, 7, 0), (5, .iload_n 1, 1, 0, 0), (6, .i2l, 1, 0, 0), (7, .lconst 0, 1, 0, 0), (8, .ldc2_w 205, 3, 9, 0), (11, .invokestatic 69, 3, 103, 3), (14, .ifCond .ne 6, 3, 20, 0), (17, .bipush (-2), 2, 0, 0), (19, .ireturn, 1, 0, 0), (20, .iconst 0, 1, 0, 0), (21, .istore_n 2, 1, 0, 0), (22, .iconst 0, 1, 0, 0), (23, .istore_n 3, 1, 0, 0), (24, .iload_n 3, 1, 0, 0), (25, .aload_n 0, 1, 0, 0), (26, .getfield 66, 3, 7, 4), (29, .if_icmp .ge 49, 3, 78, 0), (32, .iload_n 2, 1, 0, 0), (33, .aload_n 0, 1, 0, 0), (34, .getfield 31, 3, 7, 15), (37, .iconst 1, 1, 0, 0), (38, .iaload, 1, 0, 0), (39, .iload_n 3, 1, 0, 0), (40, .invokestatic 95, 3, 113, 2), (43, .ifCond .eq 26, 3, 69, 0), (46, .aload_n 0, 1, 0, 0), (47, .iload_n 3, 1, 0, 0), (48, .iload_n 1, 1, 0, 0), (49, .invokevirtual 207, 3, 156, 3), (52, .aload_n 0, 1, 0, 0), (53, .getfield 31, 3, 7, 15), (56, .iconst 5, 1, 0, 0), (57, .iload_n 3, 1, 0, 0), (58, .iadd, 1, 0, 0), (59, .iaload, 1, 0, 0), (60, .if_icmp .ge 9, 3, 69, 0), (63, .iconst 1, 1, 0, 0), (64, .iload_n 3, 1, 0, 0)]
def mj_c157_1 : List mj_Row := [(65, .ishl, 1, 0, 0), (66, .goto 4, 3, 70, 0), (69, .iconst 0, 1, 0, 0), (70, .ior, 1, 0, 0), (71, .istore_n 2, 1, 0, 0), (72, .iinc 3 1, 3, 0, 0), (75, .goto (-51), 3, 24, 0), (78, .iload_n 2, 1, 0, 0), (79, .ireturn, 1, 0, 0)]
def mj_c157 : List mj_Row := mj_c157_0 ++ (mj_c157_1)
def mj_c158_0 : List mj_Row := [(0, .aload_n 0, 1, 0, 0), (1, .iconst 0, 1, 0, 0), (2, .putfield 62, 3, 7, 0), (5, .iload_n 1, 1, 0, 0), (6, .i2l, 1, 0, 0), (7, .lconst 0, 1, 0, 0), (8, .ldc2_w 210, 3, 6, 0), (11, .invokestatic 69, 3, 103, 3), (14, .ifCond .eq 13, 3, 27, 0), (17, .iload_n 2, 1, 0, 0), (18, .i2l, 1, 0, 0), (19, .lconst 0, 1, 0, 0), (20, .lconst 1, 1, 0, 0), (21, .invokestatic 69, 3, 103, 3), (24, .ifCond .ne 6, 3, 30, 0), (27, .bipush (-2), 2, 0, 0), (29, .ireturn, 1, 0, 0), (30, .iconst 0, 1, 0, 0), (31, .istore_n 3, 1, 0, 0), (32, .iconst 1, 1, 0, 0), (33, .aload_n 0, 1, 0, 0), (34, .getfield 66, 3, 7, 4), (37, .ishl, 1, 0, 0), (38, .iconst 1, 1, 0, 0), (39, .isub, 1, 0, 0), (40, .istore 4, 2, 0, 0), (42, .iconst 0, 1, 0, 0), (43, .istore 5, 2, 0, 0), (45, .iload 5, 2, 0, 0), (47, .iconst 1, 1, 0, 0), (48, .aload_n 0, 1, 0, 0), (49, .getfield 66, 3, 7, 4), (52, .ishl, 1, 0, 0), (53, .if_icmp .ge 154, 3, 207, 0), (56, .iconst 0, 1, 0, 0), (57, .istore 6, 2, 0, 0), (59, .iconst 0, 1, 0, 0), (60, .istore 7, 2, 0, 0), (62, .iload 7, 2, 0, 0), (64, .aload_n 0, 1, 0, 0)]
def mj_c158_1 : List mj_Row := [(65, .getfield 66, 3, 7, 4), (68, .if_icmp .ge 39, 3, 107, 0), (71, .iload 6, 2, 0, 0), (73, .iload 5, 2, 0, 0), (75, .iload 7, 2, 0, 0), (77, .invokestatic 95, 3, 113, 2), (80, .ifCond .eq 17, 3, 97, 0), (83, .aload_n 0, 1, 0, 0), (84, .getfield 13, 3, 7, 6), (87, .iconst 4, 1, 0, 0), (88, .iload 7, 2, 0, 0), (90, .imul, 1, 0, 0), (91, .iconst 1, 1, 0, 0), (92, .iadd, 1, 0, 0), (93, .iaload, 1, 0, 0), (94, .goto 4, 3, 98, 0), (97, .iconst 0, 1, 0, 0), (98, .iadd, 1, 0, 0), (99, .istore 6, 2, 0, 0), (101, .iinc 7 1, 3, 0, 0), (104, .goto (-42), 3, 62, 0), (107, .iload 6, 2, 0, 0), (109, .iload_n 1, 1, 0, 0), (110, .if_icmp .ne 7, 3, 117, 0), (113, .iconst 1, 1, 0, 0), (114, .goto 4, 3, 118, 0), (117, .iconst 0, 1, 0, 0), (118, .istore 7, 2, 0, 0), (120, .iconst 0, 1, 0, 0), (121, .istore 8, 2, 0, 0), (123, .iload 8, 2, 0, 0), (125, .aload_n 0, 1, 0, 0), (126, .getfield 131, 3, 7, 21), (129, .if_icmp .ge 57, 3, 186, 0), (132, .iload 7, 2, 0, 0), (134, .ifCond .eq 52, 3, 186, 0), (137, .aload_n 0, 1, 0, 0), (138, .getfield 47, 3, 7, 22), (141, .iload 8, 2, 0, 0), (143, .iaload, 1, 0, 0)]
def mj_c158_2 : List mj_Row := [(144, .aload_n 0, 1, 0, 0), (145, .getfield 66, 3, 7, 4), (148, .if_icmp .ge 25, 3, 173, 0), (151, .iload 5, 2, 0, 0), (153, .aload_n 0, 1, 0, 0), (154, .getfield 47, 3, 7, 22), (157, .iload 8, 2, 0, 0), (159, .iaload, 1, 0, 0), (160, .invokestatic 95, 3, 113, 2), (163, .aload_n 0, 1, 0, 0), (164, .getfield 50, 3, 7, 23), (167, .iload 8, 2, 0, 0), (169, .baload, 1, 0, 0), (170, .if_icmp .ne 7, 3, 177, 0), (173, .iconst 1, 1, 0, 0), (174, .goto 4, 3, 178, 0), (177, .iconst 0, 1, 0, 0), (178, .istore 7, 2, 0, 0), (180, .iinc 8 1, 3, 0, 0), (183, .goto (-60), 3, 123, 0), (186, .iload 7, 2, 0, 0), (188, .ifCond .eq 13, 3, 201, 0), (191, .iinc 3 1, 3, 0, 0), (194, .iload 4, 2, 0, 0), (196, .iload 5, 2, 0, 0), (198, .iand, 1, 0, 0), (199, .istore 4, 2, 0, 0), (201, .iinc 5 1, 3, 0, 0), (204, .goto (-159), 3, 45, 0), (207, .iload_n 2, 1, 0, 0), (208, .ifCond .ne 7, 3, 215, 0), (211, .iload_n 3, 1, 0, 0), (212, .goto 14, 3, 226, 0), (215, .iload_n 3, 1, 0, 0), (216, .ifCond .ne 8, 3, 224, 0), (219, .bipush (-9), 2, 0, 0), (221, .goto 5, 3, 226, 0), (224, .iload 4, 2, 0, 0), (226, .ireturn, 1, 0, 0)]
def mj_c158 : List mj_Row := mj_c158_0 ++ (mj_c158_1 ++ (mj_c158_2))
def mj_c159_0 : List mj_Row := [(0, .aload_n 0, 1, 0, 0), (1, .iconst 0, 1, 0, 0), (2, .putfield 62, 3, 7, 0), (5, .aload_n 0, 1, 0, 0), (6, .iload_n 1, 1, 0, 0), (7, .invokevirtual 137, 3, 120, 2), (10, .ifCond .eq 5, 3, 15, 0), (13, .iconst (-1), 1, 0, 0), (14, .ireturn, 1, 0, 0), (15, .aload_n 0, 1, 0, 0), (16, .getfield 131, 3, 7, 21), (19, .bipush 6, 2, 0, 0), (21, .if_icmp .ne 6, 3, 27, 0), (24, .bipush (-4), 2, 0, 0), (26, .ireturn, 1, 0, 0), (27, .aload_n 0, 1, 0, 0), (28, .getfield 47, 3, 7, 22), (31, .aload_n 0, 1, 0, 0), (32, .getfield 131, 3, 7, 21), (35, .iload_n 1, 1, 0, 0), (36, .iastore, 1, 0, 0), (37, .aload_n 0, 1, 0, 0), (38, .getfield 50, 3, 7, 23), (41, .aload_n 0, 1, 0, 0), (42, .getfield 131, 3, 7, 21), (45, .iload_n 2, 1, 0, 0), (46, .bastore, 1, 0, 0), (47, .aload_n 0, 1, 0, 0), (48, .dup, 1, 0, 0), (49, .getfield 131, 3, 7, 21), (52, .iconst 1, 1, 0, 0), (53, .iadd, 1, 0, 0), (54, .putfield 131, 3, 7, 21), (57, .aload_n 0, 1, 0, 0), (58, .getfield 131, 3, 7, 21), (61, .ireturn, 1, 0, 0)]
def mj_c159 : List mj_Row := mj_c159_0
def mj_c160_0 : List mj_Row := [(0, .aload_n 0, 1, 0, 0), (1, .iconst 0, 1, 0, 0), (2, .putfield 62, 3, 7, 0), (5, .aload_n 0, 1, 0, 0), (6, .getfield 131, 3, 7, 21), (9, .istore_n 1, 1, 0, 0), (10, .aload_n 0, 1, 0, 0), (11, .iconst 0, 1, 0, 0), (12, .putfield 131, 3, 7, 21), (15, .iload_n 1, 1, 0, 0), (16, .ireturn, 1, 0, 0)]
def mj_c160 : List mj_Row := mj_c160_0
def mj_c161_0 : List mj_Row := [(0, .aload_n 0, 1, 0, 0), (1, .iconst 0, 1, 0, 0), (2, .putfield 62, 3, 7, 0), (5, .aload_n 0, 1, 0, 0), (6, .iload_n 1, 1, 0, 0), (7, .invokevirtual 147, 3, 123, 2), (10, .ifCond .eq 5, 3, 15, 0), (13, .iconst (-1), 1, 0, 0), (14, .ireturn, 1, 0, 0), (15, .iload_n 2, 1, 0, 0), (16, .i2l, 1, 0, 0), (17, .lconst 0, 1, 0, 0), (18, .ldc2_w 212, 3, 0, 0), (21, .invokestatic 69, 3, 103, 3), (24, .ifCond .ne 6, 3, 30, 0), (27, .bipush (-2), 2, 0, 0), (29, .ireturn, 1, 0, 0), (30, .iconst 0, 1, 0, 0), (31, .istore 4, 2, 0, 0), (33, .iconst 0, 1, 0, 0), (34, .istore 5, 2, 0, 0), (36, .iload 5, 2, 0, 0), (38, .iconst 1, 1, 0, 0), (39, .aload_n 0, 1, 0, 0), (40, .getfield 66, 3, 7, 4), (43, .ishl, 1, 0, 0), (44, .if_icmp .ge 102, 3, 146, 0), (47, .iload 5, 2, 0, 0), (49, .aload_n 0, 1, 0, 0), (50, .getfield 31, 3, 7, 15), (53, .iconst 1, 1, 0, 0), (54, .iaload, 1, 0, 0), (55, .iconst (-1), 1, 0, 0), (56, .ixor, 1, 0, 0), (57, .iand, 1, 0, 0), (58, .ifCond .ne 82, 3, 140, 0), (61, .aload_n 0, 1, 0, 0), (62, .iload 5, 2, 0, 0), (64, .iload_n 1, 1, 0, 0), (65, .invokevirtual 150, 3, 133, 3)]
def mj_c161_1 : List mj_Row := [(68, .ifCond .eq 72, 3, 140, 0), (71, .iconst 1, 1, 0, 0), (72, .istore 6, 2, 0, 0), (74, .iconst 0, 1, 0, 0), (75, .istore 7, 2, 0, 0), (77, .iload 7, 2, 0, 0), (79, .aload_n 0, 1, 0, 0), (80, .getfield 66, 3, 7, 4), (83, .if_icmp .ge 50, 3, 133, 0), (86, .iload 6, 2, 0, 0), (88, .aload_n 0, 1, 0, 0), (89, .getfield 31, 3, 7, 15), (92, .iconst 1, 1, 0, 0), (93, .iaload, 1, 0, 0), (94, .iload 7, 2, 0, 0), (96, .invokestatic 95, 3, 113, 2), (99, .ifCond .ne 7, 3, 106, 0), (102, .iconst 1, 1, 0, 0), (103, .goto 21, 3, 124, 0), (106, .iload 5, 2, 0, 0), (108, .iload 7, 2, 0, 0), (110, .invokestatic 95, 3, 113, 2), (113, .ifCond .eq 10, 3, 123, 0), (116, .bipush 10, 2, 0, 0), (118, .iload_n 2, 1, 0, 0), (119, .isub, 1, 0, 0), (120, .goto 4, 3, 124, 0), (123, .iload_n 2, 1, 0, 0), (124, .imul, 1, 0, 0), (125, .istore 6, 2, 0, 0), (127, .iinc 7 1, 3, 0, 0), (130, .goto (-53), 3, 77, 0), (133, .iload 4, 2, 0, 0), (135, .iload 6, 2, 0, 0), (137, .iadd, 1, 0, 0), (138, .istore 4, 2, 0, 0), (140, .iinc 5 1, 3, 0, 0), (143, .goto (-107), 3, 36, 0), (146, .iload 4, 2, 0, 0), (148, .aload_n 0, 1, 0, 0)]
def mj_c161_2 : List mj_Row := [(149, .getfield 31, 3, 7, 15), (152, .iconst 1, 1, 0, 0), (153, .iaload, 1, 0, 0), (154, .invokestatic 186, 3, 144, 1), (157, .invokestatic 183, 3, 142, 1), (160, .iload_n 3, 1, 0, 0), (161, .invokestatic 198, 3, 150, 3), (164, .ireturn, 1, 0, 0)]
def mj_c161 : List mj_Row := mj_c161_0 ++ (mj_c161_1 ++ (mj_c161_2))
def mj_c162_0 : List mj_Row := [(0, .aload_n 0, 1, 0, 0), (1, .iconst 0, 1, 0, 0), (2, .putfield 62, 3, 7, 0), (5, .aload_n 0, 1, 0, 0), (6, .getfield 214, 3, 7, 24), (9, .lstore_n 3, 1, 0, 0), (10, .aload_n 0, 1, 0, 0), (11, .lload_n 1, 1, 0, 0), (12, .putfield 214, 3, 7, 24), (15, .lload_n 3, 1, 0, 0), (16, .lreturn, 1, 0, 0)]
def mj_c162 : List mj_Row := mj_c162_0
def mj_c163_0 : List mj_Row := [(0, .aload_n 0, 1, 0, 0), (1, .iconst 0, 1, 0, 0), (2, .putfield 62, 3, 7, 0), (5, .iload_n 1, 1, 0, 0), (6, .i2l, 1, 0, 0), (7, .lconst 0, 1, 0, 0), (8, .ldc2_w 212, 3, 0, 0), (11, .invokestatic 69, 3, 103, 3), (14, .ifCond .ne 6, 3, 20, 0), (17, .bipush (-2), 2, 0, 0), (19, .ireturn, 1, 0, 0), (20, .aload_n 0, 1, 0, 0), (21, .invokevirtual 170, 3, 138, 1), (24, .aload_n 0, 1, 0, 0), (25, .getfield 34, 3, 7, 16), (28, .iconst 3, 1, 0, 0), (29, .iaload, 1, 0, 0), (30, .aload_n 0, 1, 0, 0), (31, .getfield 66, 3, 7, 4), (34, .if_icmp .ge 72, 3, 106, 0), (37, .aload_n 0, 1, 0, 0), (38, .aload_n 0, 1, 0, 0), (39, .getfield 214, 3, 7, 24), (42, .ldc2_w 218, 3, 7, 0), (45, .lmul, 1, 0, 0), (46, .ldc2_w 220, 3, 1, 0), (49, .ladd, 1, 0, 0), (50, .putfield 214, 3, 7, 24), (53, .aload_n 0, 1, 0, 0), (54, .getfield 214, 3, 7, 24), (57, .bipush 33, 2, 0, 0), (59, .lushr, 1, 0, 0), (60, .ldc2_w 212, 3, 0, 0), (63, .lrem, 1, 0, 0), (64, .iload_n 1, 1, 0, 0), (65, .i2l, 1, 0, 0), (66, .lcmp, 1, 0, 0), (67, .ifCond .ge 26, 3, 93, 0), (70, .aload_n 0, 1, 0, 0), (71, .aload_n 0, 1, 0, 0)]
def mj_c163_1 : List mj_Row := [(72, .getfield 34, 3, 7, 16), (75, .invokevirtual 153, 3, 125, 2), (78, .ifCond .eq 15, 3, 93, 0), (81, .aload_n 0, 1, 0, 0), (82, .aload_n 0, 1, 0, 0), (83, .getfield 34, 3, 7, 16), (86, .invokevirtual 160, 3, 127, 2), (89, .pop, 1, 0, 0), (90, .goto (-66), 3, 24, 0), (93, .aload_n 0, 1, 0, 0), (94, .getfield 34, 3, 7, 16), (97, .iconst 3, 1, 0, 0), (98, .dup2, 1, 0, 0), (99, .iaload, 1, 0, 0), (100, .iconst 1, 1, 0, 0), (101, .iadd, 1, 0, 0), (102, .iastore, 1, 0, 0), (103, .goto (-79), 3, 24, 0), (106, .aload_n 0, 1, 0, 0), (107, .getfield 34, 3, 7, 16), (110, .iconst 1, 1, 0, 0), (111, .iaload, 1, 0, 0), (112, .ireturn, 1, 0, 0)]
def mj_c163 : List mj_Row := mj_c163_0 ++ (mj_c163_1)
def mj_c164_0 : List mj_Row := [(0, .aload_n 0, 1, 0, 0), (1, .iconst 0, 1, 0, 0), (2, .putfield 62, 3, 7, 0), (5, .iload_n 1, 1, 0, 0), (6, .i2l, 1, 0, 0), (7, .lconst 0, 1, 0, 0), (8, .lconst 1, 1, 0, 0), (9, .invokestatic 69, 3, 103, 3), (12, .ifCond .ne 5, 3, 17, 0), (15, .iconst (-1), 1, 0, 0), (16, .ireturn, 1, 0, 0), (17, .aload_n 0, 1, 0, 0), (18, .getfield 43, 3, 7, 20), (21, .iload_n 1, 1, 0, 0), (22, .iconst 1, 1, 0, 0), (23, .bastore, 1, 0, 0), (24, .iconst 0, 1, 0, 0), (25, .istore_n 2, 1, 0, 0), (26, .iload_n 2, 1, 0, 0), (27, .bipush 11, 2, 0, 0), (29, .if_icmp .ge 26, 3, 55, 0), (32, .aload_n 0, 1, 0, 0), (33, .getfield 40, 3, 7, 19), (36, .bipush 11, 2, 0, 0), (38, .iload_n 1, 1, 0, 0), (39, .imul, 1, 0, 0), (40, .iload_n 2, 1, 0, 0), (41, .iadd, 1, 0, 0), (42, .aload_n 0, 1, 0, 0), (43, .getfield 31, 3, 7, 15), (46, .iload_n 2, 1, 0, 0), (47, .iaload, 1, 0, 0), (48, .iastore, 1, 0, 0), (49, .iinc 2 1, 3, 0, 0), (52, .goto (-26), 3, 26, 0), (55, .aload_n 0, 1, 0, 0), (56, .getfield 31, 3, 7, 15), (59, .iconst 1, 1, 0, 0), (60, .iaload, 1, 0, 0), (61, .invokestatic 186, 3, 144, 1)]
def mj_c164_1 : List mj_Row := [(64, .ireturn, 1, 0, 0)]
def mj_c164 : List mj_Row := mj_c164_0 ++ (mj_c164_1)
def mj_c165_0 : List mj_Row := [(0, .aload_n 0, 1, 0, 0), (1, .iconst 0, 1, 0, 0), (2, .putfield 62, 3, 7, 0), (5, .iload_n 1, 1, 0, 0), (6, .i2l, 1, 0, 0), (7, .lconst 0, 1, 0, 0), (8, .lconst 1, 1, 0, 0), (9, .invokestatic 69, 3, 103, 3), (12, .ifCond .ne 5, 3, 17, 0), (15, .iconst (-1), 1, 0, 0), (16, .ireturn, 1, 0, 0), (17, .aload_n 0, 1, 0, 0), (18, .getfield 43, 3, 7, 20), (21, .iload_n 1, 1, 0, 0), (22, .baload, 1, 0, 0), (23, .ifCond .ne 6, 3, 29, 0), (26, .bipush (-3), 2, 0, 0), (28, .ireturn, 1, 0, 0), (29, .iconst 0, 1, 0, 0), (30, .istore_n 2, 1, 0, 0), (31, .iload_n 2, 1, 0, 0), (32, .bipush 11, 2, 0, 0), (34, .if_icmp .ge 26, 3, 60, 0), (37, .aload_n 0, 1, 0, 0), (38, .getfield 31, 3, 7, 15), (41, .iload_n 2, 1, 0, 0), (42, .aload_n 0, 1, 0, 0), (43, .getfield 40, 3, 7, 19), (46, .bipush 11, 2, 0, 0), (48, .iload_n 1, 1, 0, 0), (49, .imul, 1, 0, 0), (50, .iload_n 2, 1, 0, 0), (51, .iadd, 1, 0, 0), (52, .iaload, 1, 0, 0), (53, .iastore, 1, 0, 0), (54, .iinc 2 1, 3, 0, 0), (57, .goto (-26), 3, 31, 0), (60, .aload_n 0, 1, 0, 0), (61, .iconst 0, 1, 0, 0), (62, .putfield 125, 3, 7, 18)]
def mj_c165_1 : List mj_Row := [(65, .aload_n 0, 1, 0, 0), (66, .getfield 31, 3, 7, 15), (69, .iconst 1, 1, 0, 0), (70, .iaload, 1, 0, 0), (71, .invokestatic 186, 3, 144, 1), (74, .ireturn, 1, 0, 0)]
def mj_c165 : List mj_Row := mj_c165_0 ++ (mj_c165_1)
def mj_c166_0 : List mj_Row := [(0, .iload_n 0, 1, 0, 0), (1, .iload_n 0, 1, 0, 0), (2, .iconst 1, 1, 0, 0), (3, .iushr, 1, 0, 0), (4, .ldc_w 265, 3, 1431655765, 0), (7, .iand, 1, 0, 0), (8, .isub, 1, 0, 0), (9, .istore_n 0, 1, 0, 0), (10, .iload_n 0, 1, 0, 0), (11, .ldc_w 266, 3, 858993459, 0), (14, .iand, 1, 0, 0), (15, .iload_n 0, 1, 0, 0), (16, .iconst 2, 1, 0, 0), (17, .iushr, 1, 0, 0), (18, .ldc_w 266, 3, 858993459, 0), (21, .iand, 1, 0, 0), (22, .iadd, 1, 0, 0), (23, .istore_n 0, 1, 0, 0), (24, .iload_n 0, 1, 0, 0), (25, .iload_n 0, 1, 0, 0), (26, .iconst 4, 1, 0, 0), (27, .iushr, 1, 0, 0), (28, .iadd, 1, 0, 0), (29, .ldc_w 267, 3, 252645135, 0), (32, .iand, 1, 0, 0), (33, .istore_n 0, 1, 0, 0), (34, .iload_n 0, 1, 0, 0), (35, .iload_n 0, 1, 0, 0), (36, .bipush 8, 2, 0, 0), (38, .iushr, 1, 0, 0), (39, .iadd, 1, 0, 0), (40, .istore_n 0, 1, 0, 0), (41, .iload_n 0, 1, 0, 0), (42, .iload_n 0, 1, 0, 0), (43, .bipush 16, 2, 0, 0), (45, .iushr, 1, 0, 0), (46, .iadd, 1, 0, 0), (47, .istore_n 0, 1, 0, 0), (48, .iload_n 0, 1, 0, 0), (49, .bipush 63, 2, 0, 0)]
def mj_c166_1 : List mj_Row := [(51, .iand, 1, 0, 0), (52, .ireturn, 1, 0, 0)]
def mj_c166 : List mj_Row := mj_c166_0 ++ (mj_c166_1)
def mj_c167_0 : List mj_Row := [(0, .new 7, 3, 6, 0), (3, .dup, 1, 0, 0), (4, .invokespecial 9, 3, 59, 1), (7, .astore_n 1, 1, 0, 0), (8, .new 10, 3, 7, 0), (11, .dup, 1, 0, 0), (12, .invokespecial 12, 3, 101, 1), (15, .astore_n 2, 1, 0, 0), (16, .iconst 0, 1, 0, 0), (17, .istore_n 3, 1, 0, 0), (18, .iload_n 3, 1, 0, 0), (19, .aload_n 0, 1, 0, 0), (20, .arraylength, 1, 0, 0), (21, .iconst 4, 1, 0, 0), (22, .isub, 1, 0, 0), (23, .if_icmp .gt 964, 3, 987, 0), (26, .aload_n 0, 1, 0, 0), (27, .iload_n 3, 1, 0, 0), (28, .iaload, 1, 0, 0), (29, .bipush 31, 2, 0, 0), (31, .iand, 1, 0, 0), (32, .tableswitch 949 0 31 #[144, 167, 180, 193, 206, 229, 262, 295, 308, 321, 334, 347, 360, 393, 416, 439, 472, 495, 508, 521, 570, 593, 616, 649, 672, 705, 754, 767, 826, 880, 903, 926], 144, 0, 0), (176, .aload_n 1, 1, 0, 0), (177, .aload_n 0, 1, 0, 0), (178, .iload_n 3, 1, 0, 0), (179, .iconst 1, 1, 0, 0), (180, .iadd, 1, 0, 0), (181, .iaload, 1, 0, 0), (182, .invokevirtual 13, 3, 60, 2), (185, .aload_n 2, 1, 0, 0), (186, .aload_n 0, 1, 0, 0), (187, .iload_n 3, 1, 0, 0), (188, .iconst 1, 1, 0, 0), (189, .iadd, 1, 0, 0), (190, .iaload, 1, 0, 0), (191, .invokevirtual 17, 3, 102, 2), (194, .if_icmp .eq 787, 3, 981, 0), (197, .iconst 0, 1, 0, 0), (198, .ireturn, 1, 0, 0), (199, .aload_n 1, 1, 0, 0)]
def mj_c167_1 : List mj_Row := [(200, .invokevirtual 18, 3, 61, 1), (203, .aload_n 2, 1, 0, 0), (204, .invokevirtual 22, 3, 104, 1), (207, .if_icmp .eq 774, 3, 981, 0), (210, .iconst 0, 1, 0, 0), (211, .ireturn, 1, 0, 0), (212, .aload_n 1, 1, 0, 0), (213, .invokevirtual 23, 3, 62, 1), (216, .aload_n 2, 1, 0, 0), (217, .invokevirtual 26, 3, 105, 1), (220, .if_icmp .eq 761, 3, 981, 0), (223, .iconst 0, 1, 0, 0), (224, .ireturn, 1, 0, 0), (225, .aload_n 1, 1, 0, 0), (226, .invokevirtual 27, 3, 63, 1), (229, .aload_n 2, 1, 0, 0), (230, .invokevirtual 30, 3, 115, 1), (233, .if_icmp .eq 748, 3, 981, 0), (236, .iconst 0, 1, 0, 0), (237, .ireturn, 1, 0, 0), (238, .aload_n 1, 1, 0, 0), (239, .aload_n 0, 1, 0, 0), (240, .iload_n 3, 1, 0, 0), (241, .iconst 1, 1, 0, 0), (242, .iadd, 1, 0, 0), (243, .iaload, 1, 0, 0), (244, .invokevirtual 31, 3, 64, 2), (247, .aload_n 2, 1, 0, 0), (248, .aload_n 0, 1, 0, 0), (249, .iload_n 3, 1, 0, 0), (250, .iconst 1, 1, 0, 0), (251, .iadd, 1, 0, 0), (252, .iaload, 1, 0, 0), (253, .invokevirtual 34, 3, 116, 2), (256, .if_icmp .eq 725, 3, 981, 0), (259, .iconst 0, 1, 0, 0), (260, .ireturn, 1, 0, 0), (261, .aload_n 1, 1, 0, 0), (262, .aload_n 0, 1, 0, 0), (263, .iload_n 3, 1, 0, 0)]
def mj_c167_2 : List mj_Row := [(264, .iconst 1, 1, 0, 0), (265, .iadd, 1, 0, 0), (266, .iaload, 1, 0, 0), (267, .aload_n 0, 1, 0, 0), (268, .iload_n 3, 1, 0, 0), (269, .iconst 2, 1, 0, 0), (270, .iadd, 1, 0, 0), (271, .iaload, 1, 0, 0), (272, .invokevirtual 35, 3, 65, 3), (275, .aload_n 2, 1, 0, 0), (276, .aload_n 0, 1, 0, 0), (277, .iload_n 3, 1, 0, 0), (278, .iconst 1, 1, 0, 0), (279, .iadd, 1, 0, 0), (280, .iaload, 1, 0, 0), (281, .aload_n 0, 1, 0, 0), (282, .iload_n 3, 1, 0, 0), (283, .iconst 2, 1, 0, 0), (284, .iadd, 1, 0, 0), (285, .iaload, 1, 0, 0), (286, .invokevirtual 39, 3, 119, 3), (289, .if_icmp .eq 692, 3, 981, 0), (292, .iconst 0, 1, 0, 0), (293, .ireturn, 1, 0, 0), (294, .aload_n 1, 1, 0, 0), (295, .aload_n 0, 1, 0, 0), (296, .iload_n 3, 1, 0, 0), (297, .iconst 1, 1, 0, 0), (298, .iadd, 1, 0, 0), (299, .iaload, 1, 0, 0), (300, .aload_n 0, 1, 0, 0), (301, .iload_n 3, 1, 0, 0), (302, .iconst 2, 1, 0, 0), (303, .iadd, 1, 0, 0), (304, .iaload, 1, 0, 0), (305, .invokevirtual 40, 3, 66, 3), (308, .aload_n 2, 1, 0, 0), (309, .aload_n 0, 1, 0, 0), (310, .iload_n 3, 1, 0, 0), (311, .iconst 1, 1, 0, 0)]
def mj_c167_3 : List mj_Row := [(312, .iadd, 1, 0, 0), (313, .iaload, 1, 0, 0), (314, .aload_n 0, 1, 0, 0), (315, .iload_n 3, 1, 0, 0), (316, .iconst 2, 1, 0, 0), (317, .iadd, 1, 0, 0), (318, .iaload, 1, 0, 0), (319, .invokevirtual 43, 3, 122, 3), (322, .if_icmp .eq 659, 3, 981, 0), (325, .iconst 0, 1, 0, 0), (326, .ireturn, 1, 0, 0), (327, .aload_n 1, 1, 0, 0), (328, .invokevirtual 44, 3, 67, 1), (331, .aload_n 2, 1, 0, 0), (332, .invokevirtual 47, 3, 124, 1), (335, .if_icmp .eq 646, 3, 981, 0), (338, .iconst 0, 1, 0, 0), (339, .ireturn, 1, 0, 0), (340, .aload_n 1, 1, 0, 0), (341, .invokevirtual 48, 3, 68, 1), (344, .aload_n 2, 1, 0, 0), (345, .invokevirtual 51, 3, 128, 1), (348, .if_icmp .eq 633, 3, 981, 0), (351, .iconst 0, 1, 0, 0), (352, .ireturn, 1, 0, 0), (353, .aload_n 1, 1, 0, 0), (354, .invokevirtual 52, 3, 69, 1), (357, .aload_n 2, 1, 0, 0), (358, .invokevirtual 55, 3, 129, 1), (361, .if_icmp .eq 620, 3, 981, 0), (364, .iconst 0, 1, 0, 0), (365, .ireturn, 1, 0, 0), (366, .aload_n 1, 1, 0, 0), (367, .invokevirtual 56, 3, 70, 1), (370, .aload_n 2, 1, 0, 0), (371, .invokevirtual 59, 3, 131, 1), (374, .if_icmp .eq 607, 3, 981, 0), (377, .iconst 0, 1, 0, 0), (378, .ireturn, 1, 0, 0), (379, .aload_n 1, 1, 0, 0)]
def mj_c167_4 : List mj_Row := [(380, .invokevirtual 60, 3, 71, 1), (383, .aload_n 2, 1, 0, 0), (384, .invokevirtual 63, 3, 134, 1), (387, .if_icmp .eq 594, 3, 981, 0), (390, .iconst 0, 1, 0, 0), (391, .ireturn, 1, 0, 0), (392, .aload_n 1, 1, 0, 0), (393, .aload_n 0, 1, 0, 0), (394, .iload_n 3, 1, 0, 0), (395, .iconst 1, 1, 0, 0), (396, .iadd, 1, 0, 0), (397, .iaload, 1, 0, 0), (398, .aload_n 0, 1, 0, 0), (399, .iload_n 3, 1, 0, 0), (400, .iconst 2, 1, 0, 0), (401, .iadd, 1, 0, 0), (402, .iaload, 1, 0, 0), (403, .invokevirtual 64, 3, 72, 3), (406, .aload_n 2, 1, 0, 0), (407, .aload_n 0, 1, 0, 0), (408, .iload_n 3, 1, 0, 0), (409, .iconst 1, 1, 0, 0), (410, .iadd, 1, 0, 0), (411, .iaload, 1, 0, 0), (412, .aload_n 0, 1, 0, 0), (413, .iload_n 3, 1, 0, 0), (414, .iconst 2, 1, 0, 0), (415, .iadd, 1, 0, 0), (416, .iaload, 1, 0, 0), (417, .invokevirtual 67, 3, 135, 3), (420, .if_icmp .eq 561, 3, 981, 0), (423, .iconst 0, 1, 0, 0), (424, .ireturn, 1, 0, 0), (425, .aload_n 1, 1, 0, 0), (426, .aload_n 0, 1, 0, 0), (427, .iload_n 3, 1, 0, 0), (428, .iconst 1, 1, 0, 0), (429, .iadd, 1, 0, 0), (430, .iaload, 1, 0, 0), (431, .invokevirtual 68, 3, 75, 2)]
def mj_c167_5 : List mj_Row := [(434, .aload_n 2, 1, 0, 0), (435, .aload_n 0, 1, 0, 0), (436, .iload_n 3, 1, 0, 0), (437, .iconst 1, 1, 0, 0), (438, .iadd, 1, 0, 0), (439, .iaload, 1, 0, 0), (440, .invokevirtual 71, 3, 139, 2), (443, .if_icmp .eq 538, 3, 981, 0), (446, .iconst 0, 1, 0, 0), (447, .ireturn, 1, 0, 0), (448, .aload_n 1, 1, 0, 0), (449, .aload_n 0, 1, 0, 0), (450, .iload_n 3, 1, 0, 0), (451, .iconst 1, 1, 0, 0), (452, .iadd, 1, 0, 0), (453, .iaload, 1, 0, 0), (454, .invokevirtual 72, 3, 76, 2), (457, .aload_n 2, 1, 0, 0), (458, .aload_n 0, 1, 0, 0), (459, .iload_n 3, 1, 0, 0), (460, .iconst 1, 1, 0, 0), (461, .iadd, 1, 0, 0), (462, .iaload, 1, 0, 0), (463, .invokevirtual 75, 3, 140, 2), (466, .if_icmp .eq 515, 3, 981, 0), (469, .iconst 0, 1, 0, 0), (470, .ireturn, 1, 0, 0), (471, .aload_n 1, 1, 0, 0), (472, .aload_n 0, 1, 0, 0), (473, .iload_n 3, 1, 0, 0), (474, .iconst 1, 1, 0, 0), (475, .iadd, 1, 0, 0), (476, .iaload, 1, 0, 0), (477, .aload_n 0, 1, 0, 0), (478, .iload_n 3, 1, 0, 0), (479, .iconst 2, 1, 0, 0), (480, .iadd, 1, 0, 0), (481, .iaload, 1, 0, 0), (482, .invokevirtual 76, 3, 77, 3), (485, .aload_n 2, 1, 0, 0)]
def mj_c167_6 : List mj_Row := [(486, .aload_n 0, 1, 0, 0), (487, .iload_n 3, 1, 0, 0), (488, .iconst 1, 1, 0, 0), (489, .iadd, 1, 0, 0), (490, .iaload, 1, 0, 0), (491, .aload_n 0, 1, 0, 0), (492, .iload_n 3, 1, 0, 0), (493, .iconst 2, 1, 0, 0), (494, .iadd, 1, 0, 0), (495, .iaload, 1, 0, 0), (496, .invokevirtual 79, 3, 141, 3), (499, .if_icmp .eq 482, 3, 981, 0), (502, .iconst 0, 1, 0, 0), (503, .ireturn, 1, 0, 0), (504, .aload_n 1, 1, 0, 0), (505, .aload_n 0, 1, 0, 0), (506, .iload_n 3, 1, 0, 0), (507, .iconst 1, 1, 0, 0), (508, .iadd, 1, 0, 0), (509, .iaload, 1, 0, 0), (510, .invokevirtual 80, 3, 79, 2), (513, .aload_n 2, 1, 0, 0), (514, .aload_n 0, 1, 0, 0), (515, .iload_n 3, 1, 0, 0), (516, .iconst 1, 1, 0, 0), (517, .iadd, 1, 0, 0), (518, .iaload, 1, 0, 0), (519, .invokevirtual 83, 3, 143, 2), (522, .if_icmp .eq 459, 3, 981, 0), (525, .iconst 0, 1, 0, 0), (526, .ireturn, 1, 0, 0), (527, .aload_n 1, 1, 0, 0), (528, .invokevirtual 84, 3, 80, 1), (531, .aload_n 2, 1, 0, 0), (532, .invokevirtual 87, 3, 146, 1), (535, .if_icmp .eq 446, 3, 981, 0), (538, .iconst 0, 1, 0, 0), (539, .ireturn, 1, 0, 0), (540, .aload_n 1, 1, 0, 0), (541, .invokevirtual 88, 3, 81, 1)]
def mj_c167_7 : List mj_Row := [(544, .aload_n 2, 1, 0, 0), (545, .invokevirtual 91, 3, 147, 1), (548, .if_icmp .eq 433, 3, 981, 0), (551, .iconst 0, 1, 0, 0), (552, .ireturn, 1, 0, 0), (553, .aload_n 1, 1, 0, 0), (554, .aload_n 0, 1, 0, 0), (555, .iload_n 3, 1, 0, 0), (556, .iconst 1, 1, 0, 0), (557, .iadd, 1, 0, 0), (558, .iaload, 1, 0, 0), (559, .aload_n 0, 1, 0, 0), (560, .iload_n 3, 1, 0, 0), (561, .iconst 2, 1, 0, 0), (562, .iadd, 1, 0, 0), (563, .iaload, 1, 0, 0), (564, .ifCond .eq 7, 3, 571, 0), (567, .iconst 1, 1, 0, 0), (568, .goto 4, 3, 572, 0), (571, .iconst 0, 1, 0, 0), (572, .invokevirtual 92, 3, 82, 3), (575, .aload_n 2, 1, 0, 0), (576, .aload_n 0, 1, 0, 0), (577, .iload_n 3, 1, 0, 0), (578, .iconst 1, 1, 0, 0), (579, .iadd, 1, 0, 0), (580, .iaload, 1, 0, 0), (581, .aload_n 0, 1, 0, 0), (582, .iload_n 3, 1, 0, 0), (583, .iconst 2, 1, 0, 0), (584, .iadd, 1, 0, 0), (585, .iaload, 1, 0, 0), (586, .ifCond .eq 7, 3, 593, 0), (589, .iconst 1, 1, 0, 0), (590, .goto 4, 3, 594, 0), (593, .iconst 0, 1, 0, 0), (594, .invokevirtual 96, 3, 148, 3), (597, .if_icmp .eq 384, 3, 981, 0), (600, .iconst 0, 1, 0, 0), (601, .ireturn, 1, 0, 0)]
def mj_c167_8 : List mj_Row := [(602, .aload_n 1, 1, 0, 0), (603, .aload_n 0, 1, 0, 0), (604, .iload_n 3, 1, 0, 0), (605, .iconst 1, 1, 0, 0), (606, .iadd, 1, 0, 0), (607, .iaload, 1, 0, 0), (608, .invokevirtual 97, 3, 85, 2), (611, .aload_n 2, 1, 0, 0), (612, .aload_n 0, 1, 0, 0), (613, .iload_n 3, 1, 0, 0), (614, .iconst 1, 1, 0, 0), (615, .iadd, 1, 0, 0), (616, .iaload, 1, 0, 0), (617, .invokevirtual 100, 3, 152, 2), (620, .if_icmp .eq 361, 3, 981, 0), (623, .iconst 0, 1, 0, 0), (624, .ireturn, 1, 0, 0), (625, .aload_n 1, 1, 0, 0), (626, .aload_n 0, 1, 0, 0), (627, .iload_n 3, 1, 0, 0), (628, .iconst 1, 1, 0, 0), (629, .iadd, 1, 0, 0), (630, .iaload, 1, 0, 0), (631, .invokevirtual 101, 3, 86, 2), (634, .aload_n 2, 1, 0, 0), (635, .aload_n 0, 1, 0, 0), (636, .iload_n 3, 1, 0, 0), (637, .iconst 1, 1, 0, 0), (638, .iadd, 1, 0, 0), (639, .iaload, 1, 0, 0), (640, .invokevirtual 104, 3, 153, 2), (643, .if_icmp .eq 338, 3, 981, 0), (646, .iconst 0, 1, 0, 0), (647, .ireturn, 1, 0, 0), (648, .aload_n 1, 1, 0, 0), (649, .aload_n 0, 1, 0, 0), (650, .iload_n 3, 1, 0, 0), (651, .iconst 1, 1, 0, 0), (652, .iadd, 1, 0, 0), (653, .iaload, 1, 0, 0)]
def mj_c167_9 : List mj_Row := [(654, .aload_n 0, 1, 0, 0), (655, .iload_n 3, 1, 0, 0), (656, .iconst 2, 1, 0, 0), (657, .iadd, 1, 0, 0), (658, .iaload, 1, 0, 0), (659, .invokevirtual 105, 3, 87, 3), (662, .aload_n 2, 1, 0, 0), (663, .aload_n 0, 1, 0, 0), (664, .iload_n 3, 1, 0, 0), (665, .iconst 1, 1, 0, 0), (666, .iadd, 1, 0, 0), (667, .iaload, 1, 0, 0), (668, .aload_n 0, 1, 0, 0), (669, .iload_n 3, 1, 0, 0), (670, .iconst 2, 1, 0, 0), (671, .iadd, 1, 0, 0), (672, .iaload, 1, 0, 0), (673, .invokevirtual 108, 3, 155, 3), (676, .if_icmp .eq 305, 3, 981, 0), (679, .iconst 0, 1, 0, 0), (680, .ireturn, 1, 0, 0), (681, .aload_n 1, 1, 0, 0), (682, .aload_n 0, 1, 0, 0), (683, .iload_n 3, 1, 0, 0), (684, .iconst 1, 1, 0, 0), (685, .iadd, 1, 0, 0), (686, .iaload, 1, 0, 0), (687, .invokevirtual 109, 3, 90, 2), (690, .aload_n 2, 1, 0, 0), (691, .aload_n 0, 1, 0, 0), (692, .iload_n 3, 1, 0, 0), (693, .iconst 1, 1, 0, 0), (694, .iadd, 1, 0, 0), (695, .iaload, 1, 0, 0), (696, .invokevirtual 112, 3, 157, 2), (699, .if_icmp .eq 282, 3, 981, 0), (702, .iconst 0, 1, 0, 0), (703, .ireturn, 1, 0, 0), (704, .aload_n 1, 1, 0, 0), (705, .aload_n 0, 1, 0, 0)]
def mj_c167_10 : List mj_Row := [(706, .iload_n 3, 1, 0, 0), (707, .iconst 1, 1, 0, 0), (708, .iadd, 1, 0, 0), (709, .iaload, 1, 0, 0), (710, .aload_n 0, 1, 0, 0), (711, .iload_n 3, 1, 0, 0), (712, .iconst 2, 1, 0, 0), (713, .iadd, 1, 0, 0), (714, .iaload, 1, 0, 0), (715, .invokevirtual 113, 3, 91, 3), (718, .aload_n 2, 1, 0, 0), (719, .aload_n 0, 1, 0, 0), (720, .iload_n 3, 1, 0, 0), (721, .iconst 1, 1, 0, 0), (722, .iadd, 1, 0, 0), (723, .iaload, 1, 0, 0), (724, .aload_n 0, 1, 0, 0), (725, .iload_n 3, 1, 0, 0), (726, .iconst 2, 1, 0, 0), (727, .iadd, 1, 0, 0), (728, .iaload, 1, 0, 0), (729, .invokevirtual 116, 3, 158, 3), (732, .if_icmp .eq 249, 3, 981, 0), (735, .iconst 0, 1, 0, 0), (736, .ireturn, 1, 0, 0), (737, .aload_n 1, 1, 0, 0), (738, .aload_n 0, 1, 0, 0), (739, .iload_n 3, 1, 0, 0), (740, .iconst 1, 1, 0, 0), (741, .iadd, 1, 0, 0), (742, .iaload, 1, 0, 0), (743, .aload_n 0, 1, 0, 0), (744, .iload_n 3, 1, 0, 0), (745, .iconst 2, 1, 0, 0), (746, .iadd, 1, 0, 0), (747, .iaload, 1, 0, 0), (748, .ifCond .eq 7, 3, 755, 0), (751, .iconst 1, 1, 0, 0), (752, .goto 4, 3, 756, 0), (755, .iconst 0, 1, 0, 0)]
def mj_c167_11 : List mj_Row := [(756, .invokevirtual 117, 3, 93, 3), (759, .aload_n 2, 1, 0, 0), (760, .aload_n 0, 1, 0, 0), (761, .iload_n 3, 1, 0, 0), (762, .iconst 1, 1, 0, 0), (763, .iadd, 1, 0, 0), (764, .iaload, 1, 0, 0), (765, .aload_n 0, 1, 0, 0), (766, .iload_n 3, 1, 0, 0), (767, .iconst 2, 1, 0, 0), (768, .iadd, 1, 0, 0), (769, .iaload, 1, 0, 0), (770, .ifCond .eq 7, 3, 777, 0), (773, .iconst 1, 1, 0, 0), (774, .goto 4, 3, 778, 0), (777, .iconst 0, 1, 0, 0), (778, .invokevirtual 120, 3, 159, 3), (781, .if_icmp .eq 200, 3, 981, 0), (784, .iconst 0, 1, 0, 0), (785, .ireturn, 1, 0, 0), (786, .aload_n 1, 1, 0, 0), (787, .invokevirtual 121, 3, 94, 1), (790, .aload_n 2, 1, 0, 0), (791, .invokevirtual 124, 3, 160, 1), (794, .if_icmp .eq 187, 3, 981, 0), (797, .iconst 0, 1, 0, 0), (798, .ireturn, 1, 0, 0), (799, .aload_n 1, 1, 0, 0), (800, .aload_n 0, 1, 0, 0), (801, .iload_n 3, 1, 0, 0), (802, .iconst 1, 1, 0, 0), (803, .iadd, 1, 0, 0), (804, .iaload, 1, 0, 0), (805, .aload_n 0, 1, 0, 0), (806, .iload_n 3, 1, 0, 0), (807, .iconst 2, 1, 0, 0), (808, .iadd, 1, 0, 0), (809, .iaload, 1, 0, 0), (810, .aload_n 0, 1, 0, 0), (811, .iload_n 3, 1, 0, 0)]
def mj_c167_12 : List mj_Row := [(812, .iconst 3, 1, 0, 0), (813, .iadd, 1, 0, 0), (814, .iaload, 1, 0, 0), (815, .ifCond .eq 7, 3, 822, 0), (818, .iconst 1, 1, 0, 0), (819, .goto 4, 3, 823, 0), (822, .iconst 0, 1, 0, 0), (823, .invokevirtual 125, 3, 95, 4), (826, .aload_n 2, 1, 0, 0), (827, .aload_n 0, 1, 0, 0), (828, .iload_n 3, 1, 0, 0), (829, .iconst 1, 1, 0, 0), (830, .iadd, 1, 0, 0), (831, .iaload, 1, 0, 0), (832, .aload_n 0, 1, 0, 0), (833, .iload_n 3, 1, 0, 0), (834, .iconst 2, 1, 0, 0), (835, .iadd, 1, 0, 0), (836, .iaload, 1, 0, 0), (837, .aload_n 0, 1, 0, 0), (838, .iload_n 3, 1, 0, 0), (839, .iconst 3, 1, 0, 0), (840, .iadd, 1, 0, 0), (841, .iaload, 1, 0, 0), (842, .ifCond .eq 7, 3, 849, 0), (845, .iconst 1, 1, 0, 0), (846, .goto 4, 3, 850, 0), (849, .iconst 0, 1, 0, 0), (850, .invokevirtual 129, 3, 161, 4), (853, .if_icmp .eq 128, 3, 981, 0), (856, .iconst 0, 1, 0, 0), (857, .ireturn, 1, 0, 0), (858, .aload_n 1, 1, 0, 0), (859, .aload_n 0, 1, 0, 0), (860, .iload_n 3, 1, 0, 0), (861, .iconst 1, 1, 0, 0), (862, .iadd, 1, 0, 0), (863, .iaload, 1, 0, 0), (864, .i2l, 1, 0, 0), (865, .bipush 32, 2, 0, 0)]
def mj_c167_13 : List mj_Row := [(867, .lshl, 1, 0, 0), (868, .aload_n 0, 1, 0, 0), (869, .iload_n 3, 1, 0, 0), (870, .iconst 2, 1, 0, 0), (871, .iadd, 1, 0, 0), (872, .iaload, 1, 0, 0), (873, .i2l, 1, 0, 0), (874, .ldc2_w 130, 3, 5, 0), (877, .land, 1, 0, 0), (878, .lor, 1, 0, 0), (879, .invokevirtual 132, 3, 96, 2), (882, .aload_n 2, 1, 0, 0), (883, .aload_n 0, 1, 0, 0), (884, .iload_n 3, 1, 0, 0), (885, .iconst 1, 1, 0, 0), (886, .iadd, 1, 0, 0), (887, .iaload, 1, 0, 0), (888, .i2l, 1, 0, 0), (889, .bipush 32, 2, 0, 0), (891, .lshl, 1, 0, 0), (892, .aload_n 0, 1, 0, 0), (893, .iload_n 3, 1, 0, 0), (894, .iconst 2, 1, 0, 0), (895, .iadd, 1, 0, 0), (896, .iaload, 1, 0, 0), (897, .i2l, 1, 0, 0), (898, .ldc2_w 130, 3, 5, 0), (901, .land, 1, 0, 0), (902, .lor, 1, 0, 0), (903, .invokevirtual 136, 3, 162, 2), (906, .lcmp, 1, 0, 0), (907, .ifCond .eq 74, 3, 981, 0), (910, .iconst 0, 1, 0, 0), (911, .ireturn, 1, 0, 0), (912, .aload_n 1, 1, 0, 0), (913, .aload_n 0, 1, 0, 0), (914, .iload_n 3, 1, 0, 0), (915, .iconst 1, 1, 0, 0), (916, .iadd, 1, 0, 0), (917, .iaload, 1, 0, 0)]
def mj_c167_14 : List mj_Row := [(918, .invokevirtual 137, 3, 97, 2), (921, .aload_n 2, 1, 0, 0), (922, .aload_n 0, 1, 0, 0), (923, .iload_n 3, 1, 0, 0), (924, .iconst 1, 1, 0, 0), (925, .iadd, 1, 0, 0), (926, .iaload, 1, 0, 0), (927, .invokevirtual 140, 3, 163, 2), (930, .if_icmp .eq 51, 3, 981, 0), (933, .iconst 0, 1, 0, 0), (934, .ireturn, 1, 0, 0), (935, .aload_n 1, 1, 0, 0), (936, .aload_n 0, 1, 0, 0), (937, .iload_n 3, 1, 0, 0), (938, .iconst 1, 1, 0, 0), (939, .iadd, 1, 0, 0), (940, .iaload, 1, 0, 0), (941, .invokevirtual 141, 3, 98, 2), (944, .aload_n 2, 1, 0, 0), (945, .aload_n 0, 1, 0, 0), (946, .iload_n 3, 1, 0, 0), (947, .iconst 1, 1, 0, 0), (948, .iadd, 1, 0, 0), (949, .iaload, 1, 0, 0), (950, .invokevirtual 144, 3, 164, 2), (953, .if_icmp .eq 28, 3, 981, 0), (956, .iconst 0, 1, 0, 0), (957, .ireturn, 1, 0, 0), (958, .aload_n 1, 1, 0, 0), (959, .aload_n 0, 1, 0, 0), (960, .iload_n 3, 1, 0, 0), (961, .iconst 1, 1, 0, 0), (962, .iadd, 1, 0, 0), (963, .iaload, 1, 0, 0), (964, .invokevirtual 145, 3, 100, 2), (967, .aload_n 2, 1, 0, 0), (968, .aload_n 0, 1, 0, 0), (969, .iload_n 3, 1, 0, 0), (970, .iconst 1, 1, 0, 0), (971, .iadd, 1, 0, 0)]
def mj_c167_15 : List mj_Row := [(972, .iaload, 1, 0, 0), (973, .invokevirtual 148, 3, 165, 2), (976, .if_icmp .eq 5, 3, 981, 0), (979, .iconst 0, 1, 0, 0), (980, .ireturn, 1, 0, 0), (981, .iinc 3 4, 3, 0, 0), (984, .goto (-966), 3, 18, 0), (987, .iconst 1, 1, 0, 0), (988, .ireturn, 1, 0, 0)]
def mj_c167 : List mj_Row := mj_c167_0 ++ (mj_c167_1 ++ (mj_c167_2 ++ (mj_c167_3 ++ (mj_c167_4 ++ (mj_c167_5 ++ (mj_c167_6 ++ (mj_c167_7 ++ (mj_c167_8 ++ (mj_c167_9 ++ (mj_c167_10 ++ (mj_c167_11 ++ (mj_c167_12 ++ (mj_c167_13 ++ (mj_c167_14 ++ (mj_c167_15)))))))))))))))
/-- (class, name, descriptor), code, locals, answer, frames, locals' room, no longs among its locals, arguments, static, rows -/
abbrev mj_M : Type := (Nat × String × String) × ByteArray × Nat × Option FieldType × Nat × Nat × Bool × Nat × Bool × List mj_Row
def mj_p0 : mj_M := ((0, "<init>", "(LDumplingBand$Road;)V"), prog_2_method_1_code, 3, none, 2, 42, true, 1, false, mj_c0)
def mj_p1 : mj_M := ((0, "forget", "()V"), prog_2_method_2_code, 1, none, 0, 0, true, 0, false, mj_c1)
def mj_p2 : mj_M := ((0, "remember", "(LDumplingBand$March;)V"), prog_2_method_3_code, 2, none, 1, 22, true, 1, false, mj_c2)
def mj_p3 : mj_M := ((0, "placeOf", "(I)I"), prog_2_method_5_code, 2, (some .int), 0, 0, true, 1, false, mj_c3)
def mj_p4 : mj_M := ((0, "takeBack", "(LDumplingBand$March;)Z"), prog_2_method_4_code, 2, (some .boolean), 1, 22, true, 1, false, mj_c4)
def mj_p5 : mj_M := ((1, "<init>", "()V"), prog_3_method_1_code, 1, none, 1, 21, true, 0, false, mj_c5)
def mj_p6 : mj_M := ((1, "crossings", "(LDumplingBand$Road;II)I"), prog_3_method_2_code, 5, (some .int), 2, 52, true, 3, false, mj_c6)
def mj_p7 : mj_M := ((1, "enter", "(II)V"), prog_3_method_4_code, 3, none, 0, 0, true, 2, false, mj_c7)
def mj_p8 : mj_M := ((1, "rowFrom", "(LDumplingBand$Road;III)V"), prog_3_method_3_code, 10, none, 1, 23, true, 4, false, mj_c8)
def mj_p9 : mj_M := ((2, "<init>", "(LDumplingBand$Road;)V"), prog_4_method_1_code, 2, none, 1, 21, true, 1, false, mj_c9)
def mj_p10 : mj_M := ((2, "start", "()V"), prog_4_method_2_code, 1, none, 0, 0, true, 0, false, mj_c10)
def mj_p11 : mj_M := ((2, "whoIsNext", "()I"), prog_4_method_6_code, 1, (some .int), 2, 41, true, 0, false, mj_c11)
def mj_p12 : mj_M := ((2, "hasNext", "()Z"), prog_4_method_5_code, 1, (some .boolean), 1, 21, true, 0, false, mj_c12)
def mj_p13 : mj_M := ((2, "asks", "(I)I"), prog_4_method_7_code, 4, (some .int), 2, 43, true, 1, false, mj_c13)
def mj_p14 : mj_M := ((2, "mostGiven", "()I"), prog_4_method_8_code, 3, (some .int), 1, 21, true, 0, false, mj_c14)
def mj_p15 : mj_M := ((2, "holds", "(I)Z"), prog_4_method_4_code, 2, (some .boolean), 0, 0, true, 1, false, mj_c15)
def mj_p16 : mj_M := ((2, "canCome", "()Z"), prog_4_method_9_code, 1, (some .boolean), 3, 66, true, 0, false, mj_c16)
def mj_p17 : mj_M := ((2, "copyFrom", "(LDumplingBand$March;)V"), prog_4_method_3_code, 3, none, 0, 0, true, 1, false, mj_c17)
def mj_p18 : mj_M := ((2, "come", "()I"), prog_4_method_10_code, 3, (some .int), 4, 86, true, 0, false, mj_c18)
def mj_p19 : mj_M := ((2, "quarrel", "(I)I"), prog_4_method_11_code, 5, (some .int), 1, 21, true, 1, false, mj_c19)
def mj_p20 : mj_M := ((2, "skip", "()V"), prog_4_method_12_code, 1, none, 2, 41, true, 0, false, mj_c20)
def mj_p21 : mj_M := ((2, "sleep", "()I"), prog_4_method_13_code, 4, (some .int), 1, 21, true, 0, false, mj_c21)
def mj_p22 : mj_M := ((2, "canUnlock", "()Z"), prog_4_method_14_code, 1, (some .boolean), 3, 67, true, 0, false, mj_c22)
def mj_p23 : mj_M := ((2, "unlock", "()I"), prog_4_method_15_code, 2, (some .int), 0, 0, true, 0, false, mj_c23)
def mj_p24 : mj_M := ((2, "tries", "(I)Z"), prog_4_method_16_code, 3, (some .boolean), 5, 108, true, 1, false, mj_c24)
def mj_p25 : mj_M := ((3, "<init>", "()V"), prog_5_method_1_code, 1, none, 1, 21, true, 0, false, mj_c25)
def mj_p26 : mj_M := ((3, "clear", "()V"), prog_5_method_2_code, 1, none, 0, 0, true, 0, false, mj_c26)
def mj_p27 : mj_M := ((3, "addBeast", "(IIII)V"), prog_5_method_3_code, 5, none, 0, 0, true, 4, false, mj_c27)
def mj_p28 : mj_M := ((3, "canHaveEnemies", "()Z"), prog_5_method_6_code, 1, (some .boolean), 3, 64, true, 0, false, mj_c28)
def mj_p29 : mj_M := ((3, "thoseWhoMayHaveEnemies", "()I"), prog_5_method_7_code, 3, (some .int), 2, 42, true, 0, false, mj_c29)
def mj_p30 : mj_M := ((3, "newEnemiesFor", "(I)I"), prog_5_method_8_code, 2, (some .int), 1, 21, true, 1, false, mj_c30)
def mj_p31 : mj_M := ((3, "hasBeast", "(I)Z"), prog_5_method_9_code, 2, (some .boolean), 0, 0, true, 1, false, mj_c31)
def mj_p32 : mj_M := ((3, "allBeasts", "()I"), prog_5_method_11_code, 1, (some .int), 0, 0, true, 0, false, mj_c32)
def mj_p33 : mj_M := ((3, "addEnemies", "(II)V"), prog_5_method_5_code, 3, none, 1, 21, true, 2, false, mj_c33)
def mj_p34 : mj_M := ((3, "addGate", "(II)V"), prog_5_method_4_code, 3, none, 0, 0, true, 2, false, mj_c34)
def mj_p35 : mj_M := ((3, "strengthOf", "(I)I"), prog_5_method_13_code, 2, (some .int), 1, 24, true, 1, false, mj_c35)
def mj_p36 : mj_M := ((3, "sumOf", "([II)I"), prog_5_method_15_code, 5, (some .int), 0, 0, true, 2, false, mj_c36)
def mj_p37 : mj_M := ((3, "skillsOf", "(I)I"), prog_5_method_16_code, 4, (some .int), 0, 0, true, 1, false, mj_c37)
def mj_p38 : mj_M := ((3, "plainAsk", "(I)I"), prog_5_method_17_code, 2, (some .int), 1, 21, true, 1, false, mj_c38)
def mj_p39 : mj_M := ((3, "hasGate", "(I)Z"), prog_5_method_10_code, 2, (some .boolean), 0, 0, true, 1, false, mj_c39)
def mj_p40 : mj_M := ((3, "canOpen", "(II)Z"), prog_5_method_18_code, 3, (some .boolean), 2, 45, true, 2, false, mj_c40)
def mj_p41 : mj_M := ((3, "hasAll", "(I)Z"), prog_5_method_12_code, 2, (some .boolean), 1, 20, true, 1, false, mj_c41)
def mj_p42 : mj_M := ((3, "hasEnemies", "(I)Z"), prog_5_method_19_code, 4, (some .boolean), 0, 0, true, 1, false, mj_c42)
def mj_p43 : mj_M := ((3, "priceOf", "(I)I"), prog_5_method_14_code, 2, (some .int), 1, 24, true, 1, false, mj_c43)
def mj_p44 : mj_M := ((4, "<init>", "()V"), prog_6_method_1_code, 1, none, 1, 21, true, 0, false, mj_c44)
def mj_p45 : mj_M := ((4, "count", "(LDumplingBand$Road;I)I"), prog_6_method_2_code, 4, (some .int), 4, 91, true, 2, false, mj_c45)
def mj_p46 : mj_M := ((4, "waysOf", "(LDumplingBand$Road;I)I"), prog_6_method_3_code, 6, (some .int), 3, 66, true, 2, false, mj_c46)
def mj_p47 : mj_M := ((4, "isContent", "(LDumplingBand$Road;II)Z"), prog_6_method_4_code, 5, (some .boolean), 2, 42, true, 3, false, mj_c47)
def mj_p48 : mj_M := ((5, "<init>", "()V"), prog_7_method_1_code, 1, none, 1, 21, true, 0, false, mj_c48)
def mj_p49 : mj_M := ((5, "append", "(I)Z"), prog_7_method_2_code, 2, (some .boolean), 0, 0, true, 1, false, mj_c49)
def mj_p50 : mj_M := ((5, "read", "(LDumplingBand$Road;)I"), prog_7_method_3_code, 5, (some .int), 5, 109, true, 1, false, mj_c50)
def mj_p51 : mj_M := ((5, "expect", "(I)V"), prog_7_method_9_code, 2, none, 1, 20, true, 1, false, mj_c51)
def mj_p52 : mj_M := ((5, "peek", "()I"), prog_7_method_8_code, 1, (some .int), 0, 0, true, 0, false, mj_c52)
def mj_p53 : mj_M := ((5, "figure", "(II)I"), prog_7_method_10_code, 4, (some .int), 1, 20, true, 2, false, mj_c53)
def mj_p54 : mj_M := ((5, "readPart", "(LDumplingBand$Road;)V"), prog_7_method_4_code, 3, none, 4, 87, true, 1, false, mj_c54)
def mj_p55 : mj_M := ((5, "readBeast", "(LDumplingBand$Road;)V"), prog_7_method_5_code, 6, none, 2, 43, true, 1, false, mj_c55)
def mj_p56 : mj_M := ((5, "readEnemies", "(LDumplingBand$Road;)V"), prog_7_method_6_code, 4, none, 3, 64, true, 1, false, mj_c56)
def mj_p57 : mj_M := ((5, "figureOf", "(I)I"), prog_7_method_11_code, 3, (some .int), 1, 20, true, 1, false, mj_c57)
def mj_p58 : mj_M := ((5, "readGate", "(LDumplingBand$Road;)V"), prog_7_method_7_code, 5, none, 2, 43, true, 1, false, mj_c58)
def mj_p59 : mj_M := ((6, "<init>", "()V"), prog_1_method_1_code, 2, none, 3, 64, true, 0, false, mj_c59)
def mj_p60 : mj_M := ((6, "write", "(I)I"), prog_1_method_2_code, 2, (some .int), 1, 21, true, 1, false, mj_c60)
def mj_p61 : mj_M := ((6, "wipe", "()I"), prog_1_method_3_code, 2, (some .int), 0, 0, true, 0, false, mj_c61)
def mj_p62 : mj_M := ((6, "fault", "()I"), prog_1_method_4_code, 1, (some .int), 6, 133, true, 0, false, mj_c62)
def mj_p63 : mj_M := ((6, "road", "()I"), prog_1_method_5_code, 2, (some .int), 6, 133, true, 0, false, mj_c63)
def mj_p64 : mj_M := ((6, "about", "(I)I"), prog_1_method_6_code, 2, (some .int), 3, 61, true, 1, false, mj_c64)
def mj_p65 : mj_M := ((6, "beast", "(II)I"), prog_1_method_7_code, 3, (some .int), 3, 66, true, 2, false, mj_c65)
def mj_p66 : mj_M := ((6, "gate", "(II)I"), prog_1_method_8_code, 3, (some .int), 1, 21, true, 2, false, mj_c66)
def mj_p67 : mj_M := ((6, "give", "()I"), prog_1_method_9_code, 1, (some .int), 5, 108, true, 0, false, mj_c67)
def mj_p68 : mj_M := ((6, "pass", "()I"), prog_1_method_10_code, 1, (some .int), 3, 61, true, 0, false, mj_c68)
def mj_p69 : mj_M := ((6, "dusk", "()I"), prog_1_method_11_code, 1, (some .int), 2, 44, true, 0, false, mj_c69)
def mj_p70 : mj_M := ((6, "open", "()I"), prog_1_method_12_code, 1, (some .int), 4, 87, true, 0, false, mj_c70)
def mj_p71 : mj_M := ((6, "undo", "()I"), prog_1_method_13_code, 1, (some .int), 2, 43, true, 0, false, mj_c71)
def mj_p72 : mj_M := ((6, "taking", "(II)I"), prog_1_method_14_code, 4, (some .int), 6, 130, true, 2, false, mj_c72)
def mj_p73 : mj_M := ((6, "isToCome", "(I)Z"), prog_1_method_36_code, 3, (some .boolean), 2, 41, true, 1, false, mj_c73)
def mj_p74 : mj_M := ((6, "costOfTaking", "(I)I"), prog_1_method_37_code, 3, (some .int), 5, 108, true, 1, false, mj_c74)
def mj_p75 : mj_M := ((6, "cheapest", "(I)I"), prog_1_method_15_code, 6, (some .int), 6, 130, true, 1, false, mj_c75)
def mj_p76 : mj_M := ((6, "farthest", "(I)I"), prog_1_method_16_code, 7, (some .int), 6, 130, true, 1, false, mj_c76)
def mj_p77 : mj_M := ((6, "judged", "(II)I"), prog_1_method_17_code, 5, (some .int), 6, 130, true, 2, false, mj_c77)
def mj_p78 : mj_M := ((6, "power", "(II)I"), prog_1_method_40_code, 4, (some .int), 0, 0, true, 2, true, mj_c78)
def mj_p79 : mj_M := ((6, "orders", "(I)I"), prog_1_method_18_code, 2, (some .int), 5, 114, true, 1, false, mj_c79)
def mj_p80 : mj_M := ((6, "lasts", "()I"), prog_1_method_19_code, 2, (some .int), 2, 44, true, 0, false, mj_c80)
def mj_p81 : mj_M := ((6, "feeds", "()I"), prog_1_method_20_code, 1, (some .int), 1, 21, true, 0, false, mj_c81)
def mj_p82 : mj_M := ((6, "odds", "(IZ)I"), prog_1_method_21_code, 6, (some .int), 2, 49, true, 2, false, mj_c82)
def mj_p83 : mj_M := ((6, "inLeastTerms", "(IIZ)I"), prog_1_method_41_code, 5, (some .int), 1, 25, true, 3, true, mj_c83)
def mj_p84 : mj_M := ((6, "greatestDivisor", "(II)I"), prog_1_method_42_code, 6, (some .int), 0, 0, true, 2, true, mj_c84)
def mj_p85 : mj_M := ((6, "first", "(I)I"), prog_1_method_22_code, 6, (some .int), 1, 21, true, 1, false, mj_c85)
def mj_p86 : mj_M := ((6, "boat", "(I)I"), prog_1_method_23_code, 2, (some .int), 3, 76, true, 1, false, mj_c86)
def mj_p87 : mj_M := ((6, "share", "(II)I"), prog_1_method_24_code, 3, (some .int), 3, 68, true, 2, false, mj_c87)
def mj_p88 : mj_M := ((6, "isCoins", "(I)Z"), prog_1_method_35_code, 1, (some .boolean), 0, 0, true, 1, true, mj_c88)
def mj_p89 : mj_M := ((6, "shareOf", "(II)I"), prog_1_method_38_code, 4, (some .int), 2, 45, true, 2, false, mj_c89)
def mj_p90 : mj_M := ((6, "envies", "(I)I"), prog_1_method_25_code, 4, (some .int), 3, 68, true, 1, false, mj_c90)
def mj_p91 : mj_M := ((6, "eaten", "(II)I"), prog_1_method_26_code, 6, (some .int), 2, 45, true, 2, false, mj_c91)
def mj_p92 : mj_M := ((6, "isAsTold", "(I)Z"), prog_1_method_39_code, 3, (some .boolean), 1, 20, true, 1, false, mj_c92)
def mj_p93 : mj_M := ((6, "tell", "(IZ)I"), prog_1_method_27_code, 3, (some .int), 1, 21, true, 2, false, mj_c93)
def mj_p94 : mj_M := ((6, "untell", "()I"), prog_1_method_28_code, 2, (some .int), 0, 0, true, 0, false, mj_c94)
def mj_p95 : mj_M := ((6, "luck", "(IIZ)I"), prog_1_method_29_code, 7, (some .int), 3, 67, true, 3, false, mj_c95)
def mj_p96 : mj_M := ((6, "seed", "(J)J"), prog_1_method_30_code, 5, (some .long), 0, 0, false, 1, false, mj_c96)
def mj_p97 : mj_M := ((6, "roam", "(I)I"), prog_1_method_31_code, 3, (some .int), 5, 108, true, 1, false, mj_c97)
def mj_p98 : mj_M := ((6, "keep", "(I)I"), prog_1_method_32_code, 2, (some .int), 1, 22, true, 1, false, mj_c98)
def mj_p99 : mj_M := ((6, "isSlot", "(I)Z"), prog_1_method_34_code, 1, (some .boolean), 0, 0, true, 1, true, mj_c99)
def mj_p100 : mj_M := ((6, "again", "(I)I"), prog_1_method_33_code, 2, (some .int), 1, 22, true, 1, false, mj_c100)
def mj_p101 : mj_M := ((7, "<init>", "()V"), prog_9_method_1_code, 1, none, 1, 21, true, 0, false, mj_c101)
def mj_p102 : mj_M := ((7, "write", "(I)I"), prog_9_method_8_code, 2, (some .int), 1, 25, true, 1, false, mj_c102)
def mj_p103 : mj_M := ((7, "in", "(JJJ)Z"), prog_9_method_3_code, 6, (some .boolean), 0, 0, false, 3, true, mj_c103)
def mj_p104 : mj_M := ((7, "wipe", "()I"), prog_9_method_9_code, 2, (some .int), 0, 0, true, 0, false, mj_c104)
def mj_p105 : mj_M := ((7, "fault", "()I"), prog_9_method_18_code, 1, (some .int), 5, 116, true, 0, false, mj_c105)
def mj_p106 : mj_M := ((7, "readRoad", "()I"), prog_9_method_17_code, 3, (some .int), 4, 94, true, 0, false, mj_c106)
def mj_p107 : mj_M := ((7, "figure", "(II)I"), prog_9_method_10_code, 3, (some .int), 1, 25, true, 2, false, mj_c107)
def mj_p108 : mj_M := ((7, "readPart", "()Z"), prog_9_method_16_code, 5, (some .boolean), 3, 70, true, 0, false, mj_c108)
def mj_p109 : mj_M := ((7, "hasOpen", "()Z"), prog_9_method_13_code, 3, (some .boolean), 1, 21, true, 0, false, mj_c109)
def mj_p110 : mj_M := ((7, "openOf", "(I)I"), prog_9_method_12_code, 2, (some .int), 0, 0, true, 1, false, mj_c110)
def mj_p111 : mj_M := ((7, "readBeast", "()Z"), prog_9_method_11_code, 3, (some .boolean), 2, 47, true, 0, false, mj_c111)
def mj_p112 : mj_M := ((7, "readEnemies", "()Z"), prog_9_method_14_code, 3, (some .boolean), 1, 25, true, 0, false, mj_c112)
def mj_p113 : mj_M := ((7, "has", "(II)Z"), prog_9_method_4_code, 2, (some .boolean), 0, 0, true, 2, true, mj_c113)
def mj_p114 : mj_M := ((7, "readGate", "()Z"), prog_9_method_15_code, 4, (some .boolean), 2, 47, true, 0, false, mj_c114)
def mj_p115 : mj_M := ((7, "road", "()I"), prog_9_method_19_code, 2, (some .int), 5, 116, true, 0, false, mj_c115)
def mj_p116 : mj_M := ((7, "about", "(I)I"), prog_9_method_23_code, 2, (some .int), 2, 44, true, 1, false, mj_c116)
def mj_p117 : mj_M := ((7, "strengthOf", "(I)I"), prog_9_method_20_code, 4, (some .int), 1, 21, true, 1, false, mj_c117)
def mj_p118 : mj_M := ((7, "skillsOf", "(I)I"), prog_9_method_21_code, 4, (some .int), 1, 21, true, 1, false, mj_c118)
def mj_p119 : mj_M := ((7, "beast", "(II)I"), prog_9_method_24_code, 3, (some .int), 2, 46, true, 2, false, mj_c119)
def mj_p120 : mj_M := ((7, "noBeast", "(I)Z"), prog_9_method_6_code, 2, (some .boolean), 1, 25, true, 1, false, mj_c120)
def mj_p121 : mj_M := ((7, "asks", "([II)I"), prog_9_method_22_code, 5, (some .int), 1, 21, true, 2, false, mj_c121)
def mj_p122 : mj_M := ((7, "gate", "(II)I"), prog_9_method_25_code, 3, (some .int), 2, 46, true, 2, false, mj_c122)
def mj_p123 : mj_M := ((7, "noGate", "(I)Z"), prog_9_method_7_code, 2, (some .boolean), 1, 25, true, 1, false, mj_c123)
def mj_p124 : mj_M := ((7, "give", "()I"), prog_9_method_32_code, 1, (some .int), 3, 70, true, 0, false, mj_c124)
def mj_p125 : mj_M := ((7, "canGive", "([I)Z"), prog_9_method_28_code, 2, (some .boolean), 2, 45, true, 1, false, mj_c125)
def mj_p126 : mj_M := ((7, "note", "()V"), prog_9_method_26_code, 2, none, 0, 0, true, 0, false, mj_c126)
def mj_p127 : mj_M := ((7, "goGive", "([I)I"), prog_9_method_27_code, 6, (some .int), 2, 45, true, 1, false, mj_c127)
def mj_p128 : mj_M := ((7, "pass", "()I"), prog_9_method_33_code, 1, (some .int), 1, 21, true, 0, false, mj_c128)
def mj_p129 : mj_M := ((7, "dusk", "()I"), prog_9_method_34_code, 1, (some .int), 2, 44, true, 0, false, mj_c129)
def mj_p130 : mj_M := ((7, "goDusk", "([I)I"), prog_9_method_29_code, 4, (some .int), 1, 21, true, 1, false, mj_c130)
def mj_p131 : mj_M := ((7, "open", "()I"), prog_9_method_35_code, 1, (some .int), 4, 87, true, 0, false, mj_c131)
def mj_p132 : mj_M := ((7, "canOpen", "([I)Z"), prog_9_method_31_code, 2, (some .boolean), 3, 66, true, 1, false, mj_c132)
def mj_p133 : mj_M := ((7, "opens", "(II)Z"), prog_9_method_30_code, 3, (some .boolean), 2, 44, true, 2, false, mj_c133)
def mj_p134 : mj_M := ((7, "undo", "()I"), prog_9_method_36_code, 2, (some .int), 0, 0, true, 0, false, mj_c134)
def mj_p135 : mj_M := ((7, "taking", "(II)I"), prog_9_method_40_code, 4, (some .int), 5, 108, true, 2, false, mj_c135)
def mj_p136 : mj_M := ((7, "noSet", "(I)Z"), prog_9_method_39_code, 2, (some .boolean), 1, 25, true, 1, false, mj_c136)
def mj_p137 : mj_M := ((7, "take", "(I)I"), prog_9_method_38_code, 2, (some .int), 4, 87, true, 1, false, mj_c137)
def mj_p138 : mj_M := ((7, "begin", "()V"), prog_9_method_37_code, 2, none, 0, 0, true, 0, false, mj_c138)
def mj_p139 : mj_M := ((7, "cheapest", "(I)I"), prog_9_method_41_code, 6, (some .int), 5, 108, true, 1, false, mj_c139)
def mj_p140 : mj_M := ((7, "farthest", "(I)I"), prog_9_method_42_code, 7, (some .int), 5, 108, true, 1, false, mj_c140)
def mj_p141 : mj_M := ((7, "judged", "(II)I"), prog_9_method_44_code, 6, (some .int), 4, 87, true, 2, false, mj_c141)
def mj_p142 : mj_M := ((7, "ten", "(I)I"), prog_9_method_43_code, 3, (some .int), 0, 0, true, 1, true, mj_c142)
def mj_p143 : mj_M := ((7, "orders", "(I)I"), prog_9_method_46_code, 6, (some .int), 1, 27, true, 1, false, mj_c143)
def mj_p144 : mj_M := ((7, "many", "(I)I"), prog_9_method_5_code, 3, (some .int), 0, 0, true, 1, true, mj_c144)
def mj_p145 : mj_M := ((7, "mayCome", "(II)Z"), prog_9_method_45_code, 8, (some .boolean), 0, 0, true, 2, false, mj_c145)
def mj_p146 : mj_M := ((7, "lasts", "()I"), prog_9_method_47_code, 2, (some .int), 2, 44, true, 0, false, mj_c146)
def mj_p147 : mj_M := ((7, "feeds", "()I"), prog_9_method_48_code, 2, (some .int), 1, 22, true, 0, false, mj_c147)
def mj_p148 : mj_M := ((7, "odds", "(IZ)I"), prog_9_method_52_code, 6, (some .int), 2, 47, true, 2, false, mj_c148)
def mj_p149 : mj_M := ((7, "hasSkill", "(II)Z"), prog_9_method_51_code, 3, (some .boolean), 1, 21, true, 2, false, mj_c149)
def mj_p150 : mj_M := ((7, "fraction", "(IIZ)I"), prog_9_method_50_code, 4, (some .int), 1, 24, true, 3, true, mj_c150)
def mj_p151 : mj_M := ((7, "divisor", "(II)I"), prog_9_method_49_code, 5, (some .int), 0, 0, true, 2, true, mj_c151)
def mj_p152 : mj_M := ((7, "first", "(I)I"), prog_9_method_53_code, 4, (some .int), 2, 46, true, 1, false, mj_c152)
def mj_p153 : mj_M := ((7, "boat", "(I)I"), prog_9_method_55_code, 10, (some .int), 2, 44, true, 1, false, mj_c153)
def mj_p154 : mj_M := ((7, "isQuiet", "(I)Z"), prog_9_method_54_code, 4, (some .boolean), 1, 21, true, 1, false, mj_c154)
def mj_p155 : mj_M := ((7, "share", "(II)I"), prog_9_method_57_code, 3, (some .int), 3, 66, true, 2, false, mj_c155)
def mj_p156 : mj_M := ((7, "shareOf", "(II)I"), prog_9_method_56_code, 3, (some .int), 2, 44, true, 2, false, mj_c156)
def mj_p157 : mj_M := ((7, "envies", "(I)I"), prog_9_method_58_code, 4, (some .int), 3, 66, true, 1, false, mj_c157)
def mj_p158 : mj_M := ((7, "eaten", "(II)I"), prog_9_method_59_code, 9, (some .int), 1, 25, true, 2, false, mj_c158)
def mj_p159 : mj_M := ((7, "tell", "(IZ)I"), prog_9_method_60_code, 3, (some .int), 2, 46, true, 2, false, mj_c159)
def mj_p160 : mj_M := ((7, "untell", "()I"), prog_9_method_61_code, 2, (some .int), 0, 0, true, 0, false, mj_c160)
def mj_p161 : mj_M := ((7, "luck", "(IIZ)I"), prog_9_method_62_code, 8, (some .int), 3, 66, true, 3, false, mj_c161)
def mj_p162 : mj_M := ((7, "seed", "(J)J"), prog_9_method_63_code, 5, (some .long), 0, 0, false, 1, false, mj_c162)
def mj_p163 : mj_M := ((7, "roam", "(I)I"), prog_9_method_64_code, 2, (some .int), 3, 70, true, 1, false, mj_c163)
def mj_p164 : mj_M := ((7, "keep", "(I)I"), prog_9_method_65_code, 3, (some .int), 1, 25, true, 1, false, mj_c164)
def mj_p165 : mj_M := ((7, "again", "(I)I"), prog_9_method_66_code, 3, (some .int), 1, 25, true, 1, false, mj_c165)
def mj_p166 : mj_M := ((9, "bitCount", "(I)I"), prog_10_method_49_code, 1, (some .int), 0, 0, true, 1, true, mj_c166)
def mj_p167 : mj_M := ((8, "law", "([I)Z"), code, 4, (some .boolean), 7, 156, true, 1, true, mj_c167)
def mj_P : List mj_M := [mj_p0, mj_p1, mj_p2, mj_p3, mj_p4, mj_p5, mj_p6, mj_p7, mj_p8, mj_p9, mj_p10, mj_p11, mj_p12, mj_p13, mj_p14, mj_p15, mj_p16, mj_p17, mj_p18, mj_p19, mj_p20, mj_p21, mj_p22, mj_p23, mj_p24, mj_p25, mj_p26, mj_p27, mj_p28, mj_p29, mj_p30, mj_p31, mj_p32, mj_p33, mj_p34, mj_p35, mj_p36, mj_p37, mj_p38, mj_p39, mj_p40, mj_p41, mj_p42, mj_p43, mj_p44, mj_p45, mj_p46, mj_p47, mj_p48, mj_p49, mj_p50, mj_p51, mj_p52, mj_p53, mj_p54, mj_p55, mj_p56, mj_p57, mj_p58, mj_p59, mj_p60, mj_p61, mj_p62, mj_p63, mj_p64, mj_p65, mj_p66, mj_p67, mj_p68, mj_p69, mj_p70, mj_p71, mj_p72, mj_p73, mj_p74, mj_p75, mj_p76, mj_p77, mj_p78, mj_p79, mj_p80, mj_p81, mj_p82, mj_p83, mj_p84, mj_p85, mj_p86, mj_p87, mj_p88, mj_p89, mj_p90, mj_p91, mj_p92, mj_p93, mj_p94, mj_p95, mj_p96, mj_p97, mj_p98, mj_p99, mj_p100, mj_p101, mj_p102, mj_p103, mj_p104, mj_p105, mj_p106, mj_p107, mj_p108, mj_p109, mj_p110, mj_p111, mj_p112, mj_p113, mj_p114, mj_p115, mj_p116, mj_p117, mj_p118, mj_p119, mj_p120, mj_p121, mj_p122, mj_p123, mj_p124, mj_p125, mj_p126, mj_p127, mj_p128, mj_p129, mj_p130, mj_p131, mj_p132, mj_p133, mj_p134, mj_p135, mj_p136, mj_p137, mj_p138, mj_p139, mj_p140, mj_p141, mj_p142, mj_p143, mj_p144, mj_p145, mj_p146, mj_p147, mj_p148, mj_p149, mj_p150, mj_p151, mj_p152, mj_p153, mj_p154, mj_p155, mj_p156, mj_p157, mj_p158, mj_p159, mj_p160, mj_p161, mj_p162, mj_p163, mj_p164, mj_p165, mj_p166, mj_p167]
def mj_g (i : Nat) : mj_M := mj_P.getD i ((0, "", ""), ⟨#[]⟩, 0, none, 0, 0, false, 0, false, [])
def mj_w (i : Nat) : Nat := (mj_g i).1.1
def mj_y (i : Nat) : MethodName := ⟨mj_on (mj_g i).1.1, (mj_g i).1.2.1, (mj_g i).1.2.2⟩
def mj_b (i : Nat) : ByteArray := (mj_g i).2.1
def mj_m (i : Nat) : Nat := (mj_g i).2.2.1
def mj_r (i : Nat) : Option FieldType := (mj_g i).2.2.2.1
def mj_f (i : Nat) : Nat := (mj_g i).2.2.2.2.1
def mj_o (i : Nat) : Nat := (mj_g i).2.2.2.2.2.1
def mj_t (i : Nat) : Bool := (mj_g i).2.2.2.2.2.2.1
def mj_n (i : Nat) : Nat := (mj_g i).2.2.2.2.2.2.2.1
def mj_z (i : Nat) : Bool := (mj_g i).2.2.2.2.2.2.2.2.1
def mj_code (i : Nat) : List mj_Row := (mj_g i).2.2.2.2.2.2.2.2.2
def mj_at (i pc : Nat) : Option (Instr × Nat × Nat × Nat) := (mj_code i).lookup pc
def mj_W : List Cond := lw_tbl.filter goodWord
def mj_has (p : Nat) (c : Cond) : Bool := decide (lw_tbl[p]? = some c) && goodWord c
theorem mj_has_in {p : Nat} {c : Cond} (h : mj_has p c = true) : c ∈ mj_W := by
  simp only [mj_has, Bool.and_eq_true, decide_eq_true_eq] at h
  exact List.mem_filter.mpr ⟨List.mem_of_getElem? h.1, h.2⟩
def mj_lkF : List (Nat × Nat × Nat × Nat × Nat) := [(5, 9, 5, 0, 71), (5, 15, 5, 1, 72), (6, 71, 5, 1, 73), (5, 19, 5, 2, 74), (5, 22, 5, 3, 75), (3, 33, 3, 0, 92), (2, 19, 3, 0, 93), (5, 39, 3, 0, 94), (3, 37, 3, 1, 95), (4, 19, 3, 1, 96), (5, 50, 3, 1, 97), (6, 85, 3, 1, 98), (2, 65, 3, 1, 99), (3, 40, 3, 2, 100), (5, 63, 3, 2, 101), (6, 105, 3, 2, 102), (3, 9, 3, 3, 103), (4, 29, 3, 3, 104), (2, 52, 3, 3, 105), (6, 123, 3, 3, 106), (3, 15, 3, 4, 107), (4, 36, 3, 4, 108), (6, 127, 3, 4, 109), (3, 18, 3, 5, 110), (6, 130, 3, 5, 111), (2, 83, 3, 5, 112), (3, 21, 3, 6, 113), (6, 133, 3, 6, 114), (3, 24, 3, 7, 115), (6, 136, 3, 7, 116), (2, 80, 3, 7, 117), (3, 27, 3, 8, 118), (6, 151, 3, 8, 119), (3, 30, 3, 9, 120), (6, 154, 3, 9, 121), (2, 15, 2, 0, 149), (2, 25, 2, 1, 150), (6, 88, 2, 1, 151), (2, 28, 2, 2, 152), (6, 91, 2, 2, 153), (2, 31, 2, 3, 154), (6, 98, 2, 3, 155), (2, 34, 2, 4, 156), (6, 256, 2, 4, 157), (2, 37, 2, 5, 158), (6, 108, 2, 5, 159), (2, 9, 2, 6, 160), (6, 145, 2, 6, 161), (0, 11, 0, 0, 186), (0, 32, 0, 1, 187), (0, 20, 0, 2, 188), (6, 111, 0, 2, 189), (1, 11, 1, 0, 203), (1, 15, 1, 1, 204), (1, 18, 1, 2, 205), (4, 9, 4, 0, 220), (6, 10, 6, 0, 224), (6, 19, 6, 1, 225), (6, 23, 6, 2, 226), (6, 31, 6, 3, 227), (6, 35, 6, 4, 228), (6, 41, 6, 5, 229), (6, 45, 6, 6, 230), (6, 49, 6, 7, 231), (6, 56, 6, 8, 232), (6, 63, 6, 9, 233), (6, 114, 6, 10, 234), (6, 242, 6, 11, 235), (6, 245, 6, 12, 236), (6, 252, 6, 13, 237), (7, 62, 7, 0, 680), (7, 7, 7, 1, 681), (7, 78, 7, 2, 682), (7, 81, 7, 3, 683), (7, 66, 7, 4, 684), (7, 73, 7, 5, 685), (7, 13, 7, 6, 686), (7, 16, 7, 7, 687), (7, 19, 7, 8, 688), (7, 88, 7, 9, 689), (7, 99, 7, 10, 690), (7, 115, 7, 11, 691), (7, 22, 7, 12, 692), (7, 25, 7, 13, 693), (7, 28, 7, 14, 694), (7, 31, 7, 15, 695), (7, 34, 7, 16, 696), (7, 37, 7, 17, 697), (7, 125, 7, 18, 698), (7, 40, 7, 19, 699), (7, 43, 7, 20, 700), (7, 131, 7, 21, 701), (7, 47, 7, 22, 702), (7, 50, 7, 23, 703), (7, 214, 7, 24, 704), (7, 53, 7, 25, 705), (7, 56, 7, 26, 706), (7, 59, 7, 27, 707)]
def mj_lkM : List (Nat × Nat × Nat × Nat) := [(8, 9, 59, 59), (6, 28, 9, 145), (6, 40, 0, 179), (0, 17, 9, 185), (8, 13, 60, 267), (6, 67, 49, 271), (8, 18, 61, 275), (8, 23, 62, 279), (6, 75, 50, 283), (5, 26, 26, 287), (5, 31, 51, 291), (5, 46, 52, 295), (5, 35, 53, 299), (5, 42, 54, 303), (5, 53, 55, 307), (5, 69, 27, 311), (5, 56, 28, 315), (3, 47, 29, 319), (3, 51, 30, 323), (3, 43, 31, 327), (3, 55, 32, 331), (5, 60, 56, 335), (5, 73, 29, 339), (5, 76, 57, 340), (5, 80, 30, 344), (5, 83, 33, 345), (5, 66, 58, 349), (5, 87, 34, 353), (8, 27, 63, 357), (6, 79, 10, 361), (6, 82, 1, 365), (8, 31, 64, 369), (6, 94, 35, 373), (3, 58, 36, 377), (6, 101, 11, 381), (2, 44, 12, 385), (2, 40, 31, 389), (6, 117, 37, 390), (8, 35, 65, 394), (6, 120, 31, 398), (6, 139, 13, 399), (2, 48, 38, 403), (2, 55, 14, 407), (2, 68, 15, 411), (6, 142, 15, 418), (8, 40, 66, 419), (6, 148, 39, 423), (8, 44, 67, 427), (6, 157, 12, 431), (6, 161, 16, 432), (2, 71, 13, 436), (6, 164, 2, 437), (0, 24, 3, 441), (0, 28, 17, 445), (6, 168, 18, 449), (2, 74, 16, 453), (2, 77, 19, 454), (8, 48, 68, 458), (6, 171, 20, 462), (8, 52, 69, 466), (6, 174, 21, 470), (8, 56, 70, 474), (6, 177, 22, 478), (2, 86, 40, 482), (3, 62, 39, 486), (3, 65, 37, 487), (3, 68, 35, 488), (6, 180, 23, 489), (8, 60, 71, 493), (6, 183, 4, 497), (8, 64, 72, 501), (6, 187, 73, 505), (6, 206, 41, 509), (6, 190, 74, 513), (6, 200, 17, 517), (8, 68, 75, 518), (6, 193, 32, 522), (8, 72, 76, 523), (8, 76, 77, 527), (6, 196, 78, 531), (6, 203, 24, 534), (2, 90, 22, 538), (2, 93, 20, 539), (2, 96, 18, 540), (2, 99, 21, 541), (2, 102, 23, 542), (8, 80, 79, 543), (6, 209, 45, 547), (4, 15, 46, 551), (4, 25, 47, 555), (4, 32, 38, 559), (8, 84, 80, 560), (8, 88, 81, 564), (6, 212, 166, 568), (8, 92, 82, 577), (6, 222, 83, 581), (6, 268, 84, 584), (8, 97, 85, 587), (8, 101, 86, 591), (6, 226, 6, 595), (1, 22, 7, 599), (1, 26, 8, 603), (1, 30, 166, 607), (1, 36, 42, 608), (8, 105, 87, 612), (6, 230, 88, 616), (6, 233, 89, 619), (8, 109, 90, 623), (8, 113, 91, 627), (6, 236, 43, 631), (6, 239, 92, 635), (8, 117, 93, 639), (8, 121, 94, 643), (8, 125, 95, 647), (6, 248, 40, 651), (8, 132, 96, 652), (8, 137, 97, 656), (8, 141, 98, 663), (6, 265, 99, 667), (8, 145, 100, 670), (8, 12, 101, 676), (8, 17, 102, 765), (7, 69, 103, 770), (8, 22, 104, 773), (8, 26, 105, 777), (7, 121, 106, 781), (7, 84, 107, 785), (7, 118, 108, 789), (7, 102, 109, 793), (7, 91, 110, 797), (7, 106, 111, 801), (7, 109, 112, 805), (7, 95, 113, 809), (7, 112, 114, 812), (8, 30, 115, 816), (8, 34, 116, 820), (7, 128, 117, 824), (7, 134, 118, 828), (8, 39, 119, 832), (7, 137, 120, 836), (7, 143, 121, 841), (8, 43, 122, 845), (7, 147, 123, 849), (8, 47, 124, 853), (7, 153, 125, 857), (7, 157, 126, 861), (7, 160, 127, 865), (8, 51, 128, 869), (8, 55, 129, 873), (7, 164, 130, 877), (8, 59, 131, 881), (7, 167, 132, 885), (7, 150, 133, 889), (8, 63, 134, 893), (8, 67, 135, 897), (7, 173, 136, 901), (7, 178, 137, 906), (7, 170, 138, 910), (8, 71, 139, 914), (8, 75, 140, 918), (8, 79, 141, 922), (7, 183, 142, 927), (8, 83, 143, 930), (7, 186, 144, 934), (7, 189, 145, 937), (8, 87, 146, 941), (8, 91, 147, 945), (8, 96, 148, 949), (7, 195, 149, 953), (7, 198, 150, 957), (7, 192, 151, 960), (8, 100, 152, 963), (8, 104, 153, 967), (7, 202, 154, 971), (8, 108, 155, 975), (7, 207, 156, 980), (8, 112, 157, 984), (8, 116, 158, 988), (8, 120, 159, 993), (8, 124, 160, 997), (8, 129, 161, 1001), (8, 136, 162, 1006), (8, 140, 163, 1010), (8, 144, 164, 1016), (8, 148, 165, 1020)]
def mj_lkO : List (Nat × Nat × Nat) := [(6, 1, 62), (5, 3, 70), (3, 3, 91), (2, 3, 148), (0, 3, 182), (1, 3, 202), (4, 3, 219), (7, 1, 679)]
def mj_lkX : List (Nat × Nat × Nat × Nat) := [(2, 59, 998, 415), (6, 217, 997, 574)]
def mj_lkC : List (Nat × Nat × Nat × Nat) := [(8, 7, 6, 57), (6, 7, 5, 65), (6, 16, 3, 86), (6, 26, 2, 143), (6, 38, 0, 177), (0, 9, 2, 183), (6, 53, 1, 197), (6, 60, 4, 214), (8, 10, 7, 674)]
def mj_longs : List (Int64) := [10, 1442695040888963407, 2, 255, 3, 4294967295, 60, 6364136223846793005, 8, 99]
def mj_lkL : List (Nat × Nat × Nat × Nat) := [(6, 259, 7, 660), (6, 261, 1, 661), (6, 263, 0, 662), (7, 76, 3, 769), (7, 141, 4, 840), (7, 176, 2, 905), (7, 181, 8, 926), (7, 205, 9, 979), (7, 210, 6, 992), (7, 212, 0, 1005), (7, 218, 7, 1014), (7, 220, 1, 1015), (8, 130, 5, 1024)]
def mj_lkI : List (Nat × Nat × Nat × Nat) := [(9, 265, 1431655765, 571), (9, 266, 858993459, 572), (9, 267, 252645135, 573)]
def mj_lng (a : Nat) : Int64 := mj_longs.getD a 0
def mj_tf (a b : Nat) : String × String × String × Bool := match mj_cl[a]? with | some q => q.2.1 b | none => ("", "", "", false)
def mj_nf (a : Nat) : Nat := match mj_cl[a]? with | some q => q.2.2 | none => 0
def mj_lkN : List (Nat × Nat × Nat) := [(6, 9, 48), (6, 18, 25), (6, 55, 5), (6, 62, 44)]
def mj_nest : List (String × Nat × MethodName × String) := mj_lkN.map (fun w => (mj_on w.1, w.2.1, mj_y w.2.2, "DumplingBand"))
def mj_inip : List (Nat) := [51, 52, 50, 49, 53, 48, 47, 54, 46, 56, 55, 5000]
def mj_insp : List Nat := [178, 198, 144, 87, 215, 66, 58, 675]
def mj_mp : List (Nat × Nat × Nat) := [(181, 180, 5000), (368, 366, 367), (440, 438, 439), (444, 443, 10), (500, 498, 499), (201, 200, 5000), (598, 596, 597), (602, 601, 16), (606, 605, 17), (147, 146, 5000), (364, 362, 363), (384, 382, 383), (388, 386, 387), (402, 400, 401), (410, 409, 9), (414, 412, 413), (435, 433, 434), (448, 446, 447), (452, 450, 451), (457, 456, 11), (465, 463, 464), (473, 471, 472), (481, 479, 480), (492, 490, 491), (537, 535, 536), (90, 89, 5000), (290, 288, 289), (314, 312, 313), (318, 316, 317), (322, 320, 321), (326, 324, 325), (330, 328, 329), (334, 332, 333), (348, 346, 347), (356, 354, 355), (376, 374, 375), (380, 379, 8), (393, 391, 392), (406, 404, 405), (426, 424, 425), (485, 483, 484), (512, 510, 511), (611, 609, 610), (634, 632, 633), (218, 217, 5000), (550, 548, 549), (554, 553, 14), (558, 557, 15), (69, 68, 5000), (274, 272, 273), (286, 284, 285), (294, 293, 0), (298, 297, 1), (302, 301, 2), (306, 305, 3), (310, 309, 4), (338, 337, 5), (343, 342, 6), (352, 351, 7), (61, 60, 5000), (270, 268, 269), (278, 276, 277), (282, 280, 281), (360, 358, 359), (372, 370, 371), (397, 395, 396), (422, 420, 421), (430, 428, 429), (461, 459, 460), (469, 467, 468), (477, 475, 476), (496, 494, 495), (504, 502, 503), (508, 507, 12), (516, 515, 13), (521, 519, 520), (526, 524, 525), (530, 528, 529), (533, 532, 5000), (546, 544, 545), (563, 561, 562), (567, 565, 566), (580, 578, 579), (583, 582, 5000), (586, 585, 5000), (590, 588, 589), (594, 592, 593), (615, 613, 614), (618, 617, 5000), (622, 621, 18), (626, 624, 625), (630, 628, 629), (638, 637, 19), (642, 640, 641), (646, 644, 645), (650, 648, 649), (655, 653, 654), (659, 657, 658), (666, 664, 665), (669, 668, 5000), (673, 671, 672), (678, 677, 5000), (768, 766, 767), (772, 771, 5000), (776, 774, 775), (780, 778, 779), (784, 783, 20), (788, 787, 21), (792, 791, 22), (796, 795, 23), (800, 799, 24), (804, 803, 25), (808, 807, 26), (811, 810, 5000), (815, 814, 27), (819, 817, 818), (823, 821, 822), (827, 826, 28), (831, 830, 29), (835, 833, 834), (839, 838, 30), (844, 843, 31), (848, 846, 847), (852, 851, 32), (856, 854, 855), (860, 859, 33), (864, 863, 34), (868, 867, 35), (872, 870, 871), (876, 874, 875), (880, 879, 36), (884, 882, 883), (888, 887, 37), (892, 891, 38), (896, 894, 895), (900, 898, 899), (904, 903, 39), (909, 908, 40), (913, 912, 41), (917, 915, 916), (921, 919, 920), (925, 923, 924), (929, 928, 5000), (933, 931, 932), (936, 935, 5000), (940, 939, 42), (944, 942, 943), (948, 946, 947), (952, 950, 951), (956, 955, 43), (959, 958, 5000), (962, 961, 5000), (966, 964, 965), (970, 968, 969), (974, 973, 44), (978, 976, 977), (983, 982, 45), (987, 985, 986), (991, 989, 990), (996, 994, 995), (1000, 998, 999), (1004, 1002, 1003), (1009, 1007, 1008), (1013, 1011, 1012), (1019, 1017, 1018), (1023, 1021, 1022), (570, 569, 5000)]
def mj_chM (i : Nat) : Bool := mj_has (mj_mp.getD i (0, 0, 0)).2.1 (if mj_z i then .static (mj_y i) else .instanceMethod (mj_y i)) && (mj_z i || (mj_y i).name == "<init>" || mj_has (mj_mp.getD i (0, 0, 0)).2.2 (.selects (mj_y i).cls (mj_y i) (mj_y i))) && plainName (mj_y i).cls && decide ((mj_y i).cls ≠ "java/lang/invoke/MethodHandle" ∧ (mj_y i).cls ≠ "java/lang/invoke/VarHandle" ∧ (parseMethodDescriptor (mj_y i).desc).map (fun d => d.parameters.length) = some (mj_n i)) && decide (mj_w i < 11) && ((mj_y i).name != "<init>" || decide (mj_r i = none))
def mj_layp : List (List Nat) := [[190, 192, 194], [206, 208, 210], [162, 164, 166, 168, 170, 172, 174], [122, 124, 126, 128, 130, 132, 134, 136, 138, 140], [221], [76, 78, 80, 82], [238, 240, 242, 244, 246, 248, 250, 252, 254, 256, 258, 260, 262, 264], [708, 710, 712, 714, 716, 718, 720, 722, 724, 726, 728, 730, 732, 734, 736, 738, 740, 742, 744, 746, 748, 750, 752, 754, 756, 758, 760, 762]]
end
section
theorem mj_lkF_ok : mj_lkF.all (fun w => mj_has w.2.2.2.2 (.fieldLink (mj_on w.1) w.2.1 (mj_tf w.2.2.1 w.2.2.2.1).1 (mj_tf w.2.2.1 w.2.2.2.1).2.1 (mj_tf w.2.2.1 w.2.2.2.1).2.2.1) && decide (w.2.2.2.1 < mj_nf w.2.2.1)) = true := by decide +kernel
theorem mj_lkM_ok : mj_lkM.all (fun w => mj_has w.2.2.2 (.methodLink (mj_on w.1) w.2.1 (mj_y w.2.2.1))) = true := by decide +kernel
theorem mj_lkO_ok : mj_lkO.all (fun w => mj_has w.2.2 (.methodLink (mj_on w.1) w.2.1 Lib.objectInit)) = true := by decide +kernel
theorem mj_lkC_ok : mj_lkC.all (fun w => mj_has w.2.2.2 (.classLink (mj_on w.1) w.2.1 (mj_on w.2.2.1))) = true := by decide +kernel
theorem mj_lkL_ok : mj_lkL.all (fun w => mj_has w.2.2.2 (.constantLong (mj_on w.1) w.2.1 (mj_lng w.2.2.1))) = true := by decide +kernel
theorem mj_lkI_ok : mj_lkI.all (fun w => mj_has w.2.2.2 (.constant (mj_on w.1) w.2.1 (Int32.ofNat w.2.2.1))) = true := by decide +kernel
theorem mj_nest_ok : (mj_nest.zip [67, 88, 199, 216]).all (fun q => decide (lw_tbl[q.2]? = some (Cond.methodLinkNest q.1.1 q.1.2.1 q.1.2.2.1 q.1.2.2.2))) = true := by decide +kernel
theorem mj_ini_ok : (List.range 11).all (fun k => mj_has (mj_inip.getD k 0) (.initialized (mj_on k))) = true := by decide +kernel
theorem mj_ins_ok : (List.range 8).all (fun k => mj_has (mj_insp.getD k 0) (.instantiable (mj_on k) (mj_nf k))) = true := by decide +kernel
theorem mj_chM_0 : ∀ k, k < 30 → mj_chM (0 + k) = true := by decide +kernel
theorem mj_chM_30 : ∀ k, k < 30 → mj_chM (30 + k) = true := by decide +kernel
theorem mj_chM_60 : ∀ k, k < 30 → mj_chM (60 + k) = true := by decide +kernel
theorem mj_chM_90 : ∀ k, k < 30 → mj_chM (90 + k) = true := by decide +kernel
theorem mj_chM_120 : ∀ k, k < 30 → mj_chM (120 + k) = true := by decide +kernel
theorem mj_chM_150 : ∀ k, k < 17 → mj_chM (150 + k) = true := by decide +kernel
theorem mj_cd0 : lw_tbl[181]? = some (.code (mj_y 0) (mj_b 0) (mj_m 0) (mj_r 0)) := by decide +kernel
theorem mj_cd1 : lw_tbl[368]? = some (.code (mj_y 1) (mj_b 1) (mj_m 1) (mj_r 1)) := by decide +kernel
theorem mj_cd2 : lw_tbl[440]? = some (.code (mj_y 2) (mj_b 2) (mj_m 2) (mj_r 2)) := by decide +kernel
theorem mj_cd3 : lw_tbl[444]? = some (.code (mj_y 3) (mj_b 3) (mj_m 3) (mj_r 3)) := by decide +kernel
theorem mj_cd4 : lw_tbl[500]? = some (.code (mj_y 4) (mj_b 4) (mj_m 4) (mj_r 4)) := by decide +kernel
theorem mj_cd5 : lw_tbl[201]? = some (.code (mj_y 5) (mj_b 5) (mj_m 5) (mj_r 5)) := by decide +kernel
theorem mj_cd6 : lw_tbl[598]? = some (.code (mj_y 6) (mj_b 6) (mj_m 6) (mj_r 6)) := by decide +kernel
theorem mj_cd7 : lw_tbl[602]? = some (.code (mj_y 7) (mj_b 7) (mj_m 7) (mj_r 7)) := by decide +kernel
theorem mj_cd8 : lw_tbl[606]? = some (.code (mj_y 8) (mj_b 8) (mj_m 8) (mj_r 8)) := by decide +kernel
theorem mj_cd9 : lw_tbl[147]? = some (.code (mj_y 9) (mj_b 9) (mj_m 9) (mj_r 9)) := by decide +kernel
theorem mj_cd10 : lw_tbl[364]? = some (.code (mj_y 10) (mj_b 10) (mj_m 10) (mj_r 10)) := by decide +kernel
theorem mj_cd11 : lw_tbl[384]? = some (.code (mj_y 11) (mj_b 11) (mj_m 11) (mj_r 11)) := by decide +kernel
theorem mj_cd12 : lw_tbl[388]? = some (.code (mj_y 12) (mj_b 12) (mj_m 12) (mj_r 12)) := by decide +kernel
theorem mj_cd13 : lw_tbl[402]? = some (.code (mj_y 13) (mj_b 13) (mj_m 13) (mj_r 13)) := by decide +kernel
theorem mj_cd14 : lw_tbl[410]? = some (.code (mj_y 14) (mj_b 14) (mj_m 14) (mj_r 14)) := by decide +kernel
theorem mj_cd15 : lw_tbl[414]? = some (.code (mj_y 15) (mj_b 15) (mj_m 15) (mj_r 15)) := by decide +kernel
theorem mj_cd16 : lw_tbl[435]? = some (.code (mj_y 16) (mj_b 16) (mj_m 16) (mj_r 16)) := by decide +kernel
theorem mj_cd17 : lw_tbl[448]? = some (.code (mj_y 17) (mj_b 17) (mj_m 17) (mj_r 17)) := by decide +kernel
theorem mj_cd18 : lw_tbl[452]? = some (.code (mj_y 18) (mj_b 18) (mj_m 18) (mj_r 18)) := by decide +kernel
theorem mj_cd19 : lw_tbl[457]? = some (.code (mj_y 19) (mj_b 19) (mj_m 19) (mj_r 19)) := by decide +kernel
theorem mj_cd20 : lw_tbl[465]? = some (.code (mj_y 20) (mj_b 20) (mj_m 20) (mj_r 20)) := by decide +kernel
theorem mj_cd21 : lw_tbl[473]? = some (.code (mj_y 21) (mj_b 21) (mj_m 21) (mj_r 21)) := by decide +kernel
theorem mj_cd22 : lw_tbl[481]? = some (.code (mj_y 22) (mj_b 22) (mj_m 22) (mj_r 22)) := by decide +kernel
theorem mj_cd23 : lw_tbl[492]? = some (.code (mj_y 23) (mj_b 23) (mj_m 23) (mj_r 23)) := by decide +kernel
theorem mj_cd24 : lw_tbl[537]? = some (.code (mj_y 24) (mj_b 24) (mj_m 24) (mj_r 24)) := by decide +kernel
theorem mj_cd25 : lw_tbl[90]? = some (.code (mj_y 25) (mj_b 25) (mj_m 25) (mj_r 25)) := by decide +kernel
theorem mj_cd26 : lw_tbl[290]? = some (.code (mj_y 26) (mj_b 26) (mj_m 26) (mj_r 26)) := by decide +kernel
theorem mj_cd27 : lw_tbl[314]? = some (.code (mj_y 27) (mj_b 27) (mj_m 27) (mj_r 27)) := by decide +kernel
theorem mj_cd28 : lw_tbl[318]? = some (.code (mj_y 28) (mj_b 28) (mj_m 28) (mj_r 28)) := by decide +kernel
theorem mj_cd29 : lw_tbl[322]? = some (.code (mj_y 29) (mj_b 29) (mj_m 29) (mj_r 29)) := by decide +kernel
theorem mj_cd30 : lw_tbl[326]? = some (.code (mj_y 30) (mj_b 30) (mj_m 30) (mj_r 30)) := by decide +kernel
theorem mj_cd31 : lw_tbl[330]? = some (.code (mj_y 31) (mj_b 31) (mj_m 31) (mj_r 31)) := by decide +kernel
theorem mj_cd32 : lw_tbl[334]? = some (.code (mj_y 32) (mj_b 32) (mj_m 32) (mj_r 32)) := by decide +kernel
theorem mj_cd33 : lw_tbl[348]? = some (.code (mj_y 33) (mj_b 33) (mj_m 33) (mj_r 33)) := by decide +kernel
theorem mj_cd34 : lw_tbl[356]? = some (.code (mj_y 34) (mj_b 34) (mj_m 34) (mj_r 34)) := by decide +kernel
theorem mj_cd35 : lw_tbl[376]? = some (.code (mj_y 35) (mj_b 35) (mj_m 35) (mj_r 35)) := by decide +kernel
theorem mj_cd36 : lw_tbl[380]? = some (.code (mj_y 36) (mj_b 36) (mj_m 36) (mj_r 36)) := by decide +kernel
theorem mj_cd37 : lw_tbl[393]? = some (.code (mj_y 37) (mj_b 37) (mj_m 37) (mj_r 37)) := by decide +kernel
theorem mj_cd38 : lw_tbl[406]? = some (.code (mj_y 38) (mj_b 38) (mj_m 38) (mj_r 38)) := by decide +kernel
theorem mj_cd39 : lw_tbl[426]? = some (.code (mj_y 39) (mj_b 39) (mj_m 39) (mj_r 39)) := by decide +kernel
theorem mj_cd40 : lw_tbl[485]? = some (.code (mj_y 40) (mj_b 40) (mj_m 40) (mj_r 40)) := by decide +kernel
theorem mj_cd41 : lw_tbl[512]? = some (.code (mj_y 41) (mj_b 41) (mj_m 41) (mj_r 41)) := by decide +kernel
theorem mj_cd42 : lw_tbl[611]? = some (.code (mj_y 42) (mj_b 42) (mj_m 42) (mj_r 42)) := by decide +kernel
theorem mj_cd43 : lw_tbl[634]? = some (.code (mj_y 43) (mj_b 43) (mj_m 43) (mj_r 43)) := by decide +kernel
theorem mj_cd44 : lw_tbl[218]? = some (.code (mj_y 44) (mj_b 44) (mj_m 44) (mj_r 44)) := by decide +kernel
theorem mj_cd45 : lw_tbl[550]? = some (.code (mj_y 45) (mj_b 45) (mj_m 45) (mj_r 45)) := by decide +kernel
theorem mj_cd46 : lw_tbl[554]? = some (.code (mj_y 46) (mj_b 46) (mj_m 46) (mj_r 46)) := by decide +kernel
theorem mj_cd47 : lw_tbl[558]? = some (.code (mj_y 47) (mj_b 47) (mj_m 47) (mj_r 47)) := by decide +kernel
theorem mj_cd48 : lw_tbl[69]? = some (.code (mj_y 48) (mj_b 48) (mj_m 48) (mj_r 48)) := by decide +kernel
theorem mj_cd49 : lw_tbl[274]? = some (.code (mj_y 49) (mj_b 49) (mj_m 49) (mj_r 49)) := by decide +kernel
theorem mj_cd50 : lw_tbl[286]? = some (.code (mj_y 50) (mj_b 50) (mj_m 50) (mj_r 50)) := by decide +kernel
theorem mj_cd51 : lw_tbl[294]? = some (.code (mj_y 51) (mj_b 51) (mj_m 51) (mj_r 51)) := by decide +kernel
theorem mj_cd52 : lw_tbl[298]? = some (.code (mj_y 52) (mj_b 52) (mj_m 52) (mj_r 52)) := by decide +kernel
theorem mj_cd53 : lw_tbl[302]? = some (.code (mj_y 53) (mj_b 53) (mj_m 53) (mj_r 53)) := by decide +kernel
theorem mj_cd54 : lw_tbl[306]? = some (.code (mj_y 54) (mj_b 54) (mj_m 54) (mj_r 54)) := by decide +kernel
theorem mj_cd55 : lw_tbl[310]? = some (.code (mj_y 55) (mj_b 55) (mj_m 55) (mj_r 55)) := by decide +kernel
theorem mj_cd56 : lw_tbl[338]? = some (.code (mj_y 56) (mj_b 56) (mj_m 56) (mj_r 56)) := by decide +kernel
theorem mj_cd57 : lw_tbl[343]? = some (.code (mj_y 57) (mj_b 57) (mj_m 57) (mj_r 57)) := by decide +kernel
theorem mj_cd58 : lw_tbl[352]? = some (.code (mj_y 58) (mj_b 58) (mj_m 58) (mj_r 58)) := by decide +kernel
theorem mj_cd59 : lw_tbl[61]? = some (.code (mj_y 59) (mj_b 59) (mj_m 59) (mj_r 59)) := by decide +kernel
theorem mj_cd60 : lw_tbl[270]? = some (.code (mj_y 60) (mj_b 60) (mj_m 60) (mj_r 60)) := by decide +kernel
theorem mj_cd61 : lw_tbl[278]? = some (.code (mj_y 61) (mj_b 61) (mj_m 61) (mj_r 61)) := by decide +kernel
theorem mj_cd62 : lw_tbl[282]? = some (.code (mj_y 62) (mj_b 62) (mj_m 62) (mj_r 62)) := by decide +kernel
theorem mj_cd63 : lw_tbl[360]? = some (.code (mj_y 63) (mj_b 63) (mj_m 63) (mj_r 63)) := by decide +kernel
theorem mj_cd64 : lw_tbl[372]? = some (.code (mj_y 64) (mj_b 64) (mj_m 64) (mj_r 64)) := by decide +kernel
theorem mj_cd65 : lw_tbl[397]? = some (.code (mj_y 65) (mj_b 65) (mj_m 65) (mj_r 65)) := by decide +kernel
theorem mj_cd66 : lw_tbl[422]? = some (.code (mj_y 66) (mj_b 66) (mj_m 66) (mj_r 66)) := by decide +kernel
theorem mj_cd67 : lw_tbl[430]? = some (.code (mj_y 67) (mj_b 67) (mj_m 67) (mj_r 67)) := by decide +kernel
theorem mj_cd68 : lw_tbl[461]? = some (.code (mj_y 68) (mj_b 68) (mj_m 68) (mj_r 68)) := by decide +kernel
theorem mj_cd69 : lw_tbl[469]? = some (.code (mj_y 69) (mj_b 69) (mj_m 69) (mj_r 69)) := by decide +kernel
theorem mj_cd70 : lw_tbl[477]? = some (.code (mj_y 70) (mj_b 70) (mj_m 70) (mj_r 70)) := by decide +kernel
theorem mj_cd71 : lw_tbl[496]? = some (.code (mj_y 71) (mj_b 71) (mj_m 71) (mj_r 71)) := by decide +kernel
theorem mj_cd72 : lw_tbl[504]? = some (.code (mj_y 72) (mj_b 72) (mj_m 72) (mj_r 72)) := by decide +kernel
theorem mj_cd73 : lw_tbl[508]? = some (.code (mj_y 73) (mj_b 73) (mj_m 73) (mj_r 73)) := by decide +kernel
theorem mj_cd74 : lw_tbl[516]? = some (.code (mj_y 74) (mj_b 74) (mj_m 74) (mj_r 74)) := by decide +kernel
theorem mj_cd75 : lw_tbl[521]? = some (.code (mj_y 75) (mj_b 75) (mj_m 75) (mj_r 75)) := by decide +kernel
theorem mj_cd76 : lw_tbl[526]? = some (.code (mj_y 76) (mj_b 76) (mj_m 76) (mj_r 76)) := by decide +kernel
theorem mj_cd77 : lw_tbl[530]? = some (.code (mj_y 77) (mj_b 77) (mj_m 77) (mj_r 77)) := by decide +kernel
theorem mj_cd78 : lw_tbl[533]? = some (.code (mj_y 78) (mj_b 78) (mj_m 78) (mj_r 78)) := by decide +kernel
theorem mj_cd79 : lw_tbl[546]? = some (.code (mj_y 79) (mj_b 79) (mj_m 79) (mj_r 79)) := by decide +kernel
theorem mj_cd80 : lw_tbl[563]? = some (.code (mj_y 80) (mj_b 80) (mj_m 80) (mj_r 80)) := by decide +kernel
theorem mj_cd81 : lw_tbl[567]? = some (.code (mj_y 81) (mj_b 81) (mj_m 81) (mj_r 81)) := by decide +kernel
theorem mj_cd82 : lw_tbl[580]? = some (.code (mj_y 82) (mj_b 82) (mj_m 82) (mj_r 82)) := by decide +kernel
theorem mj_cd83 : lw_tbl[583]? = some (.code (mj_y 83) (mj_b 83) (mj_m 83) (mj_r 83)) := by decide +kernel
theorem mj_cd84 : lw_tbl[586]? = some (.code (mj_y 84) (mj_b 84) (mj_m 84) (mj_r 84)) := by decide +kernel
theorem mj_cd85 : lw_tbl[590]? = some (.code (mj_y 85) (mj_b 85) (mj_m 85) (mj_r 85)) := by decide +kernel
theorem mj_cd86 : lw_tbl[594]? = some (.code (mj_y 86) (mj_b 86) (mj_m 86) (mj_r 86)) := by decide +kernel
theorem mj_cd87 : lw_tbl[615]? = some (.code (mj_y 87) (mj_b 87) (mj_m 87) (mj_r 87)) := by decide +kernel
theorem mj_cd88 : lw_tbl[618]? = some (.code (mj_y 88) (mj_b 88) (mj_m 88) (mj_r 88)) := by decide +kernel
theorem mj_cd89 : lw_tbl[622]? = some (.code (mj_y 89) (mj_b 89) (mj_m 89) (mj_r 89)) := by decide +kernel
theorem mj_cd90 : lw_tbl[626]? = some (.code (mj_y 90) (mj_b 90) (mj_m 90) (mj_r 90)) := by decide +kernel
theorem mj_cd91 : lw_tbl[630]? = some (.code (mj_y 91) (mj_b 91) (mj_m 91) (mj_r 91)) := by decide +kernel
theorem mj_cd92 : lw_tbl[638]? = some (.code (mj_y 92) (mj_b 92) (mj_m 92) (mj_r 92)) := by decide +kernel
theorem mj_cd93 : lw_tbl[642]? = some (.code (mj_y 93) (mj_b 93) (mj_m 93) (mj_r 93)) := by decide +kernel
theorem mj_cd94 : lw_tbl[646]? = some (.code (mj_y 94) (mj_b 94) (mj_m 94) (mj_r 94)) := by decide +kernel
theorem mj_cd95 : lw_tbl[650]? = some (.code (mj_y 95) (mj_b 95) (mj_m 95) (mj_r 95)) := by decide +kernel
theorem mj_cd96 : lw_tbl[655]? = some (.code (mj_y 96) (mj_b 96) (mj_m 96) (mj_r 96)) := by decide +kernel
theorem mj_cd97 : lw_tbl[659]? = some (.code (mj_y 97) (mj_b 97) (mj_m 97) (mj_r 97)) := by decide +kernel
theorem mj_cd98 : lw_tbl[666]? = some (.code (mj_y 98) (mj_b 98) (mj_m 98) (mj_r 98)) := by decide +kernel
theorem mj_cd99 : lw_tbl[669]? = some (.code (mj_y 99) (mj_b 99) (mj_m 99) (mj_r 99)) := by decide +kernel
theorem mj_cd100 : lw_tbl[673]? = some (.code (mj_y 100) (mj_b 100) (mj_m 100) (mj_r 100)) := by decide +kernel
theorem mj_cd101 : lw_tbl[678]? = some (.code (mj_y 101) (mj_b 101) (mj_m 101) (mj_r 101)) := by decide +kernel
theorem mj_cd102 : lw_tbl[768]? = some (.code (mj_y 102) (mj_b 102) (mj_m 102) (mj_r 102)) := by decide +kernel
theorem mj_cd103 : lw_tbl[772]? = some (.code (mj_y 103) (mj_b 103) (mj_m 103) (mj_r 103)) := by decide +kernel
theorem mj_cd104 : lw_tbl[776]? = some (.code (mj_y 104) (mj_b 104) (mj_m 104) (mj_r 104)) := by decide +kernel
theorem mj_cd105 : lw_tbl[780]? = some (.code (mj_y 105) (mj_b 105) (mj_m 105) (mj_r 105)) := by decide +kernel
theorem mj_cd106 : lw_tbl[784]? = some (.code (mj_y 106) (mj_b 106) (mj_m 106) (mj_r 106)) := by decide +kernel
theorem mj_cd107 : lw_tbl[788]? = some (.code (mj_y 107) (mj_b 107) (mj_m 107) (mj_r 107)) := by decide +kernel
theorem mj_cd108 : lw_tbl[792]? = some (.code (mj_y 108) (mj_b 108) (mj_m 108) (mj_r 108)) := by decide +kernel
theorem mj_cd109 : lw_tbl[796]? = some (.code (mj_y 109) (mj_b 109) (mj_m 109) (mj_r 109)) := by decide +kernel
theorem mj_cd110 : lw_tbl[800]? = some (.code (mj_y 110) (mj_b 110) (mj_m 110) (mj_r 110)) := by decide +kernel
theorem mj_cd111 : lw_tbl[804]? = some (.code (mj_y 111) (mj_b 111) (mj_m 111) (mj_r 111)) := by decide +kernel
theorem mj_cd112 : lw_tbl[808]? = some (.code (mj_y 112) (mj_b 112) (mj_m 112) (mj_r 112)) := by decide +kernel
theorem mj_cd113 : lw_tbl[811]? = some (.code (mj_y 113) (mj_b 113) (mj_m 113) (mj_r 113)) := by decide +kernel
theorem mj_cd114 : lw_tbl[815]? = some (.code (mj_y 114) (mj_b 114) (mj_m 114) (mj_r 114)) := by decide +kernel
theorem mj_cd115 : lw_tbl[819]? = some (.code (mj_y 115) (mj_b 115) (mj_m 115) (mj_r 115)) := by decide +kernel
theorem mj_cd116 : lw_tbl[823]? = some (.code (mj_y 116) (mj_b 116) (mj_m 116) (mj_r 116)) := by decide +kernel
theorem mj_cd117 : lw_tbl[827]? = some (.code (mj_y 117) (mj_b 117) (mj_m 117) (mj_r 117)) := by decide +kernel
theorem mj_cd118 : lw_tbl[831]? = some (.code (mj_y 118) (mj_b 118) (mj_m 118) (mj_r 118)) := by decide +kernel
theorem mj_cd119 : lw_tbl[835]? = some (.code (mj_y 119) (mj_b 119) (mj_m 119) (mj_r 119)) := by decide +kernel
theorem mj_cd120 : lw_tbl[839]? = some (.code (mj_y 120) (mj_b 120) (mj_m 120) (mj_r 120)) := by decide +kernel
theorem mj_cd121 : lw_tbl[844]? = some (.code (mj_y 121) (mj_b 121) (mj_m 121) (mj_r 121)) := by decide +kernel
theorem mj_cd122 : lw_tbl[848]? = some (.code (mj_y 122) (mj_b 122) (mj_m 122) (mj_r 122)) := by decide +kernel
theorem mj_cd123 : lw_tbl[852]? = some (.code (mj_y 123) (mj_b 123) (mj_m 123) (mj_r 123)) := by decide +kernel
theorem mj_cd124 : lw_tbl[856]? = some (.code (mj_y 124) (mj_b 124) (mj_m 124) (mj_r 124)) := by decide +kernel
theorem mj_cd125 : lw_tbl[860]? = some (.code (mj_y 125) (mj_b 125) (mj_m 125) (mj_r 125)) := by decide +kernel
theorem mj_cd126 : lw_tbl[864]? = some (.code (mj_y 126) (mj_b 126) (mj_m 126) (mj_r 126)) := by decide +kernel
theorem mj_cd127 : lw_tbl[868]? = some (.code (mj_y 127) (mj_b 127) (mj_m 127) (mj_r 127)) := by decide +kernel
theorem mj_cd128 : lw_tbl[872]? = some (.code (mj_y 128) (mj_b 128) (mj_m 128) (mj_r 128)) := by decide +kernel
theorem mj_cd129 : lw_tbl[876]? = some (.code (mj_y 129) (mj_b 129) (mj_m 129) (mj_r 129)) := by decide +kernel
theorem mj_cd130 : lw_tbl[880]? = some (.code (mj_y 130) (mj_b 130) (mj_m 130) (mj_r 130)) := by decide +kernel
theorem mj_cd131 : lw_tbl[884]? = some (.code (mj_y 131) (mj_b 131) (mj_m 131) (mj_r 131)) := by decide +kernel
theorem mj_cd132 : lw_tbl[888]? = some (.code (mj_y 132) (mj_b 132) (mj_m 132) (mj_r 132)) := by decide +kernel
theorem mj_cd133 : lw_tbl[892]? = some (.code (mj_y 133) (mj_b 133) (mj_m 133) (mj_r 133)) := by decide +kernel
theorem mj_cd134 : lw_tbl[896]? = some (.code (mj_y 134) (mj_b 134) (mj_m 134) (mj_r 134)) := by decide +kernel
theorem mj_cd135 : lw_tbl[900]? = some (.code (mj_y 135) (mj_b 135) (mj_m 135) (mj_r 135)) := by decide +kernel
theorem mj_cd136 : lw_tbl[904]? = some (.code (mj_y 136) (mj_b 136) (mj_m 136) (mj_r 136)) := by decide +kernel
theorem mj_cd137 : lw_tbl[909]? = some (.code (mj_y 137) (mj_b 137) (mj_m 137) (mj_r 137)) := by decide +kernel
theorem mj_cd138 : lw_tbl[913]? = some (.code (mj_y 138) (mj_b 138) (mj_m 138) (mj_r 138)) := by decide +kernel
theorem mj_cd139 : lw_tbl[917]? = some (.code (mj_y 139) (mj_b 139) (mj_m 139) (mj_r 139)) := by decide +kernel
theorem mj_cd140 : lw_tbl[921]? = some (.code (mj_y 140) (mj_b 140) (mj_m 140) (mj_r 140)) := by decide +kernel
theorem mj_cd141 : lw_tbl[925]? = some (.code (mj_y 141) (mj_b 141) (mj_m 141) (mj_r 141)) := by decide +kernel
theorem mj_cd142 : lw_tbl[929]? = some (.code (mj_y 142) (mj_b 142) (mj_m 142) (mj_r 142)) := by decide +kernel
theorem mj_cd143 : lw_tbl[933]? = some (.code (mj_y 143) (mj_b 143) (mj_m 143) (mj_r 143)) := by decide +kernel
theorem mj_cd144 : lw_tbl[936]? = some (.code (mj_y 144) (mj_b 144) (mj_m 144) (mj_r 144)) := by decide +kernel
theorem mj_cd145 : lw_tbl[940]? = some (.code (mj_y 145) (mj_b 145) (mj_m 145) (mj_r 145)) := by decide +kernel
theorem mj_cd146 : lw_tbl[944]? = some (.code (mj_y 146) (mj_b 146) (mj_m 146) (mj_r 146)) := by decide +kernel
theorem mj_cd147 : lw_tbl[948]? = some (.code (mj_y 147) (mj_b 147) (mj_m 147) (mj_r 147)) := by decide +kernel
theorem mj_cd148 : lw_tbl[952]? = some (.code (mj_y 148) (mj_b 148) (mj_m 148) (mj_r 148)) := by decide +kernel
theorem mj_cd149 : lw_tbl[956]? = some (.code (mj_y 149) (mj_b 149) (mj_m 149) (mj_r 149)) := by decide +kernel
theorem mj_cd150 : lw_tbl[959]? = some (.code (mj_y 150) (mj_b 150) (mj_m 150) (mj_r 150)) := by decide +kernel
theorem mj_cd151 : lw_tbl[962]? = some (.code (mj_y 151) (mj_b 151) (mj_m 151) (mj_r 151)) := by decide +kernel
theorem mj_cd152 : lw_tbl[966]? = some (.code (mj_y 152) (mj_b 152) (mj_m 152) (mj_r 152)) := by decide +kernel
theorem mj_cd153 : lw_tbl[970]? = some (.code (mj_y 153) (mj_b 153) (mj_m 153) (mj_r 153)) := by decide +kernel
theorem mj_cd154 : lw_tbl[974]? = some (.code (mj_y 154) (mj_b 154) (mj_m 154) (mj_r 154)) := by decide +kernel
theorem mj_cd155 : lw_tbl[978]? = some (.code (mj_y 155) (mj_b 155) (mj_m 155) (mj_r 155)) := by decide +kernel
theorem mj_cd156 : lw_tbl[983]? = some (.code (mj_y 156) (mj_b 156) (mj_m 156) (mj_r 156)) := by decide +kernel
theorem mj_cd157 : lw_tbl[987]? = some (.code (mj_y 157) (mj_b 157) (mj_m 157) (mj_r 157)) := by decide +kernel
theorem mj_cd158 : lw_tbl[991]? = some (.code (mj_y 158) (mj_b 158) (mj_m 158) (mj_r 158)) := by decide +kernel
theorem mj_cd159 : lw_tbl[996]? = some (.code (mj_y 159) (mj_b 159) (mj_m 159) (mj_r 159)) := by decide +kernel
theorem mj_cd160 : lw_tbl[1000]? = some (.code (mj_y 160) (mj_b 160) (mj_m 160) (mj_r 160)) := by decide +kernel
theorem mj_cd161 : lw_tbl[1004]? = some (.code (mj_y 161) (mj_b 161) (mj_m 161) (mj_r 161)) := by decide +kernel
theorem mj_cd162 : lw_tbl[1009]? = some (.code (mj_y 162) (mj_b 162) (mj_m 162) (mj_r 162)) := by decide +kernel
theorem mj_cd163 : lw_tbl[1013]? = some (.code (mj_y 163) (mj_b 163) (mj_m 163) (mj_r 163)) := by decide +kernel
theorem mj_cd164 : lw_tbl[1019]? = some (.code (mj_y 164) (mj_b 164) (mj_m 164) (mj_r 164)) := by decide +kernel
theorem mj_cd165 : lw_tbl[1023]? = some (.code (mj_y 165) (mj_b 165) (mj_m 165) (mj_r 165)) := by decide +kernel
theorem mj_cd166 : lw_tbl[570]? = some (.code (mj_y 166) (mj_b 166) (mj_m 166) (mj_r 166)) := by decide +kernel
theorem mj_math_max : lw_tbl[417]? = some (.code Lib.Math.max.name Lib.Math.max.code 2 (some .int)) := by decide +kernel
theorem mj_mathS_max : mj_has 416 (.static Lib.Math.max.name) = true := by decide +kernel
theorem mj_math_min : lw_tbl[576]? = some (.code Lib.Math.min.name Lib.Math.min.code 2 (some .int)) := by decide +kernel
theorem mj_mathS_min : mj_has 575 (.static Lib.Math.min.name) = true := by decide +kernel
theorem mj_lkX_ok : mj_lkX.all (fun w => mj_has w.2.2.2 (.methodLink (mj_on w.1) w.2.1 (if w.2.2.1 = 998 then Lib.Math.max.name else Lib.Math.min.name))) = true := by decide +kernel
theorem mj_objI : mj_has 63 (.instanceMethod Lib.objectInit) = true := by decide +kernel
theorem mj_objC : mj_has 64 (.code Lib.objectInit ⟨#[0xb1]⟩ 1 none) = true := by decide +kernel
theorem mj_arrI : mj_has 85 (.arrayClass .int) = true := by decide +kernel
theorem mj_arrZ : mj_has 213 (.arrayClass .boolean) = true := by decide +kernel
theorem mj_arrM : lw_tbl[184]? = some (.arrayOver (.object "DumplingBand$March")) := by decide +kernel
theorem mj_lay0 : ∀ j, j < 3 → mj_has ((mj_layp.getD 0 []).getD j 0) (u_lay "DumplingBand$Acts" mj_T0 j) = true := by decide +kernel
theorem mj_nm0 : ∀ a, a < 3 → ∀ b, b < 3 → a ≠ b → (mj_T0 a).2.1 ≠ (mj_T0 b).2.1 := by decide +kernel
theorem mj_fty0 : ∀ j, j < 3 → parseFieldDescriptor (mj_T0 j).2.2.1 = some (mj_ft0 j) := by decide +kernel
theorem mj_lay1 : ∀ j, j < 3 → mj_has ((mj_layp.getD 1 []).getD j 0) (u_lay "DumplingBand$Ferry" mj_T1 j) = true := by decide +kernel
theorem mj_nm1 : ∀ a, a < 3 → ∀ b, b < 3 → a ≠ b → (mj_T1 a).2.1 ≠ (mj_T1 b).2.1 := by decide +kernel
theorem mj_fty1 : ∀ j, j < 3 → parseFieldDescriptor (mj_T1 j).2.2.1 = some (mj_ft1 j) := by decide +kernel
theorem mj_lay2 : ∀ j, j < 7 → mj_has ((mj_layp.getD 2 []).getD j 0) (u_lay "DumplingBand$March" mj_T2 j) = true := by decide +kernel
theorem mj_nm2 : ∀ a, a < 7 → ∀ b, b < 7 → a ≠ b → (mj_T2 a).2.1 ≠ (mj_T2 b).2.1 := by decide +kernel
theorem mj_fty2 : ∀ j, j < 7 → parseFieldDescriptor (mj_T2 j).2.2.1 = some (mj_ft2 j) := by decide +kernel
theorem mj_lay3 : ∀ j, j < 10 → mj_has ((mj_layp.getD 3 []).getD j 0) (u_lay "DumplingBand$Road" mj_T3 j) = true := by decide +kernel
theorem mj_nm3 : ∀ a, a < 10 → ∀ b, b < 10 → a ≠ b → (mj_T3 a).2.1 ≠ (mj_T3 b).2.1 := by decide +kernel
theorem mj_fty3 : ∀ j, j < 10 → parseFieldDescriptor (mj_T3 j).2.2.1 = some (mj_ft3 j) := by decide +kernel
theorem mj_lay4 : ∀ j, j < 1 → mj_has ((mj_layp.getD 4 []).getD j 0) (u_lay "DumplingBand$Rows" mj_T4 j) = true := by decide +kernel
theorem mj_nm4 : ∀ a, a < 1 → ∀ b, b < 1 → a ≠ b → (mj_T4 a).2.1 ≠ (mj_T4 b).2.1 := by decide +kernel
theorem mj_fty4 : ∀ j, j < 1 → parseFieldDescriptor (mj_T4 j).2.2.1 = some (mj_ft4 j) := by decide +kernel
theorem mj_lay5 : ∀ j, j < 4 → mj_has ((mj_layp.getD 5 []).getD j 0) (u_lay "DumplingBand$Scroll" mj_T5 j) = true := by decide +kernel
theorem mj_nm5 : ∀ a, a < 4 → ∀ b, b < 4 → a ≠ b → (mj_T5 a).2.1 ≠ (mj_T5 b).2.1 := by decide +kernel
theorem mj_fty5 : ∀ j, j < 4 → parseFieldDescriptor (mj_T5 j).2.2.1 = some (mj_ft5 j) := by decide +kernel
theorem mj_lay6 : ∀ j, j < 14 → mj_has ((mj_layp.getD 6 []).getD j 0) (u_lay "DumplingBand" mj_T6 j) = true := by decide +kernel
theorem mj_nm6 : ∀ a, a < 14 → ∀ b, b < 14 → a ≠ b → (mj_T6 a).2.1 ≠ (mj_T6 b).2.1 := by decide +kernel
theorem mj_fty6 : ∀ j, j < 14 → parseFieldDescriptor (mj_T6 j).2.2.1 = some (mj_ft6 j) := by decide +kernel
theorem mj_lay7 : ∀ j, j < 28 → mj_has ((mj_layp.getD 7 []).getD j 0) (u_lay "DumplingBandModel" mj_T7 j) = true := by decide +kernel
theorem mj_nm7 : ∀ a, a < 28 → ∀ b, b < 28 → a ≠ b → (mj_T7 a).2.1 ≠ (mj_T7 b).2.1 := by decide +kernel
theorem mj_fty7 : ∀ j, j < 28 → parseFieldDescriptor (mj_T7 j).2.2.1 = some (mj_ft7 j) := by decide +kernel
end
section
/-- what a row says of the instruction's links, jumps and rooms, by the lists -/
def mj_chk (i : Nat) (q : mj_Row) : Bool :=
  match q with
  | (pc, ins, _, a, b) =>
  match ins with
  | .getfield idx => mj_lkF.any (fun w => w.1 == mj_w i && w.2.1 == idx && w.2.2.1 == a && w.2.2.2.1 == b)
  | .putfield idx => mj_lkF.any (fun w => w.1 == mj_w i && w.2.1 == idx && w.2.2.1 == a && w.2.2.2.1 == b) && (!(mj_tf a b).2.2.2 || ((mj_y i).name == "<init>" && (mj_tf a b).1 == mj_on (mj_w i)))
  | .invokevirtual idx => mj_lkM.any (fun w => w.1 == mj_w i && w.2.1 == idx && w.2.2.1 == a) && b == mj_n a + 1 && !mj_z a && (mj_y a).name != "<init>" && decide (a < 167 ∧ mj_f a + 1 ≤ mj_f i ∧ 8 + (mj_m a + 11) + mj_o a ≤ mj_o i)
  | .invokestatic idx => (mj_lkM.any (fun w => w.1 == mj_w i && w.2.1 == idx && w.2.2.1 == a) && b == mj_n a && mj_z a && decide (a < 167 ∧ mj_f a + 1 ≤ mj_f i ∧ 8 + (mj_m a + 11) + mj_o a ≤ mj_o i)) || (mj_lkX.any (fun w => w.1 == mj_w i && w.2.1 == idx && w.2.2.1 == a) && b == 2 && (a == 998 || a == 997) && decide (1 ≤ mj_f i ∧ 21 ≤ mj_o i))
  | .invokespecial idx => ((mj_lkM.any (fun w => w.1 == mj_w i && w.2.1 == idx && w.2.2.1 == a) || mj_lkN.any (fun w => w.1 == mj_w i && w.2.1 == idx && w.2.2 == a)) && b == mj_n a + 1 && !mj_z a && (mj_y a).name == "<init>" && decide (a < 167 ∧ mj_f a + 1 ≤ mj_f i ∧ 8 + (mj_m a + 11) + mj_o a ≤ mj_o i)) || (mj_lkO.any (fun w => w.1 == mj_w i && w.2.1 == idx) && a == 999 && decide (1 ≤ mj_f i ∧ 20 ≤ mj_o i))
  | .new idx => mj_lkC.any (fun w => w.1 == mj_w i && w.2.1 == idx && w.2.2.1 == a) && decide (a < 8)
  | .anewarray idx => mj_lkC.any (fun w => w.1 == mj_w i && w.2.1 == idx && w.2.2.1 == a) && a == 2
  | .ldc2_w idx => mj_lkL.any (fun w => w.1 == mj_w i && w.2.1 == idx && w.2.2.1 == a)
  | .ldc_w idx => mj_lkI.any (fun w => w.1 == mj_w i && w.2.1 == idx && w.2.2.1 == a)
  | .goto off => decide ((pc : Int) + off = (a : Int))
  | .ifCond _ off => decide ((pc : Int) + off = (a : Int))
  | .if_icmp _ off => decide ((pc : Int) + off = (a : Int))
  | _ => true
theorem mj_d0_0 : ∀ q ∈ mj_c0_0, decode prog_2_method_1_code q.1 = .ok (q.2.1, q.2.2.1) := by decide +kernel
theorem mj_k0_0 : ∀ q ∈ mj_c0_0, mj_chk 0 q = true := by decide +kernel
theorem mj_d0 : ∀ q ∈ mj_code 0, decode (mj_b 0) q.1 = .ok (q.2.1, q.2.2.1) := mj_d0_0
theorem mj_k0 : ∀ q ∈ mj_code 0, mj_chk 0 q = true := mj_k0_0
theorem mj_d1_0 : ∀ q ∈ mj_c1_0, decode prog_2_method_2_code q.1 = .ok (q.2.1, q.2.2.1) := by decide +kernel
theorem mj_k1_0 : ∀ q ∈ mj_c1_0, mj_chk 1 q = true := by decide +kernel
theorem mj_d1 : ∀ q ∈ mj_code 1, decode (mj_b 1) q.1 = .ok (q.2.1, q.2.2.1) := mj_d1_0
theorem mj_k1 : ∀ q ∈ mj_code 1, mj_chk 1 q = true := mj_k1_0
theorem mj_d2_0 : ∀ q ∈ mj_c2_0, decode prog_2_method_3_code q.1 = .ok (q.2.1, q.2.2.1) := by decide +kernel
theorem mj_k2_0 : ∀ q ∈ mj_c2_0, mj_chk 2 q = true := by decide +kernel
theorem mj_d2 : ∀ q ∈ mj_code 2, decode (mj_b 2) q.1 = .ok (q.2.1, q.2.2.1) := mj_d2_0
theorem mj_k2 : ∀ q ∈ mj_code 2, mj_chk 2 q = true := mj_k2_0
theorem mj_d3_0 : ∀ q ∈ mj_c3_0, decode prog_2_method_5_code q.1 = .ok (q.2.1, q.2.2.1) := by decide +kernel
theorem mj_k3_0 : ∀ q ∈ mj_c3_0, mj_chk 3 q = true := by decide +kernel
theorem mj_d3 : ∀ q ∈ mj_code 3, decode (mj_b 3) q.1 = .ok (q.2.1, q.2.2.1) := mj_d3_0
theorem mj_k3 : ∀ q ∈ mj_code 3, mj_chk 3 q = true := mj_k3_0
theorem mj_d4_0 : ∀ q ∈ mj_c4_0, decode prog_2_method_4_code q.1 = .ok (q.2.1, q.2.2.1) := by decide +kernel
theorem mj_k4_0 : ∀ q ∈ mj_c4_0, mj_chk 4 q = true := by decide +kernel
theorem mj_d4 : ∀ q ∈ mj_code 4, decode (mj_b 4) q.1 = .ok (q.2.1, q.2.2.1) := mj_d4_0
theorem mj_k4 : ∀ q ∈ mj_code 4, mj_chk 4 q = true := mj_k4_0
theorem mj_d5_0 : ∀ q ∈ mj_c5_0, decode prog_3_method_1_code q.1 = .ok (q.2.1, q.2.2.1) := by decide +kernel
theorem mj_k5_0 : ∀ q ∈ mj_c5_0, mj_chk 5 q = true := by decide +kernel
theorem mj_d5 : ∀ q ∈ mj_code 5, decode (mj_b 5) q.1 = .ok (q.2.1, q.2.2.1) := mj_d5_0
theorem mj_k5 : ∀ q ∈ mj_code 5, mj_chk 5 q = true := mj_k5_0
theorem mj_d6_0 : ∀ q ∈ mj_c6_0, decode prog_3_method_2_code q.1 = .ok (q.2.1, q.2.2.1) := by decide +kernel
theorem mj_k6_0 : ∀ q ∈ mj_c6_0, mj_chk 6 q = true := by decide +kernel
theorem mj_d6_1 : ∀ q ∈ mj_c6_1, decode prog_3_method_2_code q.1 = .ok (q.2.1, q.2.2.1) := by decide +kernel
theorem mj_k6_1 : ∀ q ∈ mj_c6_1, mj_chk 6 q = true := by decide +kernel
theorem mj_d6 : ∀ q ∈ mj_code 6, decode (mj_b 6) q.1 = .ok (q.2.1, q.2.2.1) := List.forall_mem_append.mpr ⟨mj_d6_0, mj_d6_1⟩
theorem mj_k6 : ∀ q ∈ mj_code 6, mj_chk 6 q = true := List.forall_mem_append.mpr ⟨mj_k6_0, mj_k6_1⟩
theorem mj_d7_0 : ∀ q ∈ mj_c7_0, decode prog_3_method_4_code q.1 = .ok (q.2.1, q.2.2.1) := by decide +kernel
theorem mj_k7_0 : ∀ q ∈ mj_c7_0, mj_chk 7 q = true := by decide +kernel
theorem mj_d7 : ∀ q ∈ mj_code 7, decode (mj_b 7) q.1 = .ok (q.2.1, q.2.2.1) := mj_d7_0
theorem mj_k7 : ∀ q ∈ mj_code 7, mj_chk 7 q = true := mj_k7_0
theorem mj_d8_0 : ∀ q ∈ mj_c8_0, decode prog_3_method_3_code q.1 = .ok (q.2.1, q.2.2.1) := by decide +kernel
theorem mj_k8_0 : ∀ q ∈ mj_c8_0, mj_chk 8 q = true := by decide +kernel
theorem mj_d8_1 : ∀ q ∈ mj_c8_1, decode prog_3_method_3_code q.1 = .ok (q.2.1, q.2.2.1) := by decide +kernel
theorem mj_k8_1 : ∀ q ∈ mj_c8_1, mj_chk 8 q = true := by decide +kernel
theorem mj_d8 : ∀ q ∈ mj_code 8, decode (mj_b 8) q.1 = .ok (q.2.1, q.2.2.1) := List.forall_mem_append.mpr ⟨mj_d8_0, mj_d8_1⟩
theorem mj_k8 : ∀ q ∈ mj_code 8, mj_chk 8 q = true := List.forall_mem_append.mpr ⟨mj_k8_0, mj_k8_1⟩
theorem mj_d9_0 : ∀ q ∈ mj_c9_0, decode prog_4_method_1_code q.1 = .ok (q.2.1, q.2.2.1) := by decide +kernel
theorem mj_k9_0 : ∀ q ∈ mj_c9_0, mj_chk 9 q = true := by decide +kernel
theorem mj_d9 : ∀ q ∈ mj_code 9, decode (mj_b 9) q.1 = .ok (q.2.1, q.2.2.1) := mj_d9_0
theorem mj_k9 : ∀ q ∈ mj_code 9, mj_chk 9 q = true := mj_k9_0
theorem mj_d10_0 : ∀ q ∈ mj_c10_0, decode prog_4_method_2_code q.1 = .ok (q.2.1, q.2.2.1) := by decide +kernel
theorem mj_k10_0 : ∀ q ∈ mj_c10_0, mj_chk 10 q = true := by decide +kernel
theorem mj_d10 : ∀ q ∈ mj_code 10, decode (mj_b 10) q.1 = .ok (q.2.1, q.2.2.1) := mj_d10_0
theorem mj_k10 : ∀ q ∈ mj_code 10, mj_chk 10 q = true := mj_k10_0
theorem mj_d11_0 : ∀ q ∈ mj_c11_0, decode prog_4_method_6_code q.1 = .ok (q.2.1, q.2.2.1) := by decide +kernel
theorem mj_k11_0 : ∀ q ∈ mj_c11_0, mj_chk 11 q = true := by decide +kernel
theorem mj_d11 : ∀ q ∈ mj_code 11, decode (mj_b 11) q.1 = .ok (q.2.1, q.2.2.1) := mj_d11_0
theorem mj_k11 : ∀ q ∈ mj_code 11, mj_chk 11 q = true := mj_k11_0
theorem mj_d12_0 : ∀ q ∈ mj_c12_0, decode prog_4_method_5_code q.1 = .ok (q.2.1, q.2.2.1) := by decide +kernel
theorem mj_k12_0 : ∀ q ∈ mj_c12_0, mj_chk 12 q = true := by decide +kernel
theorem mj_d12 : ∀ q ∈ mj_code 12, decode (mj_b 12) q.1 = .ok (q.2.1, q.2.2.1) := mj_d12_0
theorem mj_k12 : ∀ q ∈ mj_code 12, mj_chk 12 q = true := mj_k12_0
theorem mj_d13_0 : ∀ q ∈ mj_c13_0, decode prog_4_method_7_code q.1 = .ok (q.2.1, q.2.2.1) := by decide +kernel
theorem mj_k13_0 : ∀ q ∈ mj_c13_0, mj_chk 13 q = true := by decide +kernel
theorem mj_d13 : ∀ q ∈ mj_code 13, decode (mj_b 13) q.1 = .ok (q.2.1, q.2.2.1) := mj_d13_0
theorem mj_k13 : ∀ q ∈ mj_code 13, mj_chk 13 q = true := mj_k13_0
theorem mj_d14_0 : ∀ q ∈ mj_c14_0, decode prog_4_method_8_code q.1 = .ok (q.2.1, q.2.2.1) := by decide +kernel
theorem mj_k14_0 : ∀ q ∈ mj_c14_0, mj_chk 14 q = true := by decide +kernel
theorem mj_d14 : ∀ q ∈ mj_code 14, decode (mj_b 14) q.1 = .ok (q.2.1, q.2.2.1) := mj_d14_0
theorem mj_k14 : ∀ q ∈ mj_code 14, mj_chk 14 q = true := mj_k14_0
theorem mj_d15_0 : ∀ q ∈ mj_c15_0, decode prog_4_method_4_code q.1 = .ok (q.2.1, q.2.2.1) := by decide +kernel
theorem mj_k15_0 : ∀ q ∈ mj_c15_0, mj_chk 15 q = true := by decide +kernel
theorem mj_d15 : ∀ q ∈ mj_code 15, decode (mj_b 15) q.1 = .ok (q.2.1, q.2.2.1) := mj_d15_0
theorem mj_k15 : ∀ q ∈ mj_code 15, mj_chk 15 q = true := mj_k15_0
theorem mj_d16_0 : ∀ q ∈ mj_c16_0, decode prog_4_method_9_code q.1 = .ok (q.2.1, q.2.2.1) := by decide +kernel
theorem mj_k16_0 : ∀ q ∈ mj_c16_0, mj_chk 16 q = true := by decide +kernel
theorem mj_d16 : ∀ q ∈ mj_code 16, decode (mj_b 16) q.1 = .ok (q.2.1, q.2.2.1) := mj_d16_0
theorem mj_k16 : ∀ q ∈ mj_code 16, mj_chk 16 q = true := mj_k16_0
theorem mj_d17_0 : ∀ q ∈ mj_c17_0, decode prog_4_method_3_code q.1 = .ok (q.2.1, q.2.2.1) := by decide +kernel
theorem mj_k17_0 : ∀ q ∈ mj_c17_0, mj_chk 17 q = true := by decide +kernel
theorem mj_d17 : ∀ q ∈ mj_code 17, decode (mj_b 17) q.1 = .ok (q.2.1, q.2.2.1) := mj_d17_0
theorem mj_k17 : ∀ q ∈ mj_code 17, mj_chk 17 q = true := mj_k17_0
theorem mj_d18_0 : ∀ q ∈ mj_c18_0, decode prog_4_method_10_code q.1 = .ok (q.2.1, q.2.2.1) := by decide +kernel
theorem mj_k18_0 : ∀ q ∈ mj_c18_0, mj_chk 18 q = true := by decide +kernel
theorem mj_d18_1 : ∀ q ∈ mj_c18_1, decode prog_4_method_10_code q.1 = .ok (q.2.1, q.2.2.1) := by decide +kernel
theorem mj_k18_1 : ∀ q ∈ mj_c18_1, mj_chk 18 q = true := by decide +kernel
theorem mj_d18 : ∀ q ∈ mj_code 18, decode (mj_b 18) q.1 = .ok (q.2.1, q.2.2.1) := List.forall_mem_append.mpr ⟨mj_d18_0, mj_d18_1⟩
theorem mj_k18 : ∀ q ∈ mj_code 18, mj_chk 18 q = true := List.forall_mem_append.mpr ⟨mj_k18_0, mj_k18_1⟩
theorem mj_d19_0 : ∀ q ∈ mj_c19_0, decode prog_4_method_11_code q.1 = .ok (q.2.1, q.2.2.1) := by decide +kernel
theorem mj_k19_0 : ∀ q ∈ mj_c19_0, mj_chk 19 q = true := by decide +kernel
theorem mj_d19_1 : ∀ q ∈ mj_c19_1, decode prog_4_method_11_code q.1 = .ok (q.2.1, q.2.2.1) := by decide +kernel
theorem mj_k19_1 : ∀ q ∈ mj_c19_1, mj_chk 19 q = true := by decide +kernel
theorem mj_d19 : ∀ q ∈ mj_code 19, decode (mj_b 19) q.1 = .ok (q.2.1, q.2.2.1) := List.forall_mem_append.mpr ⟨mj_d19_0, mj_d19_1⟩
theorem mj_k19 : ∀ q ∈ mj_code 19, mj_chk 19 q = true := List.forall_mem_append.mpr ⟨mj_k19_0, mj_k19_1⟩
theorem mj_d20_0 : ∀ q ∈ mj_c20_0, decode prog_4_method_12_code q.1 = .ok (q.2.1, q.2.2.1) := by decide +kernel
theorem mj_k20_0 : ∀ q ∈ mj_c20_0, mj_chk 20 q = true := by decide +kernel
theorem mj_d20 : ∀ q ∈ mj_code 20, decode (mj_b 20) q.1 = .ok (q.2.1, q.2.2.1) := mj_d20_0
theorem mj_k20 : ∀ q ∈ mj_code 20, mj_chk 20 q = true := mj_k20_0
theorem mj_d21_0 : ∀ q ∈ mj_c21_0, decode prog_4_method_13_code q.1 = .ok (q.2.1, q.2.2.1) := by decide +kernel
theorem mj_k21_0 : ∀ q ∈ mj_c21_0, mj_chk 21 q = true := by decide +kernel
theorem mj_d21_1 : ∀ q ∈ mj_c21_1, decode prog_4_method_13_code q.1 = .ok (q.2.1, q.2.2.1) := by decide +kernel
theorem mj_k21_1 : ∀ q ∈ mj_c21_1, mj_chk 21 q = true := by decide +kernel
theorem mj_d21 : ∀ q ∈ mj_code 21, decode (mj_b 21) q.1 = .ok (q.2.1, q.2.2.1) := List.forall_mem_append.mpr ⟨mj_d21_0, mj_d21_1⟩
theorem mj_k21 : ∀ q ∈ mj_code 21, mj_chk 21 q = true := List.forall_mem_append.mpr ⟨mj_k21_0, mj_k21_1⟩
theorem mj_d22_0 : ∀ q ∈ mj_c22_0, decode prog_4_method_14_code q.1 = .ok (q.2.1, q.2.2.1) := by decide +kernel
theorem mj_k22_0 : ∀ q ∈ mj_c22_0, mj_chk 22 q = true := by decide +kernel
theorem mj_d22 : ∀ q ∈ mj_code 22, decode (mj_b 22) q.1 = .ok (q.2.1, q.2.2.1) := mj_d22_0
theorem mj_k22 : ∀ q ∈ mj_code 22, mj_chk 22 q = true := mj_k22_0
theorem mj_d23_0 : ∀ q ∈ mj_c23_0, decode prog_4_method_15_code q.1 = .ok (q.2.1, q.2.2.1) := by decide +kernel
theorem mj_k23_0 : ∀ q ∈ mj_c23_0, mj_chk 23 q = true := by decide +kernel
theorem mj_d23 : ∀ q ∈ mj_code 23, decode (mj_b 23) q.1 = .ok (q.2.1, q.2.2.1) := mj_d23_0
theorem mj_k23 : ∀ q ∈ mj_code 23, mj_chk 23 q = true := mj_k23_0
theorem mj_d24_0 : ∀ q ∈ mj_c24_0, decode prog_4_method_16_code q.1 = .ok (q.2.1, q.2.2.1) := by decide +kernel
theorem mj_k24_0 : ∀ q ∈ mj_c24_0, mj_chk 24 q = true := by decide +kernel
theorem mj_d24_1 : ∀ q ∈ mj_c24_1, decode prog_4_method_16_code q.1 = .ok (q.2.1, q.2.2.1) := by decide +kernel
theorem mj_k24_1 : ∀ q ∈ mj_c24_1, mj_chk 24 q = true := by decide +kernel
theorem mj_d24 : ∀ q ∈ mj_code 24, decode (mj_b 24) q.1 = .ok (q.2.1, q.2.2.1) := List.forall_mem_append.mpr ⟨mj_d24_0, mj_d24_1⟩
theorem mj_k24 : ∀ q ∈ mj_code 24, mj_chk 24 q = true := List.forall_mem_append.mpr ⟨mj_k24_0, mj_k24_1⟩
theorem mj_d25_0 : ∀ q ∈ mj_c25_0, decode prog_5_method_1_code q.1 = .ok (q.2.1, q.2.2.1) := by decide +kernel
theorem mj_k25_0 : ∀ q ∈ mj_c25_0, mj_chk 25 q = true := by decide +kernel
theorem mj_d25 : ∀ q ∈ mj_code 25, decode (mj_b 25) q.1 = .ok (q.2.1, q.2.2.1) := mj_d25_0
theorem mj_k25 : ∀ q ∈ mj_code 25, mj_chk 25 q = true := mj_k25_0
theorem mj_d26_0 : ∀ q ∈ mj_c26_0, decode prog_5_method_2_code q.1 = .ok (q.2.1, q.2.2.1) := by decide +kernel
theorem mj_k26_0 : ∀ q ∈ mj_c26_0, mj_chk 26 q = true := by decide +kernel
theorem mj_d26 : ∀ q ∈ mj_code 26, decode (mj_b 26) q.1 = .ok (q.2.1, q.2.2.1) := mj_d26_0
theorem mj_k26 : ∀ q ∈ mj_code 26, mj_chk 26 q = true := mj_k26_0
theorem mj_d27_0 : ∀ q ∈ mj_c27_0, decode prog_5_method_3_code q.1 = .ok (q.2.1, q.2.2.1) := by decide +kernel
theorem mj_k27_0 : ∀ q ∈ mj_c27_0, mj_chk 27 q = true := by decide +kernel
theorem mj_d27_1 : ∀ q ∈ mj_c27_1, decode prog_5_method_3_code q.1 = .ok (q.2.1, q.2.2.1) := by decide +kernel
theorem mj_k27_1 : ∀ q ∈ mj_c27_1, mj_chk 27 q = true := by decide +kernel
theorem mj_d27 : ∀ q ∈ mj_code 27, decode (mj_b 27) q.1 = .ok (q.2.1, q.2.2.1) := List.forall_mem_append.mpr ⟨mj_d27_0, mj_d27_1⟩
theorem mj_k27 : ∀ q ∈ mj_code 27, mj_chk 27 q = true := List.forall_mem_append.mpr ⟨mj_k27_0, mj_k27_1⟩
theorem mj_d28_0 : ∀ q ∈ mj_c28_0, decode prog_5_method_6_code q.1 = .ok (q.2.1, q.2.2.1) := by decide +kernel
theorem mj_k28_0 : ∀ q ∈ mj_c28_0, mj_chk 28 q = true := by decide +kernel
theorem mj_d28 : ∀ q ∈ mj_code 28, decode (mj_b 28) q.1 = .ok (q.2.1, q.2.2.1) := mj_d28_0
theorem mj_k28 : ∀ q ∈ mj_code 28, mj_chk 28 q = true := mj_k28_0
theorem mj_d29_0 : ∀ q ∈ mj_c29_0, decode prog_5_method_7_code q.1 = .ok (q.2.1, q.2.2.1) := by decide +kernel
theorem mj_k29_0 : ∀ q ∈ mj_c29_0, mj_chk 29 q = true := by decide +kernel
theorem mj_d29 : ∀ q ∈ mj_code 29, decode (mj_b 29) q.1 = .ok (q.2.1, q.2.2.1) := mj_d29_0
theorem mj_k29 : ∀ q ∈ mj_code 29, mj_chk 29 q = true := mj_k29_0
theorem mj_d30_0 : ∀ q ∈ mj_c30_0, decode prog_5_method_8_code q.1 = .ok (q.2.1, q.2.2.1) := by decide +kernel
theorem mj_k30_0 : ∀ q ∈ mj_c30_0, mj_chk 30 q = true := by decide +kernel
theorem mj_d30 : ∀ q ∈ mj_code 30, decode (mj_b 30) q.1 = .ok (q.2.1, q.2.2.1) := mj_d30_0
theorem mj_k30 : ∀ q ∈ mj_code 30, mj_chk 30 q = true := mj_k30_0
theorem mj_d31_0 : ∀ q ∈ mj_c31_0, decode prog_5_method_9_code q.1 = .ok (q.2.1, q.2.2.1) := by decide +kernel
theorem mj_k31_0 : ∀ q ∈ mj_c31_0, mj_chk 31 q = true := by decide +kernel
theorem mj_d31 : ∀ q ∈ mj_code 31, decode (mj_b 31) q.1 = .ok (q.2.1, q.2.2.1) := mj_d31_0
theorem mj_k31 : ∀ q ∈ mj_code 31, mj_chk 31 q = true := mj_k31_0
theorem mj_d32_0 : ∀ q ∈ mj_c32_0, decode prog_5_method_11_code q.1 = .ok (q.2.1, q.2.2.1) := by decide +kernel
theorem mj_k32_0 : ∀ q ∈ mj_c32_0, mj_chk 32 q = true := by decide +kernel
theorem mj_d32 : ∀ q ∈ mj_code 32, decode (mj_b 32) q.1 = .ok (q.2.1, q.2.2.1) := mj_d32_0
theorem mj_k32 : ∀ q ∈ mj_code 32, mj_chk 32 q = true := mj_k32_0
theorem mj_d33_0 : ∀ q ∈ mj_c33_0, decode prog_5_method_5_code q.1 = .ok (q.2.1, q.2.2.1) := by decide +kernel
theorem mj_k33_0 : ∀ q ∈ mj_c33_0, mj_chk 33 q = true := by decide +kernel
theorem mj_d33 : ∀ q ∈ mj_code 33, decode (mj_b 33) q.1 = .ok (q.2.1, q.2.2.1) := mj_d33_0
theorem mj_k33 : ∀ q ∈ mj_code 33, mj_chk 33 q = true := mj_k33_0
theorem mj_d34_0 : ∀ q ∈ mj_c34_0, decode prog_5_method_4_code q.1 = .ok (q.2.1, q.2.2.1) := by decide +kernel
theorem mj_k34_0 : ∀ q ∈ mj_c34_0, mj_chk 34 q = true := by decide +kernel
theorem mj_d34 : ∀ q ∈ mj_code 34, decode (mj_b 34) q.1 = .ok (q.2.1, q.2.2.1) := mj_d34_0
theorem mj_k34 : ∀ q ∈ mj_code 34, mj_chk 34 q = true := mj_k34_0
theorem mj_d35_0 : ∀ q ∈ mj_c35_0, decode prog_5_method_13_code q.1 = .ok (q.2.1, q.2.2.1) := by decide +kernel
theorem mj_k35_0 : ∀ q ∈ mj_c35_0, mj_chk 35 q = true := by decide +kernel
theorem mj_d35 : ∀ q ∈ mj_code 35, decode (mj_b 35) q.1 = .ok (q.2.1, q.2.2.1) := mj_d35_0
theorem mj_k35 : ∀ q ∈ mj_code 35, mj_chk 35 q = true := mj_k35_0
theorem mj_d36_0 : ∀ q ∈ mj_c36_0, decode prog_5_method_15_code q.1 = .ok (q.2.1, q.2.2.1) := by decide +kernel
theorem mj_k36_0 : ∀ q ∈ mj_c36_0, mj_chk 36 q = true := by decide +kernel
theorem mj_d36 : ∀ q ∈ mj_code 36, decode (mj_b 36) q.1 = .ok (q.2.1, q.2.2.1) := mj_d36_0
theorem mj_k36 : ∀ q ∈ mj_code 36, mj_chk 36 q = true := mj_k36_0
theorem mj_d37_0 : ∀ q ∈ mj_c37_0, decode prog_5_method_16_code q.1 = .ok (q.2.1, q.2.2.1) := by decide +kernel
theorem mj_k37_0 : ∀ q ∈ mj_c37_0, mj_chk 37 q = true := by decide +kernel
theorem mj_d37 : ∀ q ∈ mj_code 37, decode (mj_b 37) q.1 = .ok (q.2.1, q.2.2.1) := mj_d37_0
theorem mj_k37 : ∀ q ∈ mj_code 37, mj_chk 37 q = true := mj_k37_0
theorem mj_d38_0 : ∀ q ∈ mj_c38_0, decode prog_5_method_17_code q.1 = .ok (q.2.1, q.2.2.1) := by decide +kernel
theorem mj_k38_0 : ∀ q ∈ mj_c38_0, mj_chk 38 q = true := by decide +kernel
theorem mj_d38 : ∀ q ∈ mj_code 38, decode (mj_b 38) q.1 = .ok (q.2.1, q.2.2.1) := mj_d38_0
theorem mj_k38 : ∀ q ∈ mj_code 38, mj_chk 38 q = true := mj_k38_0
theorem mj_d39_0 : ∀ q ∈ mj_c39_0, decode prog_5_method_10_code q.1 = .ok (q.2.1, q.2.2.1) := by decide +kernel
theorem mj_k39_0 : ∀ q ∈ mj_c39_0, mj_chk 39 q = true := by decide +kernel
theorem mj_d39 : ∀ q ∈ mj_code 39, decode (mj_b 39) q.1 = .ok (q.2.1, q.2.2.1) := mj_d39_0
theorem mj_k39 : ∀ q ∈ mj_code 39, mj_chk 39 q = true := mj_k39_0
theorem mj_d40_0 : ∀ q ∈ mj_c40_0, decode prog_5_method_18_code q.1 = .ok (q.2.1, q.2.2.1) := by decide +kernel
theorem mj_k40_0 : ∀ q ∈ mj_c40_0, mj_chk 40 q = true := by decide +kernel
theorem mj_d40 : ∀ q ∈ mj_code 40, decode (mj_b 40) q.1 = .ok (q.2.1, q.2.2.1) := mj_d40_0
theorem mj_k40 : ∀ q ∈ mj_code 40, mj_chk 40 q = true := mj_k40_0
theorem mj_d41_0 : ∀ q ∈ mj_c41_0, decode prog_5_method_12_code q.1 = .ok (q.2.1, q.2.2.1) := by decide +kernel
theorem mj_k41_0 : ∀ q ∈ mj_c41_0, mj_chk 41 q = true := by decide +kernel
theorem mj_d41 : ∀ q ∈ mj_code 41, decode (mj_b 41) q.1 = .ok (q.2.1, q.2.2.1) := mj_d41_0
theorem mj_k41 : ∀ q ∈ mj_code 41, mj_chk 41 q = true := mj_k41_0
theorem mj_d42_0 : ∀ q ∈ mj_c42_0, decode prog_5_method_19_code q.1 = .ok (q.2.1, q.2.2.1) := by decide +kernel
theorem mj_k42_0 : ∀ q ∈ mj_c42_0, mj_chk 42 q = true := by decide +kernel
theorem mj_d42 : ∀ q ∈ mj_code 42, decode (mj_b 42) q.1 = .ok (q.2.1, q.2.2.1) := mj_d42_0
theorem mj_k42 : ∀ q ∈ mj_code 42, mj_chk 42 q = true := mj_k42_0
theorem mj_d43_0 : ∀ q ∈ mj_c43_0, decode prog_5_method_14_code q.1 = .ok (q.2.1, q.2.2.1) := by decide +kernel
theorem mj_k43_0 : ∀ q ∈ mj_c43_0, mj_chk 43 q = true := by decide +kernel
theorem mj_d43 : ∀ q ∈ mj_code 43, decode (mj_b 43) q.1 = .ok (q.2.1, q.2.2.1) := mj_d43_0
theorem mj_k43 : ∀ q ∈ mj_code 43, mj_chk 43 q = true := mj_k43_0
theorem mj_d44_0 : ∀ q ∈ mj_c44_0, decode prog_6_method_1_code q.1 = .ok (q.2.1, q.2.2.1) := by decide +kernel
theorem mj_k44_0 : ∀ q ∈ mj_c44_0, mj_chk 44 q = true := by decide +kernel
theorem mj_d44 : ∀ q ∈ mj_code 44, decode (mj_b 44) q.1 = .ok (q.2.1, q.2.2.1) := mj_d44_0
theorem mj_k44 : ∀ q ∈ mj_code 44, mj_chk 44 q = true := mj_k44_0
theorem mj_d45_0 : ∀ q ∈ mj_c45_0, decode prog_6_method_2_code q.1 = .ok (q.2.1, q.2.2.1) := by decide +kernel
theorem mj_k45_0 : ∀ q ∈ mj_c45_0, mj_chk 45 q = true := by decide +kernel
theorem mj_d45_1 : ∀ q ∈ mj_c45_1, decode prog_6_method_2_code q.1 = .ok (q.2.1, q.2.2.1) := by decide +kernel
theorem mj_k45_1 : ∀ q ∈ mj_c45_1, mj_chk 45 q = true := by decide +kernel
theorem mj_d45 : ∀ q ∈ mj_code 45, decode (mj_b 45) q.1 = .ok (q.2.1, q.2.2.1) := List.forall_mem_append.mpr ⟨mj_d45_0, mj_d45_1⟩
theorem mj_k45 : ∀ q ∈ mj_code 45, mj_chk 45 q = true := List.forall_mem_append.mpr ⟨mj_k45_0, mj_k45_1⟩
theorem mj_d46_0 : ∀ q ∈ mj_c46_0, decode prog_6_method_3_code q.1 = .ok (q.2.1, q.2.2.1) := by decide +kernel
theorem mj_k46_0 : ∀ q ∈ mj_c46_0, mj_chk 46 q = true := by decide +kernel
theorem mj_d46 : ∀ q ∈ mj_code 46, decode (mj_b 46) q.1 = .ok (q.2.1, q.2.2.1) := mj_d46_0
theorem mj_k46 : ∀ q ∈ mj_code 46, mj_chk 46 q = true := mj_k46_0
theorem mj_d47_0 : ∀ q ∈ mj_c47_0, decode prog_6_method_4_code q.1 = .ok (q.2.1, q.2.2.1) := by decide +kernel
theorem mj_k47_0 : ∀ q ∈ mj_c47_0, mj_chk 47 q = true := by decide +kernel
theorem mj_d47 : ∀ q ∈ mj_code 47, decode (mj_b 47) q.1 = .ok (q.2.1, q.2.2.1) := mj_d47_0
theorem mj_k47 : ∀ q ∈ mj_code 47, mj_chk 47 q = true := mj_k47_0
theorem mj_d48_0 : ∀ q ∈ mj_c48_0, decode prog_7_method_1_code q.1 = .ok (q.2.1, q.2.2.1) := by decide +kernel
theorem mj_k48_0 : ∀ q ∈ mj_c48_0, mj_chk 48 q = true := by decide +kernel
theorem mj_d48 : ∀ q ∈ mj_code 48, decode (mj_b 48) q.1 = .ok (q.2.1, q.2.2.1) := mj_d48_0
theorem mj_k48 : ∀ q ∈ mj_code 48, mj_chk 48 q = true := mj_k48_0
theorem mj_d49_0 : ∀ q ∈ mj_c49_0, decode prog_7_method_2_code q.1 = .ok (q.2.1, q.2.2.1) := by decide +kernel
theorem mj_k49_0 : ∀ q ∈ mj_c49_0, mj_chk 49 q = true := by decide +kernel
theorem mj_d49 : ∀ q ∈ mj_code 49, decode (mj_b 49) q.1 = .ok (q.2.1, q.2.2.1) := mj_d49_0
theorem mj_k49 : ∀ q ∈ mj_code 49, mj_chk 49 q = true := mj_k49_0
theorem mj_d50_0 : ∀ q ∈ mj_c50_0, decode prog_7_method_3_code q.1 = .ok (q.2.1, q.2.2.1) := by decide +kernel
theorem mj_k50_0 : ∀ q ∈ mj_c50_0, mj_chk 50 q = true := by decide +kernel
theorem mj_d50_1 : ∀ q ∈ mj_c50_1, decode prog_7_method_3_code q.1 = .ok (q.2.1, q.2.2.1) := by decide +kernel
theorem mj_k50_1 : ∀ q ∈ mj_c50_1, mj_chk 50 q = true := by decide +kernel
theorem mj_d50 : ∀ q ∈ mj_code 50, decode (mj_b 50) q.1 = .ok (q.2.1, q.2.2.1) := List.forall_mem_append.mpr ⟨mj_d50_0, mj_d50_1⟩
theorem mj_k50 : ∀ q ∈ mj_code 50, mj_chk 50 q = true := List.forall_mem_append.mpr ⟨mj_k50_0, mj_k50_1⟩
theorem mj_d51_0 : ∀ q ∈ mj_c51_0, decode prog_7_method_9_code q.1 = .ok (q.2.1, q.2.2.1) := by decide +kernel
theorem mj_k51_0 : ∀ q ∈ mj_c51_0, mj_chk 51 q = true := by decide +kernel
theorem mj_d51 : ∀ q ∈ mj_code 51, decode (mj_b 51) q.1 = .ok (q.2.1, q.2.2.1) := mj_d51_0
theorem mj_k51 : ∀ q ∈ mj_code 51, mj_chk 51 q = true := mj_k51_0
theorem mj_d52_0 : ∀ q ∈ mj_c52_0, decode prog_7_method_8_code q.1 = .ok (q.2.1, q.2.2.1) := by decide +kernel
theorem mj_k52_0 : ∀ q ∈ mj_c52_0, mj_chk 52 q = true := by decide +kernel
theorem mj_d52 : ∀ q ∈ mj_code 52, decode (mj_b 52) q.1 = .ok (q.2.1, q.2.2.1) := mj_d52_0
theorem mj_k52 : ∀ q ∈ mj_code 52, mj_chk 52 q = true := mj_k52_0
theorem mj_d53_0 : ∀ q ∈ mj_c53_0, decode prog_7_method_10_code q.1 = .ok (q.2.1, q.2.2.1) := by decide +kernel
theorem mj_k53_0 : ∀ q ∈ mj_c53_0, mj_chk 53 q = true := by decide +kernel
theorem mj_d53 : ∀ q ∈ mj_code 53, decode (mj_b 53) q.1 = .ok (q.2.1, q.2.2.1) := mj_d53_0
theorem mj_k53 : ∀ q ∈ mj_code 53, mj_chk 53 q = true := mj_k53_0
theorem mj_d54_0 : ∀ q ∈ mj_c54_0, decode prog_7_method_4_code q.1 = .ok (q.2.1, q.2.2.1) := by decide +kernel
theorem mj_k54_0 : ∀ q ∈ mj_c54_0, mj_chk 54 q = true := by decide +kernel
theorem mj_d54 : ∀ q ∈ mj_code 54, decode (mj_b 54) q.1 = .ok (q.2.1, q.2.2.1) := mj_d54_0
theorem mj_k54 : ∀ q ∈ mj_code 54, mj_chk 54 q = true := mj_k54_0
theorem mj_d55_0 : ∀ q ∈ mj_c55_0, decode prog_7_method_5_code q.1 = .ok (q.2.1, q.2.2.1) := by decide +kernel
theorem mj_k55_0 : ∀ q ∈ mj_c55_0, mj_chk 55 q = true := by decide +kernel
theorem mj_d55 : ∀ q ∈ mj_code 55, decode (mj_b 55) q.1 = .ok (q.2.1, q.2.2.1) := mj_d55_0
theorem mj_k55 : ∀ q ∈ mj_code 55, mj_chk 55 q = true := mj_k55_0
theorem mj_d56_0 : ∀ q ∈ mj_c56_0, decode prog_7_method_6_code q.1 = .ok (q.2.1, q.2.2.1) := by decide +kernel
theorem mj_k56_0 : ∀ q ∈ mj_c56_0, mj_chk 56 q = true := by decide +kernel
theorem mj_d56 : ∀ q ∈ mj_code 56, decode (mj_b 56) q.1 = .ok (q.2.1, q.2.2.1) := mj_d56_0
theorem mj_k56 : ∀ q ∈ mj_code 56, mj_chk 56 q = true := mj_k56_0
theorem mj_d57_0 : ∀ q ∈ mj_c57_0, decode prog_7_method_11_code q.1 = .ok (q.2.1, q.2.2.1) := by decide +kernel
theorem mj_k57_0 : ∀ q ∈ mj_c57_0, mj_chk 57 q = true := by decide +kernel
theorem mj_d57 : ∀ q ∈ mj_code 57, decode (mj_b 57) q.1 = .ok (q.2.1, q.2.2.1) := mj_d57_0
theorem mj_k57 : ∀ q ∈ mj_code 57, mj_chk 57 q = true := mj_k57_0
theorem mj_d58_0 : ∀ q ∈ mj_c58_0, decode prog_7_method_7_code q.1 = .ok (q.2.1, q.2.2.1) := by decide +kernel
theorem mj_k58_0 : ∀ q ∈ mj_c58_0, mj_chk 58 q = true := by decide +kernel
theorem mj_d58 : ∀ q ∈ mj_code 58, decode (mj_b 58) q.1 = .ok (q.2.1, q.2.2.1) := mj_d58_0
theorem mj_k58 : ∀ q ∈ mj_code 58, mj_chk 58 q = true := mj_k58_0
theorem mj_d59_0 : ∀ q ∈ mj_c59_0, decode prog_1_method_1_code q.1 = .ok (q.2.1, q.2.2.1) := by decide +kernel
theorem mj_k59_0 : ∀ q ∈ mj_c59_0, mj_chk 59 q = true := by decide +kernel
theorem mj_d59_1 : ∀ q ∈ mj_c59_1, decode prog_1_method_1_code q.1 = .ok (q.2.1, q.2.2.1) := by decide +kernel
theorem mj_k59_1 : ∀ q ∈ mj_c59_1, mj_chk 59 q = true := by decide +kernel
theorem mj_d59 : ∀ q ∈ mj_code 59, decode (mj_b 59) q.1 = .ok (q.2.1, q.2.2.1) := List.forall_mem_append.mpr ⟨mj_d59_0, mj_d59_1⟩
theorem mj_k59 : ∀ q ∈ mj_code 59, mj_chk 59 q = true := List.forall_mem_append.mpr ⟨mj_k59_0, mj_k59_1⟩
theorem mj_d60_0 : ∀ q ∈ mj_c60_0, decode prog_1_method_2_code q.1 = .ok (q.2.1, q.2.2.1) := by decide +kernel
theorem mj_k60_0 : ∀ q ∈ mj_c60_0, mj_chk 60 q = true := by decide +kernel
theorem mj_d60 : ∀ q ∈ mj_code 60, decode (mj_b 60) q.1 = .ok (q.2.1, q.2.2.1) := mj_d60_0
theorem mj_k60 : ∀ q ∈ mj_code 60, mj_chk 60 q = true := mj_k60_0
theorem mj_d61_0 : ∀ q ∈ mj_c61_0, decode prog_1_method_3_code q.1 = .ok (q.2.1, q.2.2.1) := by decide +kernel
theorem mj_k61_0 : ∀ q ∈ mj_c61_0, mj_chk 61 q = true := by decide +kernel
theorem mj_d61 : ∀ q ∈ mj_code 61, decode (mj_b 61) q.1 = .ok (q.2.1, q.2.2.1) := mj_d61_0
theorem mj_k61 : ∀ q ∈ mj_code 61, mj_chk 61 q = true := mj_k61_0
theorem mj_d62_0 : ∀ q ∈ mj_c62_0, decode prog_1_method_4_code q.1 = .ok (q.2.1, q.2.2.1) := by decide +kernel
theorem mj_k62_0 : ∀ q ∈ mj_c62_0, mj_chk 62 q = true := by decide +kernel
theorem mj_d62 : ∀ q ∈ mj_code 62, decode (mj_b 62) q.1 = .ok (q.2.1, q.2.2.1) := mj_d62_0
theorem mj_k62 : ∀ q ∈ mj_code 62, mj_chk 62 q = true := mj_k62_0
theorem mj_d63_0 : ∀ q ∈ mj_c63_0, decode prog_1_method_5_code q.1 = .ok (q.2.1, q.2.2.1) := by decide +kernel
theorem mj_k63_0 : ∀ q ∈ mj_c63_0, mj_chk 63 q = true := by decide +kernel
theorem mj_d63 : ∀ q ∈ mj_code 63, decode (mj_b 63) q.1 = .ok (q.2.1, q.2.2.1) := mj_d63_0
theorem mj_k63 : ∀ q ∈ mj_code 63, mj_chk 63 q = true := mj_k63_0
theorem mj_d64_0 : ∀ q ∈ mj_c64_0, decode prog_1_method_6_code q.1 = .ok (q.2.1, q.2.2.1) := by decide +kernel
theorem mj_k64_0 : ∀ q ∈ mj_c64_0, mj_chk 64 q = true := by decide +kernel
theorem mj_d64_1 : ∀ q ∈ mj_c64_1, decode prog_1_method_6_code q.1 = .ok (q.2.1, q.2.2.1) := by decide +kernel
theorem mj_k64_1 : ∀ q ∈ mj_c64_1, mj_chk 64 q = true := by decide +kernel
theorem mj_d64 : ∀ q ∈ mj_code 64, decode (mj_b 64) q.1 = .ok (q.2.1, q.2.2.1) := List.forall_mem_append.mpr ⟨mj_d64_0, mj_d64_1⟩
theorem mj_k64 : ∀ q ∈ mj_code 64, mj_chk 64 q = true := List.forall_mem_append.mpr ⟨mj_k64_0, mj_k64_1⟩
theorem mj_d65_0 : ∀ q ∈ mj_c65_0, decode prog_1_method_7_code q.1 = .ok (q.2.1, q.2.2.1) := by decide +kernel
theorem mj_k65_0 : ∀ q ∈ mj_c65_0, mj_chk 65 q = true := by decide +kernel
theorem mj_d65_1 : ∀ q ∈ mj_c65_1, decode prog_1_method_7_code q.1 = .ok (q.2.1, q.2.2.1) := by decide +kernel
theorem mj_k65_1 : ∀ q ∈ mj_c65_1, mj_chk 65 q = true := by decide +kernel
theorem mj_d65 : ∀ q ∈ mj_code 65, decode (mj_b 65) q.1 = .ok (q.2.1, q.2.2.1) := List.forall_mem_append.mpr ⟨mj_d65_0, mj_d65_1⟩
theorem mj_k65 : ∀ q ∈ mj_code 65, mj_chk 65 q = true := List.forall_mem_append.mpr ⟨mj_k65_0, mj_k65_1⟩
theorem mj_d66_0 : ∀ q ∈ mj_c66_0, decode prog_1_method_8_code q.1 = .ok (q.2.1, q.2.2.1) := by decide +kernel
theorem mj_k66_0 : ∀ q ∈ mj_c66_0, mj_chk 66 q = true := by decide +kernel
theorem mj_d66 : ∀ q ∈ mj_code 66, decode (mj_b 66) q.1 = .ok (q.2.1, q.2.2.1) := mj_d66_0
theorem mj_k66 : ∀ q ∈ mj_code 66, mj_chk 66 q = true := mj_k66_0
theorem mj_d67_0 : ∀ q ∈ mj_c67_0, decode prog_1_method_9_code q.1 = .ok (q.2.1, q.2.2.1) := by decide +kernel
theorem mj_k67_0 : ∀ q ∈ mj_c67_0, mj_chk 67 q = true := by decide +kernel
theorem mj_d67 : ∀ q ∈ mj_code 67, decode (mj_b 67) q.1 = .ok (q.2.1, q.2.2.1) := mj_d67_0
theorem mj_k67 : ∀ q ∈ mj_code 67, mj_chk 67 q = true := mj_k67_0
theorem mj_d68_0 : ∀ q ∈ mj_c68_0, decode prog_1_method_10_code q.1 = .ok (q.2.1, q.2.2.1) := by decide +kernel
theorem mj_k68_0 : ∀ q ∈ mj_c68_0, mj_chk 68 q = true := by decide +kernel
theorem mj_d68 : ∀ q ∈ mj_code 68, decode (mj_b 68) q.1 = .ok (q.2.1, q.2.2.1) := mj_d68_0
theorem mj_k68 : ∀ q ∈ mj_code 68, mj_chk 68 q = true := mj_k68_0
theorem mj_d69_0 : ∀ q ∈ mj_c69_0, decode prog_1_method_11_code q.1 = .ok (q.2.1, q.2.2.1) := by decide +kernel
theorem mj_k69_0 : ∀ q ∈ mj_c69_0, mj_chk 69 q = true := by decide +kernel
theorem mj_d69 : ∀ q ∈ mj_code 69, decode (mj_b 69) q.1 = .ok (q.2.1, q.2.2.1) := mj_d69_0
theorem mj_k69 : ∀ q ∈ mj_code 69, mj_chk 69 q = true := mj_k69_0
theorem mj_d70_0 : ∀ q ∈ mj_c70_0, decode prog_1_method_12_code q.1 = .ok (q.2.1, q.2.2.1) := by decide +kernel
theorem mj_k70_0 : ∀ q ∈ mj_c70_0, mj_chk 70 q = true := by decide +kernel
theorem mj_d70 : ∀ q ∈ mj_code 70, decode (mj_b 70) q.1 = .ok (q.2.1, q.2.2.1) := mj_d70_0
theorem mj_k70 : ∀ q ∈ mj_code 70, mj_chk 70 q = true := mj_k70_0
theorem mj_d71_0 : ∀ q ∈ mj_c71_0, decode prog_1_method_13_code q.1 = .ok (q.2.1, q.2.2.1) := by decide +kernel
theorem mj_k71_0 : ∀ q ∈ mj_c71_0, mj_chk 71 q = true := by decide +kernel
theorem mj_d71 : ∀ q ∈ mj_code 71, decode (mj_b 71) q.1 = .ok (q.2.1, q.2.2.1) := mj_d71_0
theorem mj_k71 : ∀ q ∈ mj_code 71, mj_chk 71 q = true := mj_k71_0
theorem mj_d72_0 : ∀ q ∈ mj_c72_0, decode prog_1_method_14_code q.1 = .ok (q.2.1, q.2.2.1) := by decide +kernel
theorem mj_k72_0 : ∀ q ∈ mj_c72_0, mj_chk 72 q = true := by decide +kernel
theorem mj_d72 : ∀ q ∈ mj_code 72, decode (mj_b 72) q.1 = .ok (q.2.1, q.2.2.1) := mj_d72_0
theorem mj_k72 : ∀ q ∈ mj_code 72, mj_chk 72 q = true := mj_k72_0
theorem mj_d73_0 : ∀ q ∈ mj_c73_0, decode prog_1_method_36_code q.1 = .ok (q.2.1, q.2.2.1) := by decide +kernel
theorem mj_k73_0 : ∀ q ∈ mj_c73_0, mj_chk 73 q = true := by decide +kernel
theorem mj_d73 : ∀ q ∈ mj_code 73, decode (mj_b 73) q.1 = .ok (q.2.1, q.2.2.1) := mj_d73_0
theorem mj_k73 : ∀ q ∈ mj_code 73, mj_chk 73 q = true := mj_k73_0
theorem mj_d74_0 : ∀ q ∈ mj_c74_0, decode prog_1_method_37_code q.1 = .ok (q.2.1, q.2.2.1) := by decide +kernel
theorem mj_k74_0 : ∀ q ∈ mj_c74_0, mj_chk 74 q = true := by decide +kernel
theorem mj_d74_1 : ∀ q ∈ mj_c74_1, decode prog_1_method_37_code q.1 = .ok (q.2.1, q.2.2.1) := by decide +kernel
theorem mj_k74_1 : ∀ q ∈ mj_c74_1, mj_chk 74 q = true := by decide +kernel
theorem mj_d74 : ∀ q ∈ mj_code 74, decode (mj_b 74) q.1 = .ok (q.2.1, q.2.2.1) := List.forall_mem_append.mpr ⟨mj_d74_0, mj_d74_1⟩
theorem mj_k74 : ∀ q ∈ mj_code 74, mj_chk 74 q = true := List.forall_mem_append.mpr ⟨mj_k74_0, mj_k74_1⟩
theorem mj_d75_0 : ∀ q ∈ mj_c75_0, decode prog_1_method_15_code q.1 = .ok (q.2.1, q.2.2.1) := by decide +kernel
theorem mj_k75_0 : ∀ q ∈ mj_c75_0, mj_chk 75 q = true := by decide +kernel
theorem mj_d75_1 : ∀ q ∈ mj_c75_1, decode prog_1_method_15_code q.1 = .ok (q.2.1, q.2.2.1) := by decide +kernel
theorem mj_k75_1 : ∀ q ∈ mj_c75_1, mj_chk 75 q = true := by decide +kernel
theorem mj_d75 : ∀ q ∈ mj_code 75, decode (mj_b 75) q.1 = .ok (q.2.1, q.2.2.1) := List.forall_mem_append.mpr ⟨mj_d75_0, mj_d75_1⟩
theorem mj_k75 : ∀ q ∈ mj_code 75, mj_chk 75 q = true := List.forall_mem_append.mpr ⟨mj_k75_0, mj_k75_1⟩
theorem mj_d76_0 : ∀ q ∈ mj_c76_0, decode prog_1_method_16_code q.1 = .ok (q.2.1, q.2.2.1) := by decide +kernel
theorem mj_k76_0 : ∀ q ∈ mj_c76_0, mj_chk 76 q = true := by decide +kernel
theorem mj_d76_1 : ∀ q ∈ mj_c76_1, decode prog_1_method_16_code q.1 = .ok (q.2.1, q.2.2.1) := by decide +kernel
theorem mj_k76_1 : ∀ q ∈ mj_c76_1, mj_chk 76 q = true := by decide +kernel
theorem mj_d76 : ∀ q ∈ mj_code 76, decode (mj_b 76) q.1 = .ok (q.2.1, q.2.2.1) := List.forall_mem_append.mpr ⟨mj_d76_0, mj_d76_1⟩
theorem mj_k76 : ∀ q ∈ mj_code 76, mj_chk 76 q = true := List.forall_mem_append.mpr ⟨mj_k76_0, mj_k76_1⟩
theorem mj_d77_0 : ∀ q ∈ mj_c77_0, decode prog_1_method_17_code q.1 = .ok (q.2.1, q.2.2.1) := by decide +kernel
theorem mj_k77_0 : ∀ q ∈ mj_c77_0, mj_chk 77 q = true := by decide +kernel
theorem mj_d77_1 : ∀ q ∈ mj_c77_1, decode prog_1_method_17_code q.1 = .ok (q.2.1, q.2.2.1) := by decide +kernel
theorem mj_k77_1 : ∀ q ∈ mj_c77_1, mj_chk 77 q = true := by decide +kernel
theorem mj_d77 : ∀ q ∈ mj_code 77, decode (mj_b 77) q.1 = .ok (q.2.1, q.2.2.1) := List.forall_mem_append.mpr ⟨mj_d77_0, mj_d77_1⟩
theorem mj_k77 : ∀ q ∈ mj_code 77, mj_chk 77 q = true := List.forall_mem_append.mpr ⟨mj_k77_0, mj_k77_1⟩
theorem mj_d78_0 : ∀ q ∈ mj_c78_0, decode prog_1_method_40_code q.1 = .ok (q.2.1, q.2.2.1) := by decide +kernel
theorem mj_k78_0 : ∀ q ∈ mj_c78_0, mj_chk 78 q = true := by decide +kernel
theorem mj_d78 : ∀ q ∈ mj_code 78, decode (mj_b 78) q.1 = .ok (q.2.1, q.2.2.1) := mj_d78_0
theorem mj_k78 : ∀ q ∈ mj_code 78, mj_chk 78 q = true := mj_k78_0
theorem mj_d79_0 : ∀ q ∈ mj_c79_0, decode prog_1_method_18_code q.1 = .ok (q.2.1, q.2.2.1) := by decide +kernel
theorem mj_k79_0 : ∀ q ∈ mj_c79_0, mj_chk 79 q = true := by decide +kernel
theorem mj_d79 : ∀ q ∈ mj_code 79, decode (mj_b 79) q.1 = .ok (q.2.1, q.2.2.1) := mj_d79_0
theorem mj_k79 : ∀ q ∈ mj_code 79, mj_chk 79 q = true := mj_k79_0
theorem mj_d80_0 : ∀ q ∈ mj_c80_0, decode prog_1_method_19_code q.1 = .ok (q.2.1, q.2.2.1) := by decide +kernel
theorem mj_k80_0 : ∀ q ∈ mj_c80_0, mj_chk 80 q = true := by decide +kernel
theorem mj_d80 : ∀ q ∈ mj_code 80, decode (mj_b 80) q.1 = .ok (q.2.1, q.2.2.1) := mj_d80_0
theorem mj_k80 : ∀ q ∈ mj_code 80, mj_chk 80 q = true := mj_k80_0
theorem mj_d81_0 : ∀ q ∈ mj_c81_0, decode prog_1_method_20_code q.1 = .ok (q.2.1, q.2.2.1) := by decide +kernel
theorem mj_k81_0 : ∀ q ∈ mj_c81_0, mj_chk 81 q = true := by decide +kernel
theorem mj_d81 : ∀ q ∈ mj_code 81, decode (mj_b 81) q.1 = .ok (q.2.1, q.2.2.1) := mj_d81_0
theorem mj_k81 : ∀ q ∈ mj_code 81, mj_chk 81 q = true := mj_k81_0
theorem mj_d82_0 : ∀ q ∈ mj_c82_0, decode prog_1_method_21_code q.1 = .ok (q.2.1, q.2.2.1) := by decide +kernel
theorem mj_k82_0 : ∀ q ∈ mj_c82_0, mj_chk 82 q = true := by decide +kernel
theorem mj_d82_1 : ∀ q ∈ mj_c82_1, decode prog_1_method_21_code q.1 = .ok (q.2.1, q.2.2.1) := by decide +kernel
theorem mj_k82_1 : ∀ q ∈ mj_c82_1, mj_chk 82 q = true := by decide +kernel
theorem mj_d82 : ∀ q ∈ mj_code 82, decode (mj_b 82) q.1 = .ok (q.2.1, q.2.2.1) := List.forall_mem_append.mpr ⟨mj_d82_0, mj_d82_1⟩
theorem mj_k82 : ∀ q ∈ mj_code 82, mj_chk 82 q = true := List.forall_mem_append.mpr ⟨mj_k82_0, mj_k82_1⟩
theorem mj_d83_0 : ∀ q ∈ mj_c83_0, decode prog_1_method_41_code q.1 = .ok (q.2.1, q.2.2.1) := by decide +kernel
theorem mj_k83_0 : ∀ q ∈ mj_c83_0, mj_chk 83 q = true := by decide +kernel
theorem mj_d83 : ∀ q ∈ mj_code 83, decode (mj_b 83) q.1 = .ok (q.2.1, q.2.2.1) := mj_d83_0
theorem mj_k83 : ∀ q ∈ mj_code 83, mj_chk 83 q = true := mj_k83_0
theorem mj_d84_0 : ∀ q ∈ mj_c84_0, decode prog_1_method_42_code q.1 = .ok (q.2.1, q.2.2.1) := by decide +kernel
theorem mj_k84_0 : ∀ q ∈ mj_c84_0, mj_chk 84 q = true := by decide +kernel
theorem mj_d84 : ∀ q ∈ mj_code 84, decode (mj_b 84) q.1 = .ok (q.2.1, q.2.2.1) := mj_d84_0
theorem mj_k84 : ∀ q ∈ mj_code 84, mj_chk 84 q = true := mj_k84_0
theorem mj_d85_0 : ∀ q ∈ mj_c85_0, decode prog_1_method_22_code q.1 = .ok (q.2.1, q.2.2.1) := by decide +kernel
theorem mj_k85_0 : ∀ q ∈ mj_c85_0, mj_chk 85 q = true := by decide +kernel
theorem mj_d85_1 : ∀ q ∈ mj_c85_1, decode prog_1_method_22_code q.1 = .ok (q.2.1, q.2.2.1) := by decide +kernel
theorem mj_k85_1 : ∀ q ∈ mj_c85_1, mj_chk 85 q = true := by decide +kernel
theorem mj_d85 : ∀ q ∈ mj_code 85, decode (mj_b 85) q.1 = .ok (q.2.1, q.2.2.1) := List.forall_mem_append.mpr ⟨mj_d85_0, mj_d85_1⟩
theorem mj_k85 : ∀ q ∈ mj_code 85, mj_chk 85 q = true := List.forall_mem_append.mpr ⟨mj_k85_0, mj_k85_1⟩
theorem mj_d86_0 : ∀ q ∈ mj_c86_0, decode prog_1_method_23_code q.1 = .ok (q.2.1, q.2.2.1) := by decide +kernel
theorem mj_k86_0 : ∀ q ∈ mj_c86_0, mj_chk 86 q = true := by decide +kernel
theorem mj_d86 : ∀ q ∈ mj_code 86, decode (mj_b 86) q.1 = .ok (q.2.1, q.2.2.1) := mj_d86_0
theorem mj_k86 : ∀ q ∈ mj_code 86, mj_chk 86 q = true := mj_k86_0
theorem mj_d87_0 : ∀ q ∈ mj_c87_0, decode prog_1_method_24_code q.1 = .ok (q.2.1, q.2.2.1) := by decide +kernel
theorem mj_k87_0 : ∀ q ∈ mj_c87_0, mj_chk 87 q = true := by decide +kernel
theorem mj_d87 : ∀ q ∈ mj_code 87, decode (mj_b 87) q.1 = .ok (q.2.1, q.2.2.1) := mj_d87_0
theorem mj_k87 : ∀ q ∈ mj_code 87, mj_chk 87 q = true := mj_k87_0
theorem mj_d88_0 : ∀ q ∈ mj_c88_0, decode prog_1_method_35_code q.1 = .ok (q.2.1, q.2.2.1) := by decide +kernel
theorem mj_k88_0 : ∀ q ∈ mj_c88_0, mj_chk 88 q = true := by decide +kernel
theorem mj_d88 : ∀ q ∈ mj_code 88, decode (mj_b 88) q.1 = .ok (q.2.1, q.2.2.1) := mj_d88_0
theorem mj_k88 : ∀ q ∈ mj_code 88, mj_chk 88 q = true := mj_k88_0
theorem mj_d89_0 : ∀ q ∈ mj_c89_0, decode prog_1_method_38_code q.1 = .ok (q.2.1, q.2.2.1) := by decide +kernel
theorem mj_k89_0 : ∀ q ∈ mj_c89_0, mj_chk 89 q = true := by decide +kernel
theorem mj_d89 : ∀ q ∈ mj_code 89, decode (mj_b 89) q.1 = .ok (q.2.1, q.2.2.1) := mj_d89_0
theorem mj_k89 : ∀ q ∈ mj_code 89, mj_chk 89 q = true := mj_k89_0
theorem mj_d90_0 : ∀ q ∈ mj_c90_0, decode prog_1_method_25_code q.1 = .ok (q.2.1, q.2.2.1) := by decide +kernel
theorem mj_k90_0 : ∀ q ∈ mj_c90_0, mj_chk 90 q = true := by decide +kernel
theorem mj_d90 : ∀ q ∈ mj_code 90, decode (mj_b 90) q.1 = .ok (q.2.1, q.2.2.1) := mj_d90_0
theorem mj_k90 : ∀ q ∈ mj_code 90, mj_chk 90 q = true := mj_k90_0
theorem mj_d91_0 : ∀ q ∈ mj_c91_0, decode prog_1_method_26_code q.1 = .ok (q.2.1, q.2.2.1) := by decide +kernel
theorem mj_k91_0 : ∀ q ∈ mj_c91_0, mj_chk 91 q = true := by decide +kernel
theorem mj_d91_1 : ∀ q ∈ mj_c91_1, decode prog_1_method_26_code q.1 = .ok (q.2.1, q.2.2.1) := by decide +kernel
theorem mj_k91_1 : ∀ q ∈ mj_c91_1, mj_chk 91 q = true := by decide +kernel
theorem mj_d91 : ∀ q ∈ mj_code 91, decode (mj_b 91) q.1 = .ok (q.2.1, q.2.2.1) := List.forall_mem_append.mpr ⟨mj_d91_0, mj_d91_1⟩
theorem mj_k91 : ∀ q ∈ mj_code 91, mj_chk 91 q = true := List.forall_mem_append.mpr ⟨mj_k91_0, mj_k91_1⟩
theorem mj_d92_0 : ∀ q ∈ mj_c92_0, decode prog_1_method_39_code q.1 = .ok (q.2.1, q.2.2.1) := by decide +kernel
theorem mj_k92_0 : ∀ q ∈ mj_c92_0, mj_chk 92 q = true := by decide +kernel
theorem mj_d92 : ∀ q ∈ mj_code 92, decode (mj_b 92) q.1 = .ok (q.2.1, q.2.2.1) := mj_d92_0
theorem mj_k92 : ∀ q ∈ mj_code 92, mj_chk 92 q = true := mj_k92_0
theorem mj_d93_0 : ∀ q ∈ mj_c93_0, decode prog_1_method_27_code q.1 = .ok (q.2.1, q.2.2.1) := by decide +kernel
theorem mj_k93_0 : ∀ q ∈ mj_c93_0, mj_chk 93 q = true := by decide +kernel
theorem mj_d93_1 : ∀ q ∈ mj_c93_1, decode prog_1_method_27_code q.1 = .ok (q.2.1, q.2.2.1) := by decide +kernel
theorem mj_k93_1 : ∀ q ∈ mj_c93_1, mj_chk 93 q = true := by decide +kernel
theorem mj_d93 : ∀ q ∈ mj_code 93, decode (mj_b 93) q.1 = .ok (q.2.1, q.2.2.1) := List.forall_mem_append.mpr ⟨mj_d93_0, mj_d93_1⟩
theorem mj_k93 : ∀ q ∈ mj_code 93, mj_chk 93 q = true := List.forall_mem_append.mpr ⟨mj_k93_0, mj_k93_1⟩
theorem mj_d94_0 : ∀ q ∈ mj_c94_0, decode prog_1_method_28_code q.1 = .ok (q.2.1, q.2.2.1) := by decide +kernel
theorem mj_k94_0 : ∀ q ∈ mj_c94_0, mj_chk 94 q = true := by decide +kernel
theorem mj_d94 : ∀ q ∈ mj_code 94, decode (mj_b 94) q.1 = .ok (q.2.1, q.2.2.1) := mj_d94_0
theorem mj_k94 : ∀ q ∈ mj_code 94, mj_chk 94 q = true := mj_k94_0
theorem mj_d95_0 : ∀ q ∈ mj_c95_0, decode prog_1_method_29_code q.1 = .ok (q.2.1, q.2.2.1) := by decide +kernel
theorem mj_k95_0 : ∀ q ∈ mj_c95_0, mj_chk 95 q = true := by decide +kernel
theorem mj_d95_1 : ∀ q ∈ mj_c95_1, decode prog_1_method_29_code q.1 = .ok (q.2.1, q.2.2.1) := by decide +kernel
theorem mj_k95_1 : ∀ q ∈ mj_c95_1, mj_chk 95 q = true := by decide +kernel
theorem mj_d95 : ∀ q ∈ mj_code 95, decode (mj_b 95) q.1 = .ok (q.2.1, q.2.2.1) := List.forall_mem_append.mpr ⟨mj_d95_0, mj_d95_1⟩
theorem mj_k95 : ∀ q ∈ mj_code 95, mj_chk 95 q = true := List.forall_mem_append.mpr ⟨mj_k95_0, mj_k95_1⟩
theorem mj_d96_0 : ∀ q ∈ mj_c96_0, decode prog_1_method_30_code q.1 = .ok (q.2.1, q.2.2.1) := by decide +kernel
theorem mj_k96_0 : ∀ q ∈ mj_c96_0, mj_chk 96 q = true := by decide +kernel
theorem mj_d96 : ∀ q ∈ mj_code 96, decode (mj_b 96) q.1 = .ok (q.2.1, q.2.2.1) := mj_d96_0
theorem mj_k96 : ∀ q ∈ mj_code 96, mj_chk 96 q = true := mj_k96_0
theorem mj_d97_0 : ∀ q ∈ mj_c97_0, decode prog_1_method_31_code q.1 = .ok (q.2.1, q.2.2.1) := by decide +kernel
theorem mj_k97_0 : ∀ q ∈ mj_c97_0, mj_chk 97 q = true := by decide +kernel
theorem mj_d97_1 : ∀ q ∈ mj_c97_1, decode prog_1_method_31_code q.1 = .ok (q.2.1, q.2.2.1) := by decide +kernel
theorem mj_k97_1 : ∀ q ∈ mj_c97_1, mj_chk 97 q = true := by decide +kernel
theorem mj_d97 : ∀ q ∈ mj_code 97, decode (mj_b 97) q.1 = .ok (q.2.1, q.2.2.1) := List.forall_mem_append.mpr ⟨mj_d97_0, mj_d97_1⟩
theorem mj_k97 : ∀ q ∈ mj_code 97, mj_chk 97 q = true := List.forall_mem_append.mpr ⟨mj_k97_0, mj_k97_1⟩
theorem mj_d98_0 : ∀ q ∈ mj_c98_0, decode prog_1_method_32_code q.1 = .ok (q.2.1, q.2.2.1) := by decide +kernel
theorem mj_k98_0 : ∀ q ∈ mj_c98_0, mj_chk 98 q = true := by decide +kernel
theorem mj_d98 : ∀ q ∈ mj_code 98, decode (mj_b 98) q.1 = .ok (q.2.1, q.2.2.1) := mj_d98_0
theorem mj_k98 : ∀ q ∈ mj_code 98, mj_chk 98 q = true := mj_k98_0
theorem mj_d99_0 : ∀ q ∈ mj_c99_0, decode prog_1_method_34_code q.1 = .ok (q.2.1, q.2.2.1) := by decide +kernel
theorem mj_k99_0 : ∀ q ∈ mj_c99_0, mj_chk 99 q = true := by decide +kernel
theorem mj_d99 : ∀ q ∈ mj_code 99, decode (mj_b 99) q.1 = .ok (q.2.1, q.2.2.1) := mj_d99_0
theorem mj_k99 : ∀ q ∈ mj_code 99, mj_chk 99 q = true := mj_k99_0
theorem mj_d100_0 : ∀ q ∈ mj_c100_0, decode prog_1_method_33_code q.1 = .ok (q.2.1, q.2.2.1) := by decide +kernel
theorem mj_k100_0 : ∀ q ∈ mj_c100_0, mj_chk 100 q = true := by decide +kernel
theorem mj_d100 : ∀ q ∈ mj_code 100, decode (mj_b 100) q.1 = .ok (q.2.1, q.2.2.1) := mj_d100_0
theorem mj_k100 : ∀ q ∈ mj_code 100, mj_chk 100 q = true := mj_k100_0
theorem mj_d101_0 : ∀ q ∈ mj_c101_0, decode prog_9_method_1_code q.1 = .ok (q.2.1, q.2.2.1) := by decide +kernel
theorem mj_k101_0 : ∀ q ∈ mj_c101_0, mj_chk 101 q = true := by decide +kernel
theorem mj_d101_1 : ∀ q ∈ mj_c101_1, decode prog_9_method_1_code q.1 = .ok (q.2.1, q.2.2.1) := by decide +kernel
theorem mj_k101_1 : ∀ q ∈ mj_c101_1, mj_chk 101 q = true := by decide +kernel
theorem mj_d101 : ∀ q ∈ mj_code 101, decode (mj_b 101) q.1 = .ok (q.2.1, q.2.2.1) := List.forall_mem_append.mpr ⟨mj_d101_0, mj_d101_1⟩
theorem mj_k101 : ∀ q ∈ mj_code 101, mj_chk 101 q = true := List.forall_mem_append.mpr ⟨mj_k101_0, mj_k101_1⟩
theorem mj_d102_0 : ∀ q ∈ mj_c102_0, decode prog_9_method_8_code q.1 = .ok (q.2.1, q.2.2.1) := by decide +kernel
theorem mj_k102_0 : ∀ q ∈ mj_c102_0, mj_chk 102 q = true := by decide +kernel
theorem mj_d102 : ∀ q ∈ mj_code 102, decode (mj_b 102) q.1 = .ok (q.2.1, q.2.2.1) := mj_d102_0
theorem mj_k102 : ∀ q ∈ mj_code 102, mj_chk 102 q = true := mj_k102_0
theorem mj_d103_0 : ∀ q ∈ mj_c103_0, decode prog_9_method_3_code q.1 = .ok (q.2.1, q.2.2.1) := by decide +kernel
theorem mj_k103_0 : ∀ q ∈ mj_c103_0, mj_chk 103 q = true := by decide +kernel
theorem mj_d103 : ∀ q ∈ mj_code 103, decode (mj_b 103) q.1 = .ok (q.2.1, q.2.2.1) := mj_d103_0
theorem mj_k103 : ∀ q ∈ mj_code 103, mj_chk 103 q = true := mj_k103_0
theorem mj_d104_0 : ∀ q ∈ mj_c104_0, decode prog_9_method_9_code q.1 = .ok (q.2.1, q.2.2.1) := by decide +kernel
theorem mj_k104_0 : ∀ q ∈ mj_c104_0, mj_chk 104 q = true := by decide +kernel
theorem mj_d104 : ∀ q ∈ mj_code 104, decode (mj_b 104) q.1 = .ok (q.2.1, q.2.2.1) := mj_d104_0
theorem mj_k104 : ∀ q ∈ mj_code 104, mj_chk 104 q = true := mj_k104_0
theorem mj_d105_0 : ∀ q ∈ mj_c105_0, decode prog_9_method_18_code q.1 = .ok (q.2.1, q.2.2.1) := by decide +kernel
theorem mj_k105_0 : ∀ q ∈ mj_c105_0, mj_chk 105 q = true := by decide +kernel
theorem mj_d105 : ∀ q ∈ mj_code 105, decode (mj_b 105) q.1 = .ok (q.2.1, q.2.2.1) := mj_d105_0
theorem mj_k105 : ∀ q ∈ mj_code 105, mj_chk 105 q = true := mj_k105_0
theorem mj_d106_0 : ∀ q ∈ mj_c106_0, decode prog_9_method_17_code q.1 = .ok (q.2.1, q.2.2.1) := by decide +kernel
theorem mj_k106_0 : ∀ q ∈ mj_c106_0, mj_chk 106 q = true := by decide +kernel
theorem mj_d106_1 : ∀ q ∈ mj_c106_1, decode prog_9_method_17_code q.1 = .ok (q.2.1, q.2.2.1) := by decide +kernel
theorem mj_k106_1 : ∀ q ∈ mj_c106_1, mj_chk 106 q = true := by decide +kernel
theorem mj_d106 : ∀ q ∈ mj_code 106, decode (mj_b 106) q.1 = .ok (q.2.1, q.2.2.1) := List.forall_mem_append.mpr ⟨mj_d106_0, mj_d106_1⟩
theorem mj_k106 : ∀ q ∈ mj_code 106, mj_chk 106 q = true := List.forall_mem_append.mpr ⟨mj_k106_0, mj_k106_1⟩
theorem mj_d107_0 : ∀ q ∈ mj_c107_0, decode prog_9_method_10_code q.1 = .ok (q.2.1, q.2.2.1) := by decide +kernel
theorem mj_k107_0 : ∀ q ∈ mj_c107_0, mj_chk 107 q = true := by decide +kernel
theorem mj_d107 : ∀ q ∈ mj_code 107, decode (mj_b 107) q.1 = .ok (q.2.1, q.2.2.1) := mj_d107_0
theorem mj_k107 : ∀ q ∈ mj_code 107, mj_chk 107 q = true := mj_k107_0
theorem mj_d108_0 : ∀ q ∈ mj_c108_0, decode prog_9_method_16_code q.1 = .ok (q.2.1, q.2.2.1) := by decide +kernel
theorem mj_k108_0 : ∀ q ∈ mj_c108_0, mj_chk 108 q = true := by decide +kernel
theorem mj_d108_1 : ∀ q ∈ mj_c108_1, decode prog_9_method_16_code q.1 = .ok (q.2.1, q.2.2.1) := by decide +kernel
theorem mj_k108_1 : ∀ q ∈ mj_c108_1, mj_chk 108 q = true := by decide +kernel
theorem mj_d108 : ∀ q ∈ mj_code 108, decode (mj_b 108) q.1 = .ok (q.2.1, q.2.2.1) := List.forall_mem_append.mpr ⟨mj_d108_0, mj_d108_1⟩
theorem mj_k108 : ∀ q ∈ mj_code 108, mj_chk 108 q = true := List.forall_mem_append.mpr ⟨mj_k108_0, mj_k108_1⟩
theorem mj_d109_0 : ∀ q ∈ mj_c109_0, decode prog_9_method_13_code q.1 = .ok (q.2.1, q.2.2.1) := by decide +kernel
theorem mj_k109_0 : ∀ q ∈ mj_c109_0, mj_chk 109 q = true := by decide +kernel
theorem mj_d109 : ∀ q ∈ mj_code 109, decode (mj_b 109) q.1 = .ok (q.2.1, q.2.2.1) := mj_d109_0
theorem mj_k109 : ∀ q ∈ mj_code 109, mj_chk 109 q = true := mj_k109_0
theorem mj_d110_0 : ∀ q ∈ mj_c110_0, decode prog_9_method_12_code q.1 = .ok (q.2.1, q.2.2.1) := by decide +kernel
theorem mj_k110_0 : ∀ q ∈ mj_c110_0, mj_chk 110 q = true := by decide +kernel
theorem mj_d110 : ∀ q ∈ mj_code 110, decode (mj_b 110) q.1 = .ok (q.2.1, q.2.2.1) := mj_d110_0
theorem mj_k110 : ∀ q ∈ mj_code 110, mj_chk 110 q = true := mj_k110_0
theorem mj_d111_0 : ∀ q ∈ mj_c111_0, decode prog_9_method_11_code q.1 = .ok (q.2.1, q.2.2.1) := by decide +kernel
theorem mj_k111_0 : ∀ q ∈ mj_c111_0, mj_chk 111 q = true := by decide +kernel
theorem mj_d111_1 : ∀ q ∈ mj_c111_1, decode prog_9_method_11_code q.1 = .ok (q.2.1, q.2.2.1) := by decide +kernel
theorem mj_k111_1 : ∀ q ∈ mj_c111_1, mj_chk 111 q = true := by decide +kernel
theorem mj_d111 : ∀ q ∈ mj_code 111, decode (mj_b 111) q.1 = .ok (q.2.1, q.2.2.1) := List.forall_mem_append.mpr ⟨mj_d111_0, mj_d111_1⟩
theorem mj_k111 : ∀ q ∈ mj_code 111, mj_chk 111 q = true := List.forall_mem_append.mpr ⟨mj_k111_0, mj_k111_1⟩
theorem mj_d112_0 : ∀ q ∈ mj_c112_0, decode prog_9_method_14_code q.1 = .ok (q.2.1, q.2.2.1) := by decide +kernel
theorem mj_k112_0 : ∀ q ∈ mj_c112_0, mj_chk 112 q = true := by decide +kernel
theorem mj_d112_1 : ∀ q ∈ mj_c112_1, decode prog_9_method_14_code q.1 = .ok (q.2.1, q.2.2.1) := by decide +kernel
theorem mj_k112_1 : ∀ q ∈ mj_c112_1, mj_chk 112 q = true := by decide +kernel
theorem mj_d112_2 : ∀ q ∈ mj_c112_2, decode prog_9_method_14_code q.1 = .ok (q.2.1, q.2.2.1) := by decide +kernel
theorem mj_k112_2 : ∀ q ∈ mj_c112_2, mj_chk 112 q = true := by decide +kernel
theorem mj_d112 : ∀ q ∈ mj_code 112, decode (mj_b 112) q.1 = .ok (q.2.1, q.2.2.1) := List.forall_mem_append.mpr ⟨mj_d112_0, List.forall_mem_append.mpr ⟨mj_d112_1, mj_d112_2⟩⟩
theorem mj_k112 : ∀ q ∈ mj_code 112, mj_chk 112 q = true := List.forall_mem_append.mpr ⟨mj_k112_0, List.forall_mem_append.mpr ⟨mj_k112_1, mj_k112_2⟩⟩
theorem mj_d113_0 : ∀ q ∈ mj_c113_0, decode prog_9_method_4_code q.1 = .ok (q.2.1, q.2.2.1) := by decide +kernel
theorem mj_k113_0 : ∀ q ∈ mj_c113_0, mj_chk 113 q = true := by decide +kernel
theorem mj_d113 : ∀ q ∈ mj_code 113, decode (mj_b 113) q.1 = .ok (q.2.1, q.2.2.1) := mj_d113_0
theorem mj_k113 : ∀ q ∈ mj_code 113, mj_chk 113 q = true := mj_k113_0
theorem mj_d114_0 : ∀ q ∈ mj_c114_0, decode prog_9_method_15_code q.1 = .ok (q.2.1, q.2.2.1) := by decide +kernel
theorem mj_k114_0 : ∀ q ∈ mj_c114_0, mj_chk 114 q = true := by decide +kernel
theorem mj_d114_1 : ∀ q ∈ mj_c114_1, decode prog_9_method_15_code q.1 = .ok (q.2.1, q.2.2.1) := by decide +kernel
theorem mj_k114_1 : ∀ q ∈ mj_c114_1, mj_chk 114 q = true := by decide +kernel
theorem mj_d114 : ∀ q ∈ mj_code 114, decode (mj_b 114) q.1 = .ok (q.2.1, q.2.2.1) := List.forall_mem_append.mpr ⟨mj_d114_0, mj_d114_1⟩
theorem mj_k114 : ∀ q ∈ mj_code 114, mj_chk 114 q = true := List.forall_mem_append.mpr ⟨mj_k114_0, mj_k114_1⟩
theorem mj_d115_0 : ∀ q ∈ mj_c115_0, decode prog_9_method_19_code q.1 = .ok (q.2.1, q.2.2.1) := by decide +kernel
theorem mj_k115_0 : ∀ q ∈ mj_c115_0, mj_chk 115 q = true := by decide +kernel
theorem mj_d115_1 : ∀ q ∈ mj_c115_1, decode prog_9_method_19_code q.1 = .ok (q.2.1, q.2.2.1) := by decide +kernel
theorem mj_k115_1 : ∀ q ∈ mj_c115_1, mj_chk 115 q = true := by decide +kernel
theorem mj_d115_2 : ∀ q ∈ mj_c115_2, decode prog_9_method_19_code q.1 = .ok (q.2.1, q.2.2.1) := by decide +kernel
theorem mj_k115_2 : ∀ q ∈ mj_c115_2, mj_chk 115 q = true := by decide +kernel
theorem mj_d115 : ∀ q ∈ mj_code 115, decode (mj_b 115) q.1 = .ok (q.2.1, q.2.2.1) := List.forall_mem_append.mpr ⟨mj_d115_0, List.forall_mem_append.mpr ⟨mj_d115_1, mj_d115_2⟩⟩
theorem mj_k115 : ∀ q ∈ mj_code 115, mj_chk 115 q = true := List.forall_mem_append.mpr ⟨mj_k115_0, List.forall_mem_append.mpr ⟨mj_k115_1, mj_k115_2⟩⟩
theorem mj_d116_0 : ∀ q ∈ mj_c116_0, decode prog_9_method_23_code q.1 = .ok (q.2.1, q.2.2.1) := by decide +kernel
theorem mj_k116_0 : ∀ q ∈ mj_c116_0, mj_chk 116 q = true := by decide +kernel
theorem mj_d116_1 : ∀ q ∈ mj_c116_1, decode prog_9_method_23_code q.1 = .ok (q.2.1, q.2.2.1) := by decide +kernel
theorem mj_k116_1 : ∀ q ∈ mj_c116_1, mj_chk 116 q = true := by decide +kernel
theorem mj_d116 : ∀ q ∈ mj_code 116, decode (mj_b 116) q.1 = .ok (q.2.1, q.2.2.1) := List.forall_mem_append.mpr ⟨mj_d116_0, mj_d116_1⟩
theorem mj_k116 : ∀ q ∈ mj_code 116, mj_chk 116 q = true := List.forall_mem_append.mpr ⟨mj_k116_0, mj_k116_1⟩
theorem mj_d117_0 : ∀ q ∈ mj_c117_0, decode prog_9_method_20_code q.1 = .ok (q.2.1, q.2.2.1) := by decide +kernel
theorem mj_k117_0 : ∀ q ∈ mj_c117_0, mj_chk 117 q = true := by decide +kernel
theorem mj_d117 : ∀ q ∈ mj_code 117, decode (mj_b 117) q.1 = .ok (q.2.1, q.2.2.1) := mj_d117_0
theorem mj_k117 : ∀ q ∈ mj_code 117, mj_chk 117 q = true := mj_k117_0
theorem mj_d118_0 : ∀ q ∈ mj_c118_0, decode prog_9_method_21_code q.1 = .ok (q.2.1, q.2.2.1) := by decide +kernel
theorem mj_k118_0 : ∀ q ∈ mj_c118_0, mj_chk 118 q = true := by decide +kernel
theorem mj_d118 : ∀ q ∈ mj_code 118, decode (mj_b 118) q.1 = .ok (q.2.1, q.2.2.1) := mj_d118_0
theorem mj_k118 : ∀ q ∈ mj_code 118, mj_chk 118 q = true := mj_k118_0
theorem mj_d119_0 : ∀ q ∈ mj_c119_0, decode prog_9_method_24_code q.1 = .ok (q.2.1, q.2.2.1) := by decide +kernel
theorem mj_k119_0 : ∀ q ∈ mj_c119_0, mj_chk 119 q = true := by decide +kernel
theorem mj_d119_1 : ∀ q ∈ mj_c119_1, decode prog_9_method_24_code q.1 = .ok (q.2.1, q.2.2.1) := by decide +kernel
theorem mj_k119_1 : ∀ q ∈ mj_c119_1, mj_chk 119 q = true := by decide +kernel
theorem mj_d119 : ∀ q ∈ mj_code 119, decode (mj_b 119) q.1 = .ok (q.2.1, q.2.2.1) := List.forall_mem_append.mpr ⟨mj_d119_0, mj_d119_1⟩
theorem mj_k119 : ∀ q ∈ mj_code 119, mj_chk 119 q = true := List.forall_mem_append.mpr ⟨mj_k119_0, mj_k119_1⟩
theorem mj_d120_0 : ∀ q ∈ mj_c120_0, decode prog_9_method_6_code q.1 = .ok (q.2.1, q.2.2.1) := by decide +kernel
theorem mj_k120_0 : ∀ q ∈ mj_c120_0, mj_chk 120 q = true := by decide +kernel
theorem mj_d120 : ∀ q ∈ mj_code 120, decode (mj_b 120) q.1 = .ok (q.2.1, q.2.2.1) := mj_d120_0
theorem mj_k120 : ∀ q ∈ mj_code 120, mj_chk 120 q = true := mj_k120_0
theorem mj_d121_0 : ∀ q ∈ mj_c121_0, decode prog_9_method_22_code q.1 = .ok (q.2.1, q.2.2.1) := by decide +kernel
theorem mj_k121_0 : ∀ q ∈ mj_c121_0, mj_chk 121 q = true := by decide +kernel
theorem mj_d121_1 : ∀ q ∈ mj_c121_1, decode prog_9_method_22_code q.1 = .ok (q.2.1, q.2.2.1) := by decide +kernel
theorem mj_k121_1 : ∀ q ∈ mj_c121_1, mj_chk 121 q = true := by decide +kernel
theorem mj_d121 : ∀ q ∈ mj_code 121, decode (mj_b 121) q.1 = .ok (q.2.1, q.2.2.1) := List.forall_mem_append.mpr ⟨mj_d121_0, mj_d121_1⟩
theorem mj_k121 : ∀ q ∈ mj_code 121, mj_chk 121 q = true := List.forall_mem_append.mpr ⟨mj_k121_0, mj_k121_1⟩
theorem mj_d122_0 : ∀ q ∈ mj_c122_0, decode prog_9_method_25_code q.1 = .ok (q.2.1, q.2.2.1) := by decide +kernel
theorem mj_k122_0 : ∀ q ∈ mj_c122_0, mj_chk 122 q = true := by decide +kernel
theorem mj_d122 : ∀ q ∈ mj_code 122, decode (mj_b 122) q.1 = .ok (q.2.1, q.2.2.1) := mj_d122_0
theorem mj_k122 : ∀ q ∈ mj_code 122, mj_chk 122 q = true := mj_k122_0
theorem mj_d123_0 : ∀ q ∈ mj_c123_0, decode prog_9_method_7_code q.1 = .ok (q.2.1, q.2.2.1) := by decide +kernel
theorem mj_k123_0 : ∀ q ∈ mj_c123_0, mj_chk 123 q = true := by decide +kernel
theorem mj_d123 : ∀ q ∈ mj_code 123, decode (mj_b 123) q.1 = .ok (q.2.1, q.2.2.1) := mj_d123_0
theorem mj_k123 : ∀ q ∈ mj_code 123, mj_chk 123 q = true := mj_k123_0
theorem mj_d124_0 : ∀ q ∈ mj_c124_0, decode prog_9_method_32_code q.1 = .ok (q.2.1, q.2.2.1) := by decide +kernel
theorem mj_k124_0 : ∀ q ∈ mj_c124_0, mj_chk 124 q = true := by decide +kernel
theorem mj_d124 : ∀ q ∈ mj_code 124, decode (mj_b 124) q.1 = .ok (q.2.1, q.2.2.1) := mj_d124_0
theorem mj_k124 : ∀ q ∈ mj_code 124, mj_chk 124 q = true := mj_k124_0
theorem mj_d125_0 : ∀ q ∈ mj_c125_0, decode prog_9_method_28_code q.1 = .ok (q.2.1, q.2.2.1) := by decide +kernel
theorem mj_k125_0 : ∀ q ∈ mj_c125_0, mj_chk 125 q = true := by decide +kernel
theorem mj_d125 : ∀ q ∈ mj_code 125, decode (mj_b 125) q.1 = .ok (q.2.1, q.2.2.1) := mj_d125_0
theorem mj_k125 : ∀ q ∈ mj_code 125, mj_chk 125 q = true := mj_k125_0
theorem mj_d126_0 : ∀ q ∈ mj_c126_0, decode prog_9_method_26_code q.1 = .ok (q.2.1, q.2.2.1) := by decide +kernel
theorem mj_k126_0 : ∀ q ∈ mj_c126_0, mj_chk 126 q = true := by decide +kernel
theorem mj_d126_1 : ∀ q ∈ mj_c126_1, decode prog_9_method_26_code q.1 = .ok (q.2.1, q.2.2.1) := by decide +kernel
theorem mj_k126_1 : ∀ q ∈ mj_c126_1, mj_chk 126 q = true := by decide +kernel
theorem mj_d126 : ∀ q ∈ mj_code 126, decode (mj_b 126) q.1 = .ok (q.2.1, q.2.2.1) := List.forall_mem_append.mpr ⟨mj_d126_0, mj_d126_1⟩
theorem mj_k126 : ∀ q ∈ mj_code 126, mj_chk 126 q = true := List.forall_mem_append.mpr ⟨mj_k126_0, mj_k126_1⟩
theorem mj_d127_0 : ∀ q ∈ mj_c127_0, decode prog_9_method_27_code q.1 = .ok (q.2.1, q.2.2.1) := by decide +kernel
theorem mj_k127_0 : ∀ q ∈ mj_c127_0, mj_chk 127 q = true := by decide +kernel
theorem mj_d127_1 : ∀ q ∈ mj_c127_1, decode prog_9_method_27_code q.1 = .ok (q.2.1, q.2.2.1) := by decide +kernel
theorem mj_k127_1 : ∀ q ∈ mj_c127_1, mj_chk 127 q = true := by decide +kernel
theorem mj_d127_2 : ∀ q ∈ mj_c127_2, decode prog_9_method_27_code q.1 = .ok (q.2.1, q.2.2.1) := by decide +kernel
theorem mj_k127_2 : ∀ q ∈ mj_c127_2, mj_chk 127 q = true := by decide +kernel
theorem mj_d127 : ∀ q ∈ mj_code 127, decode (mj_b 127) q.1 = .ok (q.2.1, q.2.2.1) := List.forall_mem_append.mpr ⟨mj_d127_0, List.forall_mem_append.mpr ⟨mj_d127_1, mj_d127_2⟩⟩
theorem mj_k127 : ∀ q ∈ mj_code 127, mj_chk 127 q = true := List.forall_mem_append.mpr ⟨mj_k127_0, List.forall_mem_append.mpr ⟨mj_k127_1, mj_k127_2⟩⟩
theorem mj_d128_0 : ∀ q ∈ mj_c128_0, decode prog_9_method_33_code q.1 = .ok (q.2.1, q.2.2.1) := by decide +kernel
theorem mj_k128_0 : ∀ q ∈ mj_c128_0, mj_chk 128 q = true := by decide +kernel
theorem mj_d128 : ∀ q ∈ mj_code 128, decode (mj_b 128) q.1 = .ok (q.2.1, q.2.2.1) := mj_d128_0
theorem mj_k128 : ∀ q ∈ mj_code 128, mj_chk 128 q = true := mj_k128_0
theorem mj_d129_0 : ∀ q ∈ mj_c129_0, decode prog_9_method_34_code q.1 = .ok (q.2.1, q.2.2.1) := by decide +kernel
theorem mj_k129_0 : ∀ q ∈ mj_c129_0, mj_chk 129 q = true := by decide +kernel
theorem mj_d129 : ∀ q ∈ mj_code 129, decode (mj_b 129) q.1 = .ok (q.2.1, q.2.2.1) := mj_d129_0
theorem mj_k129 : ∀ q ∈ mj_code 129, mj_chk 129 q = true := mj_k129_0
theorem mj_d130_0 : ∀ q ∈ mj_c130_0, decode prog_9_method_29_code q.1 = .ok (q.2.1, q.2.2.1) := by decide +kernel
theorem mj_k130_0 : ∀ q ∈ mj_c130_0, mj_chk 130 q = true := by decide +kernel
theorem mj_d130_1 : ∀ q ∈ mj_c130_1, decode prog_9_method_29_code q.1 = .ok (q.2.1, q.2.2.1) := by decide +kernel
theorem mj_k130_1 : ∀ q ∈ mj_c130_1, mj_chk 130 q = true := by decide +kernel
theorem mj_d130 : ∀ q ∈ mj_code 130, decode (mj_b 130) q.1 = .ok (q.2.1, q.2.2.1) := List.forall_mem_append.mpr ⟨mj_d130_0, mj_d130_1⟩
theorem mj_k130 : ∀ q ∈ mj_code 130, mj_chk 130 q = true := List.forall_mem_append.mpr ⟨mj_k130_0, mj_k130_1⟩
theorem mj_d131_0 : ∀ q ∈ mj_c131_0, decode prog_9_method_35_code q.1 = .ok (q.2.1, q.2.2.1) := by decide +kernel
theorem mj_k131_0 : ∀ q ∈ mj_c131_0, mj_chk 131 q = true := by decide +kernel
theorem mj_d131 : ∀ q ∈ mj_code 131, decode (mj_b 131) q.1 = .ok (q.2.1, q.2.2.1) := mj_d131_0
theorem mj_k131 : ∀ q ∈ mj_code 131, mj_chk 131 q = true := mj_k131_0
theorem mj_d132_0 : ∀ q ∈ mj_c132_0, decode prog_9_method_31_code q.1 = .ok (q.2.1, q.2.2.1) := by decide +kernel
theorem mj_k132_0 : ∀ q ∈ mj_c132_0, mj_chk 132 q = true := by decide +kernel
theorem mj_d132 : ∀ q ∈ mj_code 132, decode (mj_b 132) q.1 = .ok (q.2.1, q.2.2.1) := mj_d132_0
theorem mj_k132 : ∀ q ∈ mj_code 132, mj_chk 132 q = true := mj_k132_0
theorem mj_d133_0 : ∀ q ∈ mj_c133_0, decode prog_9_method_30_code q.1 = .ok (q.2.1, q.2.2.1) := by decide +kernel
theorem mj_k133_0 : ∀ q ∈ mj_c133_0, mj_chk 133 q = true := by decide +kernel
theorem mj_d133 : ∀ q ∈ mj_code 133, decode (mj_b 133) q.1 = .ok (q.2.1, q.2.2.1) := mj_d133_0
theorem mj_k133 : ∀ q ∈ mj_code 133, mj_chk 133 q = true := mj_k133_0
theorem mj_d134_0 : ∀ q ∈ mj_c134_0, decode prog_9_method_36_code q.1 = .ok (q.2.1, q.2.2.1) := by decide +kernel
theorem mj_k134_0 : ∀ q ∈ mj_c134_0, mj_chk 134 q = true := by decide +kernel
theorem mj_d134 : ∀ q ∈ mj_code 134, decode (mj_b 134) q.1 = .ok (q.2.1, q.2.2.1) := mj_d134_0
theorem mj_k134 : ∀ q ∈ mj_code 134, mj_chk 134 q = true := mj_k134_0
theorem mj_d135_0 : ∀ q ∈ mj_c135_0, decode prog_9_method_40_code q.1 = .ok (q.2.1, q.2.2.1) := by decide +kernel
theorem mj_k135_0 : ∀ q ∈ mj_c135_0, mj_chk 135 q = true := by decide +kernel
theorem mj_d135_1 : ∀ q ∈ mj_c135_1, decode prog_9_method_40_code q.1 = .ok (q.2.1, q.2.2.1) := by decide +kernel
theorem mj_k135_1 : ∀ q ∈ mj_c135_1, mj_chk 135 q = true := by decide +kernel
theorem mj_d135 : ∀ q ∈ mj_code 135, decode (mj_b 135) q.1 = .ok (q.2.1, q.2.2.1) := List.forall_mem_append.mpr ⟨mj_d135_0, mj_d135_1⟩
theorem mj_k135 : ∀ q ∈ mj_code 135, mj_chk 135 q = true := List.forall_mem_append.mpr ⟨mj_k135_0, mj_k135_1⟩
theorem mj_d136_0 : ∀ q ∈ mj_c136_0, decode prog_9_method_39_code q.1 = .ok (q.2.1, q.2.2.1) := by decide +kernel
theorem mj_k136_0 : ∀ q ∈ mj_c136_0, mj_chk 136 q = true := by decide +kernel
theorem mj_d136 : ∀ q ∈ mj_code 136, decode (mj_b 136) q.1 = .ok (q.2.1, q.2.2.1) := mj_d136_0
theorem mj_k136 : ∀ q ∈ mj_code 136, mj_chk 136 q = true := mj_k136_0
theorem mj_d137_0 : ∀ q ∈ mj_c137_0, decode prog_9_method_38_code q.1 = .ok (q.2.1, q.2.2.1) := by decide +kernel
theorem mj_k137_0 : ∀ q ∈ mj_c137_0, mj_chk 137 q = true := by decide +kernel
theorem mj_d137_1 : ∀ q ∈ mj_c137_1, decode prog_9_method_38_code q.1 = .ok (q.2.1, q.2.2.1) := by decide +kernel
theorem mj_k137_1 : ∀ q ∈ mj_c137_1, mj_chk 137 q = true := by decide +kernel
theorem mj_d137 : ∀ q ∈ mj_code 137, decode (mj_b 137) q.1 = .ok (q.2.1, q.2.2.1) := List.forall_mem_append.mpr ⟨mj_d137_0, mj_d137_1⟩
theorem mj_k137 : ∀ q ∈ mj_code 137, mj_chk 137 q = true := List.forall_mem_append.mpr ⟨mj_k137_0, mj_k137_1⟩
theorem mj_d138_0 : ∀ q ∈ mj_c138_0, decode prog_9_method_37_code q.1 = .ok (q.2.1, q.2.2.1) := by decide +kernel
theorem mj_k138_0 : ∀ q ∈ mj_c138_0, mj_chk 138 q = true := by decide +kernel
theorem mj_d138 : ∀ q ∈ mj_code 138, decode (mj_b 138) q.1 = .ok (q.2.1, q.2.2.1) := mj_d138_0
theorem mj_k138 : ∀ q ∈ mj_code 138, mj_chk 138 q = true := mj_k138_0
theorem mj_d139_0 : ∀ q ∈ mj_c139_0, decode prog_9_method_41_code q.1 = .ok (q.2.1, q.2.2.1) := by decide +kernel
theorem mj_k139_0 : ∀ q ∈ mj_c139_0, mj_chk 139 q = true := by decide +kernel
theorem mj_d139_1 : ∀ q ∈ mj_c139_1, decode prog_9_method_41_code q.1 = .ok (q.2.1, q.2.2.1) := by decide +kernel
theorem mj_k139_1 : ∀ q ∈ mj_c139_1, mj_chk 139 q = true := by decide +kernel
theorem mj_d139 : ∀ q ∈ mj_code 139, decode (mj_b 139) q.1 = .ok (q.2.1, q.2.2.1) := List.forall_mem_append.mpr ⟨mj_d139_0, mj_d139_1⟩
theorem mj_k139 : ∀ q ∈ mj_code 139, mj_chk 139 q = true := List.forall_mem_append.mpr ⟨mj_k139_0, mj_k139_1⟩
theorem mj_d140_0 : ∀ q ∈ mj_c140_0, decode prog_9_method_42_code q.1 = .ok (q.2.1, q.2.2.1) := by decide +kernel
theorem mj_k140_0 : ∀ q ∈ mj_c140_0, mj_chk 140 q = true := by decide +kernel
theorem mj_d140_1 : ∀ q ∈ mj_c140_1, decode prog_9_method_42_code q.1 = .ok (q.2.1, q.2.2.1) := by decide +kernel
theorem mj_k140_1 : ∀ q ∈ mj_c140_1, mj_chk 140 q = true := by decide +kernel
theorem mj_d140 : ∀ q ∈ mj_code 140, decode (mj_b 140) q.1 = .ok (q.2.1, q.2.2.1) := List.forall_mem_append.mpr ⟨mj_d140_0, mj_d140_1⟩
theorem mj_k140 : ∀ q ∈ mj_code 140, mj_chk 140 q = true := List.forall_mem_append.mpr ⟨mj_k140_0, mj_k140_1⟩
theorem mj_d141_0 : ∀ q ∈ mj_c141_0, decode prog_9_method_44_code q.1 = .ok (q.2.1, q.2.2.1) := by decide +kernel
theorem mj_k141_0 : ∀ q ∈ mj_c141_0, mj_chk 141 q = true := by decide +kernel
theorem mj_d141_1 : ∀ q ∈ mj_c141_1, decode prog_9_method_44_code q.1 = .ok (q.2.1, q.2.2.1) := by decide +kernel
theorem mj_k141_1 : ∀ q ∈ mj_c141_1, mj_chk 141 q = true := by decide +kernel
theorem mj_d141_2 : ∀ q ∈ mj_c141_2, decode prog_9_method_44_code q.1 = .ok (q.2.1, q.2.2.1) := by decide +kernel
theorem mj_k141_2 : ∀ q ∈ mj_c141_2, mj_chk 141 q = true := by decide +kernel
theorem mj_d141 : ∀ q ∈ mj_code 141, decode (mj_b 141) q.1 = .ok (q.2.1, q.2.2.1) := List.forall_mem_append.mpr ⟨mj_d141_0, List.forall_mem_append.mpr ⟨mj_d141_1, mj_d141_2⟩⟩
theorem mj_k141 : ∀ q ∈ mj_code 141, mj_chk 141 q = true := List.forall_mem_append.mpr ⟨mj_k141_0, List.forall_mem_append.mpr ⟨mj_k141_1, mj_k141_2⟩⟩
theorem mj_d142_0 : ∀ q ∈ mj_c142_0, decode prog_9_method_43_code q.1 = .ok (q.2.1, q.2.2.1) := by decide +kernel
theorem mj_k142_0 : ∀ q ∈ mj_c142_0, mj_chk 142 q = true := by decide +kernel
theorem mj_d142 : ∀ q ∈ mj_code 142, decode (mj_b 142) q.1 = .ok (q.2.1, q.2.2.1) := mj_d142_0
theorem mj_k142 : ∀ q ∈ mj_code 142, mj_chk 142 q = true := mj_k142_0
theorem mj_d143_0 : ∀ q ∈ mj_c143_0, decode prog_9_method_46_code q.1 = .ok (q.2.1, q.2.2.1) := by decide +kernel
theorem mj_k143_0 : ∀ q ∈ mj_c143_0, mj_chk 143 q = true := by decide +kernel
theorem mj_d143_1 : ∀ q ∈ mj_c143_1, decode prog_9_method_46_code q.1 = .ok (q.2.1, q.2.2.1) := by decide +kernel
theorem mj_k143_1 : ∀ q ∈ mj_c143_1, mj_chk 143 q = true := by decide +kernel
theorem mj_d143_2 : ∀ q ∈ mj_c143_2, decode prog_9_method_46_code q.1 = .ok (q.2.1, q.2.2.1) := by decide +kernel
theorem mj_k143_2 : ∀ q ∈ mj_c143_2, mj_chk 143 q = true := by decide +kernel
theorem mj_d143 : ∀ q ∈ mj_code 143, decode (mj_b 143) q.1 = .ok (q.2.1, q.2.2.1) := List.forall_mem_append.mpr ⟨mj_d143_0, List.forall_mem_append.mpr ⟨mj_d143_1, mj_d143_2⟩⟩
theorem mj_k143 : ∀ q ∈ mj_code 143, mj_chk 143 q = true := List.forall_mem_append.mpr ⟨mj_k143_0, List.forall_mem_append.mpr ⟨mj_k143_1, mj_k143_2⟩⟩
theorem mj_d144_0 : ∀ q ∈ mj_c144_0, decode prog_9_method_5_code q.1 = .ok (q.2.1, q.2.2.1) := by decide +kernel
theorem mj_k144_0 : ∀ q ∈ mj_c144_0, mj_chk 144 q = true := by decide +kernel
theorem mj_d144 : ∀ q ∈ mj_code 144, decode (mj_b 144) q.1 = .ok (q.2.1, q.2.2.1) := mj_d144_0
theorem mj_k144 : ∀ q ∈ mj_code 144, mj_chk 144 q = true := mj_k144_0
theorem mj_d145_0 : ∀ q ∈ mj_c145_0, decode prog_9_method_45_code q.1 = .ok (q.2.1, q.2.2.1) := by decide +kernel
theorem mj_k145_0 : ∀ q ∈ mj_c145_0, mj_chk 145 q = true := by decide +kernel
theorem mj_d145_1 : ∀ q ∈ mj_c145_1, decode prog_9_method_45_code q.1 = .ok (q.2.1, q.2.2.1) := by decide +kernel
theorem mj_k145_1 : ∀ q ∈ mj_c145_1, mj_chk 145 q = true := by decide +kernel
theorem mj_d145_2 : ∀ q ∈ mj_c145_2, decode prog_9_method_45_code q.1 = .ok (q.2.1, q.2.2.1) := by decide +kernel
theorem mj_k145_2 : ∀ q ∈ mj_c145_2, mj_chk 145 q = true := by decide +kernel
theorem mj_d145 : ∀ q ∈ mj_code 145, decode (mj_b 145) q.1 = .ok (q.2.1, q.2.2.1) := List.forall_mem_append.mpr ⟨mj_d145_0, List.forall_mem_append.mpr ⟨mj_d145_1, mj_d145_2⟩⟩
theorem mj_k145 : ∀ q ∈ mj_code 145, mj_chk 145 q = true := List.forall_mem_append.mpr ⟨mj_k145_0, List.forall_mem_append.mpr ⟨mj_k145_1, mj_k145_2⟩⟩
theorem mj_d146_0 : ∀ q ∈ mj_c146_0, decode prog_9_method_47_code q.1 = .ok (q.2.1, q.2.2.1) := by decide +kernel
theorem mj_k146_0 : ∀ q ∈ mj_c146_0, mj_chk 146 q = true := by decide +kernel
theorem mj_d146 : ∀ q ∈ mj_code 146, decode (mj_b 146) q.1 = .ok (q.2.1, q.2.2.1) := mj_d146_0
theorem mj_k146 : ∀ q ∈ mj_code 146, mj_chk 146 q = true := mj_k146_0
theorem mj_d147_0 : ∀ q ∈ mj_c147_0, decode prog_9_method_48_code q.1 = .ok (q.2.1, q.2.2.1) := by decide +kernel
theorem mj_k147_0 : ∀ q ∈ mj_c147_0, mj_chk 147 q = true := by decide +kernel
theorem mj_d147 : ∀ q ∈ mj_code 147, decode (mj_b 147) q.1 = .ok (q.2.1, q.2.2.1) := mj_d147_0
theorem mj_k147 : ∀ q ∈ mj_code 147, mj_chk 147 q = true := mj_k147_0
theorem mj_d148_0 : ∀ q ∈ mj_c148_0, decode prog_9_method_52_code q.1 = .ok (q.2.1, q.2.2.1) := by decide +kernel
theorem mj_k148_0 : ∀ q ∈ mj_c148_0, mj_chk 148 q = true := by decide +kernel
theorem mj_d148_1 : ∀ q ∈ mj_c148_1, decode prog_9_method_52_code q.1 = .ok (q.2.1, q.2.2.1) := by decide +kernel
theorem mj_k148_1 : ∀ q ∈ mj_c148_1, mj_chk 148 q = true := by decide +kernel
theorem mj_d148 : ∀ q ∈ mj_code 148, decode (mj_b 148) q.1 = .ok (q.2.1, q.2.2.1) := List.forall_mem_append.mpr ⟨mj_d148_0, mj_d148_1⟩
theorem mj_k148 : ∀ q ∈ mj_code 148, mj_chk 148 q = true := List.forall_mem_append.mpr ⟨mj_k148_0, mj_k148_1⟩
theorem mj_d149_0 : ∀ q ∈ mj_c149_0, decode prog_9_method_51_code q.1 = .ok (q.2.1, q.2.2.1) := by decide +kernel
theorem mj_k149_0 : ∀ q ∈ mj_c149_0, mj_chk 149 q = true := by decide +kernel
theorem mj_d149 : ∀ q ∈ mj_code 149, decode (mj_b 149) q.1 = .ok (q.2.1, q.2.2.1) := mj_d149_0
theorem mj_k149 : ∀ q ∈ mj_code 149, mj_chk 149 q = true := mj_k149_0
theorem mj_d150_0 : ∀ q ∈ mj_c150_0, decode prog_9_method_50_code q.1 = .ok (q.2.1, q.2.2.1) := by decide +kernel
theorem mj_k150_0 : ∀ q ∈ mj_c150_0, mj_chk 150 q = true := by decide +kernel
theorem mj_d150 : ∀ q ∈ mj_code 150, decode (mj_b 150) q.1 = .ok (q.2.1, q.2.2.1) := mj_d150_0
theorem mj_k150 : ∀ q ∈ mj_code 150, mj_chk 150 q = true := mj_k150_0
theorem mj_d151_0 : ∀ q ∈ mj_c151_0, decode prog_9_method_49_code q.1 = .ok (q.2.1, q.2.2.1) := by decide +kernel
theorem mj_k151_0 : ∀ q ∈ mj_c151_0, mj_chk 151 q = true := by decide +kernel
theorem mj_d151 : ∀ q ∈ mj_code 151, decode (mj_b 151) q.1 = .ok (q.2.1, q.2.2.1) := mj_d151_0
theorem mj_k151 : ∀ q ∈ mj_code 151, mj_chk 151 q = true := mj_k151_0
theorem mj_d152_0 : ∀ q ∈ mj_c152_0, decode prog_9_method_53_code q.1 = .ok (q.2.1, q.2.2.1) := by decide +kernel
theorem mj_k152_0 : ∀ q ∈ mj_c152_0, mj_chk 152 q = true := by decide +kernel
theorem mj_d152_1 : ∀ q ∈ mj_c152_1, decode prog_9_method_53_code q.1 = .ok (q.2.1, q.2.2.1) := by decide +kernel
theorem mj_k152_1 : ∀ q ∈ mj_c152_1, mj_chk 152 q = true := by decide +kernel
theorem mj_d152 : ∀ q ∈ mj_code 152, decode (mj_b 152) q.1 = .ok (q.2.1, q.2.2.1) := List.forall_mem_append.mpr ⟨mj_d152_0, mj_d152_1⟩
theorem mj_k152 : ∀ q ∈ mj_code 152, mj_chk 152 q = true := List.forall_mem_append.mpr ⟨mj_k152_0, mj_k152_1⟩
theorem mj_d153_0 : ∀ q ∈ mj_c153_0, decode prog_9_method_55_code q.1 = .ok (q.2.1, q.2.2.1) := by decide +kernel
theorem mj_k153_0 : ∀ q ∈ mj_c153_0, mj_chk 153 q = true := by decide +kernel
theorem mj_d153_1 : ∀ q ∈ mj_c153_1, decode prog_9_method_55_code q.1 = .ok (q.2.1, q.2.2.1) := by decide +kernel
theorem mj_k153_1 : ∀ q ∈ mj_c153_1, mj_chk 153 q = true := by decide +kernel
theorem mj_d153_2 : ∀ q ∈ mj_c153_2, decode prog_9_method_55_code q.1 = .ok (q.2.1, q.2.2.1) := by decide +kernel
theorem mj_k153_2 : ∀ q ∈ mj_c153_2, mj_chk 153 q = true := by decide +kernel
theorem mj_d153_3 : ∀ q ∈ mj_c153_3, decode prog_9_method_55_code q.1 = .ok (q.2.1, q.2.2.1) := by decide +kernel
theorem mj_k153_3 : ∀ q ∈ mj_c153_3, mj_chk 153 q = true := by decide +kernel
theorem mj_d153 : ∀ q ∈ mj_code 153, decode (mj_b 153) q.1 = .ok (q.2.1, q.2.2.1) := List.forall_mem_append.mpr ⟨mj_d153_0, List.forall_mem_append.mpr ⟨mj_d153_1, List.forall_mem_append.mpr ⟨mj_d153_2, mj_d153_3⟩⟩⟩
theorem mj_k153 : ∀ q ∈ mj_code 153, mj_chk 153 q = true := List.forall_mem_append.mpr ⟨mj_k153_0, List.forall_mem_append.mpr ⟨mj_k153_1, List.forall_mem_append.mpr ⟨mj_k153_2, mj_k153_3⟩⟩⟩
theorem mj_d154_0 : ∀ q ∈ mj_c154_0, decode prog_9_method_54_code q.1 = .ok (q.2.1, q.2.2.1) := by decide +kernel
theorem mj_k154_0 : ∀ q ∈ mj_c154_0, mj_chk 154 q = true := by decide +kernel
theorem mj_d154 : ∀ q ∈ mj_code 154, decode (mj_b 154) q.1 = .ok (q.2.1, q.2.2.1) := mj_d154_0
theorem mj_k154 : ∀ q ∈ mj_code 154, mj_chk 154 q = true := mj_k154_0
theorem mj_d155_0 : ∀ q ∈ mj_c155_0, decode prog_9_method_57_code q.1 = .ok (q.2.1, q.2.2.1) := by decide +kernel
theorem mj_k155_0 : ∀ q ∈ mj_c155_0, mj_chk 155 q = true := by decide +kernel
theorem mj_d155 : ∀ q ∈ mj_code 155, decode (mj_b 155) q.1 = .ok (q.2.1, q.2.2.1) := mj_d155_0
theorem mj_k155 : ∀ q ∈ mj_code 155, mj_chk 155 q = true := mj_k155_0
theorem mj_d156_0 : ∀ q ∈ mj_c156_0, decode prog_9_method_56_code q.1 = .ok (q.2.1, q.2.2.1) := by decide +kernel
theorem mj_k156_0 : ∀ q ∈ mj_c156_0, mj_chk 156 q = true := by decide +kernel
theorem mj_d156 : ∀ q ∈ mj_code 156, decode (mj_b 156) q.1 = .ok (q.2.1, q.2.2.1) := mj_d156_0
theorem mj_k156 : ∀ q ∈ mj_code 156, mj_chk 156 q = true := mj_k156_0
theorem mj_d157_0 : ∀ q ∈ mj_c157_0, decode prog_9_method_58_code q.1 = .ok (q.2.1, q.2.2.1) := by decide +kernel
theorem mj_k157_0 : ∀ q ∈ mj_c157_0, mj_chk 157 q = true := by decide +kernel
theorem mj_d157_1 : ∀ q ∈ mj_c157_1, decode prog_9_method_58_code q.1 = .ok (q.2.1, q.2.2.1) := by decide +kernel
theorem mj_k157_1 : ∀ q ∈ mj_c157_1, mj_chk 157 q = true := by decide +kernel
theorem mj_d157 : ∀ q ∈ mj_code 157, decode (mj_b 157) q.1 = .ok (q.2.1, q.2.2.1) := List.forall_mem_append.mpr ⟨mj_d157_0, mj_d157_1⟩
theorem mj_k157 : ∀ q ∈ mj_code 157, mj_chk 157 q = true := List.forall_mem_append.mpr ⟨mj_k157_0, mj_k157_1⟩
theorem mj_d158_0 : ∀ q ∈ mj_c158_0, decode prog_9_method_59_code q.1 = .ok (q.2.1, q.2.2.1) := by decide +kernel
theorem mj_k158_0 : ∀ q ∈ mj_c158_0, mj_chk 158 q = true := by decide +kernel
theorem mj_d158_1 : ∀ q ∈ mj_c158_1, decode prog_9_method_59_code q.1 = .ok (q.2.1, q.2.2.1) := by decide +kernel
theorem mj_k158_1 : ∀ q ∈ mj_c158_1, mj_chk 158 q = true := by decide +kernel
theorem mj_d158_2 : ∀ q ∈ mj_c158_2, decode prog_9_method_59_code q.1 = .ok (q.2.1, q.2.2.1) := by decide +kernel
theorem mj_k158_2 : ∀ q ∈ mj_c158_2, mj_chk 158 q = true := by decide +kernel
theorem mj_d158 : ∀ q ∈ mj_code 158, decode (mj_b 158) q.1 = .ok (q.2.1, q.2.2.1) := List.forall_mem_append.mpr ⟨mj_d158_0, List.forall_mem_append.mpr ⟨mj_d158_1, mj_d158_2⟩⟩
theorem mj_k158 : ∀ q ∈ mj_code 158, mj_chk 158 q = true := List.forall_mem_append.mpr ⟨mj_k158_0, List.forall_mem_append.mpr ⟨mj_k158_1, mj_k158_2⟩⟩
theorem mj_d159_0 : ∀ q ∈ mj_c159_0, decode prog_9_method_60_code q.1 = .ok (q.2.1, q.2.2.1) := by decide +kernel
theorem mj_k159_0 : ∀ q ∈ mj_c159_0, mj_chk 159 q = true := by decide +kernel
theorem mj_d159 : ∀ q ∈ mj_code 159, decode (mj_b 159) q.1 = .ok (q.2.1, q.2.2.1) := mj_d159_0
theorem mj_k159 : ∀ q ∈ mj_code 159, mj_chk 159 q = true := mj_k159_0
theorem mj_d160_0 : ∀ q ∈ mj_c160_0, decode prog_9_method_61_code q.1 = .ok (q.2.1, q.2.2.1) := by decide +kernel
theorem mj_k160_0 : ∀ q ∈ mj_c160_0, mj_chk 160 q = true := by decide +kernel
theorem mj_d160 : ∀ q ∈ mj_code 160, decode (mj_b 160) q.1 = .ok (q.2.1, q.2.2.1) := mj_d160_0
theorem mj_k160 : ∀ q ∈ mj_code 160, mj_chk 160 q = true := mj_k160_0
theorem mj_d161_0 : ∀ q ∈ mj_c161_0, decode prog_9_method_62_code q.1 = .ok (q.2.1, q.2.2.1) := by decide +kernel
theorem mj_k161_0 : ∀ q ∈ mj_c161_0, mj_chk 161 q = true := by decide +kernel
theorem mj_d161_1 : ∀ q ∈ mj_c161_1, decode prog_9_method_62_code q.1 = .ok (q.2.1, q.2.2.1) := by decide +kernel
theorem mj_k161_1 : ∀ q ∈ mj_c161_1, mj_chk 161 q = true := by decide +kernel
theorem mj_d161_2 : ∀ q ∈ mj_c161_2, decode prog_9_method_62_code q.1 = .ok (q.2.1, q.2.2.1) := by decide +kernel
theorem mj_k161_2 : ∀ q ∈ mj_c161_2, mj_chk 161 q = true := by decide +kernel
theorem mj_d161 : ∀ q ∈ mj_code 161, decode (mj_b 161) q.1 = .ok (q.2.1, q.2.2.1) := List.forall_mem_append.mpr ⟨mj_d161_0, List.forall_mem_append.mpr ⟨mj_d161_1, mj_d161_2⟩⟩
theorem mj_k161 : ∀ q ∈ mj_code 161, mj_chk 161 q = true := List.forall_mem_append.mpr ⟨mj_k161_0, List.forall_mem_append.mpr ⟨mj_k161_1, mj_k161_2⟩⟩
theorem mj_d162_0 : ∀ q ∈ mj_c162_0, decode prog_9_method_63_code q.1 = .ok (q.2.1, q.2.2.1) := by decide +kernel
theorem mj_k162_0 : ∀ q ∈ mj_c162_0, mj_chk 162 q = true := by decide +kernel
theorem mj_d162 : ∀ q ∈ mj_code 162, decode (mj_b 162) q.1 = .ok (q.2.1, q.2.2.1) := mj_d162_0
theorem mj_k162 : ∀ q ∈ mj_code 162, mj_chk 162 q = true := mj_k162_0
theorem mj_d163_0 : ∀ q ∈ mj_c163_0, decode prog_9_method_64_code q.1 = .ok (q.2.1, q.2.2.1) := by decide +kernel
theorem mj_k163_0 : ∀ q ∈ mj_c163_0, mj_chk 163 q = true := by decide +kernel
theorem mj_d163_1 : ∀ q ∈ mj_c163_1, decode prog_9_method_64_code q.1 = .ok (q.2.1, q.2.2.1) := by decide +kernel
theorem mj_k163_1 : ∀ q ∈ mj_c163_1, mj_chk 163 q = true := by decide +kernel
theorem mj_d163 : ∀ q ∈ mj_code 163, decode (mj_b 163) q.1 = .ok (q.2.1, q.2.2.1) := List.forall_mem_append.mpr ⟨mj_d163_0, mj_d163_1⟩
theorem mj_k163 : ∀ q ∈ mj_code 163, mj_chk 163 q = true := List.forall_mem_append.mpr ⟨mj_k163_0, mj_k163_1⟩
theorem mj_d164_0 : ∀ q ∈ mj_c164_0, decode prog_9_method_65_code q.1 = .ok (q.2.1, q.2.2.1) := by decide +kernel
theorem mj_k164_0 : ∀ q ∈ mj_c164_0, mj_chk 164 q = true := by decide +kernel
theorem mj_d164_1 : ∀ q ∈ mj_c164_1, decode prog_9_method_65_code q.1 = .ok (q.2.1, q.2.2.1) := by decide +kernel
theorem mj_k164_1 : ∀ q ∈ mj_c164_1, mj_chk 164 q = true := by decide +kernel
theorem mj_d164 : ∀ q ∈ mj_code 164, decode (mj_b 164) q.1 = .ok (q.2.1, q.2.2.1) := List.forall_mem_append.mpr ⟨mj_d164_0, mj_d164_1⟩
theorem mj_k164 : ∀ q ∈ mj_code 164, mj_chk 164 q = true := List.forall_mem_append.mpr ⟨mj_k164_0, mj_k164_1⟩
theorem mj_d165_0 : ∀ q ∈ mj_c165_0, decode prog_9_method_66_code q.1 = .ok (q.2.1, q.2.2.1) := by decide +kernel
theorem mj_k165_0 : ∀ q ∈ mj_c165_0, mj_chk 165 q = true := by decide +kernel
theorem mj_d165_1 : ∀ q ∈ mj_c165_1, decode prog_9_method_66_code q.1 = .ok (q.2.1, q.2.2.1) := by decide +kernel
theorem mj_k165_1 : ∀ q ∈ mj_c165_1, mj_chk 165 q = true := by decide +kernel
theorem mj_d165 : ∀ q ∈ mj_code 165, decode (mj_b 165) q.1 = .ok (q.2.1, q.2.2.1) := List.forall_mem_append.mpr ⟨mj_d165_0, mj_d165_1⟩
theorem mj_k165 : ∀ q ∈ mj_code 165, mj_chk 165 q = true := List.forall_mem_append.mpr ⟨mj_k165_0, mj_k165_1⟩
theorem mj_d166_0 : ∀ q ∈ mj_c166_0, decode prog_10_method_49_code q.1 = .ok (q.2.1, q.2.2.1) := by decide +kernel
theorem mj_k166_0 : ∀ q ∈ mj_c166_0, mj_chk 166 q = true := by decide +kernel
theorem mj_d166_1 : ∀ q ∈ mj_c166_1, decode prog_10_method_49_code q.1 = .ok (q.2.1, q.2.2.1) := by decide +kernel
theorem mj_k166_1 : ∀ q ∈ mj_c166_1, mj_chk 166 q = true := by decide +kernel
theorem mj_d166 : ∀ q ∈ mj_code 166, decode (mj_b 166) q.1 = .ok (q.2.1, q.2.2.1) := List.forall_mem_append.mpr ⟨mj_d166_0, mj_d166_1⟩
theorem mj_k166 : ∀ q ∈ mj_code 166, mj_chk 166 q = true := List.forall_mem_append.mpr ⟨mj_k166_0, mj_k166_1⟩
theorem mj_d167_0 : ∀ q ∈ mj_c167_0, decode code q.1 = .ok (q.2.1, q.2.2.1) := by decide +kernel
theorem mj_k167_0 : ∀ q ∈ mj_c167_0, mj_chk 167 q = true := by decide +kernel
theorem mj_d167_1 : ∀ q ∈ mj_c167_1, decode code q.1 = .ok (q.2.1, q.2.2.1) := by decide +kernel
theorem mj_k167_1 : ∀ q ∈ mj_c167_1, mj_chk 167 q = true := by decide +kernel
theorem mj_d167_2 : ∀ q ∈ mj_c167_2, decode code q.1 = .ok (q.2.1, q.2.2.1) := by decide +kernel
theorem mj_k167_2 : ∀ q ∈ mj_c167_2, mj_chk 167 q = true := by decide +kernel
theorem mj_d167_3 : ∀ q ∈ mj_c167_3, decode code q.1 = .ok (q.2.1, q.2.2.1) := by decide +kernel
theorem mj_k167_3 : ∀ q ∈ mj_c167_3, mj_chk 167 q = true := by decide +kernel
theorem mj_d167_4 : ∀ q ∈ mj_c167_4, decode code q.1 = .ok (q.2.1, q.2.2.1) := by decide +kernel
theorem mj_k167_4 : ∀ q ∈ mj_c167_4, mj_chk 167 q = true := by decide +kernel
theorem mj_d167_5 : ∀ q ∈ mj_c167_5, decode code q.1 = .ok (q.2.1, q.2.2.1) := by decide +kernel
theorem mj_k167_5 : ∀ q ∈ mj_c167_5, mj_chk 167 q = true := by decide +kernel
theorem mj_d167_6 : ∀ q ∈ mj_c167_6, decode code q.1 = .ok (q.2.1, q.2.2.1) := by decide +kernel
theorem mj_k167_6 : ∀ q ∈ mj_c167_6, mj_chk 167 q = true := by decide +kernel
theorem mj_d167_7 : ∀ q ∈ mj_c167_7, decode code q.1 = .ok (q.2.1, q.2.2.1) := by decide +kernel
theorem mj_k167_7 : ∀ q ∈ mj_c167_7, mj_chk 167 q = true := by decide +kernel
theorem mj_d167_8 : ∀ q ∈ mj_c167_8, decode code q.1 = .ok (q.2.1, q.2.2.1) := by decide +kernel
theorem mj_k167_8 : ∀ q ∈ mj_c167_8, mj_chk 167 q = true := by decide +kernel
theorem mj_d167_9 : ∀ q ∈ mj_c167_9, decode code q.1 = .ok (q.2.1, q.2.2.1) := by decide +kernel
theorem mj_k167_9 : ∀ q ∈ mj_c167_9, mj_chk 167 q = true := by decide +kernel
theorem mj_d167_10 : ∀ q ∈ mj_c167_10, decode code q.1 = .ok (q.2.1, q.2.2.1) := by decide +kernel
theorem mj_k167_10 : ∀ q ∈ mj_c167_10, mj_chk 167 q = true := by decide +kernel
theorem mj_d167_11 : ∀ q ∈ mj_c167_11, decode code q.1 = .ok (q.2.1, q.2.2.1) := by decide +kernel
theorem mj_k167_11 : ∀ q ∈ mj_c167_11, mj_chk 167 q = true := by decide +kernel
theorem mj_d167_12 : ∀ q ∈ mj_c167_12, decode code q.1 = .ok (q.2.1, q.2.2.1) := by decide +kernel
theorem mj_k167_12 : ∀ q ∈ mj_c167_12, mj_chk 167 q = true := by decide +kernel
theorem mj_d167_13 : ∀ q ∈ mj_c167_13, decode code q.1 = .ok (q.2.1, q.2.2.1) := by decide +kernel
theorem mj_k167_13 : ∀ q ∈ mj_c167_13, mj_chk 167 q = true := by decide +kernel
theorem mj_d167_14 : ∀ q ∈ mj_c167_14, decode code q.1 = .ok (q.2.1, q.2.2.1) := by decide +kernel
theorem mj_k167_14 : ∀ q ∈ mj_c167_14, mj_chk 167 q = true := by decide +kernel
theorem mj_d167_15 : ∀ q ∈ mj_c167_15, decode code q.1 = .ok (q.2.1, q.2.2.1) := by decide +kernel
theorem mj_k167_15 : ∀ q ∈ mj_c167_15, mj_chk 167 q = true := by decide +kernel
theorem mj_d167 : ∀ q ∈ mj_code 167, decode (mj_b 167) q.1 = .ok (q.2.1, q.2.2.1) := List.forall_mem_append.mpr ⟨mj_d167_0, List.forall_mem_append.mpr ⟨mj_d167_1, List.forall_mem_append.mpr ⟨mj_d167_2, List.forall_mem_append.mpr ⟨mj_d167_3, List.forall_mem_append.mpr ⟨mj_d167_4, List.forall_mem_append.mpr ⟨mj_d167_5, List.forall_mem_append.mpr ⟨mj_d167_6, List.forall_mem_append.mpr ⟨mj_d167_7, List.forall_mem_append.mpr ⟨mj_d167_8, List.forall_mem_append.mpr ⟨mj_d167_9, List.forall_mem_append.mpr ⟨mj_d167_10, List.forall_mem_append.mpr ⟨mj_d167_11, List.forall_mem_append.mpr ⟨mj_d167_12, List.forall_mem_append.mpr ⟨mj_d167_13, List.forall_mem_append.mpr ⟨mj_d167_14, mj_d167_15⟩⟩⟩⟩⟩⟩⟩⟩⟩⟩⟩⟩⟩⟩⟩
theorem mj_k167 : ∀ q ∈ mj_code 167, mj_chk 167 q = true := List.forall_mem_append.mpr ⟨mj_k167_0, List.forall_mem_append.mpr ⟨mj_k167_1, List.forall_mem_append.mpr ⟨mj_k167_2, List.forall_mem_append.mpr ⟨mj_k167_3, List.forall_mem_append.mpr ⟨mj_k167_4, List.forall_mem_append.mpr ⟨mj_k167_5, List.forall_mem_append.mpr ⟨mj_k167_6, List.forall_mem_append.mpr ⟨mj_k167_7, List.forall_mem_append.mpr ⟨mj_k167_8, List.forall_mem_append.mpr ⟨mj_k167_9, List.forall_mem_append.mpr ⟨mj_k167_10, List.forall_mem_append.mpr ⟨mj_k167_11, List.forall_mem_append.mpr ⟨mj_k167_12, List.forall_mem_append.mpr ⟨mj_k167_13, List.forall_mem_append.mpr ⟨mj_k167_14, mj_k167_15⟩⟩⟩⟩⟩⟩⟩⟩⟩⟩⟩⟩⟩⟩⟩
theorem mj_dg0 : ∀ k, k < 10 → ∀ q ∈ mj_code (0 + k), decode (mj_b (0 + k)) q.1 = .ok (q.2.1, q.2.2.1) := fun k hk => match k, hk with
  | 0, _ => mj_d0
  | 1, _ => mj_d1
  | 2, _ => mj_d2
  | 3, _ => mj_d3
  | 4, _ => mj_d4
  | 5, _ => mj_d5
  | 6, _ => mj_d6
  | 7, _ => mj_d7
  | 8, _ => mj_d8
  | 9, _ => mj_d9
  | k + 10, hk => absurd hk (by omega)
theorem mj_kg0 : ∀ k, k < 10 → ∀ q ∈ mj_code (0 + k), mj_chk (0 + k) q = true := fun k hk => match k, hk with
  | 0, _ => mj_k0
  | 1, _ => mj_k1
  | 2, _ => mj_k2
  | 3, _ => mj_k3
  | 4, _ => mj_k4
  | 5, _ => mj_k5
  | 6, _ => mj_k6
  | 7, _ => mj_k7
  | 8, _ => mj_k8
  | 9, _ => mj_k9
  | k + 10, hk => absurd hk (by omega)
theorem mj_dg10 : ∀ k, k < 10 → ∀ q ∈ mj_code (10 + k), decode (mj_b (10 + k)) q.1 = .ok (q.2.1, q.2.2.1) := fun k hk => match k, hk with
  | 0, _ => mj_d10
  | 1, _ => mj_d11
  | 2, _ => mj_d12
  | 3, _ => mj_d13
  | 4, _ => mj_d14
  | 5, _ => mj_d15
  | 6, _ => mj_d16
  | 7, _ => mj_d17
  | 8, _ => mj_d18
  | 9, _ => mj_d19
  | k + 10, hk => absurd hk (by omega)
theorem mj_kg10 : ∀ k, k < 10 → ∀ q ∈ mj_code (10 + k), mj_chk (10 + k) q = true := fun k hk => match k, hk with
  | 0, _ => mj_k10
  | 1, _ => mj_k11
  | 2, _ => mj_k12
  | 3, _ => mj_k13
  | 4, _ => mj_k14
  | 5, _ => mj_k15
  | 6, _ => mj_k16
  | 7, _ => mj_k17
  | 8, _ => mj_k18
  | 9, _ => mj_k19
  | k + 10, hk => absurd hk (by omega)
theorem mj_dg20 : ∀ k, k < 10 → ∀ q ∈ mj_code (20 + k), decode (mj_b (20 + k)) q.1 = .ok (q.2.1, q.2.2.1) := fun k hk => match k, hk with
  | 0, _ => mj_d20
  | 1, _ => mj_d21
  | 2, _ => mj_d22
  | 3, _ => mj_d23
  | 4, _ => mj_d24
  | 5, _ => mj_d25
  | 6, _ => mj_d26
  | 7, _ => mj_d27
  | 8, _ => mj_d28
  | 9, _ => mj_d29
  | k + 10, hk => absurd hk (by omega)
theorem mj_kg20 : ∀ k, k < 10 → ∀ q ∈ mj_code (20 + k), mj_chk (20 + k) q = true := fun k hk => match k, hk with
  | 0, _ => mj_k20
  | 1, _ => mj_k21
  | 2, _ => mj_k22
  | 3, _ => mj_k23
  | 4, _ => mj_k24
  | 5, _ => mj_k25
  | 6, _ => mj_k26
  | 7, _ => mj_k27
  | 8, _ => mj_k28
  | 9, _ => mj_k29
  | k + 10, hk => absurd hk (by omega)
theorem mj_dg30 : ∀ k, k < 10 → ∀ q ∈ mj_code (30 + k), decode (mj_b (30 + k)) q.1 = .ok (q.2.1, q.2.2.1) := fun k hk => match k, hk with
  | 0, _ => mj_d30
  | 1, _ => mj_d31
  | 2, _ => mj_d32
  | 3, _ => mj_d33
  | 4, _ => mj_d34
  | 5, _ => mj_d35
  | 6, _ => mj_d36
  | 7, _ => mj_d37
  | 8, _ => mj_d38
  | 9, _ => mj_d39
  | k + 10, hk => absurd hk (by omega)
theorem mj_kg30 : ∀ k, k < 10 → ∀ q ∈ mj_code (30 + k), mj_chk (30 + k) q = true := fun k hk => match k, hk with
  | 0, _ => mj_k30
  | 1, _ => mj_k31
  | 2, _ => mj_k32
  | 3, _ => mj_k33
  | 4, _ => mj_k34
  | 5, _ => mj_k35
  | 6, _ => mj_k36
  | 7, _ => mj_k37
  | 8, _ => mj_k38
  | 9, _ => mj_k39
  | k + 10, hk => absurd hk (by omega)
theorem mj_dg40 : ∀ k, k < 10 → ∀ q ∈ mj_code (40 + k), decode (mj_b (40 + k)) q.1 = .ok (q.2.1, q.2.2.1) := fun k hk => match k, hk with
  | 0, _ => mj_d40
  | 1, _ => mj_d41
  | 2, _ => mj_d42
  | 3, _ => mj_d43
  | 4, _ => mj_d44
  | 5, _ => mj_d45
  | 6, _ => mj_d46
  | 7, _ => mj_d47
  | 8, _ => mj_d48
  | 9, _ => mj_d49
  | k + 10, hk => absurd hk (by omega)
theorem mj_kg40 : ∀ k, k < 10 → ∀ q ∈ mj_code (40 + k), mj_chk (40 + k) q = true := fun k hk => match k, hk with
  | 0, _ => mj_k40
  | 1, _ => mj_k41
  | 2, _ => mj_k42
  | 3, _ => mj_k43
  | 4, _ => mj_k44
  | 5, _ => mj_k45
  | 6, _ => mj_k46
  | 7, _ => mj_k47
  | 8, _ => mj_k48
  | 9, _ => mj_k49
  | k + 10, hk => absurd hk (by omega)
theorem mj_dg50 : ∀ k, k < 10 → ∀ q ∈ mj_code (50 + k), decode (mj_b (50 + k)) q.1 = .ok (q.2.1, q.2.2.1) := fun k hk => match k, hk with
  | 0, _ => mj_d50
  | 1, _ => mj_d51
  | 2, _ => mj_d52
  | 3, _ => mj_d53
  | 4, _ => mj_d54
  | 5, _ => mj_d55
  | 6, _ => mj_d56
  | 7, _ => mj_d57
  | 8, _ => mj_d58
  | 9, _ => mj_d59
  | k + 10, hk => absurd hk (by omega)
theorem mj_kg50 : ∀ k, k < 10 → ∀ q ∈ mj_code (50 + k), mj_chk (50 + k) q = true := fun k hk => match k, hk with
  | 0, _ => mj_k50
  | 1, _ => mj_k51
  | 2, _ => mj_k52
  | 3, _ => mj_k53
  | 4, _ => mj_k54
  | 5, _ => mj_k55
  | 6, _ => mj_k56
  | 7, _ => mj_k57
  | 8, _ => mj_k58
  | 9, _ => mj_k59
  | k + 10, hk => absurd hk (by omega)
theorem mj_dg60 : ∀ k, k < 10 → ∀ q ∈ mj_code (60 + k), decode (mj_b (60 + k)) q.1 = .ok (q.2.1, q.2.2.1) := fun k hk => match k, hk with
  | 0, _ => mj_d60
  | 1, _ => mj_d61
  | 2, _ => mj_d62
  | 3, _ => mj_d63
  | 4, _ => mj_d64
  | 5, _ => mj_d65
  | 6, _ => mj_d66
  | 7, _ => mj_d67
  | 8, _ => mj_d68
  | 9, _ => mj_d69
  | k + 10, hk => absurd hk (by omega)
theorem mj_kg60 : ∀ k, k < 10 → ∀ q ∈ mj_code (60 + k), mj_chk (60 + k) q = true := fun k hk => match k, hk with
  | 0, _ => mj_k60
  | 1, _ => mj_k61
  | 2, _ => mj_k62
  | 3, _ => mj_k63
  | 4, _ => mj_k64
  | 5, _ => mj_k65
  | 6, _ => mj_k66
  | 7, _ => mj_k67
  | 8, _ => mj_k68
  | 9, _ => mj_k69
  | k + 10, hk => absurd hk (by omega)
theorem mj_dg70 : ∀ k, k < 10 → ∀ q ∈ mj_code (70 + k), decode (mj_b (70 + k)) q.1 = .ok (q.2.1, q.2.2.1) := fun k hk => match k, hk with
  | 0, _ => mj_d70
  | 1, _ => mj_d71
  | 2, _ => mj_d72
  | 3, _ => mj_d73
  | 4, _ => mj_d74
  | 5, _ => mj_d75
  | 6, _ => mj_d76
  | 7, _ => mj_d77
  | 8, _ => mj_d78
  | 9, _ => mj_d79
  | k + 10, hk => absurd hk (by omega)
theorem mj_kg70 : ∀ k, k < 10 → ∀ q ∈ mj_code (70 + k), mj_chk (70 + k) q = true := fun k hk => match k, hk with
  | 0, _ => mj_k70
  | 1, _ => mj_k71
  | 2, _ => mj_k72
  | 3, _ => mj_k73
  | 4, _ => mj_k74
  | 5, _ => mj_k75
  | 6, _ => mj_k76
  | 7, _ => mj_k77
  | 8, _ => mj_k78
  | 9, _ => mj_k79
  | k + 10, hk => absurd hk (by omega)
theorem mj_dg80 : ∀ k, k < 10 → ∀ q ∈ mj_code (80 + k), decode (mj_b (80 + k)) q.1 = .ok (q.2.1, q.2.2.1) := fun k hk => match k, hk with
  | 0, _ => mj_d80
  | 1, _ => mj_d81
  | 2, _ => mj_d82
  | 3, _ => mj_d83
  | 4, _ => mj_d84
  | 5, _ => mj_d85
  | 6, _ => mj_d86
  | 7, _ => mj_d87
  | 8, _ => mj_d88
  | 9, _ => mj_d89
  | k + 10, hk => absurd hk (by omega)
theorem mj_kg80 : ∀ k, k < 10 → ∀ q ∈ mj_code (80 + k), mj_chk (80 + k) q = true := fun k hk => match k, hk with
  | 0, _ => mj_k80
  | 1, _ => mj_k81
  | 2, _ => mj_k82
  | 3, _ => mj_k83
  | 4, _ => mj_k84
  | 5, _ => mj_k85
  | 6, _ => mj_k86
  | 7, _ => mj_k87
  | 8, _ => mj_k88
  | 9, _ => mj_k89
  | k + 10, hk => absurd hk (by omega)
theorem mj_dg90 : ∀ k, k < 10 → ∀ q ∈ mj_code (90 + k), decode (mj_b (90 + k)) q.1 = .ok (q.2.1, q.2.2.1) := fun k hk => match k, hk with
  | 0, _ => mj_d90
  | 1, _ => mj_d91
  | 2, _ => mj_d92
  | 3, _ => mj_d93
  | 4, _ => mj_d94
  | 5, _ => mj_d95
  | 6, _ => mj_d96
  | 7, _ => mj_d97
  | 8, _ => mj_d98
  | 9, _ => mj_d99
  | k + 10, hk => absurd hk (by omega)
theorem mj_kg90 : ∀ k, k < 10 → ∀ q ∈ mj_code (90 + k), mj_chk (90 + k) q = true := fun k hk => match k, hk with
  | 0, _ => mj_k90
  | 1, _ => mj_k91
  | 2, _ => mj_k92
  | 3, _ => mj_k93
  | 4, _ => mj_k94
  | 5, _ => mj_k95
  | 6, _ => mj_k96
  | 7, _ => mj_k97
  | 8, _ => mj_k98
  | 9, _ => mj_k99
  | k + 10, hk => absurd hk (by omega)
theorem mj_dg100 : ∀ k, k < 10 → ∀ q ∈ mj_code (100 + k), decode (mj_b (100 + k)) q.1 = .ok (q.2.1, q.2.2.1) := fun k hk => match k, hk with
  | 0, _ => mj_d100
  | 1, _ => mj_d101
  | 2, _ => mj_d102
  | 3, _ => mj_d103
  | 4, _ => mj_d104
  | 5, _ => mj_d105
  | 6, _ => mj_d106
  | 7, _ => mj_d107
  | 8, _ => mj_d108
  | 9, _ => mj_d109
  | k + 10, hk => absurd hk (by omega)
theorem mj_kg100 : ∀ k, k < 10 → ∀ q ∈ mj_code (100 + k), mj_chk (100 + k) q = true := fun k hk => match k, hk with
  | 0, _ => mj_k100
  | 1, _ => mj_k101
  | 2, _ => mj_k102
  | 3, _ => mj_k103
  | 4, _ => mj_k104
  | 5, _ => mj_k105
  | 6, _ => mj_k106
  | 7, _ => mj_k107
  | 8, _ => mj_k108
  | 9, _ => mj_k109
  | k + 10, hk => absurd hk (by omega)
theorem mj_dg110 : ∀ k, k < 10 → ∀ q ∈ mj_code (110 + k), decode (mj_b (110 + k)) q.1 = .ok (q.2.1, q.2.2.1) := fun k hk => match k, hk with
  | 0, _ => mj_d110
  | 1, _ => mj_d111
  | 2, _ => mj_d112
  | 3, _ => mj_d113
  | 4, _ => mj_d114
  | 5, _ => mj_d115
  | 6, _ => mj_d116
  | 7, _ => mj_d117
  | 8, _ => mj_d118
  | 9, _ => mj_d119
  | k + 10, hk => absurd hk (by omega)
theorem mj_kg110 : ∀ k, k < 10 → ∀ q ∈ mj_code (110 + k), mj_chk (110 + k) q = true := fun k hk => match k, hk with
  | 0, _ => mj_k110
  | 1, _ => mj_k111
  | 2, _ => mj_k112
  | 3, _ => mj_k113
  | 4, _ => mj_k114
  | 5, _ => mj_k115
  | 6, _ => mj_k116
  | 7, _ => mj_k117
  | 8, _ => mj_k118
  | 9, _ => mj_k119
  | k + 10, hk => absurd hk (by omega)
theorem mj_dg120 : ∀ k, k < 10 → ∀ q ∈ mj_code (120 + k), decode (mj_b (120 + k)) q.1 = .ok (q.2.1, q.2.2.1) := fun k hk => match k, hk with
  | 0, _ => mj_d120
  | 1, _ => mj_d121
  | 2, _ => mj_d122
  | 3, _ => mj_d123
  | 4, _ => mj_d124
  | 5, _ => mj_d125
  | 6, _ => mj_d126
  | 7, _ => mj_d127
  | 8, _ => mj_d128
  | 9, _ => mj_d129
  | k + 10, hk => absurd hk (by omega)
theorem mj_kg120 : ∀ k, k < 10 → ∀ q ∈ mj_code (120 + k), mj_chk (120 + k) q = true := fun k hk => match k, hk with
  | 0, _ => mj_k120
  | 1, _ => mj_k121
  | 2, _ => mj_k122
  | 3, _ => mj_k123
  | 4, _ => mj_k124
  | 5, _ => mj_k125
  | 6, _ => mj_k126
  | 7, _ => mj_k127
  | 8, _ => mj_k128
  | 9, _ => mj_k129
  | k + 10, hk => absurd hk (by omega)
theorem mj_dg130 : ∀ k, k < 10 → ∀ q ∈ mj_code (130 + k), decode (mj_b (130 + k)) q.1 = .ok (q.2.1, q.2.2.1) := fun k hk => match k, hk with
  | 0, _ => mj_d130
  | 1, _ => mj_d131
  | 2, _ => mj_d132
  | 3, _ => mj_d133
  | 4, _ => mj_d134
  | 5, _ => mj_d135
  | 6, _ => mj_d136
  | 7, _ => mj_d137
  | 8, _ => mj_d138
  | 9, _ => mj_d139
  | k + 10, hk => absurd hk (by omega)
theorem mj_kg130 : ∀ k, k < 10 → ∀ q ∈ mj_code (130 + k), mj_chk (130 + k) q = true := fun k hk => match k, hk with
  | 0, _ => mj_k130
  | 1, _ => mj_k131
  | 2, _ => mj_k132
  | 3, _ => mj_k133
  | 4, _ => mj_k134
  | 5, _ => mj_k135
  | 6, _ => mj_k136
  | 7, _ => mj_k137
  | 8, _ => mj_k138
  | 9, _ => mj_k139
  | k + 10, hk => absurd hk (by omega)
theorem mj_dg140 : ∀ k, k < 10 → ∀ q ∈ mj_code (140 + k), decode (mj_b (140 + k)) q.1 = .ok (q.2.1, q.2.2.1) := fun k hk => match k, hk with
  | 0, _ => mj_d140
  | 1, _ => mj_d141
  | 2, _ => mj_d142
  | 3, _ => mj_d143
  | 4, _ => mj_d144
  | 5, _ => mj_d145
  | 6, _ => mj_d146
  | 7, _ => mj_d147
  | 8, _ => mj_d148
  | 9, _ => mj_d149
  | k + 10, hk => absurd hk (by omega)
theorem mj_kg140 : ∀ k, k < 10 → ∀ q ∈ mj_code (140 + k), mj_chk (140 + k) q = true := fun k hk => match k, hk with
  | 0, _ => mj_k140
  | 1, _ => mj_k141
  | 2, _ => mj_k142
  | 3, _ => mj_k143
  | 4, _ => mj_k144
  | 5, _ => mj_k145
  | 6, _ => mj_k146
  | 7, _ => mj_k147
  | 8, _ => mj_k148
  | 9, _ => mj_k149
  | k + 10, hk => absurd hk (by omega)
theorem mj_dg150 : ∀ k, k < 10 → ∀ q ∈ mj_code (150 + k), decode (mj_b (150 + k)) q.1 = .ok (q.2.1, q.2.2.1) := fun k hk => match k, hk with
  | 0, _ => mj_d150
  | 1, _ => mj_d151
  | 2, _ => mj_d152
  | 3, _ => mj_d153
  | 4, _ => mj_d154
  | 5, _ => mj_d155
  | 6, _ => mj_d156
  | 7, _ => mj_d157
  | 8, _ => mj_d158
  | 9, _ => mj_d159
  | k + 10, hk => absurd hk (by omega)
theorem mj_kg150 : ∀ k, k < 10 → ∀ q ∈ mj_code (150 + k), mj_chk (150 + k) q = true := fun k hk => match k, hk with
  | 0, _ => mj_k150
  | 1, _ => mj_k151
  | 2, _ => mj_k152
  | 3, _ => mj_k153
  | 4, _ => mj_k154
  | 5, _ => mj_k155
  | 6, _ => mj_k156
  | 7, _ => mj_k157
  | 8, _ => mj_k158
  | 9, _ => mj_k159
  | k + 10, hk => absurd hk (by omega)
theorem mj_dg160 : ∀ k, k < 8 → ∀ q ∈ mj_code (160 + k), decode (mj_b (160 + k)) q.1 = .ok (q.2.1, q.2.2.1) := fun k hk => match k, hk with
  | 0, _ => mj_d160
  | 1, _ => mj_d161
  | 2, _ => mj_d162
  | 3, _ => mj_d163
  | 4, _ => mj_d164
  | 5, _ => mj_d165
  | 6, _ => mj_d166
  | 7, _ => mj_d167
  | k + 8, hk => absurd hk (by omega)
theorem mj_kg160 : ∀ k, k < 8 → ∀ q ∈ mj_code (160 + k), mj_chk (160 + k) q = true := fun k hk => match k, hk with
  | 0, _ => mj_k160
  | 1, _ => mj_k161
  | 2, _ => mj_k162
  | 3, _ => mj_k163
  | 4, _ => mj_k164
  | 5, _ => mj_k165
  | 6, _ => mj_k166
  | 7, _ => mj_k167
  | k + 8, hk => absurd hk (by omega)
theorem mj_dA (i : Nat) (hi : i < 168) : ∀ q ∈ mj_code i, decode (mj_b i) q.1 = .ok (q.2.1, q.2.2.1) := by
  rcases (show (0 ≤ i ∧ i < 10) ∨ (10 ≤ i ∧ i < 20) ∨ (20 ≤ i ∧ i < 30) ∨ (30 ≤ i ∧ i < 40) ∨ (40 ≤ i ∧ i < 50) ∨ (50 ≤ i ∧ i < 60) ∨ (60 ≤ i ∧ i < 70) ∨ (70 ≤ i ∧ i < 80) ∨ (80 ≤ i ∧ i < 90) ∨ (90 ≤ i ∧ i < 100) ∨ (100 ≤ i ∧ i < 110) ∨ (110 ≤ i ∧ i < 120) ∨ (120 ≤ i ∧ i < 130) ∨ (130 ≤ i ∧ i < 140) ∨ (140 ≤ i ∧ i < 150) ∨ (150 ≤ i ∧ i < 160) ∨ (160 ≤ i ∧ i < 168) by omega) with h | h | h | h | h | h | h | h | h | h | h | h | h | h | h | h | h
  · exact (show i = 0 + (i - 0) by omega) ▸ mj_dg0 (i - 0) (by omega)
  · exact (show i = 10 + (i - 10) by omega) ▸ mj_dg10 (i - 10) (by omega)
  · exact (show i = 20 + (i - 20) by omega) ▸ mj_dg20 (i - 20) (by omega)
  · exact (show i = 30 + (i - 30) by omega) ▸ mj_dg30 (i - 30) (by omega)
  · exact (show i = 40 + (i - 40) by omega) ▸ mj_dg40 (i - 40) (by omega)
  · exact (show i = 50 + (i - 50) by omega) ▸ mj_dg50 (i - 50) (by omega)
  · exact (show i = 60 + (i - 60) by omega) ▸ mj_dg60 (i - 60) (by omega)
  · exact (show i = 70 + (i - 70) by omega) ▸ mj_dg70 (i - 70) (by omega)
  · exact (show i = 80 + (i - 80) by omega) ▸ mj_dg80 (i - 80) (by omega)
  · exact (show i = 90 + (i - 90) by omega) ▸ mj_dg90 (i - 90) (by omega)
  · exact (show i = 100 + (i - 100) by omega) ▸ mj_dg100 (i - 100) (by omega)
  · exact (show i = 110 + (i - 110) by omega) ▸ mj_dg110 (i - 110) (by omega)
  · exact (show i = 120 + (i - 120) by omega) ▸ mj_dg120 (i - 120) (by omega)
  · exact (show i = 130 + (i - 130) by omega) ▸ mj_dg130 (i - 130) (by omega)
  · exact (show i = 140 + (i - 140) by omega) ▸ mj_dg140 (i - 140) (by omega)
  · exact (show i = 150 + (i - 150) by omega) ▸ mj_dg150 (i - 150) (by omega)
  · exact (show i = 160 + (i - 160) by omega) ▸ mj_dg160 (i - 160) (by omega)
theorem mj_kA (i : Nat) (hi : i < 168) : ∀ q ∈ mj_code i, mj_chk i q = true := by
  rcases (show (0 ≤ i ∧ i < 10) ∨ (10 ≤ i ∧ i < 20) ∨ (20 ≤ i ∧ i < 30) ∨ (30 ≤ i ∧ i < 40) ∨ (40 ≤ i ∧ i < 50) ∨ (50 ≤ i ∧ i < 60) ∨ (60 ≤ i ∧ i < 70) ∨ (70 ≤ i ∧ i < 80) ∨ (80 ≤ i ∧ i < 90) ∨ (90 ≤ i ∧ i < 100) ∨ (100 ≤ i ∧ i < 110) ∨ (110 ≤ i ∧ i < 120) ∨ (120 ≤ i ∧ i < 130) ∨ (130 ≤ i ∧ i < 140) ∨ (140 ≤ i ∧ i < 150) ∨ (150 ≤ i ∧ i < 160) ∨ (160 ≤ i ∧ i < 168) by omega) with h | h | h | h | h | h | h | h | h | h | h | h | h | h | h | h | h
  · exact (show i = 0 + (i - 0) by omega) ▸ mj_kg0 (i - 0) (by omega)
  · exact (show i = 10 + (i - 10) by omega) ▸ mj_kg10 (i - 10) (by omega)
  · exact (show i = 20 + (i - 20) by omega) ▸ mj_kg20 (i - 20) (by omega)
  · exact (show i = 30 + (i - 30) by omega) ▸ mj_kg30 (i - 30) (by omega)
  · exact (show i = 40 + (i - 40) by omega) ▸ mj_kg40 (i - 40) (by omega)
  · exact (show i = 50 + (i - 50) by omega) ▸ mj_kg50 (i - 50) (by omega)
  · exact (show i = 60 + (i - 60) by omega) ▸ mj_kg60 (i - 60) (by omega)
  · exact (show i = 70 + (i - 70) by omega) ▸ mj_kg70 (i - 70) (by omega)
  · exact (show i = 80 + (i - 80) by omega) ▸ mj_kg80 (i - 80) (by omega)
  · exact (show i = 90 + (i - 90) by omega) ▸ mj_kg90 (i - 90) (by omega)
  · exact (show i = 100 + (i - 100) by omega) ▸ mj_kg100 (i - 100) (by omega)
  · exact (show i = 110 + (i - 110) by omega) ▸ mj_kg110 (i - 110) (by omega)
  · exact (show i = 120 + (i - 120) by omega) ▸ mj_kg120 (i - 120) (by omega)
  · exact (show i = 130 + (i - 130) by omega) ▸ mj_kg130 (i - 130) (by omega)
  · exact (show i = 140 + (i - 140) by omega) ▸ mj_kg140 (i - 140) (by omega)
  · exact (show i = 150 + (i - 150) by omega) ▸ mj_kg150 (i - 150) (by omega)
  · exact (show i = 160 + (i - 160) by omega) ▸ mj_kg160 (i - 160) (by omega)
end
section
/-! THE PURE MACHINE: objects and rows in a store of numbered cells, a step a function, a method's run a function with fuel -/
abbrev mj_E : Type := (Nat × List Int32) ⊕ (Nat × List Value)
abbrev mj_H : Type := (Nat → Option mj_E) × Nat × Nat
abbrev mj_S : Type := Nat × List Value × List Value × mj_H
abbrev mj_X : Type := mj_S ⊕ (Option Value ⊕ (Nat × List Value × List Value))
def mj_up (h : mj_H) (a : Nat) (e : mj_E) : mj_H := (fun k => if k = a then some e else h.1 k, h.2)
def mj_sz (e : mj_E) : Nat := match e with
  | .inl x => x.2.length
  | .inr x => x.2.length
def mj_new (h : mj_H) (e : mj_E) : mj_H := (fun k => if k = h.2.1 then some e else h.1 k, h.2.1 + 1, h.2.2 + mj_sz e)
def mj_nx (pc : Nat) (ls st : List Value) (h : mj_H) : Option mj_X := some (.inl (pc, ls, st, h))
def mj_okv (ty : FieldType) (v : Value) : Bool := match ty, v with
  | .int, .int _ => true
  | .boolean, .int x => x == 0 || x == 1
  | .long, .long _ => true
  | .object _, .ref _ => true
  | .array _, .ref _ => true
  | _, _ => false
def mj_okr (r : Option FieldType) (x : Int32) : Bool := match r with
  | some .int => true
  | some .boolean => x == 0 || x == 1
  | _ => false
def mj_noL (v : Value) : Bool := v.category == 1
def mj_dfl (a : Nat) : List Value := (List.range (mj_nf a)).map (fun b => defaultValue (mj_ft a b))
def mj_xp : List Value → List Value
  | [] => []
  | v :: vs => if v.category = 2 then v :: .null :: mj_xp vs else v :: mj_xp vs
def mj_ent (j : Nat) (as : List Value) : List Value := mj_xp as ++ List.replicate (mj_m j - (mj_xp as).length) .null
def mj_isC (h : mj_H) (x c : Nat) : Bool := match h.1 x with
  | some (.inr (d, _)) => d == c
  | _ => false
def mj_prev (ls : List Value) (k : Nat) : Bool := match k with
  | 0 => true
  | k + 1 => (match ls[k]? with | some v => mj_noL v | none => true)
def mj_call (a b : Nat) (st : List Value) : Option mj_X :=
  if b ≤ st.length ∧ (st.drop b).length ≤ 4 ∧ (mj_t a = true → (st.take b).all mj_noL = true) ∧ (mj_xp (st.take b).reverse).length ≤ mj_m a then some (.inr (.inr (a, (st.take b).reverse, st.drop b))) else none
def mj_jmp (t : Int) (ls st : List Value) (h : mj_H) : Option mj_X := if 0 ≤ t then mj_nx t.toNat ls st h else none
def mj_cond (c : ClassFile.Cond) (x y : Int32) : Bool := match c with
  | .eq => decide (x = y)
  | .ne => decide (¬ x = y)
  | .lt => decide (x < y)
  | .ge => decide (y ≤ x)
  | .gt => decide (y < x)
  | .le => decide (x ≤ y)
def mj_ln (ins : Instr) : Nat := match ins with
  | .bipush _ | .iload _ | .istore _ | .lload _ | .lstore _ | .newarray _ => 2
  | .sipush _ | .getfield _ | .putfield _ | .invokevirtual _ | .invokespecial _ | .invokestatic _ | .new _ | .anewarray _ | .goto _ | .ifCond _ _ | .if_icmp _ _ | .iinc _ _ | .ldc_w _ | .ldc2_w _ => 3
  | _ => 1
def mj_step (i : Nat) (q : Instr × Nat × Nat × Nat) (pc : Nat) (ls st : List Value) (h : mj_H) : Option mj_X :=
  match q with
  | (ins, _, a, b) =>
  match ins with
  | .aload_n k => (match ls[k.val]? with | some (.ref x) => mj_nx (pc + 1) ls (.ref x :: st) h | _ => none)
  | .iload_n k => (match ls[k.val]? with | some (.int x) => mj_nx (pc + 1) ls (.int x :: st) h | _ => none)
  | .iload k => (match ls[k]? with | some (.int x) => mj_nx (pc + 2) ls (.int x :: st) h | _ => none)
  | .lload_n k => (match ls[k.val]? with | some (.long x) => mj_nx (pc + 1) ls (.long x :: st) h | _ => none)
  | .lload k => (match ls[k]? with | some (.long x) => mj_nx (pc + 2) ls (.long x :: st) h | _ => none)
  | .istore_n k => (match st with | .int x :: st => if mj_t i = true ∧ k.val < ls.length then mj_nx (pc + 1) (ls.set k.val (.int x)) st h else none | _ => none)
  | .istore k => (match st with | .int x :: st => if mj_t i = true ∧ k < ls.length then mj_nx (pc + 2) (ls.set k (.int x)) st h else none | _ => none)
  | .astore_n k => (match st with | .ref x :: st => if mj_t i = true ∧ k.val < ls.length then mj_nx (pc + 1) (ls.set k.val (.ref x)) st h else none | _ => none)
  | .lstore_n k => (match st with | .long x :: st => if mj_t i = false ∧ k.val + 1 < ls.length ∧ mj_prev ls k.val = true then mj_nx (pc + 1) ((ls.set k.val (.long x)).set (k.val + 1) .null) st h else none | _ => none)
  | .iinc k n => (match ls[k]? with | some (.int x) => if mj_t i = true then mj_nx (pc + 3) (ls.set k (.int (x + Int32.ofInt n))) st h else none | _ => none)
  | .iconst n => mj_nx (pc + 1) ls (.int (Int32.ofInt n) :: st) h
  | .bipush n => mj_nx (pc + 2) ls (.int (Int8.ofInt n).toInt32 :: st) h
  | .sipush n => mj_nx (pc + 3) ls (.int (Int16.ofInt n).toInt32 :: st) h
  | .lconst n => mj_nx (pc + 1) ls (.long (Int64.ofNat (n : Nat)) :: st) h
  | .ldc_w _ => mj_nx (pc + 3) ls (.int (Int32.ofNat a) :: st) h
  | .ldc2_w _ => mj_nx (pc + 3) ls (.long (mj_lng a) :: st) h
  | .iadd => (match st with | .int y :: .int x :: st => mj_nx (pc + 1) ls (.int (x + y) :: st) h | _ => none)
  | .isub => (match st with | .int y :: .int x :: st => mj_nx (pc + 1) ls (.int (x - y) :: st) h | _ => none)
  | .imul => (match st with | .int y :: .int x :: st => mj_nx (pc + 1) ls (.int (x * y) :: st) h | _ => none)
  | .idiv => (match st with | .int y :: .int x :: st => if y = 0 then none else mj_nx (pc + 1) ls (.int (x / y) :: st) h | _ => none)
  | .irem => (match st with | .int y :: .int x :: st => if y = 0 then none else mj_nx (pc + 1) ls (.int (x - x / y * y) :: st) h | _ => none)
  | .iand => (match st with | .int y :: .int x :: st => mj_nx (pc + 1) ls (.int (x &&& y) :: st) h | _ => none)
  | .ior => (match st with | .int y :: .int x :: st => mj_nx (pc + 1) ls (.int (x ||| y) :: st) h | _ => none)
  | .ixor => (match st with | .int y :: .int x :: st => mj_nx (pc + 1) ls (.int (x ^^^ y) :: st) h | _ => none)
  | .ishl => (match st with | .int y :: .int x :: st => mj_nx (pc + 1) ls (.int (x <<< (y &&& 31)) :: st) h | _ => none)
  | .ishr => (match st with | .int y :: .int x :: st => mj_nx (pc + 1) ls (.int (x >>> (y &&& 31)) :: st) h | _ => none)
  | .iushr => (match st with | .int y :: .int x :: st => mj_nx (pc + 1) ls (.int (x.toUInt32 >>> (y.toUInt32 &&& Int32.toUInt32 31)).toInt32 :: st) h | _ => none)
  | .ladd => (match st with | .long y :: .long x :: st => mj_nx (pc + 1) ls (.long (x + y) :: st) h | _ => none)
  | .lmul => (match st with | .long y :: .long x :: st => mj_nx (pc + 1) ls (.long (x * y) :: st) h | _ => none)
  | .land => (match st with | .long y :: .long x :: st => mj_nx (pc + 1) ls (.long (x &&& y) :: st) h | _ => none)
  | .lor => (match st with | .long y :: .long x :: st => mj_nx (pc + 1) ls (.long (x ||| y) :: st) h | _ => none)
  | .lrem => (match st with | .long y :: .long x :: st => if y = 0 then none else mj_nx (pc + 1) ls (.long (x - x / y * y) :: st) h | _ => none)
  | .lcmp => (match st with | .long y :: .long x :: st => mj_nx (pc + 1) ls (.int (lg_cmp x y) :: st) h | _ => none)
  | .lushr => (match st with | .int y :: .long x :: st => mj_nx (pc + 1) ls (.long (x.toUInt64 >>> (y.toInt64.toUInt64 &&& Int64.toUInt64 63)).toInt64 :: st) h | _ => none)
  | .lshl => (match st with | .int y :: .long x :: st => mj_nx (pc + 1) ls (.long (x <<< (y.toInt64 &&& 63)) :: st) h | _ => none)
  | .i2l => (match st with | .int x :: st => mj_nx (pc + 1) ls (.long x.toInt64 :: st) h | _ => none)
  | .dup => (match st with | v :: st => if mj_noL v = true then mj_nx (pc + 1) ls (v :: v :: st) h else none | _ => none)
  | .pop => (match st with | v :: st => if mj_noL v = true then mj_nx (pc + 1) ls st h else none | _ => none)
  | .dup2 => (match st with | v :: w :: st => if mj_noL v = true ∧ mj_noL w = true then mj_nx (pc + 1) ls (v :: w :: v :: w :: st) h else none | _ => none)
  | .goto _ => mj_nx a ls st h
  | .ifCond c _ => (match st with | .int x :: st => if mj_cond c x 0 = true then mj_nx a ls st h else mj_nx (pc + 3) ls st h | _ => none)
  | .if_icmp c _ => (match st with | .int y :: .int x :: st => if mj_cond c x y = true then mj_nx a ls st h else mj_nx (pc + 3) ls st h | _ => none)
  | .tableswitch d lo hi offs => (match st with | .int x :: st => if x.toInt < lo ∨ hi < x.toInt then mj_jmp (pc + d) ls st h else (match offs[(x.toInt - lo).toNat]? with | some off => mj_jmp (pc + off) ls st h | none => none) | _ => none)
  | .getfield _ => (match st with | .ref x :: st => (match h.1 x with | some (.inr (c, fs)) => if c = a then (match fs[b]? with | some v => mj_nx (pc + 3) ls (v :: st) h | none => none) else none | _ => none) | _ => none)
  | .putfield _ => (match st with | v :: .ref x :: st => (match h.1 x with | some (.inr (c, fs)) => if c = a ∧ b < fs.length ∧ mj_okv (mj_ft a b) v = true then mj_nx (pc + 3) ls st (mj_up h x (.inr (c, fs.set b v))) else none | _ => none) | _ => none)
  | .iaload => (match st with | .int j :: .ref x :: st => (match h.1 x with | some (.inl (t, l)) => if t ≠ 1 ∧ ¬ j < 0 then (match l[j.toNatClampNeg]? with | some v => mj_nx (pc + 1) ls (.int v :: st) h | none => none) else none | _ => none) | _ => none)
  | .iastore => (match st with | .int v :: .int j :: .ref x :: st => (match h.1 x with | some (.inl (t, l)) => if t = 0 ∧ ¬ j < 0 ∧ j.toNatClampNeg < l.length then mj_nx (pc + 1) ls st (mj_up h x (.inl (t, l.set j.toNatClampNeg v))) else none | _ => none) | _ => none)
  | .baload => (match st with | .int j :: .ref x :: st => (match h.1 x with | some (.inl (t, l)) => if t = 1 ∧ ¬ j < 0 then (match l[j.toNatClampNeg]? with | some v => mj_nx (pc + 1) ls (.int v :: st) h | none => none) else none | _ => none) | _ => none)
  | .bastore => (match st with | .int v :: .int j :: .ref x :: st => (match h.1 x with | some (.inl (t, l)) => if t = 1 ∧ ¬ j < 0 ∧ j.toNatClampNeg < l.length ∧ (v == 0 || v == 1) = true then mj_nx (pc + 1) ls st (mj_up h x (.inl (t, l.set j.toNatClampNeg v))) else none | _ => none) | _ => none)
  | .aaload => (match st with | .int j :: .ref x :: st => (match h.1 x with | some (.inr (t, l)) => if t = 99 ∧ ¬ j < 0 then (match l[j.toNatClampNeg]? with | some (.ref v) => mj_nx (pc + 1) ls (.ref v :: st) h | _ => none) else none | _ => none) | _ => none)
  | .aastore => (match st with | .ref v :: .int j :: .ref x :: st => (match h.1 x with | some (.inr (t, l)) => if t = 99 ∧ ¬ j < 0 ∧ j.toNatClampNeg < l.length ∧ mj_isC h v 2 = true then mj_nx (pc + 1) ls st (mj_up h x (.inr (t, l.set j.toNatClampNeg (.ref v)))) else none | _ => none) | _ => none)
  | .arraylength => (match st with | .ref x :: st => (match h.1 x with | some (.inl (_, l)) => mj_nx (pc + 1) ls (.int (Int32.ofNat l.length) :: st) h | _ => none) | _ => none)
  | .new _ => mj_nx (pc + 3) ls (.ref h.2.1 :: st) (mj_new h (.inr (a, mj_dfl a)))
  | .newarray .int => (match st with | .int n :: st => if ¬ n < 0 ∧ n.toNatClampNeg ≤ 100000 then mj_nx (pc + 2) ls (.ref h.2.1 :: st) (mj_new h (.inl (0, List.replicate n.toNatClampNeg 0))) else none | _ => none)
  | .newarray .boolean => (match st with | .int n :: st => if ¬ n < 0 ∧ n.toNatClampNeg ≤ 100000 then mj_nx (pc + 2) ls (.ref h.2.1 :: st) (mj_new h (.inl (1, List.replicate n.toNatClampNeg 0))) else none | _ => none)
  | .anewarray _ => (match st with | .int n :: st => if ¬ n < 0 ∧ n.toNatClampNeg ≤ 100000 then mj_nx (pc + 3) ls (.ref h.2.1 :: st) (mj_new h (.inr (99, List.replicate n.toNatClampNeg .null))) else none | _ => none)
  | .invokevirtual _ => (match st[b - 1]? with | some (.ref x) => if mj_isC h x (mj_w a) = true then mj_call a b st else none | _ => none)
  | .invokespecial _ => if a = 999 then (match st with | .ref _ :: st => if st.length ≤ 4 then mj_nx (pc + 3) ls st h else none | _ => none) else (match st[b - 1]? with | some (.ref _) => mj_call a b st | _ => none)
  | .invokestatic _ => if a = 998 then (match st with | .int y :: .int x :: st => if st.length ≤ 4 then mj_nx (pc + 3) ls (.int (if x < y then y else x) :: st) h else none | _ => none)
      else if a = 997 then (match st with | .int y :: .int x :: st => if st.length ≤ 4 then mj_nx (pc + 3) ls (.int (if y < x then y else x) :: st) h else none | _ => none)
      else mj_call a b st
  | .ireturn => (match st with | [.int x] => if mj_okr (mj_r i) x = true then some (.inr (.inl (some (.int x)))) else none | _ => none)
  | .lreturn => (match st with | [.long x] => if mj_r i = some .long then some (.inr (.inl (some (.long x)))) else none | _ => none)
  | .return_ => (match st with | [] => if mj_r i = none then some (.inr (.inl none)) else none | _ => none)
  | _ => none
def mj_exec : Nat → Nat → mj_S → Option (Option Value × mj_H)
  | 0, _, _ => none
  | n + 1, i, (pc, ls, st, h) => match mj_at i pc with
    | none => none
    | some q => match mj_step i q pc ls st h with
      | none => none
      | some (.inl s) => mj_exec n i s
      | some (.inr (.inl v)) => some (v, h)
      | some (.inr (.inr (j, as, rest))) => match mj_exec n j (0, mj_ent j as, [], h) with
        | none => none
        | some (v, h') => mj_exec n i (pc + 3, ls, v.toList ++ rest, h')
def mj_lnok (ins : Instr) (len : Nat) : Bool := match ins with
  | .tableswitch _ _ _ _ => true
  | _ => len == mj_ln ins
theorem mj_lnA : ∀ k, k < 168 → (mj_code k).all (fun q => mj_lnok q.2.1 q.2.2.1) = true := by decide +kernel
theorem mj_at_lt {i pc : Nat} {q : Instr × Nat × Nat × Nat} (h : mj_at i pc = some q) : i < 168 := by
  rcases Nat.lt_or_ge i 168 with h1 | h1
  · exact h1
  · exfalso
    have h2 : mj_P.length = 168 := by decide +kernel
    have h3 : mj_P[i]? = none := List.getElem?_eq_none (by omega)
    simp [mj_at, mj_code, mj_g, List.getD, h3] at h
theorem mj_lookup_mem {l : List mj_Row} {pc : Nat} {q : Instr × Nat × Nat × Nat} (h : l.lookup pc = some q) : (pc, q) ∈ l := by
  induction l with
  | nil => simp at h
  | cons x l ih =>
    obtain ⟨a, b⟩ := x
    rw [List.lookup_cons] at h
    split at h
    · rename_i h1
      have h2 : pc = a := by simpa using h1
      cases h
      subst h2
      exact List.mem_cons_self
    · exact List.mem_cons_of_mem _ (ih h)
theorem mj_dec0 {i pc len a b : Nat} {ins : Instr} (h : mj_at i pc = some (ins, len, a, b)) : decode (mj_b i) pc = .ok (ins, len) := mj_dA i (mj_at_lt h) (pc, ins, len, a, b) (mj_lookup_mem h)
theorem mj_chk0 {i pc len a b : Nat} {ins : Instr} (h : mj_at i pc = some (ins, len, a, b)) : mj_chk i (pc, ins, len, a, b) = true := mj_kA i (mj_at_lt h) (pc, ins, len, a, b) (mj_lookup_mem h)
theorem mj_len0 {i pc len a b : Nat} {ins : Instr} (h : mj_at i pc = some (ins, len, a, b)) : mj_lnok ins len = true := List.all_eq_true.mp (mj_lnA i (mj_at_lt h)) (pc, ins, len, a, b) (mj_lookup_mem h)
theorem mj_step_mono {i : Nat} {q : Instr × Nat × Nat × Nat} {pc : Nat} {ls st : List Value} {h : mj_H} {s' : mj_S} (hs : mj_step i q pc ls st h = some (.inl s')) : h.2.1 ≤ s'.2.2.2.2.1 ∧ h.2.2 ≤ s'.2.2.2.2.2 := by
  obtain ⟨ins, len, a, b⟩ := q
  unfold mj_step mj_jmp mj_call mj_nx at hs
  dsimp only at hs
  repeat' split at hs
  all_goals first
    | (cases hs; done)
    | (cases hs; simp [mj_up, mj_new]; done)
theorem mj_exec_mono : ∀ (n i : Nat) (s : mj_S) (v : Option Value) (hf : mj_H), mj_exec n i s = some (v, hf) → s.2.2.2.2.1 ≤ hf.2.1 ∧ s.2.2.2.2.2 ≤ hf.2.2 := by
  intro n
  induction n with
  | zero => intro i s v hf h; cases h
  | succ n ih =>
    intro i s v hf h
    obtain ⟨pc, ls, st, hh⟩ := s
    rw [mj_exec] at h
    split at h
    · cases h
    · split at h
      · cases h
      · rename_i s1 hs
        have h1 := mj_step_mono hs
        have h2 := ih i s1 v hf h
        exact ⟨Nat.le_trans h1.1 h2.1, Nat.le_trans h1.2 h2.2⟩
      · cases h
        exact ⟨Nat.le_refl _, Nat.le_refl _⟩
      · split at h
        · cases h
        · rename_i v1 h1 he
          have a1 := ih _ _ _ _ he
          have a2 := ih _ _ _ _ h
          exact ⟨Nat.le_trans a1.1 a2.1, Nat.le_trans a1.2 a2.2⟩
end
section
/-! WHAT THE PURE STORE STANDS FOR: G = (classes, rows' classes, the script's cell, the cell below the first own one) -/
abbrev mj_G : Type := va_G × (ClassId × ClassId × ClassId) × Nat × Nat
def mj_ad (G : mj_G) (k : Nat) : Nat := if k = 0 then G.2.2.1 else G.2.2.2 + k
def mj_cv (G : mj_G) (v : Value) : Value := match v with
  | .ref k => .ref (mj_ad G k)
  | v => v
abbrev mj_tys (G : mj_G) : List (ClassId × FieldType) := [(G.2.1.1, .int), (G.2.1.2.1, .boolean), (G.2.1.2.2, .object "DumplingBand$March")]
def mj_Kn (G : mj_G) (U : State) : Prop := va_K G.1 mj_cl (mj_tys G) U ∧ va_AO "DumplingBand$March" U ∧ ∀ q ∈ mj_nest, va_Nw (.methodLinkNest q.1 q.2.1 q.2.2.1 q.2.2.2) U
def mj_cell (G : mj_G) (U : State) (H : Heap) (k : Nat) (e : mj_E) : Prop := match e with
  | .inl (t, l) => (t = 0 ∧ 0 < k ∧ H[mj_ad G k]? = some (arrV G.2.1.1 l.length (fun j => .int (l.getD j 0)))) ∨ (t = 1 ∧ 0 < k ∧ H[mj_ad G k]? = some (arrV G.2.1.2.1 l.length (fun j => .int (l.getD j 0)))) ∨ (t = 3 ∧ k = 0 ∧ va_X G.2.2.1 l.length (fun j => l.getD j 0) U H)
  | .inr (t, vs) => 0 < k ∧ ((t = 99 ∧ H[mj_ad G k]? = some (arrV G.2.1.2.2 vs.length (fun j => mj_cv G (vs.getD j .null)))) ∨ (t ≠ 99 ∧ ∃ (C : String) (T : u_T) (N : Nat), mj_cl[t]? = some (C, T, N) ∧ vs.length = N ∧ t_OB (mj_ad G k) (G.1.1 t) N (G.1.2 t) H (vp_V (vs.map (mj_cv G)))))
def mj_Rep (G : mj_G) (U : State) (h : mj_H) (H : Heap) : Prop := H.size = G.2.2.2 + h.2.1 ∧ G.2.2.1 ≤ G.2.2.2 ∧ 0 < h.2.1 ∧ ∀ (k : Nat) (e : mj_E), h.1 k = some e → k < h.2.1 ∧ mj_cell G U H k e
theorem mj_ad_inj {G : mj_G} (h : G.2.2.1 ≤ G.2.2.2) {a k : Nat} (ha : 0 < a) (hk : k ≠ a) : mj_ad G k ≠ mj_ad G a := by
  unfold mj_ad
  by_cases h0 : k = 0
  · rw [if_pos h0, if_neg (by omega)]; omega
  · rw [if_neg h0, if_neg (by omega)]; omega
theorem mj_ad_pos {G : mj_G} {a : Nat} (ha : 0 < a) : mj_ad G a = G.2.2.2 + a := if_neg (by omega)
theorem mj_cell.kept {G : mj_G} {U : State} {H H' : Heap} {k : Nat} {e : mj_E} (h : mj_cell G U H k e) (hq : H'[mj_ad G k]? = H[mj_ad G k]?) : mj_cell G U H' k e := by
  obtain ⟨t, l⟩ | ⟨t, vs⟩ := e
  · rcases h with ⟨h1, h2, h3⟩ | ⟨h1, h2, h3⟩ | ⟨h1, h2, h3⟩
    · exact Or.inl ⟨h1, h2, hq.trans h3⟩
    · exact Or.inr (Or.inl ⟨h1, h2, hq.trans h3⟩)
    · subst h2
      exact Or.inr (Or.inr ⟨h1, rfl, h3.kept hq⟩)
  · obtain ⟨h0, h⟩ := h
    rcases h with ⟨h1, h2⟩ | ⟨h1, C, T, N, h2, h3, h4⟩
    · exact ⟨h0, Or.inl ⟨h1, hq.trans h2⟩⟩
    · exact ⟨h0, Or.inr ⟨h1, C, T, N, h2, h3, h4.kept hq⟩⟩
theorem mj_cell.moved {G : mj_G} {u U : State} {H : Heap} {k : Nat} {e : mj_E} (hvm : u.vm.Alike U.vm) (h : mj_cell G u H k e) : mj_cell G U H k e := by
  obtain ⟨t, l⟩ | ⟨t, vs⟩ := e
  · rcases h with h | h | ⟨h1, h2, h3⟩
    · exact Or.inl h
    · exact Or.inr (Or.inl h)
    · exact Or.inr (Or.inr ⟨h1, h2, h3.moved hvm⟩)
  · exact h
theorem mj_Rep.moved {G : mj_G} {u U : State} {h : mj_H} {H : Heap} (hvm : u.vm.Alike U.vm) (R : mj_Rep G u h H) : mj_Rep G U h H := ⟨R.1, R.2.1, R.2.2.1, fun k e hk => ⟨(R.2.2.2 k e hk).1, (R.2.2.2 k e hk).2.moved hvm⟩⟩
theorem mj_Rep.up {G : mj_G} {U : State} {h : mj_H} {H H' : Heap} {a : Nat} {e e0 : mj_E} (R : mj_Rep G U h H) (h0 : h.1 a = some e0) (ha : 0 < a) (hz : H'.size = H.size) (ho : ∀ q, q ≠ mj_ad G a → H'[q]? = H[q]?) (he : mj_cell G U H' a e) : mj_Rep G U (mj_up h a e) H' := by
  obtain ⟨r1, r2, r3, r4⟩ := R
  refine ⟨hz.trans r1, r2, r3, fun k e' hk => ?_⟩
  by_cases hka : k = a
  · subst hka
    have : e = e' := by simpa [mj_up] using hk
    subst this
    exact ⟨(r4 k e0 h0).1, he⟩
  · have hk' : h.1 k = some e' := by simpa [mj_up, hka] using hk
    exact ⟨(r4 k e' hk').1, (r4 k e' hk').2.kept (ho _ (mj_ad_inj r2 ha hka))⟩
theorem mj_Rep.new {G : mj_G} {U : State} {h : mj_H} {H H' : Heap} {e : mj_E} (R : mj_Rep G U h H) (hz : H'.size = H.size + 1) (ho : ∀ q, q < H.size → H'[q]? = H[q]?) (he : mj_cell G U H' h.2.1 e) : mj_Rep G U (mj_new h e) H' := by
  obtain ⟨r1, r2, r3, r4⟩ := R
  refine ⟨by show H'.size = G.2.2.2 + (h.2.1 + 1); omega, r2, by show 0 < h.2.1 + 1; omega, fun k e' hk => ?_⟩
  show k < h.2.1 + 1 ∧ _
  by_cases hka : k = h.2.1
  · subst hka
    have : e = e' := by simpa [mj_new] using hk
    subst this
    exact ⟨by omega, he⟩
  · have hk' : h.1 k = some e' := by simpa [mj_new, hka] using hk
    have h1 := (r4 k e' hk').1
    refine ⟨by omega, (r4 k e' hk').2.kept (ho _ ?_)⟩
    unfold mj_ad
    split <;> omega
theorem mj_Rep.adnew {G : mj_G} {U : State} {h : mj_H} {H : Heap} (R : mj_Rep G U h H) : mj_ad G h.2.1 = H.size := by
  rw [mj_ad_pos R.2.2.1, R.1]
theorem mj_Kn.moved {G : mj_G} {s U : State} (hW : s.WarmedH U.vm) (K : mj_Kn G s) : mj_Kn G U := ⟨va_K.moved hW.alike K.1, va_AO.moved hW.alike K.2.1, fun q hq => va_Nw.warmM hW (K.2.2 q hq)⟩
theorem mj_Kn.same {G : mj_G} {u U : State} (h : u.vm = U.vm) (K : mj_Kn G u) : mj_Kn G U := ⟨va_K.moved (by rw [h]; exact Vm.Alike.refl _) K.1, va_AO.moved (by rw [h]; exact Vm.Alike.refl _) K.2.1, fun q hq => va_Nw.same rfl h (K.2.2 q hq)⟩
/-! locals -/
def mj_kl (G : mj_G) (ls : List Value) : List (Nat × Value) := (List.range ls.length).filterMap (fun k => match (ls[k]? : Option Value) with
  | some Value.null => none
  | some v => some (k, mj_cv G v)
  | none => none)
theorem mj_kl_in {G : mj_G} {ls : List Value} {k : Nat} {v : Value} (h : ls[k]? = some v) (hn : v ≠ .null) : (k, mj_cv G v) ∈ mj_kl G ls := by
  refine List.mem_filterMap.mpr ⟨k, List.mem_range.mpr (List.getElem?_eq_some_iff.mp h).1, ?_⟩
  rw [h]
  cases v <;> first | rfl | exact absurd rfl hn
theorem mj_kl_of {G : mj_G} {ls : List Value} {q : Nat × Value} (h : q ∈ mj_kl G ls) : ∃ v, ls[q.1]? = some v ∧ v ≠ .null ∧ q.2 = mj_cv G v := by
  obtain ⟨k, -, hk⟩ := List.mem_filterMap.mp h
  split at hk
  · cases hk
  · rename_i v h1 h2
    cases hk
    exact ⟨v, h2, fun e => h1 e, rfl⟩
  · cases hk
def mj_L (G : mj_G) (i : Nat) (ls : List Value) (lsC : Array Slot) : Prop := ls.length = mj_m i ∧ lsC.size = mj_m i ∧ lv_wf lsC ∧ (∀ (k : Nat) (v : Value), ls[k]? = some v → v ≠ .null → lsC[k]? = some (.val (mj_cv G v))) ∧ (mj_t i = true → ∀ v ∈ ls, mj_noL v = true)
theorem mj_L.has {G : mj_G} {i : Nat} {ls : List Value} {lsC : Array Slot} (h : mj_L G i ls lsC) : lv_has lsC (mj_m i) (mj_kl G ls) := by
  obtain ⟨-, h2, h3, h4, -⟩ := h
  refine ⟨h2, h3, fun q hq => ?_⟩
  obtain ⟨v, a1, a2, a3⟩ := mj_kl_of hq
  rw [h4 q.1 v a1 a2, a3]
theorem mj_cv_cat (G : mj_G) (v : Value) : (mj_cv G v).category = v.category := by cases v <;> rfl
theorem mj_noL_cat {v : Value} (h : mj_noL v = true) : v.category = 1 := by simpa [mj_noL] using h
theorem mj_L.put {G : mj_G} {i k : Nat} {ls : List Value} {lsC lsC' : Array Slot} (h : mj_L G i ls lsC) (ht : mj_t i = true) {v : Value} (hv : mj_noL v = true) (h' : lv_has lsC' (mj_m i) ((k, mj_cv G v) :: (mj_kl G ls).filter (fun q => !(q.1 == k) && !(q.1 + 1 == k && q.2.category == 2)))) : mj_L G i (ls.set k v) lsC' := by
  obtain ⟨h1, h2, h3, h4, h5⟩ := h
  refine ⟨by rw [List.length_set]; exact h1, h'.1, h'.2.1, fun j w hj hw => ?_, fun _ w hw => ?_⟩
  · by_cases hjk : k = j
    · subst hjk
      have hl := (List.getElem?_eq_some_iff.mp hj).1
      rw [List.length_set] at hl
      rw [List.getElem?_set_self hl] at hj
      cases hj
      exact h'.2.2 (k, mj_cv G v) List.mem_cons_self
    · rw [List.getElem?_set_ne hjk] at hj
      refine h'.2.2 (j, mj_cv G w) (List.mem_cons_of_mem _ (List.mem_filter.mpr ⟨mj_kl_in hj hw, ?_⟩))
      have hc := mj_noL_cat (h5 ht w (List.mem_of_getElem? hj))
      simp [mj_cv_cat, hc, Ne.symm hjk]
  · rcases List.mem_or_eq_of_mem_set hw with hw | rfl
    · exact h5 ht w hw
    · exact hv
theorem mj_L.put2 {G : mj_G} {i k : Nat} {ls : List Value} {lsC lsC' : Array Slot} (h : mj_L G i ls lsC) (ht : mj_t i = false) {x : Int64} (hp : mj_prev ls k = true) (h' : lv_has lsC' (mj_m i) ((k, .long x) :: (mj_kl G ls).filter (fun q => !(q.1 == k) && (!(q.1 == k + 1) && !(q.1 + 1 == k && q.2.category == 2))))) : mj_L G i ((ls.set k (.long x)).set (k + 1) .null) lsC' := by
  obtain ⟨h1, h2, h3, h4, h5⟩ := h
  refine ⟨by rw [List.length_set, List.length_set]; exact h1, h'.1, h'.2.1, fun j w hj hw => ?_, fun z => by rw [ht] at z; cases z⟩
  by_cases hj1 : k + 1 = j
  · subst hj1
    have hl := (List.getElem?_eq_some_iff.mp hj).1
    rw [List.length_set] at hl
    rw [List.getElem?_set_self hl] at hj
    cases hj
    exact absurd rfl hw
  · rw [List.getElem?_set_ne hj1] at hj
    by_cases hjk : k = j
    · subst hjk
      have hl := (List.getElem?_eq_some_iff.mp hj).1
      rw [List.length_set] at hl
      rw [List.getElem?_set_self hl] at hj
      cases hj
      exact h'.2.2 (k, .long x) List.mem_cons_self
    · rw [List.getElem?_set_ne hjk] at hj
      refine h'.2.2 (j, mj_cv G w) (List.mem_cons_of_mem _ (List.mem_filter.mpr ⟨mj_kl_in hj hw, ?_⟩))
      have hz : ¬ (j + 1 = k ∧ w.category = 2) := by
        rintro ⟨e, e2⟩
        subst e
        simp only [mj_prev, hj] at hp
        have := mj_noL_cat hp
        omega
      simp only [Bool.and_eq_true, Bool.not_eq_true', beq_eq_false_iff_ne, ne_eq, Bool.and_eq_false_iff, mj_cv_cat]
      refine ⟨Ne.symm hjk, Ne.symm hj1, ?_⟩
      by_cases e : j + 1 = k
      · exact Or.inr (fun e2 => hz ⟨e, e2⟩)
      · exact Or.inl e
theorem mj_L.get {G : mj_G} {i k : Nat} {ls : List Value} {lsC : Array Slot} {v : Value} (h : mj_L G i ls lsC) (hk : ls[k]? = some v) (hn : v ≠ .null) : lsC[k]? = some (.val (mj_cv G v)) := h.2.2.2.1 k v hk hn
theorem mj_L.key {G : mj_G} {i k : Nat} {ls : List Value} {lsC : Array Slot} {v : Value} (h : mj_L G i ls lsC) (hk : ls[k]? = some v) (hn : v ≠ .null) : ∃ j : Nat, (mj_kl G ls)[j]? = some (k, mj_cv G v) := List.getElem?_of_mem (mj_kl_in hk hn)
/-! the words -/
def mj_Cx (p : Program) (s : State) (m : MethodId) (args : Array Value) (meth : Method) (c : Code) (i : Nat) (R : Room) : Prop :=
  p.tables.exec = Jvm.exec ∧ c.code = mj_b i ∧ c.maxLocals = mj_m i ∧ s.vm.findClass (mj_on (mj_w i)) = some m.cls ∧ (∀ w ∈ mj_W, w.before args s = true) ∧ meth.sig.returnType = mj_r i ∧ meth.locks = false ∧ ((mj_y i).name = "<init>" → meth.name = "<init>") ∧ mj_f i ≤ R.frames ∧ mj_o i ≤ R.locals
theorem mj_clf {a : Nat} {C : String} {T : u_T} {N : Nat} (h : mj_cl[a]? = some (C, T, N)) : C = mj_on a ∧ N = mj_nf a ∧ T = mj_tf a ∧ (∀ w ∈ u_ws C T N, w ∈ mj_W) ∧ (∀ k, k < N → parseFieldDescriptor (T k).2.2.1 = some (mj_ft a k)) ∧ (∀ a, a < N → ∀ b, b < N → a ≠ b → (T a).2.1 ≠ (T b).2.1) := by
  have key : ∀ (C : String) (T : u_T) (N : Nat) (f : Nat → Nat), (∀ j, j < N → mj_has (f j) (u_lay C T j) = true) → ∀ w ∈ u_ws C T N, w ∈ mj_W := by
    intro C T N f hf w hw
    obtain ⟨j, hj, rfl⟩ := List.mem_map.mp hw
    exact mj_has_in (hf j (List.mem_range.mp hj))
  match a, h with
  | 0, h => cases h; exact ⟨rfl, rfl, rfl, key _ _ _ _ mj_lay0, mj_fty0, mj_nm0⟩
  | 1, h => cases h; exact ⟨rfl, rfl, rfl, key _ _ _ _ mj_lay1, mj_fty1, mj_nm1⟩
  | 2, h => cases h; exact ⟨rfl, rfl, rfl, key _ _ _ _ mj_lay2, mj_fty2, mj_nm2⟩
  | 3, h => cases h; exact ⟨rfl, rfl, rfl, key _ _ _ _ mj_lay3, mj_fty3, mj_nm3⟩
  | 4, h => cases h; exact ⟨rfl, rfl, rfl, key _ _ _ _ mj_lay4, mj_fty4, mj_nm4⟩
  | 5, h => cases h; exact ⟨rfl, rfl, rfl, key _ _ _ _ mj_lay5, mj_fty5, mj_nm5⟩
  | 6, h => cases h; exact ⟨rfl, rfl, rfl, key _ _ _ _ mj_lay6, mj_fty6, mj_nm6⟩
  | 7, h => cases h; exact ⟨rfl, rfl, rfl, key _ _ _ _ mj_lay7, mj_fty7, mj_nm7⟩
  | a + 8, h => simp at h
theorem mj_cl_ex {a : Nat} (h : a < 8) : ∃ (C : String) (T : u_T) (N : Nat), mj_cl[a]? = some (C, T, N) := by
  match a, h with
  | 0, _ => exact ⟨_, _, _, rfl⟩
  | 1, _ => exact ⟨_, _, _, rfl⟩
  | 2, _ => exact ⟨_, _, _, rfl⟩
  | 3, _ => exact ⟨_, _, _, rfl⟩
  | 4, _ => exact ⟨_, _, _, rfl⟩
  | 5, _ => exact ⟨_, _, _, rfl⟩
  | 6, _ => exact ⟨_, _, _, rfl⟩
  | 7, _ => exact ⟨_, _, _, rfl⟩
theorem mj_any4 {l : List (Nat × Nat × Nat × Nat)} {o idx a : Nat} (h : l.any (fun w => w.1 == o && w.2.1 == idx && w.2.2.1 == a) = true) : ∃ p, (o, idx, a, p) ∈ l := by
  obtain ⟨⟨x, y, z, p⟩, hm, hq⟩ := List.any_eq_true.mp h
  simp only [Bool.and_eq_true, beq_iff_eq] at hq
  obtain ⟨⟨rfl, rfl⟩, rfl⟩ := hq
  exact ⟨p, hm⟩
theorem mj_fld {o idx a b : Nat} (h : mj_lkF.any (fun w => w.1 == o && w.2.1 == idx && w.2.2.1 == a && w.2.2.2.1 == b) = true) : Cond.fieldLink (mj_on o) idx (mj_tf a b).1 (mj_tf a b).2.1 (mj_tf a b).2.2.1 ∈ mj_W ∧ b < mj_nf a := by
  obtain ⟨⟨x, y, z, b', p⟩, hm, hq⟩ := List.any_eq_true.mp h
  simp only [Bool.and_eq_true, beq_iff_eq] at hq
  obtain ⟨⟨⟨rfl, rfl⟩, rfl⟩, rfl⟩ := hq
  have h1 := List.all_eq_true.mp mj_lkF_ok _ hm
  simp only [Bool.and_eq_true, decide_eq_true_eq] at h1
  exact ⟨mj_has_in h1.1, h1.2⟩
theorem mj_mth {o idx a : Nat} (h : mj_lkM.any (fun w => w.1 == o && w.2.1 == idx && w.2.2.1 == a) = true) : Cond.methodLink (mj_on o) idx (mj_y a) ∈ mj_W := by
  obtain ⟨p, hm⟩ := mj_any4 h
  exact mj_has_in (List.all_eq_true.mp mj_lkM_ok _ hm)
theorem mj_cls {o idx a : Nat} (h : mj_lkC.any (fun w => w.1 == o && w.2.1 == idx && w.2.2.1 == a) = true) : Cond.classLink (mj_on o) idx (mj_on a) ∈ mj_W := by
  obtain ⟨p, hm⟩ := mj_any4 h
  exact mj_has_in (List.all_eq_true.mp mj_lkC_ok _ hm)
theorem mj_lgk {o idx a : Nat} (h : mj_lkL.any (fun w => w.1 == o && w.2.1 == idx && w.2.2.1 == a) = true) : Cond.constantLong (mj_on o) idx (mj_lng a) ∈ mj_W := by
  obtain ⟨p, hm⟩ := mj_any4 h
  exact mj_has_in (List.all_eq_true.mp mj_lkL_ok _ hm)
theorem mj_ick {o idx a : Nat} (h : mj_lkI.any (fun w => w.1 == o && w.2.1 == idx && w.2.2.1 == a) = true) : Cond.constant (mj_on o) idx (Int32.ofNat a) ∈ mj_W := by
  obtain ⟨p, hm⟩ := mj_any4 h
  exact mj_has_in (List.all_eq_true.mp mj_lkI_ok _ hm)
theorem mj_xk {o idx a : Nat} (h : mj_lkX.any (fun w => w.1 == o && w.2.1 == idx && w.2.2.1 == a) = true) : Cond.methodLink (mj_on o) idx (if a = 998 then Lib.Math.max.name else Lib.Math.min.name) ∈ mj_W := by
  obtain ⟨p, hm⟩ := mj_any4 h
  exact mj_has_in (List.all_eq_true.mp mj_lkX_ok _ hm)
theorem mj_ok {o idx : Nat} (h : mj_lkO.any (fun w => w.1 == o && w.2.1 == idx) = true) : Cond.methodLink (mj_on o) idx Lib.objectInit ∈ mj_W := by
  obtain ⟨⟨x, y, p⟩, hm, hq⟩ := List.any_eq_true.mp h
  simp only [Bool.and_eq_true, beq_iff_eq] at hq
  obtain ⟨rfl, rfl⟩ := hq
  exact mj_has_in (List.all_eq_true.mp mj_lkO_ok _ hm)
theorem mj_nst {o idx a : Nat} (h : mj_lkN.any (fun w => w.1 == o && w.2.1 == idx && w.2.2 == a) = true) : (mj_on o, idx, mj_y a, "DumplingBand") ∈ mj_nest := by
  obtain ⟨⟨x, y, z⟩, hm, hq⟩ := List.any_eq_true.mp h
  simp only [Bool.and_eq_true, beq_iff_eq] at hq
  obtain ⟨⟨rfl, rfl⟩, rfl⟩ := hq
  exact List.mem_map.mpr ⟨_, hm, rfl⟩
theorem mj_ini {k : Nat} (h : k < 11) : Cond.initialized (mj_on k) ∈ mj_W := mj_has_in (List.all_eq_true.mp mj_ini_ok k (List.mem_range.mpr h))
theorem mj_ins {k : Nat} (h : k < 8) : Cond.instantiable (mj_on k) (mj_nf k) ∈ mj_W := mj_has_in (List.all_eq_true.mp mj_ins_ok k (List.mem_range.mpr h))
theorem mj_chMA {i : Nat} (h : i < 167) : mj_chM i = true := by
  rcases (show (i < 30) ∨ (30 ≤ i ∧ i < 60) ∨ (60 ≤ i ∧ i < 90) ∨ (90 ≤ i ∧ i < 120) ∨ (120 ≤ i ∧ i < 150) ∨ (150 ≤ i ∧ i < 167) by omega) with h | h | h | h | h | h
  · exact (show i = 0 + i by omega) ▸ mj_chM_0 i (by omega)
  · exact (show i = 30 + (i - 30) by omega) ▸ mj_chM_30 (i - 30) (by omega)
  · exact (show i = 60 + (i - 60) by omega) ▸ mj_chM_60 (i - 60) (by omega)
  · exact (show i = 90 + (i - 90) by omega) ▸ mj_chM_90 (i - 90) (by omega)
  · exact (show i = 120 + (i - 120) by omega) ▸ mj_chM_120 (i - 120) (by omega)
  · exact (show i = 150 + (i - 150) by omega) ▸ mj_chM_150 (i - 150) (by omega)
theorem mj_cdg0 : ∀ k, k < 10 → ∃ p : Nat, lw_tbl[p]? = some (.code (mj_y (0 + k)) (mj_b (0 + k)) (mj_m (0 + k)) (mj_r (0 + k))) := fun k hk => match k, hk with
  | 0, _ => ⟨_, mj_cd0⟩
  | 1, _ => ⟨_, mj_cd1⟩
  | 2, _ => ⟨_, mj_cd2⟩
  | 3, _ => ⟨_, mj_cd3⟩
  | 4, _ => ⟨_, mj_cd4⟩
  | 5, _ => ⟨_, mj_cd5⟩
  | 6, _ => ⟨_, mj_cd6⟩
  | 7, _ => ⟨_, mj_cd7⟩
  | 8, _ => ⟨_, mj_cd8⟩
  | 9, _ => ⟨_, mj_cd9⟩
  | k + 10, hk => absurd hk (by omega)
theorem mj_cdg10 : ∀ k, k < 10 → ∃ p : Nat, lw_tbl[p]? = some (.code (mj_y (10 + k)) (mj_b (10 + k)) (mj_m (10 + k)) (mj_r (10 + k))) := fun k hk => match k, hk with
  | 0, _ => ⟨_, mj_cd10⟩
  | 1, _ => ⟨_, mj_cd11⟩
  | 2, _ => ⟨_, mj_cd12⟩
  | 3, _ => ⟨_, mj_cd13⟩
  | 4, _ => ⟨_, mj_cd14⟩
  | 5, _ => ⟨_, mj_cd15⟩
  | 6, _ => ⟨_, mj_cd16⟩
  | 7, _ => ⟨_, mj_cd17⟩
  | 8, _ => ⟨_, mj_cd18⟩
  | 9, _ => ⟨_, mj_cd19⟩
  | k + 10, hk => absurd hk (by omega)
theorem mj_cdg20 : ∀ k, k < 10 → ∃ p : Nat, lw_tbl[p]? = some (.code (mj_y (20 + k)) (mj_b (20 + k)) (mj_m (20 + k)) (mj_r (20 + k))) := fun k hk => match k, hk with
  | 0, _ => ⟨_, mj_cd20⟩
  | 1, _ => ⟨_, mj_cd21⟩
  | 2, _ => ⟨_, mj_cd22⟩
  | 3, _ => ⟨_, mj_cd23⟩
  | 4, _ => ⟨_, mj_cd24⟩
  | 5, _ => ⟨_, mj_cd25⟩
  | 6, _ => ⟨_, mj_cd26⟩
  | 7, _ => ⟨_, mj_cd27⟩
  | 8, _ => ⟨_, mj_cd28⟩
  | 9, _ => ⟨_, mj_cd29⟩
  | k + 10, hk => absurd hk (by omega)
theorem mj_cdg30 : ∀ k, k < 10 → ∃ p : Nat, lw_tbl[p]? = some (.code (mj_y (30 + k)) (mj_b (30 + k)) (mj_m (30 + k)) (mj_r (30 + k))) := fun k hk => match k, hk with
  | 0, _ => ⟨_, mj_cd30⟩
  | 1, _ => ⟨_, mj_cd31⟩
  | 2, _ => ⟨_, mj_cd32⟩
  | 3, _ => ⟨_, mj_cd33⟩
  | 4, _ => ⟨_, mj_cd34⟩
  | 5, _ => ⟨_, mj_cd35⟩
  | 6, _ => ⟨_, mj_cd36⟩
  | 7, _ => ⟨_, mj_cd37⟩
  | 8, _ => ⟨_, mj_cd38⟩
  | 9, _ => ⟨_, mj_cd39⟩
  | k + 10, hk => absurd hk (by omega)
theorem mj_cdg40 : ∀ k, k < 10 → ∃ p : Nat, lw_tbl[p]? = some (.code (mj_y (40 + k)) (mj_b (40 + k)) (mj_m (40 + k)) (mj_r (40 + k))) := fun k hk => match k, hk with
  | 0, _ => ⟨_, mj_cd40⟩
  | 1, _ => ⟨_, mj_cd41⟩
  | 2, _ => ⟨_, mj_cd42⟩
  | 3, _ => ⟨_, mj_cd43⟩
  | 4, _ => ⟨_, mj_cd44⟩
  | 5, _ => ⟨_, mj_cd45⟩
  | 6, _ => ⟨_, mj_cd46⟩
  | 7, _ => ⟨_, mj_cd47⟩
  | 8, _ => ⟨_, mj_cd48⟩
  | 9, _ => ⟨_, mj_cd49⟩
  | k + 10, hk => absurd hk (by omega)
theorem mj_cdg50 : ∀ k, k < 10 → ∃ p : Nat, lw_tbl[p]? = some (.code (mj_y (50 + k)) (mj_b (50 + k)) (mj_m (50 + k)) (mj_r (50 + k))) := fun k hk => match k, hk with
  | 0, _ => ⟨_, mj_cd50⟩
  | 1, _ => ⟨_, mj_cd51⟩
  | 2, _ => ⟨_, mj_cd52⟩
  | 3, _ => ⟨_, mj_cd53⟩
  | 4, _ => ⟨_, mj_cd54⟩
  | 5, _ => ⟨_, mj_cd55⟩
  | 6, _ => ⟨_, mj_cd56⟩
  | 7, _ => ⟨_, mj_cd57⟩
  | 8, _ => ⟨_, mj_cd58⟩
  | 9, _ => ⟨_, mj_cd59⟩
  | k + 10, hk => absurd hk (by omega)
theorem mj_cdg60 : ∀ k, k < 10 → ∃ p : Nat, lw_tbl[p]? = some (.code (mj_y (60 + k)) (mj_b (60 + k)) (mj_m (60 + k)) (mj_r (60 + k))) := fun k hk => match k, hk with
  | 0, _ => ⟨_, mj_cd60⟩
  | 1, _ => ⟨_, mj_cd61⟩
  | 2, _ => ⟨_, mj_cd62⟩
  | 3, _ => ⟨_, mj_cd63⟩
  | 4, _ => ⟨_, mj_cd64⟩
  | 5, _ => ⟨_, mj_cd65⟩
  | 6, _ => ⟨_, mj_cd66⟩
  | 7, _ => ⟨_, mj_cd67⟩
  | 8, _ => ⟨_, mj_cd68⟩
  | 9, _ => ⟨_, mj_cd69⟩
  | k + 10, hk => absurd hk (by omega)
theorem mj_cdg70 : ∀ k, k < 10 → ∃ p : Nat, lw_tbl[p]? = some (.code (mj_y (70 + k)) (mj_b (70 + k)) (mj_m (70 + k)) (mj_r (70 + k))) := fun k hk => match k, hk with
  | 0, _ => ⟨_, mj_cd70⟩
  | 1, _ => ⟨_, mj_cd71⟩
  | 2, _ => ⟨_, mj_cd72⟩
  | 3, _ => ⟨_, mj_cd73⟩
  | 4, _ => ⟨_, mj_cd74⟩
  | 5, _ => ⟨_, mj_cd75⟩
  | 6, _ => ⟨_, mj_cd76⟩
  | 7, _ => ⟨_, mj_cd77⟩
  | 8, _ => ⟨_, mj_cd78⟩
  | 9, _ => ⟨_, mj_cd79⟩
  | k + 10, hk => absurd hk (by omega)
theorem mj_cdg80 : ∀ k, k < 10 → ∃ p : Nat, lw_tbl[p]? = some (.code (mj_y (80 + k)) (mj_b (80 + k)) (mj_m (80 + k)) (mj_r (80 + k))) := fun k hk => match k, hk with
  | 0, _ => ⟨_, mj_cd80⟩
  | 1, _ => ⟨_, mj_cd81⟩
  | 2, _ => ⟨_, mj_cd82⟩
  | 3, _ => ⟨_, mj_cd83⟩
  | 4, _ => ⟨_, mj_cd84⟩
  | 5, _ => ⟨_, mj_cd85⟩
  | 6, _ => ⟨_, mj_cd86⟩
  | 7, _ => ⟨_, mj_cd87⟩
  | 8, _ => ⟨_, mj_cd88⟩
  | 9, _ => ⟨_, mj_cd89⟩
  | k + 10, hk => absurd hk (by omega)
theorem mj_cdg90 : ∀ k, k < 10 → ∃ p : Nat, lw_tbl[p]? = some (.code (mj_y (90 + k)) (mj_b (90 + k)) (mj_m (90 + k)) (mj_r (90 + k))) := fun k hk => match k, hk with
  | 0, _ => ⟨_, mj_cd90⟩
  | 1, _ => ⟨_, mj_cd91⟩
  | 2, _ => ⟨_, mj_cd92⟩
  | 3, _ => ⟨_, mj_cd93⟩
  | 4, _ => ⟨_, mj_cd94⟩
  | 5, _ => ⟨_, mj_cd95⟩
  | 6, _ => ⟨_, mj_cd96⟩
  | 7, _ => ⟨_, mj_cd97⟩
  | 8, _ => ⟨_, mj_cd98⟩
  | 9, _ => ⟨_, mj_cd99⟩
  | k + 10, hk => absurd hk (by omega)
theorem mj_cdg100 : ∀ k, k < 10 → ∃ p : Nat, lw_tbl[p]? = some (.code (mj_y (100 + k)) (mj_b (100 + k)) (mj_m (100 + k)) (mj_r (100 + k))) := fun k hk => match k, hk with
  | 0, _ => ⟨_, mj_cd100⟩
  | 1, _ => ⟨_, mj_cd101⟩
  | 2, _ => ⟨_, mj_cd102⟩
  | 3, _ => ⟨_, mj_cd103⟩
  | 4, _ => ⟨_, mj_cd104⟩
  | 5, _ => ⟨_, mj_cd105⟩
  | 6, _ => ⟨_, mj_cd106⟩
  | 7, _ => ⟨_, mj_cd107⟩
  | 8, _ => ⟨_, mj_cd108⟩
  | 9, _ => ⟨_, mj_cd109⟩
  | k + 10, hk => absurd hk (by omega)
theorem mj_cdg110 : ∀ k, k < 10 → ∃ p : Nat, lw_tbl[p]? = some (.code (mj_y (110 + k)) (mj_b (110 + k)) (mj_m (110 + k)) (mj_r (110 + k))) := fun k hk => match k, hk with
  | 0, _ => ⟨_, mj_cd110⟩
  | 1, _ => ⟨_, mj_cd111⟩
  | 2, _ => ⟨_, mj_cd112⟩
  | 3, _ => ⟨_, mj_cd113⟩
  | 4, _ => ⟨_, mj_cd114⟩
  | 5, _ => ⟨_, mj_cd115⟩
  | 6, _ => ⟨_, mj_cd116⟩
  | 7, _ => ⟨_, mj_cd117⟩
  | 8, _ => ⟨_, mj_cd118⟩
  | 9, _ => ⟨_, mj_cd119⟩
  | k + 10, hk => absurd hk (by omega)
theorem mj_cdg120 : ∀ k, k < 10 → ∃ p : Nat, lw_tbl[p]? = some (.code (mj_y (120 + k)) (mj_b (120 + k)) (mj_m (120 + k)) (mj_r (120 + k))) := fun k hk => match k, hk with
  | 0, _ => ⟨_, mj_cd120⟩
  | 1, _ => ⟨_, mj_cd121⟩
  | 2, _ => ⟨_, mj_cd122⟩
  | 3, _ => ⟨_, mj_cd123⟩
  | 4, _ => ⟨_, mj_cd124⟩
  | 5, _ => ⟨_, mj_cd125⟩
  | 6, _ => ⟨_, mj_cd126⟩
  | 7, _ => ⟨_, mj_cd127⟩
  | 8, _ => ⟨_, mj_cd128⟩
  | 9, _ => ⟨_, mj_cd129⟩
  | k + 10, hk => absurd hk (by omega)
theorem mj_cdg130 : ∀ k, k < 10 → ∃ p : Nat, lw_tbl[p]? = some (.code (mj_y (130 + k)) (mj_b (130 + k)) (mj_m (130 + k)) (mj_r (130 + k))) := fun k hk => match k, hk with
  | 0, _ => ⟨_, mj_cd130⟩
  | 1, _ => ⟨_, mj_cd131⟩
  | 2, _ => ⟨_, mj_cd132⟩
  | 3, _ => ⟨_, mj_cd133⟩
  | 4, _ => ⟨_, mj_cd134⟩
  | 5, _ => ⟨_, mj_cd135⟩
  | 6, _ => ⟨_, mj_cd136⟩
  | 7, _ => ⟨_, mj_cd137⟩
  | 8, _ => ⟨_, mj_cd138⟩
  | 9, _ => ⟨_, mj_cd139⟩
  | k + 10, hk => absurd hk (by omega)
theorem mj_cdg140 : ∀ k, k < 10 → ∃ p : Nat, lw_tbl[p]? = some (.code (mj_y (140 + k)) (mj_b (140 + k)) (mj_m (140 + k)) (mj_r (140 + k))) := fun k hk => match k, hk with
  | 0, _ => ⟨_, mj_cd140⟩
  | 1, _ => ⟨_, mj_cd141⟩
  | 2, _ => ⟨_, mj_cd142⟩
  | 3, _ => ⟨_, mj_cd143⟩
  | 4, _ => ⟨_, mj_cd144⟩
  | 5, _ => ⟨_, mj_cd145⟩
  | 6, _ => ⟨_, mj_cd146⟩
  | 7, _ => ⟨_, mj_cd147⟩
  | 8, _ => ⟨_, mj_cd148⟩
  | 9, _ => ⟨_, mj_cd149⟩
  | k + 10, hk => absurd hk (by omega)
theorem mj_cdg150 : ∀ k, k < 10 → ∃ p : Nat, lw_tbl[p]? = some (.code (mj_y (150 + k)) (mj_b (150 + k)) (mj_m (150 + k)) (mj_r (150 + k))) := fun k hk => match k, hk with
  | 0, _ => ⟨_, mj_cd150⟩
  | 1, _ => ⟨_, mj_cd151⟩
  | 2, _ => ⟨_, mj_cd152⟩
  | 3, _ => ⟨_, mj_cd153⟩
  | 4, _ => ⟨_, mj_cd154⟩
  | 5, _ => ⟨_, mj_cd155⟩
  | 6, _ => ⟨_, mj_cd156⟩
  | 7, _ => ⟨_, mj_cd157⟩
  | 8, _ => ⟨_, mj_cd158⟩
  | 9, _ => ⟨_, mj_cd159⟩
  | k + 10, hk => absurd hk (by omega)
theorem mj_cdg160 : ∀ k, k < 7 → ∃ p : Nat, lw_tbl[p]? = some (.code (mj_y (160 + k)) (mj_b (160 + k)) (mj_m (160 + k)) (mj_r (160 + k))) := fun k hk => match k, hk with
  | 0, _ => ⟨_, mj_cd160⟩
  | 1, _ => ⟨_, mj_cd161⟩
  | 2, _ => ⟨_, mj_cd162⟩
  | 3, _ => ⟨_, mj_cd163⟩
  | 4, _ => ⟨_, mj_cd164⟩
  | 5, _ => ⟨_, mj_cd165⟩
  | 6, _ => ⟨_, mj_cd166⟩
  | k + 7, hk => absurd hk (by omega)
theorem mj_cdA (i : Nat) (hi : i < 167) : Cond.code (mj_y i) (mj_b i) (mj_m i) (mj_r i) ∈ mj_W := by
  have key : (∃ p : Nat, lw_tbl[p]? = some (.code (mj_y i) (mj_b i) (mj_m i) (mj_r i))) → Cond.code (mj_y i) (mj_b i) (mj_m i) (mj_r i) ∈ mj_W := fun ⟨p, hp⟩ => List.mem_filter.mpr ⟨List.mem_of_getElem? hp, rfl⟩
  rcases (show (0 ≤ i ∧ i < 10) ∨ (10 ≤ i ∧ i < 20) ∨ (20 ≤ i ∧ i < 30) ∨ (30 ≤ i ∧ i < 40) ∨ (40 ≤ i ∧ i < 50) ∨ (50 ≤ i ∧ i < 60) ∨ (60 ≤ i ∧ i < 70) ∨ (70 ≤ i ∧ i < 80) ∨ (80 ≤ i ∧ i < 90) ∨ (90 ≤ i ∧ i < 100) ∨ (100 ≤ i ∧ i < 110) ∨ (110 ≤ i ∧ i < 120) ∨ (120 ≤ i ∧ i < 130) ∨ (130 ≤ i ∧ i < 140) ∨ (140 ≤ i ∧ i < 150) ∨ (150 ≤ i ∧ i < 160) ∨ (160 ≤ i ∧ i < 167) by omega) with h | h | h | h | h | h | h | h | h | h | h | h | h | h | h | h | h
  · exact key ((show i = 0 + (i - 0) by omega) ▸ mj_cdg0 (i - 0) (by omega))
  · exact key ((show i = 10 + (i - 10) by omega) ▸ mj_cdg10 (i - 10) (by omega))
  · exact key ((show i = 20 + (i - 20) by omega) ▸ mj_cdg20 (i - 20) (by omega))
  · exact key ((show i = 30 + (i - 30) by omega) ▸ mj_cdg30 (i - 30) (by omega))
  · exact key ((show i = 40 + (i - 40) by omega) ▸ mj_cdg40 (i - 40) (by omega))
  · exact key ((show i = 50 + (i - 50) by omega) ▸ mj_cdg50 (i - 50) (by omega))
  · exact key ((show i = 60 + (i - 60) by omega) ▸ mj_cdg60 (i - 60) (by omega))
  · exact key ((show i = 70 + (i - 70) by omega) ▸ mj_cdg70 (i - 70) (by omega))
  · exact key ((show i = 80 + (i - 80) by omega) ▸ mj_cdg80 (i - 80) (by omega))
  · exact key ((show i = 90 + (i - 90) by omega) ▸ mj_cdg90 (i - 90) (by omega))
  · exact key ((show i = 100 + (i - 100) by omega) ▸ mj_cdg100 (i - 100) (by omega))
  · exact key ((show i = 110 + (i - 110) by omega) ▸ mj_cdg110 (i - 110) (by omega))
  · exact key ((show i = 120 + (i - 120) by omega) ▸ mj_cdg120 (i - 120) (by omega))
  · exact key ((show i = 130 + (i - 130) by omega) ▸ mj_cdg130 (i - 130) (by omega))
  · exact key ((show i = 140 + (i - 140) by omega) ▸ mj_cdg140 (i - 140) (by omega))
  · exact key ((show i = 150 + (i - 150) by omega) ▸ mj_cdg150 (i - 150) (by omega))
  · exact key ((show i = 160 + (i - 160) by omega) ▸ mj_cdg160 (i - 160) (by omega))
end
section
/-! A STEP OF THE PURE MACHINE IS A STEP OF THE MACHINE -/
section MJS
variable {p : Program} {l : Launch} {e : Env} {R : Room} {s : State} {m : MethodId} {args : Array Value} {below : List Frame} {meth : Method} {c : Code} {H : Heap} {locs : List Loc} {cells slots : Nat} {Q : State → Prop}
variable {G : mj_G} {i pc len a b : Nat} {ls st : List Value} {h : mj_H} {lsC : Array Slot} {s' : mj_S}
theorem mj_w0 {x y : Nat} {g : JFrame} (k : W p l e R s m args below meth c H locs (cells + (x - x)) (slots + (y - y)) Q g) : W p l e R s m args below meth c H locs cells slots Q g := by
  rw [Nat.sub_self, Nat.sub_self] at k
  exact k
theorem mj_w1 {x y z : Nat} {g : JFrame} (k : W p l e R s m args below meth c H locs (cells + (x + 1 - x)) (slots + (y + z - y)) Q g) : W p l e R s m args below meth c H locs (cells + 1) (slots + z) Q g := by
  rw [Nat.add_sub_cancel_left, Nat.add_sub_cancel_left] at k
  exact k
theorem mj_cat {G : mj_G} {v : Value} (h : mj_noL v = true) : (mj_cv G v).category = 1 := (mj_cv_cat G v).trans (mj_noL_cat h)
theorem mj_nul : ∀ {P : Prop}, (Value.int 0 = Value.null → P) := fun h => by cases h
set_option maxHeartbeats 4000000 in
theorem mj_s_iadd (C : mj_Cx p s m args meth c i R) (K : mj_Kn G s) (hat : mj_at i pc = some (.iadd, len, a, b)) (hs : mj_step i (.iadd, len, a, b) pc ls st h = some (.inl s')) (hL : mj_L G i ls lsC) (hR : mj_Rep G s h H) (hlo : ∀ q ∈ locs, G.2.2.2 < q.base)
  (hc : cells + (s'.2.2.2.2.1 - h.2.1) ≤ R.cells) (hsl : slots + (s'.2.2.2.2.2 - h.2.2) ≤ R.slots)
  (kk : ∀ (lsC' : Array Slot) (H' : Heap) (locs' : List Loc), mj_L G i s'.2.1 lsC' → mj_Rep G s s'.2.2.2 H' → (∀ q ∈ locs', G.2.2.2 < q.base) → W p l e R s m args below meth c H' locs' (cells + (s'.2.2.2.2.1 - h.2.1)) (slots + (s'.2.2.2.2.2 - h.2.2)) Q (F0 m s'.1 lsC' (s'.2.2.1.map (mj_cv G)))) : W p l e R s m args below meth c H locs cells slots Q (F0 m pc lsC (st.map (mj_cv G))) := by
  obtain ⟨hx, hb, hml, hown, hts, hret, hlk, hnm, hfr, hlr⟩ := C
  have hdg0 := mj_dec0 hat
  have hln := mj_len0 hat
  have hck := mj_chk0 hat
  simp only [mj_lnok, mj_ln, beq_iff_eq] at hln
  subst hln
  have hdg := hdg0
  clear hdg0
  simp only [mj_step, mj_nx] at hs
  split at hs
  · rename_i y x st1
    cases hs
    refine lv_iadd hx hb hdg ?_
    exact mj_w0 (x := h.2.1) (y := h.2.2) (kk lsC H locs hL hR hlo)
  · cases hs
set_option maxHeartbeats 4000000 in
theorem mj_s_isub (C : mj_Cx p s m args meth c i R) (K : mj_Kn G s) (hat : mj_at i pc = some (.isub, len, a, b)) (hs : mj_step i (.isub, len, a, b) pc ls st h = some (.inl s')) (hL : mj_L G i ls lsC) (hR : mj_Rep G s h H) (hlo : ∀ q ∈ locs, G.2.2.2 < q.base)
  (hc : cells + (s'.2.2.2.2.1 - h.2.1) ≤ R.cells) (hsl : slots + (s'.2.2.2.2.2 - h.2.2) ≤ R.slots)
  (kk : ∀ (lsC' : Array Slot) (H' : Heap) (locs' : List Loc), mj_L G i s'.2.1 lsC' → mj_Rep G s s'.2.2.2 H' → (∀ q ∈ locs', G.2.2.2 < q.base) → W p l e R s m args below meth c H' locs' (cells + (s'.2.2.2.2.1 - h.2.1)) (slots + (s'.2.2.2.2.2 - h.2.2)) Q (F0 m s'.1 lsC' (s'.2.2.1.map (mj_cv G)))) : W p l e R s m args below meth c H locs cells slots Q (F0 m pc lsC (st.map (mj_cv G))) := by
  obtain ⟨hx, hb, hml, hown, hts, hret, hlk, hnm, hfr, hlr⟩ := C
  have hdg0 := mj_dec0 hat
  have hln := mj_len0 hat
  have hck := mj_chk0 hat
  simp only [mj_lnok, mj_ln, beq_iff_eq] at hln
  subst hln
  have hdg := hdg0
  clear hdg0
  simp only [mj_step, mj_nx] at hs
  split at hs
  · rename_i y x st1
    cases hs
    refine lv_isub hx hb hdg ?_
    exact mj_w0 (x := h.2.1) (y := h.2.2) (kk lsC H locs hL hR hlo)
  · cases hs
set_option maxHeartbeats 4000000 in
theorem mj_s_imul (C : mj_Cx p s m args meth c i R) (K : mj_Kn G s) (hat : mj_at i pc = some (.imul, len, a, b)) (hs : mj_step i (.imul, len, a, b) pc ls st h = some (.inl s')) (hL : mj_L G i ls lsC) (hR : mj_Rep G s h H) (hlo : ∀ q ∈ locs, G.2.2.2 < q.base)
  (hc : cells + (s'.2.2.2.2.1 - h.2.1) ≤ R.cells) (hsl : slots + (s'.2.2.2.2.2 - h.2.2) ≤ R.slots)
  (kk : ∀ (lsC' : Array Slot) (H' : Heap) (locs' : List Loc), mj_L G i s'.2.1 lsC' → mj_Rep G s s'.2.2.2 H' → (∀ q ∈ locs', G.2.2.2 < q.base) → W p l e R s m args below meth c H' locs' (cells + (s'.2.2.2.2.1 - h.2.1)) (slots + (s'.2.2.2.2.2 - h.2.2)) Q (F0 m s'.1 lsC' (s'.2.2.1.map (mj_cv G)))) : W p l e R s m args below meth c H locs cells slots Q (F0 m pc lsC (st.map (mj_cv G))) := by
  obtain ⟨hx, hb, hml, hown, hts, hret, hlk, hnm, hfr, hlr⟩ := C
  have hdg0 := mj_dec0 hat
  have hln := mj_len0 hat
  have hck := mj_chk0 hat
  simp only [mj_lnok, mj_ln, beq_iff_eq] at hln
  subst hln
  have hdg := hdg0
  clear hdg0
  simp only [mj_step, mj_nx] at hs
  split at hs
  · rename_i y x st1
    cases hs
    refine lv_imul hx hb hdg ?_
    exact mj_w0 (x := h.2.1) (y := h.2.2) (kk lsC H locs hL hR hlo)
  · cases hs
set_option maxHeartbeats 4000000 in
theorem mj_s_iand (C : mj_Cx p s m args meth c i R) (K : mj_Kn G s) (hat : mj_at i pc = some (.iand, len, a, b)) (hs : mj_step i (.iand, len, a, b) pc ls st h = some (.inl s')) (hL : mj_L G i ls lsC) (hR : mj_Rep G s h H) (hlo : ∀ q ∈ locs, G.2.2.2 < q.base)
  (hc : cells + (s'.2.2.2.2.1 - h.2.1) ≤ R.cells) (hsl : slots + (s'.2.2.2.2.2 - h.2.2) ≤ R.slots)
  (kk : ∀ (lsC' : Array Slot) (H' : Heap) (locs' : List Loc), mj_L G i s'.2.1 lsC' → mj_Rep G s s'.2.2.2 H' → (∀ q ∈ locs', G.2.2.2 < q.base) → W p l e R s m args below meth c H' locs' (cells + (s'.2.2.2.2.1 - h.2.1)) (slots + (s'.2.2.2.2.2 - h.2.2)) Q (F0 m s'.1 lsC' (s'.2.2.1.map (mj_cv G)))) : W p l e R s m args below meth c H locs cells slots Q (F0 m pc lsC (st.map (mj_cv G))) := by
  obtain ⟨hx, hb, hml, hown, hts, hret, hlk, hnm, hfr, hlr⟩ := C
  have hdg0 := mj_dec0 hat
  have hln := mj_len0 hat
  have hck := mj_chk0 hat
  simp only [mj_lnok, mj_ln, beq_iff_eq] at hln
  subst hln
  have hdg := hdg0
  clear hdg0
  simp only [mj_step, mj_nx] at hs
  split at hs
  · rename_i y x st1
    cases hs
    refine lv_iand hx hb hdg ?_
    exact mj_w0 (x := h.2.1) (y := h.2.2) (kk lsC H locs hL hR hlo)
  · cases hs
set_option maxHeartbeats 4000000 in
theorem mj_s_ior (C : mj_Cx p s m args meth c i R) (K : mj_Kn G s) (hat : mj_at i pc = some (.ior, len, a, b)) (hs : mj_step i (.ior, len, a, b) pc ls st h = some (.inl s')) (hL : mj_L G i ls lsC) (hR : mj_Rep G s h H) (hlo : ∀ q ∈ locs, G.2.2.2 < q.base)
  (hc : cells + (s'.2.2.2.2.1 - h.2.1) ≤ R.cells) (hsl : slots + (s'.2.2.2.2.2 - h.2.2) ≤ R.slots)
  (kk : ∀ (lsC' : Array Slot) (H' : Heap) (locs' : List Loc), mj_L G i s'.2.1 lsC' → mj_Rep G s s'.2.2.2 H' → (∀ q ∈ locs', G.2.2.2 < q.base) → W p l e R s m args below meth c H' locs' (cells + (s'.2.2.2.2.1 - h.2.1)) (slots + (s'.2.2.2.2.2 - h.2.2)) Q (F0 m s'.1 lsC' (s'.2.2.1.map (mj_cv G)))) : W p l e R s m args below meth c H locs cells slots Q (F0 m pc lsC (st.map (mj_cv G))) := by
  obtain ⟨hx, hb, hml, hown, hts, hret, hlk, hnm, hfr, hlr⟩ := C
  have hdg0 := mj_dec0 hat
  have hln := mj_len0 hat
  have hck := mj_chk0 hat
  simp only [mj_lnok, mj_ln, beq_iff_eq] at hln
  subst hln
  have hdg := hdg0
  clear hdg0
  simp only [mj_step, mj_nx] at hs
  split at hs
  · rename_i y x st1
    cases hs
    refine lv_ior hx hb hdg ?_
    exact mj_w0 (x := h.2.1) (y := h.2.2) (kk lsC H locs hL hR hlo)
  · cases hs
set_option maxHeartbeats 4000000 in
theorem mj_s_ixor (C : mj_Cx p s m args meth c i R) (K : mj_Kn G s) (hat : mj_at i pc = some (.ixor, len, a, b)) (hs : mj_step i (.ixor, len, a, b) pc ls st h = some (.inl s')) (hL : mj_L G i ls lsC) (hR : mj_Rep G s h H) (hlo : ∀ q ∈ locs, G.2.2.2 < q.base)
  (hc : cells + (s'.2.2.2.2.1 - h.2.1) ≤ R.cells) (hsl : slots + (s'.2.2.2.2.2 - h.2.2) ≤ R.slots)
  (kk : ∀ (lsC' : Array Slot) (H' : Heap) (locs' : List Loc), mj_L G i s'.2.1 lsC' → mj_Rep G s s'.2.2.2 H' → (∀ q ∈ locs', G.2.2.2 < q.base) → W p l e R s m args below meth c H' locs' (cells + (s'.2.2.2.2.1 - h.2.1)) (slots + (s'.2.2.2.2.2 - h.2.2)) Q (F0 m s'.1 lsC' (s'.2.2.1.map (mj_cv G)))) : W p l e R s m args below meth c H locs cells slots Q (F0 m pc lsC (st.map (mj_cv G))) := by
  obtain ⟨hx, hb, hml, hown, hts, hret, hlk, hnm, hfr, hlr⟩ := C
  have hdg0 := mj_dec0 hat
  have hln := mj_len0 hat
  have hck := mj_chk0 hat
  simp only [mj_lnok, mj_ln, beq_iff_eq] at hln
  subst hln
  have hdg := hdg0
  clear hdg0
  simp only [mj_step, mj_nx] at hs
  split at hs
  · rename_i y x st1
    cases hs
    refine lv_ixor hx hb hdg ?_
    exact mj_w0 (x := h.2.1) (y := h.2.2) (kk lsC H locs hL hR hlo)
  · cases hs
set_option maxHeartbeats 4000000 in
theorem mj_s_ishl (C : mj_Cx p s m args meth c i R) (K : mj_Kn G s) (hat : mj_at i pc = some (.ishl, len, a, b)) (hs : mj_step i (.ishl, len, a, b) pc ls st h = some (.inl s')) (hL : mj_L G i ls lsC) (hR : mj_Rep G s h H) (hlo : ∀ q ∈ locs, G.2.2.2 < q.base)
  (hc : cells + (s'.2.2.2.2.1 - h.2.1) ≤ R.cells) (hsl : slots + (s'.2.2.2.2.2 - h.2.2) ≤ R.slots)
  (kk : ∀ (lsC' : Array Slot) (H' : Heap) (locs' : List Loc), mj_L G i s'.2.1 lsC' → mj_Rep G s s'.2.2.2 H' → (∀ q ∈ locs', G.2.2.2 < q.base) → W p l e R s m args below meth c H' locs' (cells + (s'.2.2.2.2.1 - h.2.1)) (slots + (s'.2.2.2.2.2 - h.2.2)) Q (F0 m s'.1 lsC' (s'.2.2.1.map (mj_cv G)))) : W p l e R s m args below meth c H locs cells slots Q (F0 m pc lsC (st.map (mj_cv G))) := by
  obtain ⟨hx, hb, hml, hown, hts, hret, hlk, hnm, hfr, hlr⟩ := C
  have hdg0 := mj_dec0 hat
  have hln := mj_len0 hat
  have hck := mj_chk0 hat
  simp only [mj_lnok, mj_ln, beq_iff_eq] at hln
  subst hln
  have hdg := hdg0
  clear hdg0
  simp only [mj_step, mj_nx] at hs
  split at hs
  · rename_i y x st1
    cases hs
    refine lv_ishl hx hb hdg ?_
    exact mj_w0 (x := h.2.1) (y := h.2.2) (kk lsC H locs hL hR hlo)
  · cases hs
set_option maxHeartbeats 4000000 in
theorem mj_s_ishr (C : mj_Cx p s m args meth c i R) (K : mj_Kn G s) (hat : mj_at i pc = some (.ishr, len, a, b)) (hs : mj_step i (.ishr, len, a, b) pc ls st h = some (.inl s')) (hL : mj_L G i ls lsC) (hR : mj_Rep G s h H) (hlo : ∀ q ∈ locs, G.2.2.2 < q.base)
  (hc : cells + (s'.2.2.2.2.1 - h.2.1) ≤ R.cells) (hsl : slots + (s'.2.2.2.2.2 - h.2.2) ≤ R.slots)
  (kk : ∀ (lsC' : Array Slot) (H' : Heap) (locs' : List Loc), mj_L G i s'.2.1 lsC' → mj_Rep G s s'.2.2.2 H' → (∀ q ∈ locs', G.2.2.2 < q.base) → W p l e R s m args below meth c H' locs' (cells + (s'.2.2.2.2.1 - h.2.1)) (slots + (s'.2.2.2.2.2 - h.2.2)) Q (F0 m s'.1 lsC' (s'.2.2.1.map (mj_cv G)))) : W p l e R s m args below meth c H locs cells slots Q (F0 m pc lsC (st.map (mj_cv G))) := by
  obtain ⟨hx, hb, hml, hown, hts, hret, hlk, hnm, hfr, hlr⟩ := C
  have hdg0 := mj_dec0 hat
  have hln := mj_len0 hat
  have hck := mj_chk0 hat
  simp only [mj_lnok, mj_ln, beq_iff_eq] at hln
  subst hln
  have hdg := hdg0
  clear hdg0
  simp only [mj_step, mj_nx] at hs
  split at hs
  · rename_i y x st1
    cases hs
    refine lv_ishr hx hb hdg ?_
    exact mj_w0 (x := h.2.1) (y := h.2.2) (kk lsC H locs hL hR hlo)
  · cases hs
set_option maxHeartbeats 4000000 in
theorem mj_s_ladd (C : mj_Cx p s m args meth c i R) (K : mj_Kn G s) (hat : mj_at i pc = some (.ladd, len, a, b)) (hs : mj_step i (.ladd, len, a, b) pc ls st h = some (.inl s')) (hL : mj_L G i ls lsC) (hR : mj_Rep G s h H) (hlo : ∀ q ∈ locs, G.2.2.2 < q.base)
  (hc : cells + (s'.2.2.2.2.1 - h.2.1) ≤ R.cells) (hsl : slots + (s'.2.2.2.2.2 - h.2.2) ≤ R.slots)
  (kk : ∀ (lsC' : Array Slot) (H' : Heap) (locs' : List Loc), mj_L G i s'.2.1 lsC' → mj_Rep G s s'.2.2.2 H' → (∀ q ∈ locs', G.2.2.2 < q.base) → W p l e R s m args below meth c H' locs' (cells + (s'.2.2.2.2.1 - h.2.1)) (slots + (s'.2.2.2.2.2 - h.2.2)) Q (F0 m s'.1 lsC' (s'.2.2.1.map (mj_cv G)))) : W p l e R s m args below meth c H locs cells slots Q (F0 m pc lsC (st.map (mj_cv G))) := by
  obtain ⟨hx, hb, hml, hown, hts, hret, hlk, hnm, hfr, hlr⟩ := C
  have hdg0 := mj_dec0 hat
  have hln := mj_len0 hat
  have hck := mj_chk0 hat
  simp only [mj_lnok, mj_ln, beq_iff_eq] at hln
  subst hln
  have hdg := hdg0
  clear hdg0
  simp only [mj_step, mj_nx] at hs
  split at hs
  · rename_i y x st1
    cases hs
    refine lv_ladd hx hb hdg ?_
    exact mj_w0 (x := h.2.1) (y := h.2.2) (kk lsC H locs hL hR hlo)
  · cases hs
set_option maxHeartbeats 4000000 in
theorem mj_s_lmul (C : mj_Cx p s m args meth c i R) (K : mj_Kn G s) (hat : mj_at i pc = some (.lmul, len, a, b)) (hs : mj_step i (.lmul, len, a, b) pc ls st h = some (.inl s')) (hL : mj_L G i ls lsC) (hR : mj_Rep G s h H) (hlo : ∀ q ∈ locs, G.2.2.2 < q.base)
  (hc : cells + (s'.2.2.2.2.1 - h.2.1) ≤ R.cells) (hsl : slots + (s'.2.2.2.2.2 - h.2.2) ≤ R.slots)
  (kk : ∀ (lsC' : Array Slot) (H' : Heap) (locs' : List Loc), mj_L G i s'.2.1 lsC' → mj_Rep G s s'.2.2.2 H' → (∀ q ∈ locs', G.2.2.2 < q.base) → W p l e R s m args below meth c H' locs' (cells + (s'.2.2.2.2.1 - h.2.1)) (slots + (s'.2.2.2.2.2 - h.2.2)) Q (F0 m s'.1 lsC' (s'.2.2.1.map (mj_cv G)))) : W p l e R s m args below meth c H locs cells slots Q (F0 m pc lsC (st.map (mj_cv G))) := by
  obtain ⟨hx, hb, hml, hown, hts, hret, hlk, hnm, hfr, hlr⟩ := C
  have hdg0 := mj_dec0 hat
  have hln := mj_len0 hat
  have hck := mj_chk0 hat
  simp only [mj_lnok, mj_ln, beq_iff_eq] at hln
  subst hln
  have hdg := hdg0
  clear hdg0
  simp only [mj_step, mj_nx] at hs
  split at hs
  · rename_i y x st1
    cases hs
    refine lv_lmul hx hb hdg ?_
    exact mj_w0 (x := h.2.1) (y := h.2.2) (kk lsC H locs hL hR hlo)
  · cases hs
set_option maxHeartbeats 4000000 in
theorem mj_s_land (C : mj_Cx p s m args meth c i R) (K : mj_Kn G s) (hat : mj_at i pc = some (.land, len, a, b)) (hs : mj_step i (.land, len, a, b) pc ls st h = some (.inl s')) (hL : mj_L G i ls lsC) (hR : mj_Rep G s h H) (hlo : ∀ q ∈ locs, G.2.2.2 < q.base)
  (hc : cells + (s'.2.2.2.2.1 - h.2.1) ≤ R.cells) (hsl : slots + (s'.2.2.2.2.2 - h.2.2) ≤ R.slots)
  (kk : ∀ (lsC' : Array Slot) (H' : Heap) (locs' : List Loc), mj_L G i s'.2.1 lsC' → mj_Rep G s s'.2.2.2 H' → (∀ q ∈ locs', G.2.2.2 < q.base) → W p l e R s m args below meth c H' locs' (cells + (s'.2.2.2.2.1 - h.2.1)) (slots + (s'.2.2.2.2.2 - h.2.2)) Q (F0 m s'.1 lsC' (s'.2.2.1.map (mj_cv G)))) : W p l e R s m args below meth c H locs cells slots Q (F0 m pc lsC (st.map (mj_cv G))) := by
  obtain ⟨hx, hb, hml, hown, hts, hret, hlk, hnm, hfr, hlr⟩ := C
  have hdg0 := mj_dec0 hat
  have hln := mj_len0 hat
  have hck := mj_chk0 hat
  simp only [mj_lnok, mj_ln, beq_iff_eq] at hln
  subst hln
  have hdg := hdg0
  clear hdg0
  simp only [mj_step, mj_nx] at hs
  split at hs
  · rename_i y x st1
    cases hs
    refine lv_land hx hb hdg ?_
    exact mj_w0 (x := h.2.1) (y := h.2.2) (kk lsC H locs hL hR hlo)
  · cases hs
set_option maxHeartbeats 4000000 in
theorem mj_s_lor (C : mj_Cx p s m args meth c i R) (K : mj_Kn G s) (hat : mj_at i pc = some (.lor, len, a, b)) (hs : mj_step i (.lor, len, a, b) pc ls st h = some (.inl s')) (hL : mj_L G i ls lsC) (hR : mj_Rep G s h H) (hlo : ∀ q ∈ locs, G.2.2.2 < q.base)
  (hc : cells + (s'.2.2.2.2.1 - h.2.1) ≤ R.cells) (hsl : slots + (s'.2.2.2.2.2 - h.2.2) ≤ R.slots)
  (kk : ∀ (lsC' : Array Slot) (H' : Heap) (locs' : List Loc), mj_L G i s'.2.1 lsC' → mj_Rep G s s'.2.2.2 H' → (∀ q ∈ locs', G.2.2.2 < q.base) → W p l e R s m args below meth c H' locs' (cells + (s'.2.2.2.2.1 - h.2.1)) (slots + (s'.2.2.2.2.2 - h.2.2)) Q (F0 m s'.1 lsC' (s'.2.2.1.map (mj_cv G)))) : W p l e R s m args below meth c H locs cells slots Q (F0 m pc lsC (st.map (mj_cv G))) := by
  obtain ⟨hx, hb, hml, hown, hts, hret, hlk, hnm, hfr, hlr⟩ := C
  have hdg0 := mj_dec0 hat
  have hln := mj_len0 hat
  have hck := mj_chk0 hat
  simp only [mj_lnok, mj_ln, beq_iff_eq] at hln
  subst hln
  have hdg := hdg0
  clear hdg0
  simp only [mj_step, mj_nx] at hs
  split at hs
  · rename_i y x st1
    cases hs
    refine lv_lor hx hb hdg ?_
    exact mj_w0 (x := h.2.1) (y := h.2.2) (kk lsC H locs hL hR hlo)
  · cases hs
set_option maxHeartbeats 4000000 in
theorem mj_s_idiv (C : mj_Cx p s m args meth c i R) (K : mj_Kn G s) (hat : mj_at i pc = some (.idiv, len, a, b)) (hs : mj_step i (.idiv, len, a, b) pc ls st h = some (.inl s')) (hL : mj_L G i ls lsC) (hR : mj_Rep G s h H) (hlo : ∀ q ∈ locs, G.2.2.2 < q.base)
  (hc : cells + (s'.2.2.2.2.1 - h.2.1) ≤ R.cells) (hsl : slots + (s'.2.2.2.2.2 - h.2.2) ≤ R.slots)
  (kk : ∀ (lsC' : Array Slot) (H' : Heap) (locs' : List Loc), mj_L G i s'.2.1 lsC' → mj_Rep G s s'.2.2.2 H' → (∀ q ∈ locs', G.2.2.2 < q.base) → W p l e R s m args below meth c H' locs' (cells + (s'.2.2.2.2.1 - h.2.1)) (slots + (s'.2.2.2.2.2 - h.2.2)) Q (F0 m s'.1 lsC' (s'.2.2.1.map (mj_cv G)))) : W p l e R s m args below meth c H locs cells slots Q (F0 m pc lsC (st.map (mj_cv G))) := by
  obtain ⟨hx, hb, hml, hown, hts, hret, hlk, hnm, hfr, hlr⟩ := C
  have hdg0 := mj_dec0 hat
  have hln := mj_len0 hat
  have hck := mj_chk0 hat
  simp only [mj_lnok, mj_ln, beq_iff_eq] at hln
  subst hln
  have hdg := hdg0
  clear hdg0
  simp only [mj_step, mj_nx] at hs
  split at hs
  · rename_i y x st1
    split at hs
    · cases hs
    · rename_i hne
      cases hs
      refine lv_idiv hx hb hdg hne ?_
      exact mj_w0 (x := h.2.1) (y := h.2.2) (kk lsC H locs hL hR hlo)
  · cases hs
set_option maxHeartbeats 4000000 in
theorem mj_s_irem (C : mj_Cx p s m args meth c i R) (K : mj_Kn G s) (hat : mj_at i pc = some (.irem, len, a, b)) (hs : mj_step i (.irem, len, a, b) pc ls st h = some (.inl s')) (hL : mj_L G i ls lsC) (hR : mj_Rep G s h H) (hlo : ∀ q ∈ locs, G.2.2.2 < q.base)
  (hc : cells + (s'.2.2.2.2.1 - h.2.1) ≤ R.cells) (hsl : slots + (s'.2.2.2.2.2 - h.2.2) ≤ R.slots)
  (kk : ∀ (lsC' : Array Slot) (H' : Heap) (locs' : List Loc), mj_L G i s'.2.1 lsC' → mj_Rep G s s'.2.2.2 H' → (∀ q ∈ locs', G.2.2.2 < q.base) → W p l e R s m args below meth c H' locs' (cells + (s'.2.2.2.2.1 - h.2.1)) (slots + (s'.2.2.2.2.2 - h.2.2)) Q (F0 m s'.1 lsC' (s'.2.2.1.map (mj_cv G)))) : W p l e R s m args below meth c H locs cells slots Q (F0 m pc lsC (st.map (mj_cv G))) := by
  obtain ⟨hx, hb, hml, hown, hts, hret, hlk, hnm, hfr, hlr⟩ := C
  have hdg0 := mj_dec0 hat
  have hln := mj_len0 hat
  have hck := mj_chk0 hat
  simp only [mj_lnok, mj_ln, beq_iff_eq] at hln
  subst hln
  have hdg := hdg0
  clear hdg0
  simp only [mj_step, mj_nx] at hs
  split at hs
  · rename_i y x st1
    split at hs
    · cases hs
    · rename_i hne
      cases hs
      refine lv_irem hx hb hdg hne ?_
      exact mj_w0 (x := h.2.1) (y := h.2.2) (kk lsC H locs hL hR hlo)
  · cases hs
set_option maxHeartbeats 4000000 in
theorem mj_s_lrem (C : mj_Cx p s m args meth c i R) (K : mj_Kn G s) (hat : mj_at i pc = some (.lrem, len, a, b)) (hs : mj_step i (.lrem, len, a, b) pc ls st h = some (.inl s')) (hL : mj_L G i ls lsC) (hR : mj_Rep G s h H) (hlo : ∀ q ∈ locs, G.2.2.2 < q.base)
  (hc : cells + (s'.2.2.2.2.1 - h.2.1) ≤ R.cells) (hsl : slots + (s'.2.2.2.2.2 - h.2.2) ≤ R.slots)
  (kk : ∀ (lsC' : Array Slot) (H' : Heap) (locs' : List Loc), mj_L G i s'.2.1 lsC' → mj_Rep G s s'.2.2.2 H' → (∀ q ∈ locs', G.2.2.2 < q.base) → W p l e R s m args below meth c H' locs' (cells + (s'.2.2.2.2.1 - h.2.1)) (slots + (s'.2.2.2.2.2 - h.2.2)) Q (F0 m s'.1 lsC' (s'.2.2.1.map (mj_cv G)))) : W p l e R s m args below meth c H locs cells slots Q (F0 m pc lsC (st.map (mj_cv G))) := by
  obtain ⟨hx, hb, hml, hown, hts, hret, hlk, hnm, hfr, hlr⟩ := C
  have hdg0 := mj_dec0 hat
  have hln := mj_len0 hat
  have hck := mj_chk0 hat
  simp only [mj_lnok, mj_ln, beq_iff_eq] at hln
  subst hln
  have hdg := hdg0
  clear hdg0
  simp only [mj_step, mj_nx] at hs
  split at hs
  · rename_i y x st1
    split at hs
    · cases hs
    · rename_i hne
      cases hs
      refine lv_lrem hx hb hdg hne ?_
      exact mj_w0 (x := h.2.1) (y := h.2.2) (kk lsC H locs hL hR hlo)
  · cases hs
set_option maxHeartbeats 4000000 in
theorem mj_s_iushr (C : mj_Cx p s m args meth c i R) (K : mj_Kn G s) (hat : mj_at i pc = some (.iushr, len, a, b)) (hs : mj_step i (.iushr, len, a, b) pc ls st h = some (.inl s')) (hL : mj_L G i ls lsC) (hR : mj_Rep G s h H) (hlo : ∀ q ∈ locs, G.2.2.2 < q.base)
  (hc : cells + (s'.2.2.2.2.1 - h.2.1) ≤ R.cells) (hsl : slots + (s'.2.2.2.2.2 - h.2.2) ≤ R.slots)
  (kk : ∀ (lsC' : Array Slot) (H' : Heap) (locs' : List Loc), mj_L G i s'.2.1 lsC' → mj_Rep G s s'.2.2.2 H' → (∀ q ∈ locs', G.2.2.2 < q.base) → W p l e R s m args below meth c H' locs' (cells + (s'.2.2.2.2.1 - h.2.1)) (slots + (s'.2.2.2.2.2 - h.2.2)) Q (F0 m s'.1 lsC' (s'.2.2.1.map (mj_cv G)))) : W p l e R s m args below meth c H locs cells slots Q (F0 m pc lsC (st.map (mj_cv G))) := by
  obtain ⟨hx, hb, hml, hown, hts, hret, hlk, hnm, hfr, hlr⟩ := C
  have hdg0 := mj_dec0 hat
  have hln := mj_len0 hat
  have hck := mj_chk0 hat
  simp only [mj_lnok, mj_ln, beq_iff_eq] at hln
  subst hln
  have hdg := hdg0
  clear hdg0
  simp only [mj_step, mj_nx] at hs
  split at hs
  · rename_i y x st1
    cases hs
    refine lv_iushr hx hb hdg rfl ?_
    exact mj_w0 (x := h.2.1) (y := h.2.2) (kk lsC H locs hL hR hlo)
  · cases hs
set_option maxHeartbeats 4000000 in
theorem mj_s_lushr (C : mj_Cx p s m args meth c i R) (K : mj_Kn G s) (hat : mj_at i pc = some (.lushr, len, a, b)) (hs : mj_step i (.lushr, len, a, b) pc ls st h = some (.inl s')) (hL : mj_L G i ls lsC) (hR : mj_Rep G s h H) (hlo : ∀ q ∈ locs, G.2.2.2 < q.base)
  (hc : cells + (s'.2.2.2.2.1 - h.2.1) ≤ R.cells) (hsl : slots + (s'.2.2.2.2.2 - h.2.2) ≤ R.slots)
  (kk : ∀ (lsC' : Array Slot) (H' : Heap) (locs' : List Loc), mj_L G i s'.2.1 lsC' → mj_Rep G s s'.2.2.2 H' → (∀ q ∈ locs', G.2.2.2 < q.base) → W p l e R s m args below meth c H' locs' (cells + (s'.2.2.2.2.1 - h.2.1)) (slots + (s'.2.2.2.2.2 - h.2.2)) Q (F0 m s'.1 lsC' (s'.2.2.1.map (mj_cv G)))) : W p l e R s m args below meth c H locs cells slots Q (F0 m pc lsC (st.map (mj_cv G))) := by
  obtain ⟨hx, hb, hml, hown, hts, hret, hlk, hnm, hfr, hlr⟩ := C
  have hdg0 := mj_dec0 hat
  have hln := mj_len0 hat
  have hck := mj_chk0 hat
  simp only [mj_lnok, mj_ln, beq_iff_eq] at hln
  subst hln
  have hdg := hdg0
  clear hdg0
  simp only [mj_step, mj_nx] at hs
  split at hs
  · rename_i y x st1
    cases hs
    refine lv_lushr hx hb hdg rfl ?_
    exact mj_w0 (x := h.2.1) (y := h.2.2) (kk lsC H locs hL hR hlo)
  · cases hs
set_option maxHeartbeats 4000000 in
theorem mj_s_lshl (C : mj_Cx p s m args meth c i R) (K : mj_Kn G s) (hat : mj_at i pc = some (.lshl, len, a, b)) (hs : mj_step i (.lshl, len, a, b) pc ls st h = some (.inl s')) (hL : mj_L G i ls lsC) (hR : mj_Rep G s h H) (hlo : ∀ q ∈ locs, G.2.2.2 < q.base)
  (hc : cells + (s'.2.2.2.2.1 - h.2.1) ≤ R.cells) (hsl : slots + (s'.2.2.2.2.2 - h.2.2) ≤ R.slots)
  (kk : ∀ (lsC' : Array Slot) (H' : Heap) (locs' : List Loc), mj_L G i s'.2.1 lsC' → mj_Rep G s s'.2.2.2 H' → (∀ q ∈ locs', G.2.2.2 < q.base) → W p l e R s m args below meth c H' locs' (cells + (s'.2.2.2.2.1 - h.2.1)) (slots + (s'.2.2.2.2.2 - h.2.2)) Q (F0 m s'.1 lsC' (s'.2.2.1.map (mj_cv G)))) : W p l e R s m args below meth c H locs cells slots Q (F0 m pc lsC (st.map (mj_cv G))) := by
  obtain ⟨hx, hb, hml, hown, hts, hret, hlk, hnm, hfr, hlr⟩ := C
  have hdg0 := mj_dec0 hat
  have hln := mj_len0 hat
  have hck := mj_chk0 hat
  simp only [mj_lnok, mj_ln, beq_iff_eq] at hln
  subst hln
  have hdg := hdg0
  clear hdg0
  simp only [mj_step, mj_nx] at hs
  split at hs
  · rename_i y x st1
    cases hs
    refine lv_lshl hx hb hdg rfl ?_
    exact mj_w0 (x := h.2.1) (y := h.2.2) (kk lsC H locs hL hR hlo)
  · cases hs
set_option maxHeartbeats 4000000 in
theorem mj_s_lcmp (C : mj_Cx p s m args meth c i R) (K : mj_Kn G s) (hat : mj_at i pc = some (.lcmp, len, a, b)) (hs : mj_step i (.lcmp, len, a, b) pc ls st h = some (.inl s')) (hL : mj_L G i ls lsC) (hR : mj_Rep G s h H) (hlo : ∀ q ∈ locs, G.2.2.2 < q.base)
  (hc : cells + (s'.2.2.2.2.1 - h.2.1) ≤ R.cells) (hsl : slots + (s'.2.2.2.2.2 - h.2.2) ≤ R.slots)
  (kk : ∀ (lsC' : Array Slot) (H' : Heap) (locs' : List Loc), mj_L G i s'.2.1 lsC' → mj_Rep G s s'.2.2.2 H' → (∀ q ∈ locs', G.2.2.2 < q.base) → W p l e R s m args below meth c H' locs' (cells + (s'.2.2.2.2.1 - h.2.1)) (slots + (s'.2.2.2.2.2 - h.2.2)) Q (F0 m s'.1 lsC' (s'.2.2.1.map (mj_cv G)))) : W p l e R s m args below meth c H locs cells slots Q (F0 m pc lsC (st.map (mj_cv G))) := by
  obtain ⟨hx, hb, hml, hown, hts, hret, hlk, hnm, hfr, hlr⟩ := C
  have hdg0 := mj_dec0 hat
  have hln := mj_len0 hat
  have hck := mj_chk0 hat
  simp only [mj_lnok, mj_ln, beq_iff_eq] at hln
  subst hln
  have hdg := hdg0
  clear hdg0
  simp only [mj_step, mj_nx] at hs
  split at hs
  · rename_i y x st1
    cases hs
    refine W.lcmp hx hb hdg ?_
    exact mj_w0 (x := h.2.1) (y := h.2.2) (kk lsC H locs hL hR hlo)
  · cases hs
set_option maxHeartbeats 4000000 in
theorem mj_s_i2l (C : mj_Cx p s m args meth c i R) (K : mj_Kn G s) (hat : mj_at i pc = some (.i2l, len, a, b)) (hs : mj_step i (.i2l, len, a, b) pc ls st h = some (.inl s')) (hL : mj_L G i ls lsC) (hR : mj_Rep G s h H) (hlo : ∀ q ∈ locs, G.2.2.2 < q.base)
  (hc : cells + (s'.2.2.2.2.1 - h.2.1) ≤ R.cells) (hsl : slots + (s'.2.2.2.2.2 - h.2.2) ≤ R.slots)
  (kk : ∀ (lsC' : Array Slot) (H' : Heap) (locs' : List Loc), mj_L G i s'.2.1 lsC' → mj_Rep G s s'.2.2.2 H' → (∀ q ∈ locs', G.2.2.2 < q.base) → W p l e R s m args below meth c H' locs' (cells + (s'.2.2.2.2.1 - h.2.1)) (slots + (s'.2.2.2.2.2 - h.2.2)) Q (F0 m s'.1 lsC' (s'.2.2.1.map (mj_cv G)))) : W p l e R s m args below meth c H locs cells slots Q (F0 m pc lsC (st.map (mj_cv G))) := by
  obtain ⟨hx, hb, hml, hown, hts, hret, hlk, hnm, hfr, hlr⟩ := C
  have hdg0 := mj_dec0 hat
  have hln := mj_len0 hat
  have hck := mj_chk0 hat
  simp only [mj_lnok, mj_ln, beq_iff_eq] at hln
  subst hln
  have hdg := hdg0
  clear hdg0
  simp only [mj_step, mj_nx] at hs
  split at hs
  · rename_i x st1
    cases hs
    refine lv_i2l hx hb hdg rfl ?_
    exact mj_w0 (x := h.2.1) (y := h.2.2) (kk lsC H locs hL hR hlo)
  · cases hs
set_option maxHeartbeats 4000000 in
theorem mj_s_iconst {n : Int} (C : mj_Cx p s m args meth c i R) (K : mj_Kn G s) (hat : mj_at i pc = some (.iconst n, len, a, b)) (hs : mj_step i (.iconst n, len, a, b) pc ls st h = some (.inl s')) (hL : mj_L G i ls lsC) (hR : mj_Rep G s h H) (hlo : ∀ q ∈ locs, G.2.2.2 < q.base)
  (hc : cells + (s'.2.2.2.2.1 - h.2.1) ≤ R.cells) (hsl : slots + (s'.2.2.2.2.2 - h.2.2) ≤ R.slots)
  (kk : ∀ (lsC' : Array Slot) (H' : Heap) (locs' : List Loc), mj_L G i s'.2.1 lsC' → mj_Rep G s s'.2.2.2 H' → (∀ q ∈ locs', G.2.2.2 < q.base) → W p l e R s m args below meth c H' locs' (cells + (s'.2.2.2.2.1 - h.2.1)) (slots + (s'.2.2.2.2.2 - h.2.2)) Q (F0 m s'.1 lsC' (s'.2.2.1.map (mj_cv G)))) : W p l e R s m args below meth c H locs cells slots Q (F0 m pc lsC (st.map (mj_cv G))) := by
  obtain ⟨hx, hb, hml, hown, hts, hret, hlk, hnm, hfr, hlr⟩ := C
  have hdg0 := mj_dec0 hat
  have hln := mj_len0 hat
  have hck := mj_chk0 hat
  simp only [mj_lnok, mj_ln, beq_iff_eq] at hln
  subst hln
  have hdg := hdg0
  clear hdg0
  simp only [mj_step, mj_nx] at hs
  cases hs
  refine lv_iconst hx hb hdg rfl ?_
  exact mj_w0 (x := h.2.1) (y := h.2.2) (kk lsC H locs hL hR hlo)
set_option maxHeartbeats 4000000 in
theorem mj_s_bipush {n : Int} (C : mj_Cx p s m args meth c i R) (K : mj_Kn G s) (hat : mj_at i pc = some (.bipush n, len, a, b)) (hs : mj_step i (.bipush n, len, a, b) pc ls st h = some (.inl s')) (hL : mj_L G i ls lsC) (hR : mj_Rep G s h H) (hlo : ∀ q ∈ locs, G.2.2.2 < q.base)
  (hc : cells + (s'.2.2.2.2.1 - h.2.1) ≤ R.cells) (hsl : slots + (s'.2.2.2.2.2 - h.2.2) ≤ R.slots)
  (kk : ∀ (lsC' : Array Slot) (H' : Heap) (locs' : List Loc), mj_L G i s'.2.1 lsC' → mj_Rep G s s'.2.2.2 H' → (∀ q ∈ locs', G.2.2.2 < q.base) → W p l e R s m args below meth c H' locs' (cells + (s'.2.2.2.2.1 - h.2.1)) (slots + (s'.2.2.2.2.2 - h.2.2)) Q (F0 m s'.1 lsC' (s'.2.2.1.map (mj_cv G)))) : W p l e R s m args below meth c H locs cells slots Q (F0 m pc lsC (st.map (mj_cv G))) := by
  obtain ⟨hx, hb, hml, hown, hts, hret, hlk, hnm, hfr, hlr⟩ := C
  have hdg0 := mj_dec0 hat
  have hln := mj_len0 hat
  have hck := mj_chk0 hat
  simp only [mj_lnok, mj_ln, beq_iff_eq] at hln
  subst hln
  have hdg := hdg0
  clear hdg0
  simp only [mj_step, mj_nx] at hs
  cases hs
  refine lv_bipush hx hb hdg rfl ?_
  exact mj_w0 (x := h.2.1) (y := h.2.2) (kk lsC H locs hL hR hlo)
set_option maxHeartbeats 4000000 in
theorem mj_s_sipush {n : Int} (C : mj_Cx p s m args meth c i R) (K : mj_Kn G s) (hat : mj_at i pc = some (.sipush n, len, a, b)) (hs : mj_step i (.sipush n, len, a, b) pc ls st h = some (.inl s')) (hL : mj_L G i ls lsC) (hR : mj_Rep G s h H) (hlo : ∀ q ∈ locs, G.2.2.2 < q.base)
  (hc : cells + (s'.2.2.2.2.1 - h.2.1) ≤ R.cells) (hsl : slots + (s'.2.2.2.2.2 - h.2.2) ≤ R.slots)
  (kk : ∀ (lsC' : Array Slot) (H' : Heap) (locs' : List Loc), mj_L G i s'.2.1 lsC' → mj_Rep G s s'.2.2.2 H' → (∀ q ∈ locs', G.2.2.2 < q.base) → W p l e R s m args below meth c H' locs' (cells + (s'.2.2.2.2.1 - h.2.1)) (slots + (s'.2.2.2.2.2 - h.2.2)) Q (F0 m s'.1 lsC' (s'.2.2.1.map (mj_cv G)))) : W p l e R s m args below meth c H locs cells slots Q (F0 m pc lsC (st.map (mj_cv G))) := by
  obtain ⟨hx, hb, hml, hown, hts, hret, hlk, hnm, hfr, hlr⟩ := C
  have hdg0 := mj_dec0 hat
  have hln := mj_len0 hat
  have hck := mj_chk0 hat
  simp only [mj_lnok, mj_ln, beq_iff_eq] at hln
  subst hln
  have hdg := hdg0
  clear hdg0
  simp only [mj_step, mj_nx] at hs
  cases hs
  refine lv_sipush hx hb hdg rfl ?_
  exact mj_w0 (x := h.2.1) (y := h.2.2) (kk lsC H locs hL hR hlo)
set_option maxHeartbeats 4000000 in
theorem mj_s_lconst {n : Fin 2} (C : mj_Cx p s m args meth c i R) (K : mj_Kn G s) (hat : mj_at i pc = some (.lconst n, len, a, b)) (hs : mj_step i (.lconst n, len, a, b) pc ls st h = some (.inl s')) (hL : mj_L G i ls lsC) (hR : mj_Rep G s h H) (hlo : ∀ q ∈ locs, G.2.2.2 < q.base)
  (hc : cells + (s'.2.2.2.2.1 - h.2.1) ≤ R.cells) (hsl : slots + (s'.2.2.2.2.2 - h.2.2) ≤ R.slots)
  (kk : ∀ (lsC' : Array Slot) (H' : Heap) (locs' : List Loc), mj_L G i s'.2.1 lsC' → mj_Rep G s s'.2.2.2 H' → (∀ q ∈ locs', G.2.2.2 < q.base) → W p l e R s m args below meth c H' locs' (cells + (s'.2.2.2.2.1 - h.2.1)) (slots + (s'.2.2.2.2.2 - h.2.2)) Q (F0 m s'.1 lsC' (s'.2.2.1.map (mj_cv G)))) : W p l e R s m args below meth c H locs cells slots Q (F0 m pc lsC (st.map (mj_cv G))) := by
  obtain ⟨hx, hb, hml, hown, hts, hret, hlk, hnm, hfr, hlr⟩ := C
  have hdg0 := mj_dec0 hat
  have hln := mj_len0 hat
  have hck := mj_chk0 hat
  simp only [mj_lnok, mj_ln, beq_iff_eq] at hln
  subst hln
  have hdg := hdg0
  clear hdg0
  simp only [mj_step, mj_nx] at hs
  cases hs
  refine lv_lconst hx hb hdg rfl ?_
  exact mj_w0 (x := h.2.1) (y := h.2.2) (kk lsC H locs hL hR hlo)
set_option maxHeartbeats 4000000 in
theorem mj_s_ldc_w {n : Nat} (C : mj_Cx p s m args meth c i R) (K : mj_Kn G s) (hat : mj_at i pc = some (.ldc_w n, len, a, b)) (hs : mj_step i (.ldc_w n, len, a, b) pc ls st h = some (.inl s')) (hL : mj_L G i ls lsC) (hR : mj_Rep G s h H) (hlo : ∀ q ∈ locs, G.2.2.2 < q.base)
  (hc : cells + (s'.2.2.2.2.1 - h.2.1) ≤ R.cells) (hsl : slots + (s'.2.2.2.2.2 - h.2.2) ≤ R.slots)
  (kk : ∀ (lsC' : Array Slot) (H' : Heap) (locs' : List Loc), mj_L G i s'.2.1 lsC' → mj_Rep G s s'.2.2.2 H' → (∀ q ∈ locs', G.2.2.2 < q.base) → W p l e R s m args below meth c H' locs' (cells + (s'.2.2.2.2.1 - h.2.1)) (slots + (s'.2.2.2.2.2 - h.2.2)) Q (F0 m s'.1 lsC' (s'.2.2.1.map (mj_cv G)))) : W p l e R s m args below meth c H locs cells slots Q (F0 m pc lsC (st.map (mj_cv G))) := by
  obtain ⟨hx, hb, hml, hown, hts, hret, hlk, hnm, hfr, hlr⟩ := C
  have hdg0 := mj_dec0 hat
  have hln := mj_len0 hat
  have hck := mj_chk0 hat
  simp only [mj_lnok, mj_ln, beq_iff_eq] at hln
  subst hln
  have hdg := hdg0
  clear hdg0
  simp only [mj_step, mj_nx] at hs
  cases hs
  refine lv_ldcw hx hb hown (hts _ (mj_ick hck)) hdg ?_
  exact mj_w0 (x := h.2.1) (y := h.2.2) (kk lsC H locs hL hR hlo)
set_option maxHeartbeats 4000000 in
theorem mj_s_ldc2_w {n : Nat} (C : mj_Cx p s m args meth c i R) (K : mj_Kn G s) (hat : mj_at i pc = some (.ldc2_w n, len, a, b)) (hs : mj_step i (.ldc2_w n, len, a, b) pc ls st h = some (.inl s')) (hL : mj_L G i ls lsC) (hR : mj_Rep G s h H) (hlo : ∀ q ∈ locs, G.2.2.2 < q.base)
  (hc : cells + (s'.2.2.2.2.1 - h.2.1) ≤ R.cells) (hsl : slots + (s'.2.2.2.2.2 - h.2.2) ≤ R.slots)
  (kk : ∀ (lsC' : Array Slot) (H' : Heap) (locs' : List Loc), mj_L G i s'.2.1 lsC' → mj_Rep G s s'.2.2.2 H' → (∀ q ∈ locs', G.2.2.2 < q.base) → W p l e R s m args below meth c H' locs' (cells + (s'.2.2.2.2.1 - h.2.1)) (slots + (s'.2.2.2.2.2 - h.2.2)) Q (F0 m s'.1 lsC' (s'.2.2.1.map (mj_cv G)))) : W p l e R s m args below meth c H locs cells slots Q (F0 m pc lsC (st.map (mj_cv G))) := by
  obtain ⟨hx, hb, hml, hown, hts, hret, hlk, hnm, hfr, hlr⟩ := C
  have hdg0 := mj_dec0 hat
  have hln := mj_len0 hat
  have hck := mj_chk0 hat
  simp only [mj_lnok, mj_ln, beq_iff_eq] at hln
  subst hln
  have hdg := hdg0
  clear hdg0
  simp only [mj_step, mj_nx] at hs
  cases hs
  refine lv_ldc2 hx hb hown (hts _ (mj_lgk hck)) hdg ?_
  exact mj_w0 (x := h.2.1) (y := h.2.2) (kk lsC H locs hL hR hlo)
set_option maxHeartbeats 4000000 in
theorem mj_s_aload_n {n : Fin 4} (C : mj_Cx p s m args meth c i R) (K : mj_Kn G s) (hat : mj_at i pc = some (.aload_n n, len, a, b)) (hs : mj_step i (.aload_n n, len, a, b) pc ls st h = some (.inl s')) (hL : mj_L G i ls lsC) (hR : mj_Rep G s h H) (hlo : ∀ q ∈ locs, G.2.2.2 < q.base)
  (hc : cells + (s'.2.2.2.2.1 - h.2.1) ≤ R.cells) (hsl : slots + (s'.2.2.2.2.2 - h.2.2) ≤ R.slots)
  (kk : ∀ (lsC' : Array Slot) (H' : Heap) (locs' : List Loc), mj_L G i s'.2.1 lsC' → mj_Rep G s s'.2.2.2 H' → (∀ q ∈ locs', G.2.2.2 < q.base) → W p l e R s m args below meth c H' locs' (cells + (s'.2.2.2.2.1 - h.2.1)) (slots + (s'.2.2.2.2.2 - h.2.2)) Q (F0 m s'.1 lsC' (s'.2.2.1.map (mj_cv G)))) : W p l e R s m args below meth c H locs cells slots Q (F0 m pc lsC (st.map (mj_cv G))) := by
  obtain ⟨hx, hb, hml, hown, hts, hret, hlk, hnm, hfr, hlr⟩ := C
  have hdg0 := mj_dec0 hat
  have hln := mj_len0 hat
  have hck := mj_chk0 hat
  simp only [mj_lnok, mj_ln, beq_iff_eq] at hln
  subst hln
  have hdg := hdg0
  clear hdg0
  simp only [mj_step, mj_nx] at hs
  split at hs
  · rename_i x hl
    cases hs
    refine lv_aload_n hx hb hdg rfl (hL.get hl (fun z => by cases z)) ?_
    exact mj_w0 (x := h.2.1) (y := h.2.2) (kk lsC H locs hL hR hlo)
  · cases hs
set_option maxHeartbeats 4000000 in
theorem mj_s_iload_n {n : Fin 4} (C : mj_Cx p s m args meth c i R) (K : mj_Kn G s) (hat : mj_at i pc = some (.iload_n n, len, a, b)) (hs : mj_step i (.iload_n n, len, a, b) pc ls st h = some (.inl s')) (hL : mj_L G i ls lsC) (hR : mj_Rep G s h H) (hlo : ∀ q ∈ locs, G.2.2.2 < q.base)
  (hc : cells + (s'.2.2.2.2.1 - h.2.1) ≤ R.cells) (hsl : slots + (s'.2.2.2.2.2 - h.2.2) ≤ R.slots)
  (kk : ∀ (lsC' : Array Slot) (H' : Heap) (locs' : List Loc), mj_L G i s'.2.1 lsC' → mj_Rep G s s'.2.2.2 H' → (∀ q ∈ locs', G.2.2.2 < q.base) → W p l e R s m args below meth c H' locs' (cells + (s'.2.2.2.2.1 - h.2.1)) (slots + (s'.2.2.2.2.2 - h.2.2)) Q (F0 m s'.1 lsC' (s'.2.2.1.map (mj_cv G)))) : W p l e R s m args below meth c H locs cells slots Q (F0 m pc lsC (st.map (mj_cv G))) := by
  obtain ⟨hx, hb, hml, hown, hts, hret, hlk, hnm, hfr, hlr⟩ := C
  have hdg0 := mj_dec0 hat
  have hln := mj_len0 hat
  have hck := mj_chk0 hat
  simp only [mj_lnok, mj_ln, beq_iff_eq] at hln
  subst hln
  have hdg := hdg0
  clear hdg0
  simp only [mj_step, mj_nx] at hs
  split at hs
  · rename_i x hl
    cases hs
    refine lv_iload_n hx hb hdg rfl (hL.get hl (fun z => by cases z)) ?_
    exact mj_w0 (x := h.2.1) (y := h.2.2) (kk lsC H locs hL hR hlo)
  · cases hs
set_option maxHeartbeats 4000000 in
theorem mj_s_iload {n : Nat} (C : mj_Cx p s m args meth c i R) (K : mj_Kn G s) (hat : mj_at i pc = some (.iload n, len, a, b)) (hs : mj_step i (.iload n, len, a, b) pc ls st h = some (.inl s')) (hL : mj_L G i ls lsC) (hR : mj_Rep G s h H) (hlo : ∀ q ∈ locs, G.2.2.2 < q.base)
  (hc : cells + (s'.2.2.2.2.1 - h.2.1) ≤ R.cells) (hsl : slots + (s'.2.2.2.2.2 - h.2.2) ≤ R.slots)
  (kk : ∀ (lsC' : Array Slot) (H' : Heap) (locs' : List Loc), mj_L G i s'.2.1 lsC' → mj_Rep G s s'.2.2.2 H' → (∀ q ∈ locs', G.2.2.2 < q.base) → W p l e R s m args below meth c H' locs' (cells + (s'.2.2.2.2.1 - h.2.1)) (slots + (s'.2.2.2.2.2 - h.2.2)) Q (F0 m s'.1 lsC' (s'.2.2.1.map (mj_cv G)))) : W p l e R s m args below meth c H locs cells slots Q (F0 m pc lsC (st.map (mj_cv G))) := by
  obtain ⟨hx, hb, hml, hown, hts, hret, hlk, hnm, hfr, hlr⟩ := C
  have hdg0 := mj_dec0 hat
  have hln := mj_len0 hat
  have hck := mj_chk0 hat
  simp only [mj_lnok, mj_ln, beq_iff_eq] at hln
  subst hln
  have hdg := hdg0
  clear hdg0
  simp only [mj_step, mj_nx] at hs
  split at hs
  · rename_i x hl
    cases hs
    refine lv_iload hx hb hdg (hL.get hl (fun z => by cases z)) ?_
    exact mj_w0 (x := h.2.1) (y := h.2.2) (kk lsC H locs hL hR hlo)
  · cases hs
set_option maxHeartbeats 4000000 in
theorem mj_s_lload_n {n : Fin 4} (C : mj_Cx p s m args meth c i R) (K : mj_Kn G s) (hat : mj_at i pc = some (.lload_n n, len, a, b)) (hs : mj_step i (.lload_n n, len, a, b) pc ls st h = some (.inl s')) (hL : mj_L G i ls lsC) (hR : mj_Rep G s h H) (hlo : ∀ q ∈ locs, G.2.2.2 < q.base)
  (hc : cells + (s'.2.2.2.2.1 - h.2.1) ≤ R.cells) (hsl : slots + (s'.2.2.2.2.2 - h.2.2) ≤ R.slots)
  (kk : ∀ (lsC' : Array Slot) (H' : Heap) (locs' : List Loc), mj_L G i s'.2.1 lsC' → mj_Rep G s s'.2.2.2 H' → (∀ q ∈ locs', G.2.2.2 < q.base) → W p l e R s m args below meth c H' locs' (cells + (s'.2.2.2.2.1 - h.2.1)) (slots + (s'.2.2.2.2.2 - h.2.2)) Q (F0 m s'.1 lsC' (s'.2.2.1.map (mj_cv G)))) : W p l e R s m args below meth c H locs cells slots Q (F0 m pc lsC (st.map (mj_cv G))) := by
  obtain ⟨hx, hb, hml, hown, hts, hret, hlk, hnm, hfr, hlr⟩ := C
  have hdg0 := mj_dec0 hat
  have hln := mj_len0 hat
  have hck := mj_chk0 hat
  simp only [mj_lnok, mj_ln, beq_iff_eq] at hln
  subst hln
  have hdg := hdg0
  clear hdg0
  simp only [mj_step, mj_nx] at hs
  split at hs
  · rename_i x hl
    cases hs
    refine lv_lload_n hx hb hdg rfl (hL.get hl (fun z => by cases z)) ?_
    exact mj_w0 (x := h.2.1) (y := h.2.2) (kk lsC H locs hL hR hlo)
  · cases hs
set_option maxHeartbeats 4000000 in
theorem mj_s_lload {n : Nat} (C : mj_Cx p s m args meth c i R) (K : mj_Kn G s) (hat : mj_at i pc = some (.lload n, len, a, b)) (hs : mj_step i (.lload n, len, a, b) pc ls st h = some (.inl s')) (hL : mj_L G i ls lsC) (hR : mj_Rep G s h H) (hlo : ∀ q ∈ locs, G.2.2.2 < q.base)
  (hc : cells + (s'.2.2.2.2.1 - h.2.1) ≤ R.cells) (hsl : slots + (s'.2.2.2.2.2 - h.2.2) ≤ R.slots)
  (kk : ∀ (lsC' : Array Slot) (H' : Heap) (locs' : List Loc), mj_L G i s'.2.1 lsC' → mj_Rep G s s'.2.2.2 H' → (∀ q ∈ locs', G.2.2.2 < q.base) → W p l e R s m args below meth c H' locs' (cells + (s'.2.2.2.2.1 - h.2.1)) (slots + (s'.2.2.2.2.2 - h.2.2)) Q (F0 m s'.1 lsC' (s'.2.2.1.map (mj_cv G)))) : W p l e R s m args below meth c H locs cells slots Q (F0 m pc lsC (st.map (mj_cv G))) := by
  obtain ⟨hx, hb, hml, hown, hts, hret, hlk, hnm, hfr, hlr⟩ := C
  have hdg0 := mj_dec0 hat
  have hln := mj_len0 hat
  have hck := mj_chk0 hat
  simp only [mj_lnok, mj_ln, beq_iff_eq] at hln
  subst hln
  have hdg := hdg0
  clear hdg0
  simp only [mj_step, mj_nx] at hs
  split at hs
  · rename_i x hl
    cases hs
    refine lv_lload hx hb hdg (hL.get hl (fun z => by cases z)) ?_
    exact mj_w0 (x := h.2.1) (y := h.2.2) (kk lsC H locs hL hR hlo)
  · cases hs
set_option maxHeartbeats 4000000 in
theorem mj_s_istore_n {n : Fin 4} (C : mj_Cx p s m args meth c i R) (K : mj_Kn G s) (hat : mj_at i pc = some (.istore_n n, len, a, b)) (hs : mj_step i (.istore_n n, len, a, b) pc ls st h = some (.inl s')) (hL : mj_L G i ls lsC) (hR : mj_Rep G s h H) (hlo : ∀ q ∈ locs, G.2.2.2 < q.base)
  (hc : cells + (s'.2.2.2.2.1 - h.2.1) ≤ R.cells) (hsl : slots + (s'.2.2.2.2.2 - h.2.2) ≤ R.slots)
  (kk : ∀ (lsC' : Array Slot) (H' : Heap) (locs' : List Loc), mj_L G i s'.2.1 lsC' → mj_Rep G s s'.2.2.2 H' → (∀ q ∈ locs', G.2.2.2 < q.base) → W p l e R s m args below meth c H' locs' (cells + (s'.2.2.2.2.1 - h.2.1)) (slots + (s'.2.2.2.2.2 - h.2.2)) Q (F0 m s'.1 lsC' (s'.2.2.1.map (mj_cv G)))) : W p l e R s m args below meth c H locs cells slots Q (F0 m pc lsC (st.map (mj_cv G))) := by
  obtain ⟨hx, hb, hml, hown, hts, hret, hlk, hnm, hfr, hlr⟩ := C
  have hdg0 := mj_dec0 hat
  have hln := mj_len0 hat
  have hck := mj_chk0 hat
  simp only [mj_lnok, mj_ln, beq_iff_eq] at hln
  subst hln
  have hdg := hdg0
  clear hdg0
  simp only [mj_step, mj_nx] at hs
  split at hs
  · rename_i x st1
    split at hs
    · rename_i hcnd
      cases hs
      refine lv_istore_n (nL := mj_m i) (lv := mj_kl G ls) hx hb hdg rfl hL.has (by have := hL.1; omega) rfl (fun ls2 h2 => ?_)
      exact mj_w0 (x := h.2.1) (y := h.2.2) (kk ls2 H locs (hL.put hcnd.1 (v := .int x) rfl h2) hR hlo)
    · cases hs
  · cases hs
set_option maxHeartbeats 4000000 in
theorem mj_s_istore {n : Nat} (C : mj_Cx p s m args meth c i R) (K : mj_Kn G s) (hat : mj_at i pc = some (.istore n, len, a, b)) (hs : mj_step i (.istore n, len, a, b) pc ls st h = some (.inl s')) (hL : mj_L G i ls lsC) (hR : mj_Rep G s h H) (hlo : ∀ q ∈ locs, G.2.2.2 < q.base)
  (hc : cells + (s'.2.2.2.2.1 - h.2.1) ≤ R.cells) (hsl : slots + (s'.2.2.2.2.2 - h.2.2) ≤ R.slots)
  (kk : ∀ (lsC' : Array Slot) (H' : Heap) (locs' : List Loc), mj_L G i s'.2.1 lsC' → mj_Rep G s s'.2.2.2 H' → (∀ q ∈ locs', G.2.2.2 < q.base) → W p l e R s m args below meth c H' locs' (cells + (s'.2.2.2.2.1 - h.2.1)) (slots + (s'.2.2.2.2.2 - h.2.2)) Q (F0 m s'.1 lsC' (s'.2.2.1.map (mj_cv G)))) : W p l e R s m args below meth c H locs cells slots Q (F0 m pc lsC (st.map (mj_cv G))) := by
  obtain ⟨hx, hb, hml, hown, hts, hret, hlk, hnm, hfr, hlr⟩ := C
  have hdg0 := mj_dec0 hat
  have hln := mj_len0 hat
  have hck := mj_chk0 hat
  simp only [mj_lnok, mj_ln, beq_iff_eq] at hln
  subst hln
  have hdg := hdg0
  clear hdg0
  simp only [mj_step, mj_nx] at hs
  split at hs
  · rename_i x st1
    split at hs
    · rename_i hcnd
      cases hs
      refine lv_istore (nL := mj_m i) (lv := mj_kl G ls) hx hb hdg hL.has (by have := hL.1; omega) rfl (fun ls2 h2 => ?_)
      exact mj_w0 (x := h.2.1) (y := h.2.2) (kk ls2 H locs (hL.put hcnd.1 (v := .int x) rfl h2) hR hlo)
    · cases hs
  · cases hs
set_option maxHeartbeats 4000000 in
theorem mj_s_astore_n {n : Fin 4} (C : mj_Cx p s m args meth c i R) (K : mj_Kn G s) (hat : mj_at i pc = some (.astore_n n, len, a, b)) (hs : mj_step i (.astore_n n, len, a, b) pc ls st h = some (.inl s')) (hL : mj_L G i ls lsC) (hR : mj_Rep G s h H) (hlo : ∀ q ∈ locs, G.2.2.2 < q.base)
  (hc : cells + (s'.2.2.2.2.1 - h.2.1) ≤ R.cells) (hsl : slots + (s'.2.2.2.2.2 - h.2.2) ≤ R.slots)
  (kk : ∀ (lsC' : Array Slot) (H' : Heap) (locs' : List Loc), mj_L G i s'.2.1 lsC' → mj_Rep G s s'.2.2.2 H' → (∀ q ∈ locs', G.2.2.2 < q.base) → W p l e R s m args below meth c H' locs' (cells + (s'.2.2.2.2.1 - h.2.1)) (slots + (s'.2.2.2.2.2 - h.2.2)) Q (F0 m s'.1 lsC' (s'.2.2.1.map (mj_cv G)))) : W p l e R s m args below meth c H locs cells slots Q (F0 m pc lsC (st.map (mj_cv G))) := by
  obtain ⟨hx, hb, hml, hown, hts, hret, hlk, hnm, hfr, hlr⟩ := C
  have hdg0 := mj_dec0 hat
  have hln := mj_len0 hat
  have hck := mj_chk0 hat
  simp only [mj_lnok, mj_ln, beq_iff_eq] at hln
  subst hln
  have hdg := hdg0
  clear hdg0
  simp only [mj_step, mj_nx] at hs
  split at hs
  · rename_i x st1
    split at hs
    · rename_i hcnd
      cases hs
      refine lv_astore_n (nL := mj_m i) (lv := mj_kl G ls) hx hb hdg rfl hL.has (by have := hL.1; omega) rfl (fun ls2 h2 => ?_)
      exact mj_w0 (x := h.2.1) (y := h.2.2) (kk ls2 H locs (hL.put hcnd.1 (v := .ref x) rfl h2) hR hlo)
    · cases hs
  · cases hs
set_option maxHeartbeats 4000000 in
theorem mj_s_lstore_n {n : Fin 4} (C : mj_Cx p s m args meth c i R) (K : mj_Kn G s) (hat : mj_at i pc = some (.lstore_n n, len, a, b)) (hs : mj_step i (.lstore_n n, len, a, b) pc ls st h = some (.inl s')) (hL : mj_L G i ls lsC) (hR : mj_Rep G s h H) (hlo : ∀ q ∈ locs, G.2.2.2 < q.base)
  (hc : cells + (s'.2.2.2.2.1 - h.2.1) ≤ R.cells) (hsl : slots + (s'.2.2.2.2.2 - h.2.2) ≤ R.slots)
  (kk : ∀ (lsC' : Array Slot) (H' : Heap) (locs' : List Loc), mj_L G i s'.2.1 lsC' → mj_Rep G s s'.2.2.2 H' → (∀ q ∈ locs', G.2.2.2 < q.base) → W p l e R s m args below meth c H' locs' (cells + (s'.2.2.2.2.1 - h.2.1)) (slots + (s'.2.2.2.2.2 - h.2.2)) Q (F0 m s'.1 lsC' (s'.2.2.1.map (mj_cv G)))) : W p l e R s m args below meth c H locs cells slots Q (F0 m pc lsC (st.map (mj_cv G))) := by
  obtain ⟨hx, hb, hml, hown, hts, hret, hlk, hnm, hfr, hlr⟩ := C
  have hdg0 := mj_dec0 hat
  have hln := mj_len0 hat
  have hck := mj_chk0 hat
  simp only [mj_lnok, mj_ln, beq_iff_eq] at hln
  subst hln
  have hdg := hdg0
  clear hdg0
  simp only [mj_step, mj_nx] at hs
  split at hs
  · rename_i x st1
    split at hs
    · rename_i hcnd
      cases hs
      refine lv_lstore_n (nL := mj_m i) (lv := mj_kl G ls) hx hb hdg rfl hL.has (by have := hL.1; omega) rfl (fun ls2 h2 => ?_)
      exact mj_w0 (x := h.2.1) (y := h.2.2) (kk ls2 H locs (hL.put2 hcnd.1 hcnd.2.2 h2) hR hlo)
    · cases hs
  · cases hs
set_option maxHeartbeats 4000000 in
theorem mj_s_iinc {k : Nat} {n : Int} (C : mj_Cx p s m args meth c i R) (K : mj_Kn G s) (hat : mj_at i pc = some (.iinc k n, len, a, b)) (hs : mj_step i (.iinc k n, len, a, b) pc ls st h = some (.inl s')) (hL : mj_L G i ls lsC) (hR : mj_Rep G s h H) (hlo : ∀ q ∈ locs, G.2.2.2 < q.base)
  (hc : cells + (s'.2.2.2.2.1 - h.2.1) ≤ R.cells) (hsl : slots + (s'.2.2.2.2.2 - h.2.2) ≤ R.slots)
  (kk : ∀ (lsC' : Array Slot) (H' : Heap) (locs' : List Loc), mj_L G i s'.2.1 lsC' → mj_Rep G s s'.2.2.2 H' → (∀ q ∈ locs', G.2.2.2 < q.base) → W p l e R s m args below meth c H' locs' (cells + (s'.2.2.2.2.1 - h.2.1)) (slots + (s'.2.2.2.2.2 - h.2.2)) Q (F0 m s'.1 lsC' (s'.2.2.1.map (mj_cv G)))) : W p l e R s m args below meth c H locs cells slots Q (F0 m pc lsC (st.map (mj_cv G))) := by
  obtain ⟨hx, hb, hml, hown, hts, hret, hlk, hnm, hfr, hlr⟩ := C
  have hdg0 := mj_dec0 hat
  have hln := mj_len0 hat
  have hck := mj_chk0 hat
  simp only [mj_lnok, mj_ln, beq_iff_eq] at hln
  subst hln
  have hdg := hdg0
  clear hdg0
  simp only [mj_step, mj_nx] at hs
  split at hs
  · rename_i x hl
    split at hs
    · rename_i hcnd
      cases hs
      obtain ⟨j, hj⟩ := hL.key (G := G) hl (fun z => by cases z)
      refine lv_iinc (nL := mj_m i) (lv := mj_kl G ls) hx hb hdg hL.has hj rfl (by have h1 := (List.getElem?_eq_some_iff.mp hl).1; have := hL.1; omega) rfl (fun ls2 h2 => ?_)
      exact mj_w0 (x := h.2.1) (y := h.2.2) (kk ls2 H locs (hL.put hcnd (v := .int (x + Int32.ofInt n)) rfl h2) hR hlo)
    · cases hs
  · cases hs
set_option maxHeartbeats 4000000 in
theorem mj_s_dup (C : mj_Cx p s m args meth c i R) (K : mj_Kn G s) (hat : mj_at i pc = some (.dup, len, a, b)) (hs : mj_step i (.dup, len, a, b) pc ls st h = some (.inl s')) (hL : mj_L G i ls lsC) (hR : mj_Rep G s h H) (hlo : ∀ q ∈ locs, G.2.2.2 < q.base)
  (hc : cells + (s'.2.2.2.2.1 - h.2.1) ≤ R.cells) (hsl : slots + (s'.2.2.2.2.2 - h.2.2) ≤ R.slots)
  (kk : ∀ (lsC' : Array Slot) (H' : Heap) (locs' : List Loc), mj_L G i s'.2.1 lsC' → mj_Rep G s s'.2.2.2 H' → (∀ q ∈ locs', G.2.2.2 < q.base) → W p l e R s m args below meth c H' locs' (cells + (s'.2.2.2.2.1 - h.2.1)) (slots + (s'.2.2.2.2.2 - h.2.2)) Q (F0 m s'.1 lsC' (s'.2.2.1.map (mj_cv G)))) : W p l e R s m args below meth c H locs cells slots Q (F0 m pc lsC (st.map (mj_cv G))) := by
  obtain ⟨hx, hb, hml, hown, hts, hret, hlk, hnm, hfr, hlr⟩ := C
  have hdg0 := mj_dec0 hat
  have hln := mj_len0 hat
  have hck := mj_chk0 hat
  simp only [mj_lnok, mj_ln, beq_iff_eq] at hln
  subst hln
  have hdg := hdg0
  clear hdg0
  simp only [mj_step, mj_nx] at hs
  split at hs
  · rename_i v st1
    split at hs
    · rename_i hv
      cases hs
      refine lv_dup hx hb hdg (mj_cat hv) ?_
      exact mj_w0 (x := h.2.1) (y := h.2.2) (kk lsC H locs hL hR hlo)
    · cases hs
  · cases hs
set_option maxHeartbeats 4000000 in
theorem mj_s_pop (C : mj_Cx p s m args meth c i R) (K : mj_Kn G s) (hat : mj_at i pc = some (.pop, len, a, b)) (hs : mj_step i (.pop, len, a, b) pc ls st h = some (.inl s')) (hL : mj_L G i ls lsC) (hR : mj_Rep G s h H) (hlo : ∀ q ∈ locs, G.2.2.2 < q.base)
  (hc : cells + (s'.2.2.2.2.1 - h.2.1) ≤ R.cells) (hsl : slots + (s'.2.2.2.2.2 - h.2.2) ≤ R.slots)
  (kk : ∀ (lsC' : Array Slot) (H' : Heap) (locs' : List Loc), mj_L G i s'.2.1 lsC' → mj_Rep G s s'.2.2.2 H' → (∀ q ∈ locs', G.2.2.2 < q.base) → W p l e R s m args below meth c H' locs' (cells + (s'.2.2.2.2.1 - h.2.1)) (slots + (s'.2.2.2.2.2 - h.2.2)) Q (F0 m s'.1 lsC' (s'.2.2.1.map (mj_cv G)))) : W p l e R s m args below meth c H locs cells slots Q (F0 m pc lsC (st.map (mj_cv G))) := by
  obtain ⟨hx, hb, hml, hown, hts, hret, hlk, hnm, hfr, hlr⟩ := C
  have hdg0 := mj_dec0 hat
  have hln := mj_len0 hat
  have hck := mj_chk0 hat
  simp only [mj_lnok, mj_ln, beq_iff_eq] at hln
  subst hln
  have hdg := hdg0
  clear hdg0
  simp only [mj_step, mj_nx] at hs
  split at hs
  · rename_i v st1
    split at hs
    · rename_i hv
      cases hs
      refine lv_pop hx hb hdg (mj_cat hv) ?_
      exact mj_w0 (x := h.2.1) (y := h.2.2) (kk lsC H locs hL hR hlo)
    · cases hs
  · cases hs
set_option maxHeartbeats 4000000 in
theorem mj_s_dup2 (C : mj_Cx p s m args meth c i R) (K : mj_Kn G s) (hat : mj_at i pc = some (.dup2, len, a, b)) (hs : mj_step i (.dup2, len, a, b) pc ls st h = some (.inl s')) (hL : mj_L G i ls lsC) (hR : mj_Rep G s h H) (hlo : ∀ q ∈ locs, G.2.2.2 < q.base)
  (hc : cells + (s'.2.2.2.2.1 - h.2.1) ≤ R.cells) (hsl : slots + (s'.2.2.2.2.2 - h.2.2) ≤ R.slots)
  (kk : ∀ (lsC' : Array Slot) (H' : Heap) (locs' : List Loc), mj_L G i s'.2.1 lsC' → mj_Rep G s s'.2.2.2 H' → (∀ q ∈ locs', G.2.2.2 < q.base) → W p l e R s m args below meth c H' locs' (cells + (s'.2.2.2.2.1 - h.2.1)) (slots + (s'.2.2.2.2.2 - h.2.2)) Q (F0 m s'.1 lsC' (s'.2.2.1.map (mj_cv G)))) : W p l e R s m args below meth c H locs cells slots Q (F0 m pc lsC (st.map (mj_cv G))) := by
  obtain ⟨hx, hb, hml, hown, hts, hret, hlk, hnm, hfr, hlr⟩ := C
  have hdg0 := mj_dec0 hat
  have hln := mj_len0 hat
  have hck := mj_chk0 hat
  simp only [mj_lnok, mj_ln, beq_iff_eq] at hln
  subst hln
  have hdg := hdg0
  clear hdg0
  simp only [mj_step, mj_nx] at hs
  split at hs
  · rename_i v w st1
    split at hs
    · rename_i hv
      cases hs
      refine lv_dup2_11 hx hb hdg (mj_cat hv.1) (mj_cat hv.2) ?_
      exact mj_w0 (x := h.2.1) (y := h.2.2) (kk lsC H locs hL hR hlo)
    · cases hs
  · cases hs
set_option maxHeartbeats 4000000 in
theorem mj_s_goto {n : Int} (C : mj_Cx p s m args meth c i R) (K : mj_Kn G s) (hat : mj_at i pc = some (.goto n, len, a, b)) (hs : mj_step i (.goto n, len, a, b) pc ls st h = some (.inl s')) (hL : mj_L G i ls lsC) (hR : mj_Rep G s h H) (hlo : ∀ q ∈ locs, G.2.2.2 < q.base)
  (hc : cells + (s'.2.2.2.2.1 - h.2.1) ≤ R.cells) (hsl : slots + (s'.2.2.2.2.2 - h.2.2) ≤ R.slots)
  (kk : ∀ (lsC' : Array Slot) (H' : Heap) (locs' : List Loc), mj_L G i s'.2.1 lsC' → mj_Rep G s s'.2.2.2 H' → (∀ q ∈ locs', G.2.2.2 < q.base) → W p l e R s m args below meth c H' locs' (cells + (s'.2.2.2.2.1 - h.2.1)) (slots + (s'.2.2.2.2.2 - h.2.2)) Q (F0 m s'.1 lsC' (s'.2.2.1.map (mj_cv G)))) : W p l e R s m args below meth c H locs cells slots Q (F0 m pc lsC (st.map (mj_cv G))) := by
  obtain ⟨hx, hb, hml, hown, hts, hret, hlk, hnm, hfr, hlr⟩ := C
  have hdg0 := mj_dec0 hat
  have hln := mj_len0 hat
  have hck := mj_chk0 hat
  simp only [mj_lnok, mj_ln, beq_iff_eq] at hln
  subst hln
  have hdg := hdg0
  clear hdg0
  simp only [mj_chk, decide_eq_true_eq] at hck
  simp only [mj_step, mj_nx] at hs
  cases hs
  refine lv_goto hx hb hdg hck ?_
  exact mj_w0 (x := h.2.1) (y := h.2.2) (kk lsC H locs hL hR hlo)
set_option maxHeartbeats 4000000 in
theorem mj_s_if_eq {n : Int} (C : mj_Cx p s m args meth c i R) (K : mj_Kn G s) (hat : mj_at i pc = some (.ifCond .eq n, len, a, b)) (hs : mj_step i (.ifCond .eq n, len, a, b) pc ls st h = some (.inl s')) (hL : mj_L G i ls lsC) (hR : mj_Rep G s h H) (hlo : ∀ q ∈ locs, G.2.2.2 < q.base)
  (hc : cells + (s'.2.2.2.2.1 - h.2.1) ≤ R.cells) (hsl : slots + (s'.2.2.2.2.2 - h.2.2) ≤ R.slots)
  (kk : ∀ (lsC' : Array Slot) (H' : Heap) (locs' : List Loc), mj_L G i s'.2.1 lsC' → mj_Rep G s s'.2.2.2 H' → (∀ q ∈ locs', G.2.2.2 < q.base) → W p l e R s m args below meth c H' locs' (cells + (s'.2.2.2.2.1 - h.2.1)) (slots + (s'.2.2.2.2.2 - h.2.2)) Q (F0 m s'.1 lsC' (s'.2.2.1.map (mj_cv G)))) : W p l e R s m args below meth c H locs cells slots Q (F0 m pc lsC (st.map (mj_cv G))) := by
  obtain ⟨hx, hb, hml, hown, hts, hret, hlk, hnm, hfr, hlr⟩ := C
  have hdg0 := mj_dec0 hat
  have hln := mj_len0 hat
  have hck := mj_chk0 hat
  simp only [mj_lnok, mj_ln, beq_iff_eq] at hln
  subst hln
  have hdg := hdg0
  clear hdg0
  simp only [mj_chk, decide_eq_true_eq] at hck
  simp only [mj_step, mj_nx, mj_cond, decide_eq_true_eq] at hs
  split at hs
  · rename_i x st1
    refine lv_if_eq hx hb hdg hck (fun hz => ?_) (fun hz => ?_)
    · simp only [hz, if_true, if_false, not_true_eq_false, not_false_eq_true] at hs
      cases hs
      exact mj_w0 (x := h.2.1) (y := h.2.2) (kk lsC H locs hL hR hlo)
    · simp only [hz, if_true, if_false, not_true_eq_false, not_false_eq_true] at hs
      cases hs
      exact mj_w0 (x := h.2.1) (y := h.2.2) (kk lsC H locs hL hR hlo)
  · cases hs
set_option maxHeartbeats 4000000 in
theorem mj_s_ic_eq {n : Int} (C : mj_Cx p s m args meth c i R) (K : mj_Kn G s) (hat : mj_at i pc = some (.if_icmp .eq n, len, a, b)) (hs : mj_step i (.if_icmp .eq n, len, a, b) pc ls st h = some (.inl s')) (hL : mj_L G i ls lsC) (hR : mj_Rep G s h H) (hlo : ∀ q ∈ locs, G.2.2.2 < q.base)
  (hc : cells + (s'.2.2.2.2.1 - h.2.1) ≤ R.cells) (hsl : slots + (s'.2.2.2.2.2 - h.2.2) ≤ R.slots)
  (kk : ∀ (lsC' : Array Slot) (H' : Heap) (locs' : List Loc), mj_L G i s'.2.1 lsC' → mj_Rep G s s'.2.2.2 H' → (∀ q ∈ locs', G.2.2.2 < q.base) → W p l e R s m args below meth c H' locs' (cells + (s'.2.2.2.2.1 - h.2.1)) (slots + (s'.2.2.2.2.2 - h.2.2)) Q (F0 m s'.1 lsC' (s'.2.2.1.map (mj_cv G)))) : W p l e R s m args below meth c H locs cells slots Q (F0 m pc lsC (st.map (mj_cv G))) := by
  obtain ⟨hx, hb, hml, hown, hts, hret, hlk, hnm, hfr, hlr⟩ := C
  have hdg0 := mj_dec0 hat
  have hln := mj_len0 hat
  have hck := mj_chk0 hat
  simp only [mj_lnok, mj_ln, beq_iff_eq] at hln
  subst hln
  have hdg := hdg0
  clear hdg0
  simp only [mj_chk, decide_eq_true_eq] at hck
  simp only [mj_step, mj_nx, mj_cond, decide_eq_true_eq] at hs
  split at hs
  · rename_i y x st1
    by_cases hz : x = y
    · rw [if_pos hz] at hs
      cases hs
      exact lv_icmp_eq hx hb hdg hck (fun _ => mj_w0 (x := h.2.1) (y := h.2.2) (kk lsC H locs hL hR hlo)) (fun q => absurd hz (by simpa using q))
    · rw [if_neg hz] at hs
      cases hs
      exact lv_icmp_eq hx hb hdg hck (fun q => absurd q hz) (fun _ => mj_w0 (x := h.2.1) (y := h.2.2) (kk lsC H locs hL hR hlo))
  · cases hs
set_option maxHeartbeats 4000000 in
theorem mj_s_if_ne {n : Int} (C : mj_Cx p s m args meth c i R) (K : mj_Kn G s) (hat : mj_at i pc = some (.ifCond .ne n, len, a, b)) (hs : mj_step i (.ifCond .ne n, len, a, b) pc ls st h = some (.inl s')) (hL : mj_L G i ls lsC) (hR : mj_Rep G s h H) (hlo : ∀ q ∈ locs, G.2.2.2 < q.base)
  (hc : cells + (s'.2.2.2.2.1 - h.2.1) ≤ R.cells) (hsl : slots + (s'.2.2.2.2.2 - h.2.2) ≤ R.slots)
  (kk : ∀ (lsC' : Array Slot) (H' : Heap) (locs' : List Loc), mj_L G i s'.2.1 lsC' → mj_Rep G s s'.2.2.2 H' → (∀ q ∈ locs', G.2.2.2 < q.base) → W p l e R s m args below meth c H' locs' (cells + (s'.2.2.2.2.1 - h.2.1)) (slots + (s'.2.2.2.2.2 - h.2.2)) Q (F0 m s'.1 lsC' (s'.2.2.1.map (mj_cv G)))) : W p l e R s m args below meth c H locs cells slots Q (F0 m pc lsC (st.map (mj_cv G))) := by
  obtain ⟨hx, hb, hml, hown, hts, hret, hlk, hnm, hfr, hlr⟩ := C
  have hdg0 := mj_dec0 hat
  have hln := mj_len0 hat
  have hck := mj_chk0 hat
  simp only [mj_lnok, mj_ln, beq_iff_eq] at hln
  subst hln
  have hdg := hdg0
  clear hdg0
  simp only [mj_chk, decide_eq_true_eq] at hck
  simp only [mj_step, mj_nx, mj_cond, decide_eq_true_eq] at hs
  split at hs
  · rename_i x st1
    refine lv_if_ne hx hb hdg hck (fun hz => ?_) (fun hz => ?_)
    · simp only [hz, if_true, if_false, not_true_eq_false, not_false_eq_true] at hs
      cases hs
      exact mj_w0 (x := h.2.1) (y := h.2.2) (kk lsC H locs hL hR hlo)
    · simp only [hz, if_true, if_false, not_true_eq_false, not_false_eq_true] at hs
      cases hs
      exact mj_w0 (x := h.2.1) (y := h.2.2) (kk lsC H locs hL hR hlo)
  · cases hs
set_option maxHeartbeats 4000000 in
theorem mj_s_ic_ne {n : Int} (C : mj_Cx p s m args meth c i R) (K : mj_Kn G s) (hat : mj_at i pc = some (.if_icmp .ne n, len, a, b)) (hs : mj_step i (.if_icmp .ne n, len, a, b) pc ls st h = some (.inl s')) (hL : mj_L G i ls lsC) (hR : mj_Rep G s h H) (hlo : ∀ q ∈ locs, G.2.2.2 < q.base)
  (hc : cells + (s'.2.2.2.2.1 - h.2.1) ≤ R.cells) (hsl : slots + (s'.2.2.2.2.2 - h.2.2) ≤ R.slots)
  (kk : ∀ (lsC' : Array Slot) (H' : Heap) (locs' : List Loc), mj_L G i s'.2.1 lsC' → mj_Rep G s s'.2.2.2 H' → (∀ q ∈ locs', G.2.2.2 < q.base) → W p l e R s m args below meth c H' locs' (cells + (s'.2.2.2.2.1 - h.2.1)) (slots + (s'.2.2.2.2.2 - h.2.2)) Q (F0 m s'.1 lsC' (s'.2.2.1.map (mj_cv G)))) : W p l e R s m args below meth c H locs cells slots Q (F0 m pc lsC (st.map (mj_cv G))) := by
  obtain ⟨hx, hb, hml, hown, hts, hret, hlk, hnm, hfr, hlr⟩ := C
  have hdg0 := mj_dec0 hat
  have hln := mj_len0 hat
  have hck := mj_chk0 hat
  simp only [mj_lnok, mj_ln, beq_iff_eq] at hln
  subst hln
  have hdg := hdg0
  clear hdg0
  simp only [mj_chk, decide_eq_true_eq] at hck
  simp only [mj_step, mj_nx, mj_cond, decide_eq_true_eq] at hs
  split at hs
  · rename_i y x st1
    by_cases hz : ¬ x = y
    · rw [if_pos hz] at hs
      cases hs
      exact lv_icmp_ne hx hb hdg hck (fun _ => mj_w0 (x := h.2.1) (y := h.2.2) (kk lsC H locs hL hR hlo)) (fun q => absurd hz (by simpa using q))
    · rw [if_neg hz] at hs
      cases hs
      exact lv_icmp_ne hx hb hdg hck (fun q => absurd q hz) (fun _ => mj_w0 (x := h.2.1) (y := h.2.2) (kk lsC H locs hL hR hlo))
  · cases hs
set_option maxHeartbeats 4000000 in
theorem mj_s_if_lt {n : Int} (C : mj_Cx p s m args meth c i R) (K : mj_Kn G s) (hat : mj_at i pc = some (.ifCond .lt n, len, a, b)) (hs : mj_step i (.ifCond .lt n, len, a, b) pc ls st h = some (.inl s')) (hL : mj_L G i ls lsC) (hR : mj_Rep G s h H) (hlo : ∀ q ∈ locs, G.2.2.2 < q.base)
  (hc : cells + (s'.2.2.2.2.1 - h.2.1) ≤ R.cells) (hsl : slots + (s'.2.2.2.2.2 - h.2.2) ≤ R.slots)
  (kk : ∀ (lsC' : Array Slot) (H' : Heap) (locs' : List Loc), mj_L G i s'.2.1 lsC' → mj_Rep G s s'.2.2.2 H' → (∀ q ∈ locs', G.2.2.2 < q.base) → W p l e R s m args below meth c H' locs' (cells + (s'.2.2.2.2.1 - h.2.1)) (slots + (s'.2.2.2.2.2 - h.2.2)) Q (F0 m s'.1 lsC' (s'.2.2.1.map (mj_cv G)))) : W p l e R s m args below meth c H locs cells slots Q (F0 m pc lsC (st.map (mj_cv G))) := by
  obtain ⟨hx, hb, hml, hown, hts, hret, hlk, hnm, hfr, hlr⟩ := C
  have hdg0 := mj_dec0 hat
  have hln := mj_len0 hat
  have hck := mj_chk0 hat
  simp only [mj_lnok, mj_ln, beq_iff_eq] at hln
  subst hln
  have hdg := hdg0
  clear hdg0
  simp only [mj_chk, decide_eq_true_eq] at hck
  simp only [mj_step, mj_nx, mj_cond, decide_eq_true_eq] at hs
  split at hs
  · rename_i x st1
    refine lv_if_lt hx hb hdg hck (fun hz => ?_) (fun hz => ?_)
    · simp only [hz, if_true, if_false, not_true_eq_false, not_false_eq_true] at hs
      cases hs
      exact mj_w0 (x := h.2.1) (y := h.2.2) (kk lsC H locs hL hR hlo)
    · simp only [hz, if_true, if_false, not_true_eq_false, not_false_eq_true] at hs
      cases hs
      exact mj_w0 (x := h.2.1) (y := h.2.2) (kk lsC H locs hL hR hlo)
  · cases hs
set_option maxHeartbeats 4000000 in
theorem mj_s_ic_lt {n : Int} (C : mj_Cx p s m args meth c i R) (K : mj_Kn G s) (hat : mj_at i pc = some (.if_icmp .lt n, len, a, b)) (hs : mj_step i (.if_icmp .lt n, len, a, b) pc ls st h = some (.inl s')) (hL : mj_L G i ls lsC) (hR : mj_Rep G s h H) (hlo : ∀ q ∈ locs, G.2.2.2 < q.base)
  (hc : cells + (s'.2.2.2.2.1 - h.2.1) ≤ R.cells) (hsl : slots + (s'.2.2.2.2.2 - h.2.2) ≤ R.slots)
  (kk : ∀ (lsC' : Array Slot) (H' : Heap) (locs' : List Loc), mj_L G i s'.2.1 lsC' → mj_Rep G s s'.2.2.2 H' → (∀ q ∈ locs', G.2.2.2 < q.base) → W p l e R s m args below meth c H' locs' (cells + (s'.2.2.2.2.1 - h.2.1)) (slots + (s'.2.2.2.2.2 - h.2.2)) Q (F0 m s'.1 lsC' (s'.2.2.1.map (mj_cv G)))) : W p l e R s m args below meth c H locs cells slots Q (F0 m pc lsC (st.map (mj_cv G))) := by
  obtain ⟨hx, hb, hml, hown, hts, hret, hlk, hnm, hfr, hlr⟩ := C
  have hdg0 := mj_dec0 hat
  have hln := mj_len0 hat
  have hck := mj_chk0 hat
  simp only [mj_lnok, mj_ln, beq_iff_eq] at hln
  subst hln
  have hdg := hdg0
  clear hdg0
  simp only [mj_chk, decide_eq_true_eq] at hck
  simp only [mj_step, mj_nx, mj_cond, decide_eq_true_eq] at hs
  split at hs
  · rename_i y x st1
    by_cases hz : x < y
    · rw [if_pos hz] at hs
      cases hs
      exact lv_icmp_lt hx hb hdg hck (fun _ => mj_w0 (x := h.2.1) (y := h.2.2) (kk lsC H locs hL hR hlo)) (fun q => absurd hz (by simpa using q))
    · rw [if_neg hz] at hs
      cases hs
      exact lv_icmp_lt hx hb hdg hck (fun q => absurd q hz) (fun _ => mj_w0 (x := h.2.1) (y := h.2.2) (kk lsC H locs hL hR hlo))
  · cases hs
set_option maxHeartbeats 4000000 in
theorem mj_s_if_ge {n : Int} (C : mj_Cx p s m args meth c i R) (K : mj_Kn G s) (hat : mj_at i pc = some (.ifCond .ge n, len, a, b)) (hs : mj_step i (.ifCond .ge n, len, a, b) pc ls st h = some (.inl s')) (hL : mj_L G i ls lsC) (hR : mj_Rep G s h H) (hlo : ∀ q ∈ locs, G.2.2.2 < q.base)
  (hc : cells + (s'.2.2.2.2.1 - h.2.1) ≤ R.cells) (hsl : slots + (s'.2.2.2.2.2 - h.2.2) ≤ R.slots)
  (kk : ∀ (lsC' : Array Slot) (H' : Heap) (locs' : List Loc), mj_L G i s'.2.1 lsC' → mj_Rep G s s'.2.2.2 H' → (∀ q ∈ locs', G.2.2.2 < q.base) → W p l e R s m args below meth c H' locs' (cells + (s'.2.2.2.2.1 - h.2.1)) (slots + (s'.2.2.2.2.2 - h.2.2)) Q (F0 m s'.1 lsC' (s'.2.2.1.map (mj_cv G)))) : W p l e R s m args below meth c H locs cells slots Q (F0 m pc lsC (st.map (mj_cv G))) := by
  obtain ⟨hx, hb, hml, hown, hts, hret, hlk, hnm, hfr, hlr⟩ := C
  have hdg0 := mj_dec0 hat
  have hln := mj_len0 hat
  have hck := mj_chk0 hat
  simp only [mj_lnok, mj_ln, beq_iff_eq] at hln
  subst hln
  have hdg := hdg0
  clear hdg0
  simp only [mj_chk, decide_eq_true_eq] at hck
  simp only [mj_step, mj_nx, mj_cond, decide_eq_true_eq] at hs
  split at hs
  · rename_i x st1
    refine lv_if_ge hx hb hdg hck (fun hz => ?_) (fun hz => ?_)
    · simp only [hz, if_true, if_false, not_true_eq_false, not_false_eq_true] at hs
      cases hs
      exact mj_w0 (x := h.2.1) (y := h.2.2) (kk lsC H locs hL hR hlo)
    · simp only [hz, if_true, if_false, not_true_eq_false, not_false_eq_true] at hs
      cases hs
      exact mj_w0 (x := h.2.1) (y := h.2.2) (kk lsC H locs hL hR hlo)
  · cases hs
set_option maxHeartbeats 4000000 in
theorem mj_s_ic_ge {n : Int} (C : mj_Cx p s m args meth c i R) (K : mj_Kn G s) (hat : mj_at i pc = some (.if_icmp .ge n, len, a, b)) (hs : mj_step i (.if_icmp .ge n, len, a, b) pc ls st h = some (.inl s')) (hL : mj_L G i ls lsC) (hR : mj_Rep G s h H) (hlo : ∀ q ∈ locs, G.2.2.2 < q.base)
  (hc : cells + (s'.2.2.2.2.1 - h.2.1) ≤ R.cells) (hsl : slots + (s'.2.2.2.2.2 - h.2.2) ≤ R.slots)
  (kk : ∀ (lsC' : Array Slot) (H' : Heap) (locs' : List Loc), mj_L G i s'.2.1 lsC' → mj_Rep G s s'.2.2.2 H' → (∀ q ∈ locs', G.2.2.2 < q.base) → W p l e R s m args below meth c H' locs' (cells + (s'.2.2.2.2.1 - h.2.1)) (slots + (s'.2.2.2.2.2 - h.2.2)) Q (F0 m s'.1 lsC' (s'.2.2.1.map (mj_cv G)))) : W p l e R s m args below meth c H locs cells slots Q (F0 m pc lsC (st.map (mj_cv G))) := by
  obtain ⟨hx, hb, hml, hown, hts, hret, hlk, hnm, hfr, hlr⟩ := C
  have hdg0 := mj_dec0 hat
  have hln := mj_len0 hat
  have hck := mj_chk0 hat
  simp only [mj_lnok, mj_ln, beq_iff_eq] at hln
  subst hln
  have hdg := hdg0
  clear hdg0
  simp only [mj_chk, decide_eq_true_eq] at hck
  simp only [mj_step, mj_nx, mj_cond, decide_eq_true_eq] at hs
  split at hs
  · rename_i y x st1
    by_cases hz : y ≤ x
    · rw [if_pos hz] at hs
      cases hs
      exact lv_icmp_ge hx hb hdg hck (fun _ => mj_w0 (x := h.2.1) (y := h.2.2) (kk lsC H locs hL hR hlo)) (fun q => absurd hz (by simpa using q))
    · rw [if_neg hz] at hs
      cases hs
      exact lv_icmp_ge hx hb hdg hck (fun q => absurd q hz) (fun _ => mj_w0 (x := h.2.1) (y := h.2.2) (kk lsC H locs hL hR hlo))
  · cases hs
set_option maxHeartbeats 4000000 in
theorem mj_s_if_gt {n : Int} (C : mj_Cx p s m args meth c i R) (K : mj_Kn G s) (hat : mj_at i pc = some (.ifCond .gt n, len, a, b)) (hs : mj_step i (.ifCond .gt n, len, a, b) pc ls st h = some (.inl s')) (hL : mj_L G i ls lsC) (hR : mj_Rep G s h H) (hlo : ∀ q ∈ locs, G.2.2.2 < q.base)
  (hc : cells + (s'.2.2.2.2.1 - h.2.1) ≤ R.cells) (hsl : slots + (s'.2.2.2.2.2 - h.2.2) ≤ R.slots)
  (kk : ∀ (lsC' : Array Slot) (H' : Heap) (locs' : List Loc), mj_L G i s'.2.1 lsC' → mj_Rep G s s'.2.2.2 H' → (∀ q ∈ locs', G.2.2.2 < q.base) → W p l e R s m args below meth c H' locs' (cells + (s'.2.2.2.2.1 - h.2.1)) (slots + (s'.2.2.2.2.2 - h.2.2)) Q (F0 m s'.1 lsC' (s'.2.2.1.map (mj_cv G)))) : W p l e R s m args below meth c H locs cells slots Q (F0 m pc lsC (st.map (mj_cv G))) := by
  obtain ⟨hx, hb, hml, hown, hts, hret, hlk, hnm, hfr, hlr⟩ := C
  have hdg0 := mj_dec0 hat
  have hln := mj_len0 hat
  have hck := mj_chk0 hat
  simp only [mj_lnok, mj_ln, beq_iff_eq] at hln
  subst hln
  have hdg := hdg0
  clear hdg0
  simp only [mj_chk, decide_eq_true_eq] at hck
  simp only [mj_step, mj_nx, mj_cond, decide_eq_true_eq] at hs
  split at hs
  · rename_i x st1
    refine lv_if_gt hx hb hdg hck (fun hz => ?_) (fun hz => ?_)
    · simp only [hz, if_true, if_false, not_true_eq_false, not_false_eq_true] at hs
      cases hs
      exact mj_w0 (x := h.2.1) (y := h.2.2) (kk lsC H locs hL hR hlo)
    · simp only [hz, if_true, if_false, not_true_eq_false, not_false_eq_true] at hs
      cases hs
      exact mj_w0 (x := h.2.1) (y := h.2.2) (kk lsC H locs hL hR hlo)
  · cases hs
set_option maxHeartbeats 4000000 in
theorem mj_s_ic_gt {n : Int} (C : mj_Cx p s m args meth c i R) (K : mj_Kn G s) (hat : mj_at i pc = some (.if_icmp .gt n, len, a, b)) (hs : mj_step i (.if_icmp .gt n, len, a, b) pc ls st h = some (.inl s')) (hL : mj_L G i ls lsC) (hR : mj_Rep G s h H) (hlo : ∀ q ∈ locs, G.2.2.2 < q.base)
  (hc : cells + (s'.2.2.2.2.1 - h.2.1) ≤ R.cells) (hsl : slots + (s'.2.2.2.2.2 - h.2.2) ≤ R.slots)
  (kk : ∀ (lsC' : Array Slot) (H' : Heap) (locs' : List Loc), mj_L G i s'.2.1 lsC' → mj_Rep G s s'.2.2.2 H' → (∀ q ∈ locs', G.2.2.2 < q.base) → W p l e R s m args below meth c H' locs' (cells + (s'.2.2.2.2.1 - h.2.1)) (slots + (s'.2.2.2.2.2 - h.2.2)) Q (F0 m s'.1 lsC' (s'.2.2.1.map (mj_cv G)))) : W p l e R s m args below meth c H locs cells slots Q (F0 m pc lsC (st.map (mj_cv G))) := by
  obtain ⟨hx, hb, hml, hown, hts, hret, hlk, hnm, hfr, hlr⟩ := C
  have hdg0 := mj_dec0 hat
  have hln := mj_len0 hat
  have hck := mj_chk0 hat
  simp only [mj_lnok, mj_ln, beq_iff_eq] at hln
  subst hln
  have hdg := hdg0
  clear hdg0
  simp only [mj_chk, decide_eq_true_eq] at hck
  simp only [mj_step, mj_nx, mj_cond, decide_eq_true_eq] at hs
  split at hs
  · rename_i y x st1
    by_cases hz : y < x
    · rw [if_pos hz] at hs
      cases hs
      exact lv_icmp_gt hx hb hdg hck (fun _ => mj_w0 (x := h.2.1) (y := h.2.2) (kk lsC H locs hL hR hlo)) (fun q => absurd hz (by simpa using q))
    · rw [if_neg hz] at hs
      cases hs
      exact lv_icmp_gt hx hb hdg hck (fun q => absurd q hz) (fun _ => mj_w0 (x := h.2.1) (y := h.2.2) (kk lsC H locs hL hR hlo))
  · cases hs
set_option maxHeartbeats 4000000 in
theorem mj_s_if_le {n : Int} (C : mj_Cx p s m args meth c i R) (K : mj_Kn G s) (hat : mj_at i pc = some (.ifCond .le n, len, a, b)) (hs : mj_step i (.ifCond .le n, len, a, b) pc ls st h = some (.inl s')) (hL : mj_L G i ls lsC) (hR : mj_Rep G s h H) (hlo : ∀ q ∈ locs, G.2.2.2 < q.base)
  (hc : cells + (s'.2.2.2.2.1 - h.2.1) ≤ R.cells) (hsl : slots + (s'.2.2.2.2.2 - h.2.2) ≤ R.slots)
  (kk : ∀ (lsC' : Array Slot) (H' : Heap) (locs' : List Loc), mj_L G i s'.2.1 lsC' → mj_Rep G s s'.2.2.2 H' → (∀ q ∈ locs', G.2.2.2 < q.base) → W p l e R s m args below meth c H' locs' (cells + (s'.2.2.2.2.1 - h.2.1)) (slots + (s'.2.2.2.2.2 - h.2.2)) Q (F0 m s'.1 lsC' (s'.2.2.1.map (mj_cv G)))) : W p l e R s m args below meth c H locs cells slots Q (F0 m pc lsC (st.map (mj_cv G))) := by
  obtain ⟨hx, hb, hml, hown, hts, hret, hlk, hnm, hfr, hlr⟩ := C
  have hdg0 := mj_dec0 hat
  have hln := mj_len0 hat
  have hck := mj_chk0 hat
  simp only [mj_lnok, mj_ln, beq_iff_eq] at hln
  subst hln
  have hdg := hdg0
  clear hdg0
  simp only [mj_chk, decide_eq_true_eq] at hck
  simp only [mj_step, mj_nx, mj_cond, decide_eq_true_eq] at hs
  split at hs
  · rename_i x st1
    refine lv_if_le hx hb hdg hck (fun hz => ?_) (fun hz => ?_)
    · simp only [hz, if_true, if_false, not_true_eq_false, not_false_eq_true] at hs
      cases hs
      exact mj_w0 (x := h.2.1) (y := h.2.2) (kk lsC H locs hL hR hlo)
    · simp only [hz, if_true, if_false, not_true_eq_false, not_false_eq_true] at hs
      cases hs
      exact mj_w0 (x := h.2.1) (y := h.2.2) (kk lsC H locs hL hR hlo)
  · cases hs
set_option maxHeartbeats 4000000 in
theorem mj_s_ic_le {n : Int} (C : mj_Cx p s m args meth c i R) (K : mj_Kn G s) (hat : mj_at i pc = some (.if_icmp .le n, len, a, b)) (hs : mj_step i (.if_icmp .le n, len, a, b) pc ls st h = some (.inl s')) (hL : mj_L G i ls lsC) (hR : mj_Rep G s h H) (hlo : ∀ q ∈ locs, G.2.2.2 < q.base)
  (hc : cells + (s'.2.2.2.2.1 - h.2.1) ≤ R.cells) (hsl : slots + (s'.2.2.2.2.2 - h.2.2) ≤ R.slots)
  (kk : ∀ (lsC' : Array Slot) (H' : Heap) (locs' : List Loc), mj_L G i s'.2.1 lsC' → mj_Rep G s s'.2.2.2 H' → (∀ q ∈ locs', G.2.2.2 < q.base) → W p l e R s m args below meth c H' locs' (cells + (s'.2.2.2.2.1 - h.2.1)) (slots + (s'.2.2.2.2.2 - h.2.2)) Q (F0 m s'.1 lsC' (s'.2.2.1.map (mj_cv G)))) : W p l e R s m args below meth c H locs cells slots Q (F0 m pc lsC (st.map (mj_cv G))) := by
  obtain ⟨hx, hb, hml, hown, hts, hret, hlk, hnm, hfr, hlr⟩ := C
  have hdg0 := mj_dec0 hat
  have hln := mj_len0 hat
  have hck := mj_chk0 hat
  simp only [mj_lnok, mj_ln, beq_iff_eq] at hln
  subst hln
  have hdg := hdg0
  clear hdg0
  simp only [mj_chk, decide_eq_true_eq] at hck
  simp only [mj_step, mj_nx, mj_cond, decide_eq_true_eq] at hs
  split at hs
  · rename_i y x st1
    by_cases hz : x ≤ y
    · rw [if_pos hz] at hs
      cases hs
      exact lv_icmp_le hx hb hdg hck (fun _ => mj_w0 (x := h.2.1) (y := h.2.2) (kk lsC H locs hL hR hlo)) (fun q => absurd hz (by simpa using q))
    · rw [if_neg hz] at hs
      cases hs
      exact lv_icmp_le hx hb hdg hck (fun q => absurd q hz) (fun _ => mj_w0 (x := h.2.1) (y := h.2.2) (kk lsC H locs hL hR hlo))
  · cases hs
end MJS
end
section
/-! .. and the steps that look at the store -/
section MJS
variable {p : Program} {l : Launch} {e : Env} {R : Room} {s : State} {m : MethodId} {args : Array Value} {below : List Frame} {meth : Method} {c : Code} {H : Heap} {locs : List Loc} {cells slots : Nat} {Q : State → Prop}
variable {G : mj_G} {i pc len a b : Nat} {ls st : List Value} {h : mj_H} {lsC : Array Slot} {s' : mj_S}

/-- a cell of ints -/
theorem mj_Rep.i0 (R : mj_Rep G s h H) {x : Nat} {l : List Int32} (hx : h.1 x = some (.inl (0, l))) : 0 < x ∧ H[mj_ad G x]? = some (arrV G.2.1.1 l.length (fun j => .int (l.getD j 0))) := by
  rcases (R.2.2.2 x _ hx).2 with ⟨-, h2, h3⟩ | ⟨h1, -⟩ | ⟨h1, -⟩
  · exact ⟨h2, h3⟩
  · cases h1
  · cases h1
theorem mj_Rep.i1 (R : mj_Rep G s h H) {x : Nat} {l : List Int32} (hx : h.1 x = some (.inl (1, l))) : 0 < x ∧ H[mj_ad G x]? = some (arrV G.2.1.2.1 l.length (fun j => .int (l.getD j 0))) := by
  rcases (R.2.2.2 x _ hx).2 with ⟨h1, -⟩ | ⟨-, h2, h3⟩ | ⟨h1, -⟩
  · cases h1
  · exact ⟨h2, h3⟩
  · cases h1
theorem mj_Rep.q (R : mj_Rep G s h H) {x : Nat} {l : List Value} (hx : h.1 x = some (.inr (99, l))) : 0 < x ∧ H[mj_ad G x]? = some (arrV G.2.1.2.2 l.length (fun j => mj_cv G (l.getD j .null))) := by
  obtain ⟨h0, ⟨-, h2⟩ | ⟨h1, -⟩⟩ := (R.2.2.2 x _ hx).2
  · exact ⟨h0, h2⟩
  · exact absurd rfl h1
theorem mj_Rep.o (R : mj_Rep G s h H) {x t : Nat} {fs : List Value} (ht : t ≠ 99) (hx : h.1 x = some (.inr (t, fs))) : 0 < x ∧ ∃ (C : String) (T : u_T) (N : Nat), mj_cl[t]? = some (C, T, N) ∧ fs.length = N ∧ t_OB (mj_ad G x) (G.1.1 t) N (G.1.2 t) H (vp_V (fs.map (mj_cv G))) := by
  obtain ⟨h0, ⟨h1, h2⟩ | ⟨-, h2⟩⟩ := (R.2.2.2 x _ hx).2
  · exact absurd h1 ht
  · exact ⟨h0, h2⟩
theorem mj_oP {x t : Nat} {fs : List Value} {C : String} {T : u_T} {N : Nat} (h1 : mj_cl[t]? = some (C, T, N)) (h2 : t_OB x (G.1.1 t) N (G.1.2 t) H (vp_V fs)) : va_P G.1 mj_cl [(x, .inr (t, fs))] H := by
  intro k q hk
  match k, hk with
  | 0, hk => cases hk; exact ⟨(C, T, N), h1, h2⟩
  | k + 1, hk => simp at hk
theorem mj_lt99 {t : Nat} {C : String} {T : u_T} {N : Nat} (h : mj_cl[t]? = some (C, T, N)) : t ≠ 99 := by
  rintro rfl
  simp at h
theorem mj_nf8 {a b : Nat} (h : b < mj_nf a) : a ≠ 99 := by
  rintro rfl
  simp [mj_nf] at h
theorem mj_okv_ok {G : mj_G} {ty : FieldType} {v : Value} (h : mj_okv ty v = true) : narrow ty (mj_cv G v) = mj_cv G v ∧ fits ty (mj_cv G v) = true := by
  unfold mj_okv at h
  split at h
  · exact ⟨rfl, rfl⟩
  · rename_i x
    simp only [Bool.or_eq_true, beq_iff_eq] at h
    rcases h with rfl | rfl
    · show narrow .boolean (Value.int 0) = Value.int 0 ∧ fits .boolean (Value.int 0) = true
      decide
    · show narrow .boolean (Value.int 1) = Value.int 1 ∧ fits .boolean (Value.int 1) = true
      decide
  · exact ⟨rfl, rfl⟩
  · exact ⟨rfl, rfl⟩
  · exact ⟨rfl, rfl⟩
  · cases h
theorem mj_arr_set {cA : ClassId} {l : List Int32} {j : Nat} {v : Int32} (hj : j < l.length) : (arrV cA l.length (fun j => .int (l.getD j 0))).setSlot j (.int v) = arrV cA (l.set j v).length (fun k => .int ((l.set j v).getD k 0)) := by
  rw [arrV_store, List.length_set]
  congr 1
  funext k
  by_cases hk : k = j
  · subst hk
    simp [updV, List.getD, hj]
  · simp [updV, hk, List.getD, Ne.symm hk]
theorem mj_arr_setq {G : mj_G} {cA : ClassId} {l : List Value} {j : Nat} {v : Nat} (hj : j < l.length) : (arrV cA l.length (fun j => mj_cv G (l.getD j .null))).setSlot j (.ref (mj_ad G v)) = arrV cA (l.set j (.ref v)).length (fun k => mj_cv G ((l.set j (.ref v)).getD k .null)) := by
  rw [arrV_store, List.length_set]
  congr 1
  funext k
  by_cases hk : k = j
  · subst hk
    simp [updV, List.getD, hj, mj_cv]
  · simp [updV, hk, List.getD, Ne.symm hk]
theorem mj_lo {G : mj_G} {locs : List Loc} (hlo : ∀ q ∈ locs, G.2.2.2 < q.base) {x k : Nat} (hp : 0 < x) : ∀ q ∈ locs ++ [⟨mj_ad G x, k⟩], G.2.2.2 < q.base := by
  intro q hq
  rcases List.mem_append.mp hq with h1 | h1
  · exact hlo q h1
  · rw [List.mem_singleton.mp h1]
    show G.2.2.2 < mj_ad G x
    rw [mj_ad_pos hp]
    omega
theorem mj_in {α : Type} {l : List α} {j : Int32} (h0 : ¬ j < 0) (h : j.toNatClampNeg < l.length) {cA : ClassId} {f : Nat → Value} : ¬ (j < 0 ∨ (arrV cA l.length f).slots.size ≤ j.toNatClampNeg) := by
  rw [arrV_size]
  rintro (q | q)
  · exact h0 q
  · omega
set_option maxHeartbeats 4000000 in
theorem mj_s_arraylength (C : mj_Cx p s m args meth c i R) (K : mj_Kn G s) (hat : mj_at i pc = some (.arraylength, len, a, b)) (hs : mj_step i (.arraylength, len, a, b) pc ls st h = some (.inl s')) (hL : mj_L G i ls lsC) (hR : mj_Rep G s h H) (hlo : ∀ q ∈ locs, G.2.2.2 < q.base)
  (hc : cells + (s'.2.2.2.2.1 - h.2.1) ≤ R.cells) (hsl : slots + (s'.2.2.2.2.2 - h.2.2) ≤ R.slots)
  (kk : ∀ (lsC' : Array Slot) (H' : Heap) (locs' : List Loc), mj_L G i s'.2.1 lsC' → mj_Rep G s s'.2.2.2 H' → (∀ q ∈ locs', G.2.2.2 < q.base) → W p l e R s m args below meth c H' locs' (cells + (s'.2.2.2.2.1 - h.2.1)) (slots + (s'.2.2.2.2.2 - h.2.2)) Q (F0 m s'.1 lsC' (s'.2.2.1.map (mj_cv G)))) : W p l e R s m args below meth c H locs cells slots Q (F0 m pc lsC (st.map (mj_cv G))) := by
  obtain ⟨hx, hb, hml, hown, hts, hret, hlk, hnm, hfr, hlr⟩ := C
  have hdg0 := mj_dec0 hat
  have hln := mj_len0 hat
  have hck := mj_chk0 hat
  simp only [mj_lnok, mj_ln, beq_iff_eq] at hln
  subst hln
  have hdg := hdg0
  clear hdg0
  simp only [mj_step, mj_nx] at hs
  split at hs
  · rename_i x st1
    split at hs
    · rename_i t l hcell
      cases hs
      have hc1 := (hR.2.2.2 x _ hcell).2
      rcases hc1 with ⟨rfl, h2, h3⟩ | ⟨rfl, h2, h3⟩ | ⟨rfl, rfl, h3⟩
      · refine W.alen (n := Int32.ofNat l.length) hx hb h3 ((K.1.2 0 _ rfl).1 l.length _) (by rw [arrV_size]) rfl rfl hdg ?_
        exact mj_w0 (x := h.2.1) (y := h.2.2) (kk lsC H locs hL hR hlo)
      · refine W.alen (n := Int32.ofNat l.length) hx hb h3 ((K.1.2 1 _ rfl).1 l.length _) (by rw [arrV_size]) rfl rfl hdg ?_
        exact mj_w0 (x := h.2.1) (y := h.2.2) (kk lsC H locs hL hR hlo)
      · obtain ⟨scr, z1, z2, z3, z4, z5⟩ := h3
        refine W.alen (n := Int32.ofNat l.length) (a := G.2.2.1) hx hb z1 z2 (by rw [z4]) rfl rfl hdg ?_
        exact mj_w0 (x := h.2.1) (y := h.2.2) (kk lsC H locs hL hR hlo)
    · cases hs
  · cases hs
set_option maxHeartbeats 4000000 in
theorem mj_s_iaload (C : mj_Cx p s m args meth c i R) (K : mj_Kn G s) (hat : mj_at i pc = some (.iaload, len, a, b)) (hs : mj_step i (.iaload, len, a, b) pc ls st h = some (.inl s')) (hL : mj_L G i ls lsC) (hR : mj_Rep G s h H) (hlo : ∀ q ∈ locs, G.2.2.2 < q.base)
  (hc : cells + (s'.2.2.2.2.1 - h.2.1) ≤ R.cells) (hsl : slots + (s'.2.2.2.2.2 - h.2.2) ≤ R.slots)
  (kk : ∀ (lsC' : Array Slot) (H' : Heap) (locs' : List Loc), mj_L G i s'.2.1 lsC' → mj_Rep G s s'.2.2.2 H' → (∀ q ∈ locs', G.2.2.2 < q.base) → W p l e R s m args below meth c H' locs' (cells + (s'.2.2.2.2.1 - h.2.1)) (slots + (s'.2.2.2.2.2 - h.2.2)) Q (F0 m s'.1 lsC' (s'.2.2.1.map (mj_cv G)))) : W p l e R s m args below meth c H locs cells slots Q (F0 m pc lsC (st.map (mj_cv G))) := by
  obtain ⟨hx, hb, hml, hown, hts, hret, hlk, hnm, hfr, hlr⟩ := C
  have hdg0 := mj_dec0 hat
  have hln := mj_len0 hat
  have hck := mj_chk0 hat
  simp only [mj_lnok, mj_ln, beq_iff_eq] at hln
  subst hln
  have hdg := hdg0
  clear hdg0
  simp only [mj_step, mj_nx] at hs
  split at hs
  · rename_i j x st1
    split at hs
    · rename_i t l hcell
      split at hs
      · rename_i hcnd
        split at hs
        · rename_i v hv
          cases hs
          have hlt := (List.getElem?_eq_some_iff.mp hv).1
          have hgd : l.getD j.toNatClampNeg 0 = v := by simp [List.getD, hv]
          rcases (hR.2.2.2 x _ hcell).2 with ⟨rfl, h2, h3⟩ | ⟨rfl, h2, h3⟩ | ⟨rfl, rfl, h3⟩
          · refine W.iald (v := .int v) hx hb h3 ((K.1.2 0 _ rfl).1 l.length _) (fun q => by cases q) (mj_in hcnd.2 hlt) (by rw [arrV_read _ _ hlt, hgd]) rfl rfl hdg ?_
            exact mj_w0 (x := h.2.1) (y := h.2.2) (kk lsC H locs hL hR hlo)
          · exact absurd rfl hcnd.1
          · obtain ⟨scr, z1, z2, z3, z4, z5⟩ := h3
            refine W.iald (v := .int v) (a := G.2.2.1) hx hb z1 z2 z3 (by rw [z4]; rintro (q | q); exact hcnd.2 q; omega) (by rw [z5 _ hlt]; exact congrArg (fun w => some (Value.int w)) hgd) rfl rfl hdg ?_
            exact mj_w0 (x := h.2.1) (y := h.2.2) (kk lsC H locs hL hR hlo)
        · cases hs
      · cases hs
    · cases hs
  · cases hs
set_option maxHeartbeats 4000000 in
theorem mj_s_baload (C : mj_Cx p s m args meth c i R) (K : mj_Kn G s) (hat : mj_at i pc = some (.baload, len, a, b)) (hs : mj_step i (.baload, len, a, b) pc ls st h = some (.inl s')) (hL : mj_L G i ls lsC) (hR : mj_Rep G s h H) (hlo : ∀ q ∈ locs, G.2.2.2 < q.base)
  (hc : cells + (s'.2.2.2.2.1 - h.2.1) ≤ R.cells) (hsl : slots + (s'.2.2.2.2.2 - h.2.2) ≤ R.slots)
  (kk : ∀ (lsC' : Array Slot) (H' : Heap) (locs' : List Loc), mj_L G i s'.2.1 lsC' → mj_Rep G s s'.2.2.2 H' → (∀ q ∈ locs', G.2.2.2 < q.base) → W p l e R s m args below meth c H' locs' (cells + (s'.2.2.2.2.1 - h.2.1)) (slots + (s'.2.2.2.2.2 - h.2.2)) Q (F0 m s'.1 lsC' (s'.2.2.1.map (mj_cv G)))) : W p l e R s m args below meth c H locs cells slots Q (F0 m pc lsC (st.map (mj_cv G))) := by
  obtain ⟨hx, hb, hml, hown, hts, hret, hlk, hnm, hfr, hlr⟩ := C
  have hdg0 := mj_dec0 hat
  have hln := mj_len0 hat
  have hck := mj_chk0 hat
  simp only [mj_lnok, mj_ln, beq_iff_eq] at hln
  subst hln
  have hdg := hdg0
  clear hdg0
  simp only [mj_step, mj_nx] at hs
  split at hs
  · rename_i j x st1
    split at hs
    · rename_i t l hcell
      split at hs
      · rename_i hcnd
        split at hs
        · rename_i v hv
          cases hs
          obtain ⟨rfl, hj0⟩ := hcnd
          have hlt := (List.getElem?_eq_some_iff.mp hv).1
          have hgd : l.getD j.toNatClampNeg 0 = v := by simp [List.getD, hv]
          refine W.zald (v := .int v) hx hb (hR.i1 hcell).2 ((K.1.2 1 _ rfl).1 l.length _) (fun q => by cases q) (mj_in hj0 hlt) (by rw [arrV_read _ _ hlt, hgd]) rfl rfl hdg ?_
          exact mj_w0 (x := h.2.1) (y := h.2.2) (kk lsC H locs hL hR hlo)
        · cases hs
      · cases hs
    · cases hs
  · cases hs
set_option maxHeartbeats 4000000 in
theorem mj_s_aaload (C : mj_Cx p s m args meth c i R) (K : mj_Kn G s) (hat : mj_at i pc = some (.aaload, len, a, b)) (hs : mj_step i (.aaload, len, a, b) pc ls st h = some (.inl s')) (hL : mj_L G i ls lsC) (hR : mj_Rep G s h H) (hlo : ∀ q ∈ locs, G.2.2.2 < q.base)
  (hc : cells + (s'.2.2.2.2.1 - h.2.1) ≤ R.cells) (hsl : slots + (s'.2.2.2.2.2 - h.2.2) ≤ R.slots)
  (kk : ∀ (lsC' : Array Slot) (H' : Heap) (locs' : List Loc), mj_L G i s'.2.1 lsC' → mj_Rep G s s'.2.2.2 H' → (∀ q ∈ locs', G.2.2.2 < q.base) → W p l e R s m args below meth c H' locs' (cells + (s'.2.2.2.2.1 - h.2.1)) (slots + (s'.2.2.2.2.2 - h.2.2)) Q (F0 m s'.1 lsC' (s'.2.2.1.map (mj_cv G)))) : W p l e R s m args below meth c H locs cells slots Q (F0 m pc lsC (st.map (mj_cv G))) := by
  obtain ⟨hx, hb, hml, hown, hts, hret, hlk, hnm, hfr, hlr⟩ := C
  have hdg0 := mj_dec0 hat
  have hln := mj_len0 hat
  have hck := mj_chk0 hat
  simp only [mj_lnok, mj_ln, beq_iff_eq] at hln
  subst hln
  have hdg := hdg0
  clear hdg0
  simp only [mj_step, mj_nx] at hs
  split at hs
  · rename_i j x st1
    split at hs
    · rename_i t l hcell
      split at hs
      · rename_i hcnd
        split at hs
        · rename_i v hv
          cases hs
          obtain ⟨rfl, hj0⟩ := hcnd
          have hlt := (List.getElem?_eq_some_iff.mp hv).1
          have hgd : l.getD j.toNatClampNeg .null = .ref v := by simp [List.getD, hv]
          refine W.aald (ty := .object "DumplingBand$March") (v := .ref (mj_ad G v)) hx hb (hR.q hcell).2 ((K.1.2 2 _ rfl).1 l.length _) rfl (fun q => by cases q) (mj_in hj0 hlt) (by rw [arrV_read _ _ hlt, hgd]; rfl) rfl rfl hdg ?_
          exact mj_w0 (x := h.2.1) (y := h.2.2) (kk lsC H locs hL hR hlo)
        · cases hs
      · cases hs
    · cases hs
  · cases hs
set_option maxHeartbeats 4000000 in
theorem mj_s_iastore (C : mj_Cx p s m args meth c i R) (K : mj_Kn G s) (hat : mj_at i pc = some (.iastore, len, a, b)) (hs : mj_step i (.iastore, len, a, b) pc ls st h = some (.inl s')) (hL : mj_L G i ls lsC) (hR : mj_Rep G s h H) (hlo : ∀ q ∈ locs, G.2.2.2 < q.base)
  (hc : cells + (s'.2.2.2.2.1 - h.2.1) ≤ R.cells) (hsl : slots + (s'.2.2.2.2.2 - h.2.2) ≤ R.slots)
  (kk : ∀ (lsC' : Array Slot) (H' : Heap) (locs' : List Loc), mj_L G i s'.2.1 lsC' → mj_Rep G s s'.2.2.2 H' → (∀ q ∈ locs', G.2.2.2 < q.base) → W p l e R s m args below meth c H' locs' (cells + (s'.2.2.2.2.1 - h.2.1)) (slots + (s'.2.2.2.2.2 - h.2.2)) Q (F0 m s'.1 lsC' (s'.2.2.1.map (mj_cv G)))) : W p l e R s m args below meth c H locs cells slots Q (F0 m pc lsC (st.map (mj_cv G))) := by
  obtain ⟨hx, hb, hml, hown, hts, hret, hlk, hnm, hfr, hlr⟩ := C
  have hdg0 := mj_dec0 hat
  have hln := mj_len0 hat
  have hck := mj_chk0 hat
  simp only [mj_lnok, mj_ln, beq_iff_eq] at hln
  subst hln
  have hdg := hdg0
  clear hdg0
  simp only [mj_step, mj_nx] at hs
  split at hs
  · rename_i v j x st1
    split at hs
    · rename_i t l hcell
      split at hs
      · rename_i hcnd
        cases hs
        obtain ⟨rfl, hj0, hlt⟩ := hcnd
        obtain ⟨hp, hcl⟩ := hR.i0 hcell
        refine W.iast hx hb hcl ((K.1.2 0 _ rfl).1 l.length _) (fun q => by cases q) (mj_in hj0 hlt) rfl rfl hdg fun H1 e1 e2 e3 => ?_
        rw [mj_arr_set hlt] at e1
        exact mj_w0 (x := h.2.1) (y := h.2.2) (kk lsC H1 _ hL (hR.up hcell hp e2 e3 (Or.inl ⟨rfl, hp, e1⟩)) (mj_lo hlo hp))
      · cases hs
    · cases hs
  · cases hs
set_option maxHeartbeats 4000000 in
theorem mj_s_bastore (C : mj_Cx p s m args meth c i R) (K : mj_Kn G s) (hat : mj_at i pc = some (.bastore, len, a, b)) (hs : mj_step i (.bastore, len, a, b) pc ls st h = some (.inl s')) (hL : mj_L G i ls lsC) (hR : mj_Rep G s h H) (hlo : ∀ q ∈ locs, G.2.2.2 < q.base)
  (hc : cells + (s'.2.2.2.2.1 - h.2.1) ≤ R.cells) (hsl : slots + (s'.2.2.2.2.2 - h.2.2) ≤ R.slots)
  (kk : ∀ (lsC' : Array Slot) (H' : Heap) (locs' : List Loc), mj_L G i s'.2.1 lsC' → mj_Rep G s s'.2.2.2 H' → (∀ q ∈ locs', G.2.2.2 < q.base) → W p l e R s m args below meth c H' locs' (cells + (s'.2.2.2.2.1 - h.2.1)) (slots + (s'.2.2.2.2.2 - h.2.2)) Q (F0 m s'.1 lsC' (s'.2.2.1.map (mj_cv G)))) : W p l e R s m args below meth c H locs cells slots Q (F0 m pc lsC (st.map (mj_cv G))) := by
  obtain ⟨hx, hb, hml, hown, hts, hret, hlk, hnm, hfr, hlr⟩ := C
  have hdg0 := mj_dec0 hat
  have hln := mj_len0 hat
  have hck := mj_chk0 hat
  simp only [mj_lnok, mj_ln, beq_iff_eq] at hln
  subst hln
  have hdg := hdg0
  clear hdg0
  simp only [mj_step, mj_nx] at hs
  split at hs
  · rename_i v j x st1
    split at hs
    · rename_i t l hcell
      split at hs
      · rename_i hcnd
        cases hs
        obtain ⟨rfl, hj0, hlt, h01⟩ := hcnd
        obtain ⟨hp, hcl⟩ := hR.i1 hcell
        refine W.zast hx hb hcl ((K.1.2 1 _ rfl).1 l.length _) (fun q => by cases q) (mj_in hj0 hlt) rfl rfl hdg fun H1 e1 e2 e3 => ?_
        have hnz : narrow .boolean (.int v) = .int v := (mj_okv_ok (G := G) (ty := .boolean) (v := .int v) h01).1
        rw [hnz, mj_arr_set hlt] at e1
        exact mj_w0 (x := h.2.1) (y := h.2.2) (kk lsC H1 _ hL (hR.up hcell hp e2 e3 (Or.inr (Or.inl ⟨rfl, hp, e1⟩))) (mj_lo hlo hp))
      · cases hs
    · cases hs
  · cases hs
set_option maxHeartbeats 4000000 in
theorem mj_s_aastore (C : mj_Cx p s m args meth c i R) (K : mj_Kn G s) (hat : mj_at i pc = some (.aastore, len, a, b)) (hs : mj_step i (.aastore, len, a, b) pc ls st h = some (.inl s')) (hL : mj_L G i ls lsC) (hR : mj_Rep G s h H) (hlo : ∀ q ∈ locs, G.2.2.2 < q.base)
  (hc : cells + (s'.2.2.2.2.1 - h.2.1) ≤ R.cells) (hsl : slots + (s'.2.2.2.2.2 - h.2.2) ≤ R.slots)
  (kk : ∀ (lsC' : Array Slot) (H' : Heap) (locs' : List Loc), mj_L G i s'.2.1 lsC' → mj_Rep G s s'.2.2.2 H' → (∀ q ∈ locs', G.2.2.2 < q.base) → W p l e R s m args below meth c H' locs' (cells + (s'.2.2.2.2.1 - h.2.1)) (slots + (s'.2.2.2.2.2 - h.2.2)) Q (F0 m s'.1 lsC' (s'.2.2.1.map (mj_cv G)))) : W p l e R s m args below meth c H locs cells slots Q (F0 m pc lsC (st.map (mj_cv G))) := by
  obtain ⟨hx, hb, hml, hown, hts, hret, hlk, hnm, hfr, hlr⟩ := C
  have hdg0 := mj_dec0 hat
  have hln := mj_len0 hat
  have hck := mj_chk0 hat
  simp only [mj_lnok, mj_ln, beq_iff_eq] at hln
  subst hln
  have hdg := hdg0
  clear hdg0
  simp only [mj_step, mj_nx] at hs
  split at hs
  · rename_i v j x st1
    split at hs
    · rename_i t l hcell
      split at hs
      · rename_i hcnd
        cases hs
        obtain ⟨rfl, hj0, hlt, hmc⟩ := hcnd
        obtain ⟨hp, hcl⟩ := hR.q hcell
        unfold mj_isC at hmc
        split at hmc
        · rename_i d fs hv
          have hd : d = 2 := by simpa using hmc
          subst hd
          obtain ⟨hvp, C2, T2, N2, c1, -, cellV, g1, g2, g3, -⟩ := hR.o (by decide) hv
          have hcls := (K.1.1 2 _ c1).2
          have hC2 := (mj_clf c1).1
          subst hC2
          obtain ⟨kA, comp, k1, k2, k3, -⟩ := (K.1.2 2 _ rfl).2
          have hcomp : comp = G.1.1 2 := Option.some.inj (k3.symm.trans hcls.1)
          subst hcomp
          obtain ⟨kC, hkC, -⟩ := hcls.2
          refine W.aast hx hb hcl (fun q h => by cases h) (fun h => by cases h) k1 k2 rfl hkC ⟨hj0, by rw [arrV_size]; exact hlt⟩ g1 (fun q h => by rw [g3] at h; cases h) (by rw [g2]; exact hkC) (by rw [g2]; exact va_assign hcls) rfl rfl hdg fun H1 e1 e2 e3 => ?_
          rw [mj_arr_setq hlt] at e1
          exact mj_w0 (x := h.2.1) (y := h.2.2) (kk lsC H1 _ hL (hR.up hcell hp e2 e3 ⟨hp, Or.inl ⟨rfl, e1⟩⟩) (mj_lo hlo hp))
        · cases hmc
      · cases hs
    · cases hs
  · cases hs
set_option maxHeartbeats 4000000 in
theorem mj_s_getfield {n : Nat} (C : mj_Cx p s m args meth c i R) (K : mj_Kn G s) (hat : mj_at i pc = some (.getfield n, len, a, b)) (hs : mj_step i (.getfield n, len, a, b) pc ls st h = some (.inl s')) (hL : mj_L G i ls lsC) (hR : mj_Rep G s h H) (hlo : ∀ q ∈ locs, G.2.2.2 < q.base)
  (hc : cells + (s'.2.2.2.2.1 - h.2.1) ≤ R.cells) (hsl : slots + (s'.2.2.2.2.2 - h.2.2) ≤ R.slots)
  (kk : ∀ (lsC' : Array Slot) (H' : Heap) (locs' : List Loc), mj_L G i s'.2.1 lsC' → mj_Rep G s s'.2.2.2 H' → (∀ q ∈ locs', G.2.2.2 < q.base) → W p l e R s m args below meth c H' locs' (cells + (s'.2.2.2.2.1 - h.2.1)) (slots + (s'.2.2.2.2.2 - h.2.2)) Q (F0 m s'.1 lsC' (s'.2.2.1.map (mj_cv G)))) : W p l e R s m args below meth c H locs cells slots Q (F0 m pc lsC (st.map (mj_cv G))) := by
  obtain ⟨hx, hb, hml, hown, hts, hret, hlk, hnm, hfr, hlr⟩ := C
  have hdg0 := mj_dec0 hat
  have hln := mj_len0 hat
  have hck := mj_chk0 hat
  simp only [mj_lnok, mj_ln, beq_iff_eq] at hln
  subst hln
  have hdg := hdg0
  clear hdg0
  simp only [mj_chk] at hck
  obtain ⟨hlink, hbn⟩ := mj_fld hck
  simp only [mj_step, mj_nx] at hs
  split at hs
  · rename_i x st1
    split at hs
    · rename_i t fs hcell
      split at hs
      · rename_i hta
        subst hta
        split at hs
        · rename_i v hv
          cases hs
          obtain ⟨hp, C, T, N, c1, c2, c3⟩ := hR.o (mj_nf8 hbn) hcell
          obtain ⟨d1, d2, d3, d4, d5, d6⟩ := mj_clf c1
          subst d3
          refine va_get (ci := t) hx hb hts d4 hown K.1 (mj_oP c1 c3) 0 (fs := fs.map (mj_cv G)) rfl c1 b (by rw [d2]; exact hbn) (hts _ hlink) (fun _ z => z) (v := mj_cv G v) (by rw [List.getElem?_map, hv]; rfl) hdg ?_
          exact mj_w0 (x := h.2.1) (y := h.2.2) (kk lsC H locs hL hR hlo)
        · cases hs
      · cases hs
    · cases hs
  · cases hs
set_option maxHeartbeats 4000000 in
theorem mj_s_putfield {n : Nat} (C : mj_Cx p s m args meth c i R) (K : mj_Kn G s) (hat : mj_at i pc = some (.putfield n, len, a, b)) (hs : mj_step i (.putfield n, len, a, b) pc ls st h = some (.inl s')) (hL : mj_L G i ls lsC) (hR : mj_Rep G s h H) (hlo : ∀ q ∈ locs, G.2.2.2 < q.base)
  (hc : cells + (s'.2.2.2.2.1 - h.2.1) ≤ R.cells) (hsl : slots + (s'.2.2.2.2.2 - h.2.2) ≤ R.slots)
  (kk : ∀ (lsC' : Array Slot) (H' : Heap) (locs' : List Loc), mj_L G i s'.2.1 lsC' → mj_Rep G s s'.2.2.2 H' → (∀ q ∈ locs', G.2.2.2 < q.base) → W p l e R s m args below meth c H' locs' (cells + (s'.2.2.2.2.1 - h.2.1)) (slots + (s'.2.2.2.2.2 - h.2.2)) Q (F0 m s'.1 lsC' (s'.2.2.1.map (mj_cv G)))) : W p l e R s m args below meth c H locs cells slots Q (F0 m pc lsC (st.map (mj_cv G))) := by
  obtain ⟨hx, hb, hml, hown, hts, hret, hlk, hnm, hfr, hlr⟩ := C
  have hdg0 := mj_dec0 hat
  have hln := mj_len0 hat
  have hck := mj_chk0 hat
  simp only [mj_lnok, mj_ln, beq_iff_eq] at hln
  subst hln
  have hdg := hdg0
  clear hdg0
  simp only [mj_chk, Bool.and_eq_true, Bool.or_eq_true, Bool.not_eq_true', beq_iff_eq] at hck
  obtain ⟨hck1, hfinc⟩ := hck
  obtain ⟨hlink, hbn⟩ := mj_fld (by simpa using hck1)
  simp only [mj_step, mj_nx] at hs
  split at hs
  · rename_i v x st1
    split at hs
    · rename_i t fs hcell
      split at hs
      · rename_i hcnd
        obtain ⟨rfl, hbl, hov⟩ := hcnd
        cases hs
        obtain ⟨hp, C, T, N, c1, c2, c3⟩ := hR.o (mj_nf8 hbn) hcell
        obtain ⟨d1, d2, d3, d4, d5, d6⟩ := mj_clf c1
        subst d3
        have hbN : b < N := by rw [d2]; exact hbn
        have hap := va_apart (own := C) (D := G.1) (cl := mj_cl) hts d4 (mj_ft t) d5 d6 K.1 c1
        obtain ⟨cell, q1, q2, q3, q4⟩ := c3
        obtain ⟨hSl, hfc, kC, hkC, hkind⟩ := K.1.1 t _ c1
        obtain ⟨cf, kf, fi, f, hi, hsl2⟩ := hSl b hbN
        have hst := (u_facts hfc hkC (u_lays hts d4 hbN) hi).1
        have hlay := hts _ (d4 _ (u_in_lay hbN))
        obtain ⟨o1, o2⟩ := mj_okv_ok (G := G) hov
        have fin : ∀ H1 : Heap, H1[mj_ad G x]? = some (cell.setSlot f.slot (mj_cv G v)) → H1.size = H.size → (∀ q, q ≠ mj_ad G x → H1[q]? = H[q]?) → W p l e R s m args below meth c H1 (locs ++ [⟨mj_ad G x, f.slot⟩]) cells slots Q (F0 m (pc + 3) lsC (st1.map (mj_cv G))) := by
          intro H1 e1 e2 e3
          rw [hsl2] at e1
          have hob : t_OB (mj_ad G x) (G.1.1 t) N (G.1.2 t) H1 (vp_V ((fs.set b v).map (mj_cv G))) := by
            refine t_OB.to (V := updV (vp_V (fs.map (mj_cv G))) b (mj_cv G v)) ⟨_, e1, q2, q3, t_set q4 hap hbN (mj_cv G v)⟩ (fun j _ => ?_)
            rw [List.map_set]
            exact vp_updV_set (by rw [List.length_map]; exact hbl) _ j
          exact mj_w0 (x := h.2.1) (y := h.2.2) (kk lsC H1 _ hL (hR.up hcell hp e2 e3 ⟨hp, Or.inr ⟨mj_nf8 hbn, C, mj_tf t, N, c1, by rw [List.length_set]; exact c2, hob⟩⟩) (mj_lo hlo hp))
        unfold u_lay at hlay
        by_cases hfin : (mj_tf t b).2.2.2 = true
        · rw [if_pos hfin] at hlay
          rw [hfin] at hfinc
          simp only [Bool.true_eq_false, false_or] at hfinc
          obtain ⟨hinit, hdecl⟩ := hfinc
          have hcf : m.cls = cf := by
            obtain ⟨_, _, c', _, _, _, -, -, hf', -, -, -, hown2, -⟩ := Cond.laysFinal_spec hlay
            have e1 : c' = cf := by have := hi.symm.trans hf'; simp at this; exact this.1.symm
            rw [hdecl] at hown2
            rw [← e1]; exact Option.some.inj (hown.symm.trans hown2)
          have h6 := u_fits hfc hkC hkind (Or.inr hlay) hi (d5 b hbN) o1 o2
          exact W.putFinK hx hb hown (hts _ hlink) hi hst hcf (hnm hinit) (by rw [q2]; exact h6) q1 q3 (by rw [hsl2]; exact k2_hasslot (q4 b hbN)) rfl rfl hdg fin
        · rw [if_neg hfin] at hlay
          have h6 := u_store hfc hkC hkind hlay hi (d5 b hbN) o1 o2
          exact W.putK hx hb (f := f) ⟨hown, hts _ hlink, ⟨_, _, _, hi⟩, hst⟩ (by rw [q2]; exact h6) q1 q3 (by rw [hsl2]; exact k2_hasslot (q4 b hbN)) rfl rfl hdg fin
      · cases hs
    · cases hs
  · cases hs
theorem mj_cv_dfl (G : mj_G) (ty : FieldType) : mj_cv G (defaultValue ty) = defaultValue ty := by cases ty <;> rfl
theorem mj_dfl_len (a : Nat) : (mj_dfl a).length = mj_nf a := by simp [mj_dfl]
theorem mj_dfl_at {a k : Nat} (h : k < mj_nf a) : vp_V ((mj_dfl a).map (mj_cv G)) k = defaultValue (mj_ft a k) := by
  have h1 : ((mj_dfl a).map (mj_cv G))[k]? = some (defaultValue (mj_ft a k)) := by
    simp [mj_dfl, h, mj_cv_dfl]
  simp only [vp_V, List.getD, h1, Option.getD_some]
theorem mj_repl {n : Nat} {v : Int32} : (fun j => Value.int ((List.replicate n v).getD j v)) = fun _ => Value.int v := by
  funext j
  congr 1
  by_cases hj : j < n
  · simp [List.getD, hj]
  · simp [List.getD, hj]
theorem mj_replq {n : Nat} : (fun j => mj_cv G ((List.replicate n Value.null).getD j .null)) = fun _ => Value.null := by
  funext j
  by_cases hj : j < n
  · simp [List.getD, hj, mj_cv]
  · simp [List.getD, hj, mj_cv]
set_option maxHeartbeats 4000000 in
theorem mj_s_new {n : Nat} (C : mj_Cx p s m args meth c i R) (K : mj_Kn G s) (hat : mj_at i pc = some (.new n, len, a, b)) (hs : mj_step i (.new n, len, a, b) pc ls st h = some (.inl s')) (hL : mj_L G i ls lsC) (hR : mj_Rep G s h H) (hlo : ∀ q ∈ locs, G.2.2.2 < q.base)
  (hc : cells + (s'.2.2.2.2.1 - h.2.1) ≤ R.cells) (hsl : slots + (s'.2.2.2.2.2 - h.2.2) ≤ R.slots)
  (kk : ∀ (lsC' : Array Slot) (H' : Heap) (locs' : List Loc), mj_L G i s'.2.1 lsC' → mj_Rep G s s'.2.2.2 H' → (∀ q ∈ locs', G.2.2.2 < q.base) → W p l e R s m args below meth c H' locs' (cells + (s'.2.2.2.2.1 - h.2.1)) (slots + (s'.2.2.2.2.2 - h.2.2)) Q (F0 m s'.1 lsC' (s'.2.2.1.map (mj_cv G)))) : W p l e R s m args below meth c H locs cells slots Q (F0 m pc lsC (st.map (mj_cv G))) := by
  obtain ⟨hx, hb, hml, hown, hts, hret, hlk, hnm, hfr, hlr⟩ := C
  have hdg0 := mj_dec0 hat
  have hln := mj_len0 hat
  have hck := mj_chk0 hat
  simp only [mj_lnok, mj_ln, beq_iff_eq] at hln
  subst hln
  have hdg := hdg0
  clear hdg0
  simp only [mj_chk, Bool.and_eq_true, decide_eq_true_eq] at hck
  obtain ⟨hck1, ha8⟩ := hck
  simp only [mj_step, mj_nx] at hs
  cases hs
  obtain ⟨C, T, N, c1⟩ := mj_cl_ex ha8
  obtain ⟨d1, d2, d3, d4, d5, d6⟩ := mj_clf c1
  subst d1
  subst d2
  have hKn := K.1.1 a _ c1
  have hc1 : cells + (h.2.1 + 1 - h.2.1) ≤ R.cells := hc
  have hc2 : slots + (h.2.2 + (mj_dfl a).length - h.2.2) ≤ R.slots := hsl
  rw [mj_dfl_len] at hc2
  refine W.newcK hx hb hown (hts _ (mj_cls hck1)) (hts _ (mj_ins ha8)) (hts _ (mj_ini (by omega))) rfl hdg (by omega) (by omega) hKn.2.1 rfl fun H1 kC hkC e1 z1 o1 => ?_
  have hob : t_OB (mj_ad G h.2.1) (G.1.1 a) (mj_nf a) (G.1.2 a) H1 (vp_V ((mj_dfl a).map (mj_cv G))) := by
    rw [hR.adnew]
    exact (u_born (mj_ft a) hts d4 hKn hkC e1 d5).to (fun k hk => (mj_dfl_at hk).symm)
  have kz := kk lsC H1 locs hL (hR.new z1 o1 ⟨hR.2.2.1, Or.inr ⟨mj_lt99 c1, _, T, _, c1, mj_dfl_len a, hob⟩⟩) hlo
  have kz2 := mj_w1 (x := h.2.1) (y := h.2.2) (z := (mj_dfl a).length) kz
  rw [mj_dfl_len] at kz2
  have kz3 : W p l e R s m args below meth c H1 locs (cells + 1) (slots + mj_nf a) Q (F0 m (pc + 3) lsC (.ref (mj_ad G h.2.1) :: st.map (mj_cv G))) := kz2
  rw [hR.adnew] at kz3
  exact kz3
set_option maxHeartbeats 4000000 in
theorem mj_s_newarrayI (C : mj_Cx p s m args meth c i R) (K : mj_Kn G s) (hat : mj_at i pc = some (.newarray .int, len, a, b)) (hs : mj_step i (.newarray .int, len, a, b) pc ls st h = some (.inl s')) (hL : mj_L G i ls lsC) (hR : mj_Rep G s h H) (hlo : ∀ q ∈ locs, G.2.2.2 < q.base)
  (hc : cells + (s'.2.2.2.2.1 - h.2.1) ≤ R.cells) (hsl : slots + (s'.2.2.2.2.2 - h.2.2) ≤ R.slots)
  (kk : ∀ (lsC' : Array Slot) (H' : Heap) (locs' : List Loc), mj_L G i s'.2.1 lsC' → mj_Rep G s s'.2.2.2 H' → (∀ q ∈ locs', G.2.2.2 < q.base) → W p l e R s m args below meth c H' locs' (cells + (s'.2.2.2.2.1 - h.2.1)) (slots + (s'.2.2.2.2.2 - h.2.2)) Q (F0 m s'.1 lsC' (s'.2.2.1.map (mj_cv G)))) : W p l e R s m args below meth c H locs cells slots Q (F0 m pc lsC (st.map (mj_cv G))) := by
  obtain ⟨hx, hb, hml, hown, hts, hret, hlk, hnm, hfr, hlr⟩ := C
  have hdg0 := mj_dec0 hat
  have hln := mj_len0 hat
  have hck := mj_chk0 hat
  simp only [mj_lnok, mj_ln, beq_iff_eq] at hln
  subst hln
  have hdg := hdg0
  clear hdg0
  simp only [mj_step, mj_nx] at hs
  split at hs
  · rename_i n st1
    split at hs
    · rename_i hcnd
      cases hs
      have hc1 : cells + (h.2.1 + 1 - h.2.1) ≤ R.cells := hc
      have hc2 : slots + (h.2.2 + (List.replicate n.toNatClampNeg (0 : Int32)).length - h.2.2) ≤ R.slots := hsl
      rw [List.length_replicate] at hc2
      have hby : n.toNatClampNeg * componentBytes (Op.newarray.typeOf .int) ≤ 536870912 := by
        have h4 : componentBytes (Op.newarray.typeOf .int) = 4 := rfl
        rw [h4]
        omega
      refine W.newa (atype := .int) hx hb (hts _ (mj_has_in mj_arrI)) rfl hdg rfl hcnd.1 hby (by omega) (by omega) fun cA kA comp f1 f2 f3 => ?_
      have hcA : cA = G.2.1.1 := Option.some.inj (f1.symm.trans (K.1.2 0 _ rfl).2)
      subst hcA
      generalize hH1 : H.push _ = H1
      have z1 : H1.size = H.size + 1 := by rw [← hH1, Array.size_push]
      have e1 : H1[H.size]? = some (arrV G.2.1.1 n.toNatClampNeg (fun _ => .int 0)) := by rw [← hH1, Array.getElem?_push_size, ← arrV_new]; rfl
      have o1 : ∀ q : Nat, q < H.size → H1[q]? = H[q]? := fun q hq => by rw [← hH1, Array.getElem?_push, if_neg (Nat.ne_of_lt hq)]
      have hcl : mj_cell G s H1 h.2.1 (.inl (0, List.replicate n.toNatClampNeg 0)) := by
        refine (Or.inl ⟨rfl, hR.2.2.1, ?_⟩)
        rw [hR.adnew, e1, mj_repl, List.length_replicate]
      have kz := mj_w1 (x := h.2.1) (y := h.2.2) (z := (List.replicate n.toNatClampNeg (0 : Int32)).length) (kk lsC H1 locs hL (hR.new z1 o1 hcl) hlo)
      rw [List.length_replicate] at kz
      have kz3 : W p l e R s m args below meth c H1 locs (cells + 1) (slots + n.toNatClampNeg) Q (F0 m (pc + 2) lsC (.ref (mj_ad G h.2.1) :: st1.map (mj_cv G))) := kz
      rw [hR.adnew] at kz3
      exact kz3
    · cases hs
  · cases hs
set_option maxHeartbeats 4000000 in
theorem mj_s_newarrayZ (C : mj_Cx p s m args meth c i R) (K : mj_Kn G s) (hat : mj_at i pc = some (.newarray .boolean, len, a, b)) (hs : mj_step i (.newarray .boolean, len, a, b) pc ls st h = some (.inl s')) (hL : mj_L G i ls lsC) (hR : mj_Rep G s h H) (hlo : ∀ q ∈ locs, G.2.2.2 < q.base)
  (hc : cells + (s'.2.2.2.2.1 - h.2.1) ≤ R.cells) (hsl : slots + (s'.2.2.2.2.2 - h.2.2) ≤ R.slots)
  (kk : ∀ (lsC' : Array Slot) (H' : Heap) (locs' : List Loc), mj_L G i s'.2.1 lsC' → mj_Rep G s s'.2.2.2 H' → (∀ q ∈ locs', G.2.2.2 < q.base) → W p l e R s m args below meth c H' locs' (cells + (s'.2.2.2.2.1 - h.2.1)) (slots + (s'.2.2.2.2.2 - h.2.2)) Q (F0 m s'.1 lsC' (s'.2.2.1.map (mj_cv G)))) : W p l e R s m args below meth c H locs cells slots Q (F0 m pc lsC (st.map (mj_cv G))) := by
  obtain ⟨hx, hb, hml, hown, hts, hret, hlk, hnm, hfr, hlr⟩ := C
  have hdg0 := mj_dec0 hat
  have hln := mj_len0 hat
  have hck := mj_chk0 hat
  simp only [mj_lnok, mj_ln, beq_iff_eq] at hln
  subst hln
  have hdg := hdg0
  clear hdg0
  simp only [mj_step, mj_nx] at hs
  split at hs
  · rename_i n st1
    split at hs
    · rename_i hcnd
      cases hs
      have hc1 : cells + (h.2.1 + 1 - h.2.1) ≤ R.cells := hc
      have hc2 : slots + (h.2.2 + (List.replicate n.toNatClampNeg (0 : Int32)).length - h.2.2) ≤ R.slots := hsl
      rw [List.length_replicate] at hc2
      have hby : n.toNatClampNeg * componentBytes (Op.newarray.typeOf .boolean) ≤ 536870912 := by
        have h4 : componentBytes (Op.newarray.typeOf .boolean) = 1 := rfl
        rw [h4]
        omega
      refine W.newa (atype := .boolean) hx hb (hts _ (mj_has_in mj_arrZ)) rfl hdg rfl hcnd.1 hby (by omega) (by omega) fun cA kA comp f1 f2 f3 => ?_
      have hcA : cA = G.2.1.2.1 := Option.some.inj (f1.symm.trans (K.1.2 1 _ rfl).2)
      subst hcA
      generalize hH1 : H.push _ = H1
      have z1 : H1.size = H.size + 1 := by rw [← hH1, Array.size_push]
      have e1 : H1[H.size]? = some (arrV G.2.1.2.1 n.toNatClampNeg (fun _ => .int 0)) := by rw [← hH1, Array.getElem?_push_size, ← arrV_new]; rfl
      have o1 : ∀ q : Nat, q < H.size → H1[q]? = H[q]? := fun q hq => by rw [← hH1, Array.getElem?_push, if_neg (Nat.ne_of_lt hq)]
      have hcl : mj_cell G s H1 h.2.1 (.inl (1, List.replicate n.toNatClampNeg 0)) := by
        refine (Or.inr (Or.inl ⟨rfl, hR.2.2.1, ?_⟩))
        rw [hR.adnew, e1, mj_repl, List.length_replicate]
      have kz := mj_w1 (x := h.2.1) (y := h.2.2) (z := (List.replicate n.toNatClampNeg (0 : Int32)).length) (kk lsC H1 locs hL (hR.new z1 o1 hcl) hlo)
      rw [List.length_replicate] at kz
      have kz3 : W p l e R s m args below meth c H1 locs (cells + 1) (slots + n.toNatClampNeg) Q (F0 m (pc + 2) lsC (.ref (mj_ad G h.2.1) :: st1.map (mj_cv G))) := kz
      rw [hR.adnew] at kz3
      exact kz3
    · cases hs
  · cases hs
set_option maxHeartbeats 4000000 in
theorem mj_s_anewarray {n : Nat} (C : mj_Cx p s m args meth c i R) (K : mj_Kn G s) (hat : mj_at i pc = some (.anewarray n, len, a, b)) (hs : mj_step i (.anewarray n, len, a, b) pc ls st h = some (.inl s')) (hL : mj_L G i ls lsC) (hR : mj_Rep G s h H) (hlo : ∀ q ∈ locs, G.2.2.2 < q.base)
  (hc : cells + (s'.2.2.2.2.1 - h.2.1) ≤ R.cells) (hsl : slots + (s'.2.2.2.2.2 - h.2.2) ≤ R.slots)
  (kk : ∀ (lsC' : Array Slot) (H' : Heap) (locs' : List Loc), mj_L G i s'.2.1 lsC' → mj_Rep G s s'.2.2.2 H' → (∀ q ∈ locs', G.2.2.2 < q.base) → W p l e R s m args below meth c H' locs' (cells + (s'.2.2.2.2.1 - h.2.1)) (slots + (s'.2.2.2.2.2 - h.2.2)) Q (F0 m s'.1 lsC' (s'.2.2.1.map (mj_cv G)))) : W p l e R s m args below meth c H locs cells slots Q (F0 m pc lsC (st.map (mj_cv G))) := by
  obtain ⟨hx, hb, hml, hown, hts, hret, hlk, hnm, hfr, hlr⟩ := C
  have hdg0 := mj_dec0 hat
  have hln := mj_len0 hat
  have hck := mj_chk0 hat
  simp only [mj_lnok, mj_ln, beq_iff_eq] at hln
  subst hln
  have hdg := hdg0
  clear hdg0
  simp only [mj_chk, Bool.and_eq_true, beq_iff_eq] at hck
  obtain ⟨hck1, rfl⟩ := hck
  simp only [mj_step, mj_nx] at hs
  split at hs
  · rename_i n st1
    split at hs
    · rename_i hcnd
      cases hs
      have hc1 : cells + (h.2.1 + 1 - h.2.1) ≤ R.cells := hc
      have hc2 : slots + (h.2.2 + (List.replicate n.toNatClampNeg Value.null).length - h.2.2) ≤ R.slots := hsl
      rw [List.length_replicate] at hc2
      refine W.anew (C := "DumplingBand$March") hx hb hown (hts _ (mj_cls (by simpa using hck1))) (va_AO.use K.2.1) rfl hdg rfl hcnd.1 (by omega) (by omega) (by omega) fun cA kA comp f1 f2 f3 f4 => ?_
      obtain ⟨kA2, comp2, g1, g2, g3, g4⟩ := (K.1.2 2 _ rfl).2
      have hcA : cA = G.2.1.2.2 := Option.some.inj (f1.symm.trans g4)
      subst hcA
      generalize hH1 : H.push _ = H1
      have z1 : H1.size = H.size + 1 := by rw [← hH1, Array.size_push]
      have e1 : H1[H.size]? = some (arrV G.2.1.2.2 n.toNatClampNeg (fun _ => .null)) := by rw [← hH1, Array.getElem?_push_size, ← arrV_new]
      have o1 : ∀ q : Nat, q < H.size → H1[q]? = H[q]? := fun q hq => by rw [← hH1, Array.getElem?_push, if_neg (Nat.ne_of_lt hq)]
      have hcl : mj_cell G s H1 h.2.1 (.inr (99, List.replicate n.toNatClampNeg .null)) := by
        refine ⟨hR.2.2.1, Or.inl ⟨rfl, ?_⟩⟩
        rw [hR.adnew, e1, mj_replq, List.length_replicate]
      have kz := mj_w1 (x := h.2.1) (y := h.2.2) (z := (List.replicate n.toNatClampNeg Value.null).length) (kk lsC H1 locs hL (hR.new z1 o1 hcl) hlo)
      rw [List.length_replicate] at kz
      have kz3 : W p l e R s m args below meth c H1 locs (cells + 1) (slots + n.toNatClampNeg) Q (F0 m (pc + 3) lsC (.ref (mj_ad G h.2.1) :: st1.map (mj_cv G))) := kz
      rw [hR.adnew] at kz3
      exact kz3
    · cases hs
  · cases hs
theorem mj_room {st1 : List Value} (h : st1.length ≤ 4) : ((st1.map (mj_cv G)).map fun v => v.category).sum ≤ 8 := by
  have key : ∀ l : List Value, ((l.map (mj_cv G)).map fun v => v.category).sum ≤ 2 * l.length := by
    intro l
    induction l with
    | nil => simp
    | cons v l ih =>
      have h2 : (mj_cv G v).category ≤ 2 := by rcases lv_cat (mj_cv G v) with q | q <;> omega
      simp only [List.map_cons, List.sum_cons, List.length_cons]
      omega
  have := key st1
  omega
set_option maxHeartbeats 4000000 in
theorem mj_s_objinit {n : Nat} (ha : a = 999) (C : mj_Cx p s m args meth c i R) (K : mj_Kn G s) (hat : mj_at i pc = some (.invokespecial n, len, a, b)) (hs : mj_step i (.invokespecial n, len, a, b) pc ls st h = some (.inl s')) (hL : mj_L G i ls lsC) (hR : mj_Rep G s h H) (hlo : ∀ q ∈ locs, G.2.2.2 < q.base)
  (hc : cells + (s'.2.2.2.2.1 - h.2.1) ≤ R.cells) (hsl : slots + (s'.2.2.2.2.2 - h.2.2) ≤ R.slots)
  (kk : ∀ (lsC' : Array Slot) (H' : Heap) (locs' : List Loc), mj_L G i s'.2.1 lsC' → mj_Rep G s s'.2.2.2 H' → (∀ q ∈ locs', G.2.2.2 < q.base) → W p l e R s m args below meth c H' locs' (cells + (s'.2.2.2.2.1 - h.2.1)) (slots + (s'.2.2.2.2.2 - h.2.2)) Q (F0 m s'.1 lsC' (s'.2.2.1.map (mj_cv G)))) : W p l e R s m args below meth c H locs cells slots Q (F0 m pc lsC (st.map (mj_cv G))) := by
  obtain ⟨hx, hb, hml, hown, hts, hret, hlk, hnm, hfr, hlr⟩ := C
  have hdg0 := mj_dec0 hat
  have hln := mj_len0 hat
  have hck := mj_chk0 hat
  simp only [mj_lnok, mj_ln, beq_iff_eq] at hln
  subst hln
  have hdg := hdg0
  clear hdg0
  subst ha
  simp only [mj_chk] at hck
  have hck2 : mj_lkO.any (fun w => w.1 == mj_w i && w.2.1 == n) = true ∧ 1 ≤ mj_f i ∧ 20 ≤ mj_o i := by
    simp only [Bool.or_eq_true, Bool.and_eq_true, decide_eq_true_eq] at hck
    rcases hck with ⟨-, z, -⟩ | ⟨⟨z, -⟩, z2⟩
    · omega
    · exact ⟨z, z2⟩
  simp only [mj_step, mj_nx, if_true] at hs
  split at hs
  · rename_i x st1
    split at hs
    · rename_i hcnd
      cases hs
      have hrm := mj_room (G := G) hcnd
      refine W.objInit hx hb hown (hts _ (mj_ok hck2.1)) (hts _ (mj_has_in mj_objI)) (hts _ (mj_has_in mj_objC)) rfl (hL.2.1.trans hml.symm) rfl hdg (by omega) (by show 2 * 0 + _ + 12 ≤ _; omega) ?_
      exact mj_w0 (x := h.2.1) (y := h.2.2) (kk lsC H locs hL hR hlo)
    · cases hs
  · cases hs
set_option maxHeartbeats 4000000 in
theorem mj_s_mmax {n : Nat} (ha : a = 998) (C : mj_Cx p s m args meth c i R) (K : mj_Kn G s) (hat : mj_at i pc = some (.invokestatic n, len, a, b)) (hs : mj_step i (.invokestatic n, len, a, b) pc ls st h = some (.inl s')) (hL : mj_L G i ls lsC) (hR : mj_Rep G s h H) (hlo : ∀ q ∈ locs, G.2.2.2 < q.base)
  (hc : cells + (s'.2.2.2.2.1 - h.2.1) ≤ R.cells) (hsl : slots + (s'.2.2.2.2.2 - h.2.2) ≤ R.slots)
  (kk : ∀ (lsC' : Array Slot) (H' : Heap) (locs' : List Loc), mj_L G i s'.2.1 lsC' → mj_Rep G s s'.2.2.2 H' → (∀ q ∈ locs', G.2.2.2 < q.base) → W p l e R s m args below meth c H' locs' (cells + (s'.2.2.2.2.1 - h.2.1)) (slots + (s'.2.2.2.2.2 - h.2.2)) Q (F0 m s'.1 lsC' (s'.2.2.1.map (mj_cv G)))) : W p l e R s m args below meth c H locs cells slots Q (F0 m pc lsC (st.map (mj_cv G))) := by
  obtain ⟨hx, hb, hml, hown, hts, hret, hlk, hnm, hfr, hlr⟩ := C
  have hdg0 := mj_dec0 hat
  have hln := mj_len0 hat
  have hck := mj_chk0 hat
  simp only [mj_lnok, mj_ln, beq_iff_eq] at hln
  subst hln
  have hdg := hdg0
  clear hdg0
  subst ha
  simp only [mj_chk] at hck
  have hck2 : mj_lkX.any (fun w => w.1 == mj_w i && w.2.1 == n && w.2.2.1 == 998) = true ∧ 1 ≤ mj_f i ∧ 21 ≤ mj_o i := by
    simp only [Bool.or_eq_true, Bool.and_eq_true, decide_eq_true_eq] at hck
    rcases hck with ⟨-, z, -⟩ | ⟨⟨⟨z, -⟩, -⟩, z2⟩
    · omega
    · exact ⟨by simpa using z, z2⟩
  simp only [mj_step, mj_nx, if_true] at hs
  split at hs
  · rename_i y x st1
    split at hs
    · rename_i hcnd
      cases hs
      have hrm := mj_room (G := G) hcnd
      have hc1 : cells ≤ R.cells := Nat.le_trans (Nat.le_add_right _ _) hc
      have hc2 : slots ≤ R.slots := Nat.le_trans (Nat.le_add_right _ _) hsl
      refine va_mmax hx hb (hml.trans hL.2.1.symm) hown (hts _ (mj_xk hck2.1)) (hts _ (mj_has_in mj_mathS_max)) (hts _ (mj_ini (k := 10) (by decide))) (hts _ (List.mem_filter.mpr ⟨List.mem_of_getElem? mj_math_max, rfl⟩)) (by omega) (by omega) hc1 hc2 hdg ?_
      exact mj_w0 (x := h.2.1) (y := h.2.2) (kk lsC H locs hL hR hlo)
    · cases hs
  · cases hs
set_option maxHeartbeats 4000000 in
theorem mj_s_mmin {n : Nat} (ha : a = 997) (C : mj_Cx p s m args meth c i R) (K : mj_Kn G s) (hat : mj_at i pc = some (.invokestatic n, len, a, b)) (hs : mj_step i (.invokestatic n, len, a, b) pc ls st h = some (.inl s')) (hL : mj_L G i ls lsC) (hR : mj_Rep G s h H) (hlo : ∀ q ∈ locs, G.2.2.2 < q.base)
  (hc : cells + (s'.2.2.2.2.1 - h.2.1) ≤ R.cells) (hsl : slots + (s'.2.2.2.2.2 - h.2.2) ≤ R.slots)
  (kk : ∀ (lsC' : Array Slot) (H' : Heap) (locs' : List Loc), mj_L G i s'.2.1 lsC' → mj_Rep G s s'.2.2.2 H' → (∀ q ∈ locs', G.2.2.2 < q.base) → W p l e R s m args below meth c H' locs' (cells + (s'.2.2.2.2.1 - h.2.1)) (slots + (s'.2.2.2.2.2 - h.2.2)) Q (F0 m s'.1 lsC' (s'.2.2.1.map (mj_cv G)))) : W p l e R s m args below meth c H locs cells slots Q (F0 m pc lsC (st.map (mj_cv G))) := by
  obtain ⟨hx, hb, hml, hown, hts, hret, hlk, hnm, hfr, hlr⟩ := C
  have hdg0 := mj_dec0 hat
  have hln := mj_len0 hat
  have hck := mj_chk0 hat
  simp only [mj_lnok, mj_ln, beq_iff_eq] at hln
  subst hln
  have hdg := hdg0
  clear hdg0
  subst ha
  simp only [mj_chk] at hck
  have hck2 : mj_lkX.any (fun w => w.1 == mj_w i && w.2.1 == n && w.2.2.1 == 997) = true ∧ 1 ≤ mj_f i ∧ 21 ≤ mj_o i := by
    simp only [Bool.or_eq_true, Bool.and_eq_true, decide_eq_true_eq] at hck
    rcases hck with ⟨-, z, -⟩ | ⟨⟨⟨z, -⟩, -⟩, z2⟩
    · omega
    · exact ⟨by simpa using z, z2⟩
  simp only [mj_step, mj_nx, if_true] at hs
  rw [if_neg (show ¬ (997 : Nat) = 998 by decide)] at hs
  split at hs
  · rename_i y x st1
    split at hs
    · rename_i hcnd
      cases hs
      have hrm := mj_room (G := G) hcnd
      have hc1 : cells ≤ R.cells := Nat.le_trans (Nat.le_add_right _ _) hc
      have hc2 : slots ≤ R.slots := Nat.le_trans (Nat.le_add_right _ _) hsl
      refine va_mmin hx hb (hml.trans hL.2.1.symm) hown (hts _ (mj_xk hck2.1)) (hts _ (mj_has_in mj_mathS_min)) (hts _ (mj_ini (k := 10) (by decide))) (hts _ (List.mem_filter.mpr ⟨List.mem_of_getElem? mj_math_min, rfl⟩)) (by omega) (by omega) hc1 hc2 hdg ?_
      exact mj_w0 (x := h.2.1) (y := h.2.2) (kk lsC H locs hL hR hlo)
    · cases hs
  · cases hs
set_option maxHeartbeats 4000000 in
theorem mj_s_tableswitch {d lo hi : Int} {offs : Array Int} (C : mj_Cx p s m args meth c i R) (K : mj_Kn G s) (hat : mj_at i pc = some (.tableswitch d lo hi offs, len, a, b)) (hs : mj_step i (.tableswitch d lo hi offs, len, a, b) pc ls st h = some (.inl s')) (hL : mj_L G i ls lsC) (hR : mj_Rep G s h H) (hlo : ∀ q ∈ locs, G.2.2.2 < q.base)
  (hc : cells + (s'.2.2.2.2.1 - h.2.1) ≤ R.cells) (hsl : slots + (s'.2.2.2.2.2 - h.2.2) ≤ R.slots)
  (kk : ∀ (lsC' : Array Slot) (H' : Heap) (locs' : List Loc), mj_L G i s'.2.1 lsC' → mj_Rep G s s'.2.2.2 H' → (∀ q ∈ locs', G.2.2.2 < q.base) → W p l e R s m args below meth c H' locs' (cells + (s'.2.2.2.2.1 - h.2.1)) (slots + (s'.2.2.2.2.2 - h.2.2)) Q (F0 m s'.1 lsC' (s'.2.2.1.map (mj_cv G)))) : W p l e R s m args below meth c H locs cells slots Q (F0 m pc lsC (st.map (mj_cv G))) := by
  obtain ⟨hx, hb, hml, hown, hts, hret, hlk, hnm, hfr, hlr⟩ := C
  have hdg := mj_dec0 hat
  simp only [mj_step, mj_nx, mj_jmp] at hs
  split at hs
  · rename_i x st1
    split at hs
    · rename_i hcnd
      split at hs
      · rename_i hpos
        cases hs
        refine lv_tableOut hx hb hdg hcnd (Int.toNat_of_nonneg hpos).symm ?_
        exact mj_w0 (x := h.2.1) (y := h.2.2) (kk lsC H locs hL hR hlo)
      · cases hs
    · rename_i hcnd
      split at hs
      · rename_i off hoff
        split at hs
        · rename_i hpos
          cases hs
          refine lv_tableIn hx hb hdg (fun z => hcnd (Or.inl z)) (fun z => hcnd (Or.inr z)) hoff (Int.toNat_of_nonneg hpos).symm ?_
          exact mj_w0 (x := h.2.1) (y := h.2.2) (kk lsC H locs hL hR hlo)
        · cases hs
      · cases hs
  · cases hs
end MJS
end
section
/-! A RUN OF THE PURE MACHINE IS A RUN OF THE MACHINE -/
section MJM
variable {p : Program} {l : Launch} {e : Env} {R : Room} {s : State} {m : MethodId} {args : Array Value} {below : List Frame} {meth : Method} {c : Code} {H : Heap} {locs : List Loc} {cells slots : Nat} {Q : State → Prop}
variable {G : mj_G} {i pc : Nat} {ls st : List Value} {h : mj_H} {lsC : Array Slot} {s' : mj_S}
theorem mj_call_no {a b : Nat} {st : List Value} {s' : mj_S} : mj_call a b st ≠ some (.inl s') := by
  unfold mj_call
  split <;> intro h <;> cases h
set_option maxHeartbeats 4000000 in
theorem mj_step_ok (q : Instr × Nat × Nat × Nat) (C : mj_Cx p s m args meth c i R) (K : mj_Kn G s) (hat : mj_at i pc = some q) (hs : mj_step i q pc ls st h = some (.inl s')) (hL : mj_L G i ls lsC) (hR : mj_Rep G s h H) (hlo : ∀ q ∈ locs, G.2.2.2 < q.base)
  (hc : cells + (s'.2.2.2.2.1 - h.2.1) ≤ R.cells) (hsl : slots + (s'.2.2.2.2.2 - h.2.2) ≤ R.slots)
  (kk : ∀ (lsC' : Array Slot) (H' : Heap) (locs' : List Loc), mj_L G i s'.2.1 lsC' → mj_Rep G s s'.2.2.2 H' → (∀ q ∈ locs', G.2.2.2 < q.base) → W p l e R s m args below meth c H' locs' (cells + (s'.2.2.2.2.1 - h.2.1)) (slots + (s'.2.2.2.2.2 - h.2.2)) Q (F0 m s'.1 lsC' (s'.2.2.1.map (mj_cv G)))) : W p l e R s m args below meth c H locs cells slots Q (F0 m pc lsC (st.map (mj_cv G))) := by
  obtain ⟨ins, len, a, b⟩ := q
  cases ins with
  | iadd => exact mj_s_iadd C K hat hs hL hR hlo hc hsl kk
  | isub => exact mj_s_isub C K hat hs hL hR hlo hc hsl kk
  | imul => exact mj_s_imul C K hat hs hL hR hlo hc hsl kk
  | iand => exact mj_s_iand C K hat hs hL hR hlo hc hsl kk
  | ior => exact mj_s_ior C K hat hs hL hR hlo hc hsl kk
  | ixor => exact mj_s_ixor C K hat hs hL hR hlo hc hsl kk
  | ishl => exact mj_s_ishl C K hat hs hL hR hlo hc hsl kk
  | ishr => exact mj_s_ishr C K hat hs hL hR hlo hc hsl kk
  | ladd => exact mj_s_ladd C K hat hs hL hR hlo hc hsl kk
  | lmul => exact mj_s_lmul C K hat hs hL hR hlo hc hsl kk
  | land => exact mj_s_land C K hat hs hL hR hlo hc hsl kk
  | lor => exact mj_s_lor C K hat hs hL hR hlo hc hsl kk
  | idiv => exact mj_s_idiv C K hat hs hL hR hlo hc hsl kk
  | irem => exact mj_s_irem C K hat hs hL hR hlo hc hsl kk
  | lrem => exact mj_s_lrem C K hat hs hL hR hlo hc hsl kk
  | iushr => exact mj_s_iushr C K hat hs hL hR hlo hc hsl kk
  | lushr => exact mj_s_lushr C K hat hs hL hR hlo hc hsl kk
  | lshl => exact mj_s_lshl C K hat hs hL hR hlo hc hsl kk
  | lcmp => exact mj_s_lcmp C K hat hs hL hR hlo hc hsl kk
  | i2l => exact mj_s_i2l C K hat hs hL hR hlo hc hsl kk
  | dup => exact mj_s_dup C K hat hs hL hR hlo hc hsl kk
  | pop => exact mj_s_pop C K hat hs hL hR hlo hc hsl kk
  | dup2 => exact mj_s_dup2 C K hat hs hL hR hlo hc hsl kk
  | arraylength => exact mj_s_arraylength C K hat hs hL hR hlo hc hsl kk
  | iaload => exact mj_s_iaload C K hat hs hL hR hlo hc hsl kk
  | baload => exact mj_s_baload C K hat hs hL hR hlo hc hsl kk
  | aaload => exact mj_s_aaload C K hat hs hL hR hlo hc hsl kk
  | iastore => exact mj_s_iastore C K hat hs hL hR hlo hc hsl kk
  | bastore => exact mj_s_bastore C K hat hs hL hR hlo hc hsl kk
  | aastore => exact mj_s_aastore C K hat hs hL hR hlo hc hsl kk
  | iconst n => exact mj_s_iconst C K hat hs hL hR hlo hc hsl kk
  | bipush n => exact mj_s_bipush C K hat hs hL hR hlo hc hsl kk
  | sipush n => exact mj_s_sipush C K hat hs hL hR hlo hc hsl kk
  | lconst n => exact mj_s_lconst C K hat hs hL hR hlo hc hsl kk
  | ldc_w n => exact mj_s_ldc_w C K hat hs hL hR hlo hc hsl kk
  | ldc2_w n => exact mj_s_ldc2_w C K hat hs hL hR hlo hc hsl kk
  | aload_n n => exact mj_s_aload_n C K hat hs hL hR hlo hc hsl kk
  | iload_n n => exact mj_s_iload_n C K hat hs hL hR hlo hc hsl kk
  | iload n => exact mj_s_iload C K hat hs hL hR hlo hc hsl kk
  | lload_n n => exact mj_s_lload_n C K hat hs hL hR hlo hc hsl kk
  | lload n => exact mj_s_lload C K hat hs hL hR hlo hc hsl kk
  | istore_n n => exact mj_s_istore_n C K hat hs hL hR hlo hc hsl kk
  | istore n => exact mj_s_istore C K hat hs hL hR hlo hc hsl kk
  | astore_n n => exact mj_s_astore_n C K hat hs hL hR hlo hc hsl kk
  | lstore_n n => exact mj_s_lstore_n C K hat hs hL hR hlo hc hsl kk
  | goto n => exact mj_s_goto C K hat hs hL hR hlo hc hsl kk
  | getfield n => exact mj_s_getfield C K hat hs hL hR hlo hc hsl kk
  | putfield n => exact mj_s_putfield C K hat hs hL hR hlo hc hsl kk
  | new n => exact mj_s_new C K hat hs hL hR hlo hc hsl kk
  | anewarray n => exact mj_s_anewarray C K hat hs hL hR hlo hc hsl kk
  | iinc k n => exact mj_s_iinc C K hat hs hL hR hlo hc hsl kk
  | ifCond c n =>
    cases c with
    | eq => exact mj_s_if_eq C K hat hs hL hR hlo hc hsl kk
    | ne => exact mj_s_if_ne C K hat hs hL hR hlo hc hsl kk
    | lt => exact mj_s_if_lt C K hat hs hL hR hlo hc hsl kk
    | ge => exact mj_s_if_ge C K hat hs hL hR hlo hc hsl kk
    | gt => exact mj_s_if_gt C K hat hs hL hR hlo hc hsl kk
    | le => exact mj_s_if_le C K hat hs hL hR hlo hc hsl kk
  | if_icmp c n =>
    cases c with
    | eq => exact mj_s_ic_eq C K hat hs hL hR hlo hc hsl kk
    | ne => exact mj_s_ic_ne C K hat hs hL hR hlo hc hsl kk
    | lt => exact mj_s_ic_lt C K hat hs hL hR hlo hc hsl kk
    | ge => exact mj_s_ic_ge C K hat hs hL hR hlo hc hsl kk
    | gt => exact mj_s_ic_gt C K hat hs hL hR hlo hc hsl kk
    | le => exact mj_s_ic_le C K hat hs hL hR hlo hc hsl kk
  | tableswitch d lo hi offs => exact mj_s_tableswitch C K hat hs hL hR hlo hc hsl kk
  | newarray t =>
    cases t with
    | int => exact mj_s_newarrayI C K hat hs hL hR hlo hc hsl kk
    | boolean => exact mj_s_newarrayZ C K hat hs hL hR hlo hc hsl kk
    | _ => simp [mj_step] at hs
  | invokevirtual n =>
    exfalso
    simp only [mj_step] at hs
    split at hs
    · split at hs
      · exact mj_call_no hs
      · cases hs
    · cases hs
  | invokespecial n =>
    by_cases ha : a = 999
    · exact mj_s_objinit ha C K hat hs hL hR hlo hc hsl kk
    · exfalso
      simp only [mj_step, if_neg ha] at hs
      split at hs
      · exact mj_call_no hs
      · cases hs
  | invokestatic n =>
    by_cases ha : a = 998
    · exact mj_s_mmax ha C K hat hs hL hR hlo hc hsl kk
    · by_cases ha2 : a = 997
      · exact mj_s_mmin ha2 C K hat hs hL hR hlo hc hsl kk
      · exfalso
        simp only [mj_step, if_neg ha, if_neg ha2] at hs
        exact mj_call_no hs
  | ireturn =>
    exfalso
    simp only [mj_step] at hs
    split at hs
    · split at hs <;> cases hs
    · cases hs
  | lreturn =>
    exfalso
    simp only [mj_step] at hs
    split at hs
    · split at hs <;> cases hs
    · cases hs
  | return_ =>
    exfalso
    simp only [mj_step] at hs
    split at hs
    · split at hs <;> cases hs
    · cases hs
  | _ => simp [mj_step] at hs
def mj_ws (j : Nat) : List Cond := .code (mj_y j) (mj_b j) (mj_m j) (mj_r j) :: mj_W
def mj_rm (j : Nat) (h hf : mj_H) : Room := { frames := mj_f j, cells := hf.2.1 - h.2.1, slots := hf.2.2 - h.2.2, locals := mj_o j }
def mj_Pc (G : mj_G) (as : List Value) (h : mj_H) : Array Value → State → Prop := fun v U => v = (as.map (mj_cv G)).toArray ∧ mj_Rep G U h U.heap ∧ mj_Kn G U
def mj_Qc (G : mj_G) (v : Option Value) (hf : mj_H) : Array Value → State → Outcome → State → Prop := fun _ _ o t => o = .returned (v.map (mj_cv G)) ∧ mj_Rep G t hf t.heap
theorem mj_good {w : Cond} (h : w ∈ mj_W) : w ∈ mj_W ∧ ((w.onTables && w.keeps) = true ∨ ∃ ty, w = .arrayClass ty) := ⟨h, good_of_word (List.mem_filter.mp h).2⟩
theorem mj_goodIn {j : Nat} (hj : j < 167) : GoodIn mj_W (mj_ws j) := fun w hw => by
  rcases List.mem_cons.mp hw with rfl | hw
  · exact mj_good (mj_cdA j hj)
  · exact mj_good hw
theorem mj_blind {as : List Value} {h : mj_H} : FrameBlind (mj_Pc G as h) := fun a U g mk q => ⟨q.1, q.2.1.moved (u := U) (U := U.calling g mk a) (Vm.Alike.refl U.vm), q.2.2.same (u := U) (U := U.calling g mk a) rfl⟩
def mj_Ret (i pc : Nat) (v : Option Value) : Prop := match v with
  | none => decode (mj_b i) pc = .ok (.return_, 1) ∧ mj_r i = none
  | some (.int x) => decode (mj_b i) pc = .ok (.ireturn, 1) ∧ mj_okr (mj_r i) x = true
  | some (.long _) => decode (mj_b i) pc = .ok (.lreturn, 1) ∧ mj_r i = some .long
  | _ => False
def mj_Snd (l : Launch) (n : Nat) : Prop := ∀ (i pc : Nat) (ls st : List Value) (h : mj_H) (v : Option Value) (hf : mj_H), mj_exec n i (pc, ls, st, h) = some (v, hf) →
  ∀ (p : Program) (e : Env) (R : Room) (s : State) (m : MethodId) (args : Array Value) (below : List Frame) (meth : Method) (c : Code) (H : Heap) (locs : List Loc) (cells slots : Nat) (Q : State → Prop) (lsC : Array Slot) (G : mj_G),
  mj_Cx p s m args meth c i R → mj_Kn G s → mj_L G i ls lsC → mj_Rep G s h H → (∀ q ∈ locs, G.2.2.2 < q.base) → cells + (hf.2.1 - h.2.1) ≤ R.cells → slots + (hf.2.2 - h.2.2) ≤ R.slots →
  (∀ (pc' : Nat) (lsC' : Array Slot) (H' : Heap) (locs' : List Loc), mj_Ret i pc' v → mj_Rep G s hf H' → (∀ q ∈ locs', G.2.2.2 < q.base) → W p l e R s m args below meth c H' locs' (cells + (hf.2.1 - h.2.1)) (slots + (hf.2.2 - h.2.2)) Q (F0 m pc' lsC' ((v.map (mj_cv G)).toList))) →
  W p l e R s m args below meth c H locs cells slots Q (F0 m pc lsC (st.map (mj_cv G)))
theorem mj_xp_len (as : List Value) : (lg_sl (as.map (mj_cv G))).length = (mj_xp as).length := by
  induction as with
  | nil => rfl
  | cons v as ih =>
    simp only [List.map_cons, lg_sl, List.flatMap_cons, List.length_append, mj_cv_cat, mj_xp] at ih ⊢
    split
    · simp only [List.length_cons, List.length_nil]; omega
    · simp only [List.length_cons, List.length_nil]; omega
theorem mj_xp_args (as : List Value) : ∀ (o k : Nat) (v : Value), (mj_xp as)[k]? = some v → v ≠ .null → (o + k, mj_cv G v) ∈ lv_args o (as.map (mj_cv G)) := by
  induction as with
  | nil => intro o k v h; simp [mj_xp] at h
  | cons w as ih =>
    intro o k v h hn
    simp only [mj_xp] at h
    simp only [List.map_cons, lv_args, mj_cv_cat]
    by_cases hc : w.category = 2
    · rw [if_pos hc] at h
      rw [if_pos hc]
      match k, h with
      | 0, h => cases h; exact List.mem_cons_self
      | 1, h => cases h; exact absurd rfl hn
      | k + 2, h =>
        have h2 := ih (o + 2) k v (by simpa using h) hn
        rw [show o + (k + 2) = o + 2 + k by omega]
        exact List.mem_cons_of_mem _ h2
    · rw [if_neg hc] at h
      rw [if_neg hc]
      match k, h with
      | 0, h => cases h; exact List.mem_cons_self
      | k + 1, h =>
        have h2 := ih (o + 1) k v (by simpa using h) hn
        rw [show o + (k + 1) = o + 1 + k by omega]
        exact List.mem_cons_of_mem _ h2
theorem mj_xp_noL {as : List Value} (h : ∀ v ∈ as, mj_noL v = true) : ∀ v ∈ mj_xp as, mj_noL v = true := by
  induction as with
  | nil => intro v hv; cases hv
  | cons w as ih =>
    intro v hv
    have hw := mj_noL_cat (h w List.mem_cons_self)
    simp only [mj_xp] at hv
    rw [if_neg (by omega)] at hv
    rcases List.mem_cons.mp hv with rfl | hv
    · exact h _ List.mem_cons_self
    · exact ih (fun v hv => h v (List.mem_cons_of_mem _ hv)) v hv
theorem mj_entry {j : Nat} {as : List Value} (hlen : (mj_xp as).length ≤ mj_m j) (hno : mj_t j = true → ∀ v ∈ as, mj_noL v = true) : mj_L G j (mj_ent j as) ((lg_sl (as.map (mj_cv G)) ++ List.replicate (mj_m j - (lg_sl (as.map (mj_cv G))).length) Slot.unset).toArray) := by
  have hl := lv_entry (as.map (mj_cv G)) (n := mj_m j) (by rw [mj_xp_len]; exact hlen)
  refine ⟨by simp only [mj_ent, List.length_append, List.length_replicate]; omega, hl.1, hl.2.1, fun k v hk hn => ?_, fun ht v hv => ?_⟩
  · have hk2 : (mj_xp as)[k]? = some v := by
      unfold mj_ent at hk
      by_cases hkl : k < (mj_xp as).length
      · rw [List.getElem?_append_left hkl] at hk
        exact hk
      · rw [List.getElem?_append_right (by omega)] at hk
        exact absurd (List.eq_of_mem_replicate (List.mem_of_getElem? hk)) hn
    have h1 := mj_xp_args (G := G) as 0 k v hk2 hn
    rw [Nat.zero_add] at h1
    exact hl.2.2 _ h1
  · unfold mj_ent at hv
    rcases List.mem_append.mp hv with hv | hv
    · exact mj_xp_noL (hno ht) v hv
    · rw [List.eq_of_mem_replicate hv]; rfl
theorem mj_mfacts {j : Nat} (hj : j < 167) : (if mj_z j = true then Cond.static (mj_y j) else .instanceMethod (mj_y j)) ∈ mj_W ∧ (mj_z j = false → (mj_y j).name ≠ "<init>" → Cond.selects (mj_y j).cls (mj_y j) (mj_y j) ∈ mj_W) ∧ plainName (mj_y j).cls = true ∧ ((mj_y j).cls ≠ "java/lang/invoke/MethodHandle" ∧ (mj_y j).cls ≠ "java/lang/invoke/VarHandle" ∧ (parseMethodDescriptor (mj_y j).desc).map (fun d => d.parameters.length) = some (mj_n j)) ∧ mj_w j < 11 ∧ ((mj_y j).name = "<init>" → mj_r j = none) := by
  have h := mj_chMA hj
  simp only [mj_chM, Bool.and_eq_true, Bool.or_eq_true, decide_eq_true_eq, beq_iff_eq, bne_iff_ne, ne_eq] at h
  obtain ⟨⟨⟨⟨⟨h1, h2⟩, h3⟩, h4⟩, h5⟩, h6⟩ := h
  refine ⟨mj_has_in h1, fun hz hn => ?_, h3, h4, h5, fun hn => ?_⟩
  · rcases h2 with (h2 | h2) | h2
    · rw [hz] at h2; cases h2
    · exact absurd h2 hn
    · exact mj_has_in h2
  · rcases h6 with h6 | h6
    · exact absurd hn h6
    · exact h6
set_option maxHeartbeats 4000000 in
theorem mj_met {n : Nat} (S : mj_Snd l n) {j : Nat} {as : List Value} {h hf : mj_H} {v : Option Value} (he : mj_exec n j (0, mj_ent j as, [], h) = some (v, hf)) (hj : j < 167) (hlen : (mj_xp as).length ≤ mj_m j) (hno : mj_t j = true → ∀ v ∈ as, mj_noL v = true) (G : mj_G) :
    Met l (mj_y j) (mj_ws j) (mj_rm j h hf) (mj_Pc G as h) (mj_Qc G v hf) (hf.2.1 - h.2.1) (hf.2.2 - h.2.2) (fun q => G.2.2.2 < q) := by
  obtain ⟨-, -, hplain, -, -, -⟩ := mj_mfacts hj
  refine Met.ofW (cc := mj_b j) (maxL := mj_m j) (ret := mj_r j) hplain rfl ?_
  intro p e s m args below meth c s₁ B hml hv
  obtain ⟨rfl, hR, hK⟩ := hv
  have hts := atoms_spec (ws := mj_ws j) B.pre
  have C : mj_Cx p s m ((as.map (mj_cv G)).toArray) meth c j (mj_rm j h hf) := by
    refine ⟨B.exec, B.bytes, hml, findClass_of_methodNamed B.named, fun w hw => hts w (List.mem_cons_of_mem _ hw), B.returns, B.notSynchronized, fun hn => ?_, Nat.le_refl _, Nat.le_refl _⟩
    rw [(name_of_methodNamed B.named B.method).1]
    exact hn
  rw [lg_entry_eq]
  refine S j 0 (mj_ent j as) [] h v hf he p e (mj_rm j h hf) s m _ below meth c s.heap [] 0 0 _ _ G C hK (mj_entry hlen hno) hR (fun q hq => by cases hq) (by rw [Nat.zero_add]; exact Nat.le_refl _) (by rw [Nat.zero_add]; exact Nat.le_refl _) ?_
  intro pc' lsC' H' locs' hret hR' hlo'
  refine W.cs (Nat.zero_add _) (Nat.zero_add _) ?_
  have hx := B.exec
  have hb := B.bytes
  have hr := B.returns
  have hlk := B.notSynchronized
  have hq : ∀ t : State, t.heap = H' → s.WarmedH t.vm → mj_Qc G v hf ((as.map (mj_cv G)).toArray) s (.returned (v.map (mj_cv G))) t := fun t ht hW => ⟨rfl, by rw [ht]; exact hR'.moved hW.alike⟩
  unfold mj_Ret at hret
  split at hret
  · rw [hret.2] at hr
    exact W.vret hx hb hr hq hlo' hret.1 hlk
  · rename_i x
    obtain ⟨hd, hok⟩ := hret
    unfold mj_okr at hok
    split at hok
    · rename_i hrr
      rw [hrr] at hr
      exact W.zret hx hb hr rfl hq hlo' hd hlk
    · rename_i hrr
      rw [hrr] at hr
      exact W.zret hx hb hr (mj_okv_ok (G := G) (ty := .boolean) (v := .int x) hok).1 hq hlo' hd hlk
    · cases hok
  · rename_i x
    rw [hret.2] at hr
    exact W.lret hx hb hr hq hlo' hret.1 hlk
  · exact hret.elim
theorem mj_cont {mc ms : Nat} {rest : List Value} {v : Option Value} {hf : mj_H} {ls : Array Slot} {st0 : List Value} {a : Array Value} (hr : va_Run p l e R s m args below meth c H locs cells slots mc ms (F0 m pc ls st0) rest (mj_Qc G v hf a) (fun q => G.2.2.2 < q)) (hlo : ∀ q ∈ locs, G.2.2.2 < q.base)
    (kk : ∀ (H1 : Heap) (locs1 : List Loc), mj_Rep G s hf H1 → (∀ q ∈ locs1, G.2.2.2 < q.base) → W p l e R s m args below meth c H1 locs1 (cells + mc) (slots + ms) Q (F0 m (pc + 3) ls ((v.map (mj_cv G)).toList ++ rest))) : W p l e R s m args below meth c H locs cells slots Q (F0 m pc ls st0) := by
  intro T hT X
  obtain ⟨v', st₀, t, T', L, h0, X', hL, e1, e2, ⟨hv, hR'⟩, st⟩ := hr T hT X
  have hv' : v' = v.map (mj_cv G) := by injection hv
  subst hv'
  have hal : t.vm.Alike s.vm := by
    rw [← e2]
    exact X'.warmed.alike.symm
  have hR2 : mj_Rep G s hf T'.heap := by
    rw [e1]
    exact hR'.moved hal
  obtain ⟨t2, a1, b1⟩ := kk T'.heap (locs ++ L) hR2 (fun q hq => (List.mem_append.mp hq).elim (hlo q) (hL q)) T' rfl X'
  exact ⟨t2, st t2 a1, b1⟩
theorem mj_call_of {a b j : Nat} {st as rest : List Value} (h : mj_call a b st = some (.inr (.inr (j, as, rest)))) : j = a ∧ as = (st.take b).reverse ∧ rest = st.drop b ∧ b ≤ st.length ∧ (st.drop b).length ≤ 4 ∧ (mj_t a = true → ∀ v ∈ as, mj_noL v = true) ∧ (mj_xp as).length ≤ mj_m a := by
  unfold mj_call at h
  split at h
  · rename_i hc
    cases h
    obtain ⟨h1, h2, h3, h4⟩ := hc
    refine ⟨rfl, rfl, rfl, h1, h2, fun ht v hv => ?_, h4⟩
    exact List.all_eq_true.mp (h3 ht) v (List.mem_reverse.mp hv)
  · cases h
theorem mj_take1 {st : List Value} {n : Nat} {v : Value} (h : st[n]? = some v) : (st.take (n + 1)).reverse = v :: (st.take n).reverse := by
  rw [List.take_succ, h]
  simp
theorem mj_stk {st : List Value} {b : Nat} : st.map (mj_cv G) = ((st.take b).reverse.map (mj_cv G)).reverse ++ (st.drop b).map (mj_cv G) := by
  rw [List.map_reverse, List.reverse_reverse, ← List.map_append, List.take_append_drop]
theorem mj_stk1 {st : List Value} {n x : Nat} (h : st[n]? = some (.ref x)) : st.map (mj_cv G) = ((st.take n).reverse.map (mj_cv G)).reverse ++ .ref (mj_ad G x) :: (st.drop (n + 1)).map (mj_cv G) := by
  rw [mj_stk (b := n + 1), mj_take1 h]
  simp [mj_cv]
theorem mj_ret_ok {q : Instr × Nat × Nat × Nat} {v : Option Value} (hat : mj_at i pc = some q) (hs : mj_step i q pc ls st h = some (.inr (.inl v))) : mj_Ret i pc v ∧ st.map (mj_cv G) = (v.map (mj_cv G)).toList := by
  obtain ⟨ins, len, a, b⟩ := q
  have hdg := mj_dec0 hat
  have hln := mj_len0 hat
  have hno : ∀ (a b : Nat) (st : List Value), mj_call a b st ≠ some (.inr (.inl v)) := by
    intro a b st
    unfold mj_call
    split <;> intro h <;> cases h
  cases ins with
  | ireturn =>
    simp only [mj_lnok, mj_ln, beq_iff_eq] at hln
    subst hln
    simp only [mj_step] at hs
    split at hs
    · split at hs
      · rename_i x hk
        cases hs
        exact ⟨⟨hdg, hk⟩, rfl⟩
      · cases hs
    · cases hs
  | lreturn =>
    simp only [mj_lnok, mj_ln, beq_iff_eq] at hln
    subst hln
    simp only [mj_step] at hs
    split at hs
    · split at hs
      · rename_i x hk
        cases hs
        exact ⟨⟨hdg, hk⟩, rfl⟩
      · cases hs
    · cases hs
  | return_ =>
    simp only [mj_lnok, mj_ln, beq_iff_eq] at hln
    subst hln
    simp only [mj_step] at hs
    split at hs
    · split at hs
      · rename_i hk
        cases hs
        exact ⟨⟨hdg, hk⟩, rfl⟩
      · cases hs
    · cases hs
  | newarray t =>
    exfalso
    cases t <;> simp only [mj_step, mj_nx] at hs
    all_goals (repeat' split at hs)
    all_goals (cases hs; done)
  | _ =>
    exfalso
    unfold mj_step mj_jmp mj_nx at hs
    dsimp only at hs
    repeat' split at hs
    all_goals first
      | (cases hs; done)
      | exact hno _ _ _ hs
set_option maxHeartbeats 4000000 in
theorem mj_main (l : Launch) : ∀ n, mj_Snd l n := by
  intro n
  induction n with
  | zero => intro i pc ls st h v hf he; cases he
  | succ n ih =>
    intro i pc ls st h v hf he p e R s m args below meth c H locs cells slots Q lsC G C K hL hR hlo hc hsl kret
    rw [mj_exec] at he
    split at he
    · cases he
    · rename_i q hat
      split at he
      · cases he
      · rename_i s1 hs
        obtain ⟨pc1, ls1, st1, h1⟩ := s1
        have m1 := mj_step_mono hs
        have m2 := mj_exec_mono _ _ _ _ _ he
        dsimp only at m1 m2
        refine mj_step_ok q C K hat hs hL hR hlo (by show cells + (h1.2.1 - h.2.1) ≤ _; omega) (by show slots + (h1.2.2 - h.2.2) ≤ _; omega) ?_
        intro lsC' H' locs' hL' hR' hlo'
        refine ih i pc1 ls1 st1 h1 v hf he p e R s m args below meth c H' locs' _ _ Q lsC' G C K hL' hR' hlo' (by show cells + (h1.2.1 - h.2.1) + (hf.2.1 - h1.2.1) ≤ _; omega) (by show slots + (h1.2.2 - h.2.2) + (hf.2.2 - h1.2.2) ≤ _; omega) ?_
        intro pc' lsC2 H2 locs2 r1 r2 r3
        exact W.cs (by show cells + (h1.2.1 - h.2.1) + (hf.2.1 - h1.2.1) = _; omega) (by show slots + (h1.2.2 - h.2.2) + (hf.2.2 - h1.2.2) = _; omega) (kret pc' lsC2 H2 locs2 r1 r2 r3)
      · rename_i v1 hs
        cases he
        obtain ⟨r1, r2⟩ := mj_ret_ok (G := G) hat hs
        rw [r2]
        exact mj_w0 (kret pc lsC H locs r1 hR hlo)
      · rename_i j as rest hs
        split at he
        · cases he
        · rename_i v1 h1 he1
          have m1 := mj_exec_mono _ _ _ _ _ he1
          have m2 := mj_exec_mono _ _ _ _ _ he
          dsimp only at m1 m2
          have C0 := C
          obtain ⟨hx, hb, hml, hown, hts, hret, hlk, hnm, hfr, hlr⟩ := C
          obtain ⟨ins, len, a, b⟩ := q
          have hdg := mj_dec0 hat
          have hln := mj_len0 hat
          have hck := mj_chk0 hat
          have after : ∀ (H1 : Heap) (locs1 : List Loc), mj_Rep G s h1 H1 → (∀ q ∈ locs1, G.2.2.2 < q.base) → W p l e R s m args below meth c H1 locs1 (cells + (h1.2.1 - h.2.1)) (slots + (h1.2.2 - h.2.2)) Q (F0 m (pc + 3) lsC ((v1.map (mj_cv G)).toList ++ rest.map (mj_cv G))) := by
            intro H1 locs1 q1 q2
            have hst : (v1.map (mj_cv G)).toList ++ rest.map (mj_cv G) = (v1.toList ++ rest).map (mj_cv G) := by cases v1 <;> simp
            rw [hst]
            refine ih i (pc + 3) ls (v1.toList ++ rest) h1 v hf he p e R s m args below meth c H1 locs1 _ _ Q lsC G C0 K hL q1 q2 (by omega) (by omega) ?_
            intro pc' lsC2 H2 locs2 r1 r2 r3
            exact W.cs (by omega) (by omega) (kret pc' lsC2 H2 locs2 r1 r2 r3)
          have key : ∀ {j' b' : Nat}, mj_call a b st = some (.inr (.inr (j, as, rest))) → a < 167 → mj_f a + 1 ≤ mj_f i → 8 + (mj_m a + 11) + mj_o a ≤ mj_o i → j = a ∧ as = (st.take b).reverse ∧ rest = st.drop b ∧ b ≤ st.length ∧ (st.drop b).length ≤ 4 ∧ Met l (mj_y a) (mj_ws a) (mj_rm a h h1) (mj_Pc G as h) (mj_Qc G v1 h1) (h1.2.1 - h.2.1) (h1.2.2 - h.2.2) (fun q => G.2.2.2 < q) ∧ (mj_rm a h h1).frames + 1 ≤ R.frames ∧ 8 + (mj_m a + 11) + (mj_rm a h h1).locals ≤ R.locals := by
            intro _ _ hcall ha hfr1 hlo1
            obtain ⟨rfl, r2, r3, r4, r5, r6, r7⟩ := mj_call_of hcall
            exact ⟨rfl, r2, r3, r4, r5, mj_met ih he1 ha r7 r6 G, by show mj_f j + 1 ≤ _; omega, by show 8 + (mj_m j + 11) + mj_o j ≤ _; omega⟩
          cases ins with
          | invokevirtual idx =>
            simp only [mj_lnok, mj_ln, beq_iff_eq] at hln
            subst hln
            simp only [mj_chk, Bool.and_eq_true, decide_eq_true_eq, beq_iff_eq, bne_iff_ne, ne_eq, Bool.not_eq_true'] at hck
            obtain ⟨⟨⟨⟨hlink, rfl⟩, hz⟩, hnn⟩, ha, hfr1, hlo1⟩ := hck
            simp only [mj_step, Nat.add_sub_cancel] at hs
            split at hs
            · rename_i x hxs
              split at hs
              · rename_i hisC
                obtain ⟨rfl, rfl, rfl, r4, r5, hM, r6, r7⟩ := key (j' := 0) (b' := 0) hs ha hfr1 hlo1
                obtain ⟨g1, g2, g3, g4, g5, g6⟩ := mj_mfacts ha
                rw [hz] at g1
                have hlink' : Cond.methodLink (mj_on (mj_w i)) idx (mj_y j) ∈ mj_W := mj_mth (by simpa using hlink)
                have cw : CallW R s args (mj_on (mj_w i)) (mj_on (mj_w j)) idx (mj_y j) (mj_b j) (mj_m j) (mj_r j) (mj_ws j) (mj_rm j h h1) (h1.2.1 - h.2.1) (h1.2.2 - h.2.2) (mj_n j) :=
                  ⟨callB_of (mj_n j) hts (mj_goodIn ha) rfl rfl rfl (hts _ (mj_ini g5)) (hts _ hlink') g4 ⟨r6, r7⟩, hts _ g1, hts _ (g2 hz hnn)⟩
                have htk := mj_take1 hxs
                have hPre : PreV s H (mj_on (mj_w j)) (mj_ad G x) (mj_Pc G ((st.take (mj_n j + 1)).reverse) h) ((st.take (mj_n j)).reverse.map (mj_cv G)) := by
                  refine ⟨mj_blind, ?_, fun U hU hW => ⟨?_, ?_, K.moved hW⟩⟩
                  · unfold mj_isC at hisC
                    split at hisC
                    · rename_i d fs hcell
                      have hd : d = mj_w j := by simpa using hisC
                      subst hd
                      obtain ⟨-, Cn, Tn, Nn, c1, -, cellV, k1, k2, k3, -⟩ := hR.o (by omega) hcell
                      have hcls := (K.1.1 _ _ c1).2
                      have hCn := (mj_clf c1).1
                      subst hCn
                      exact ⟨cellV, k1, by rw [k3]; rfl, by rw [k2]; exact hcls.1⟩
                    · cases hisC
                  · rw [htk]; rfl
                  · rw [hU]; exact hR.moved hW.alike
                refine mj_cont (va_runV (As := (st.take (mj_n j)).reverse.map (mj_cv G)) (rest := (st.drop (mj_n j + 1)).map (mj_cv G)) ⟨hx, hb, hml, hown, hts⟩ hM cw hPre rfl ?_ hL.2.1 (mj_stk1 hxs) ?_ hdg ⟨by omega, by omega⟩) hlo after
                · simp; omega
                · have := mj_room (G := G) r5
                  show 2 * 0 + _ ≤ 8
                  omega
              · cases hs
            · cases hs
          | invokestatic idx =>
            simp only [mj_lnok, mj_ln, beq_iff_eq] at hln
            subst hln
            by_cases ha8 : a = 998
            · exfalso
              simp only [mj_step, mj_nx, if_pos ha8] at hs
              split at hs
              · split at hs <;> cases hs
              · cases hs
            · by_cases ha7 : a = 997
              · exfalso
                simp only [mj_step, mj_nx, if_neg ha8, if_pos ha7] at hs
                split at hs
                · split at hs <;> cases hs
                · cases hs
              · simp only [mj_step, if_neg ha8, if_neg ha7] at hs
                simp only [mj_chk, Bool.or_eq_true, Bool.and_eq_true, decide_eq_true_eq, beq_iff_eq] at hck
                have hck2 : mj_lkM.any (fun w => w.1 == mj_w i && w.2.1 == idx && w.2.2.1 == a) = true ∧ b = mj_n a ∧ mj_z a = true ∧ a < 167 ∧ mj_f a + 1 ≤ mj_f i ∧ 8 + (mj_m a + 11) + mj_o a ≤ mj_o i := by
                  rcases hck with ⟨⟨⟨z1, z2⟩, z3⟩, z4⟩ | ⟨⟨-, z2⟩, -⟩
                  · exact ⟨by simpa using z1, z2, z3, z4⟩
                  · omega
                obtain ⟨hlink, rfl, hz, ha, hfr1, hlo1⟩ := hck2
                obtain ⟨rfl, rfl, rfl, r4, r5, hM, r6, r7⟩ := key (j' := 0) (b' := 0) hs ha hfr1 hlo1
                obtain ⟨g1, g2, g3, g4, g5, g6⟩ := mj_mfacts ha
                rw [hz] at g1
                have cw : CallB R s args (mj_on (mj_w i)) idx (mj_y j) (mj_b j) (mj_m j) (mj_r j) (mj_ws j) (mj_rm j h h1) (h1.2.1 - h.2.1) (h1.2.2 - h.2.2) (mj_n j) ∧ (Cond.static (mj_y j)).before args s = true :=
                  ⟨callB_of (mj_n j) hts (mj_goodIn ha) rfl rfl rfl (hts _ (mj_ini g5)) (hts _ (mj_mth hlink)) g4 ⟨r6, r7⟩, hts _ g1⟩
                have hPre : PreS s H (mj_Pc G ((st.take (mj_n j)).reverse) h) ((st.take (mj_n j)).reverse.map (mj_cv G)) :=
                  ⟨mj_blind, fun U hU hW => ⟨rfl, by rw [hU]; exact hR.moved hW.alike, K.moved hW⟩⟩
                refine mj_cont (va_runS (As := (st.take (mj_n j)).reverse.map (mj_cv G)) (rest := (st.drop (mj_n j)).map (mj_cv G)) ⟨hx, hb, hml, hown, hts⟩ hM cw hPre rfl ?_ hL.2.1 mj_stk ?_ hdg ⟨by omega, by omega⟩) hlo after
                · simp; omega
                · have := mj_room (G := G) r5
                  show 2 * 0 + _ ≤ 8
                  omega
          | invokespecial idx =>
            simp only [mj_lnok, mj_ln, beq_iff_eq] at hln
            subst hln
            by_cases ha9 : a = 999
            · exfalso
              simp only [mj_step, mj_nx, if_pos ha9] at hs
              split at hs
              · split at hs <;> cases hs
              · cases hs
            · simp only [mj_step, if_neg ha9] at hs
              simp only [mj_chk, Bool.or_eq_true, Bool.and_eq_true, decide_eq_true_eq, beq_iff_eq, Bool.not_eq_true'] at hck
              have hck2 : (mj_lkM.any (fun w => w.1 == mj_w i && w.2.1 == idx && w.2.2.1 == a) = true ∨ mj_lkN.any (fun w => w.1 == mj_w i && w.2.1 == idx && w.2.2 == a) = true) ∧ b = mj_n a + 1 ∧ mj_z a = false ∧ (mj_y a).name = "<init>" ∧ a < 167 ∧ mj_f a + 1 ≤ mj_f i ∧ 8 + (mj_m a + 11) + mj_o a ≤ mj_o i := by
                rcases hck with ⟨⟨⟨⟨z1, z2⟩, z3⟩, z4⟩, z5⟩ | ⟨⟨-, z2⟩, -⟩
                · exact ⟨by simpa using z1, z2, z3, z4, z5⟩
                · exact absurd z2 ha9
              obtain ⟨hlink, rfl, hz, hin, ha, hfr1, hlo1⟩ := hck2
              simp only [Nat.add_sub_cancel] at hs
              split at hs
              · rename_i x hxs
                obtain ⟨rfl, rfl, rfl, r4, r5, hM, r6, r7⟩ := key (j' := 0) (b' := 0) hs ha hfr1 hlo1
                obtain ⟨g1, g2, g3, g4, g5, g6⟩ := mj_mfacts ha
                rw [hz] at g1
                have htk := mj_take1 hxs
                have hPre : PreS s H (mj_Pc G ((st.take (mj_n j + 1)).reverse) h) (.ref (mj_ad G x) :: (st.take (mj_n j)).reverse.map (mj_cv G)) := by
                  refine ⟨mj_blind, fun U hU hW => ⟨?_, ?_, K.moved hW⟩⟩
                  · rw [htk]; rfl
                  · rw [hU]; exact hR.moved hW.alike
                have hrm : 2 * (F0 m pc lsC (st.map (mj_cv G))).monitorRoom + (((st.drop (mj_n j + 1)).map (mj_cv G)).map fun v => v.category).sum ≤ 8 := by
                  have := mj_room (G := G) r5
                  show 2 * 0 + _ ≤ 8
                  omega
                have hnl : ((st.take (mj_n j)).reverse.map (mj_cv G)).length = mj_n j := by simp; omega
                rcases hlink with hlink | hlink
                · have cw := callB_of (own := mj_on (mj_w i)) (index := idx) (R := R) (rm := mj_rm j h h1) (mj_n j) hts (mj_goodIn ha) rfl rfl rfl (hts _ (mj_ini g5)) (hts _ (mj_mth hlink)) g4 ⟨r6, r7⟩
                  rw [g6 hin] at cw
                  exact mj_cont (va_runI (As := (st.take (mj_n j)).reverse.map (mj_cv G)) (rest := (st.drop (mj_n j + 1)).map (mj_cv G)) ⟨hx, hb, hml, hown, hts⟩ hM ⟨cw, hin, hts _ g1⟩ hPre rfl hnl hL.2.1 (mj_stk1 hxs) hrm hdg ⟨by omega, by omega⟩) hlo after
                · have hnw := K.2.2 _ (mj_nst hlink)
                  have cw := va_cnB (own := mj_on (mj_w i)) (index := idx) (R := R) (rm := mj_rm j h h1) (mj_n j) hts (mj_goodIn ha) rfl rfl rfl hnw (hts _ (mj_ini g5)) g4 ⟨r6, r7⟩
                  rw [g6 hin] at cw
                  exact mj_cont (va_runIN (As := (st.take (mj_n j)).reverse.map (mj_cv G)) (rest := (st.drop (mj_n j + 1)).map (mj_cv G)) ⟨hx, hb, hml, hown, hts⟩ hM ⟨cw, hin, hts _ g1⟩ hPre rfl hnl hL.2.1 (mj_stk1 hxs) hrm hdg ⟨by omega, by omega⟩) hlo after
              · cases hs
          | newarray t =>
            exfalso
            cases t <;> simp only [mj_step, mj_nx] at hs
            all_goals (repeat' split at hs)
            all_goals (cases hs; done)
          | _ =>
            exfalso
            unfold mj_step mj_jmp mj_nx at hs
            dsimp only at hs
            repeat' split at hs
            all_goals (cases hs; done)
end MJM
end
section
/-! THE CLAIM OUT OF ONE WALK OF THE LAW'S BODY. Your part is whole_start (and what it stands on); all else here is the same for every law, but numbers. -/
def R_law : String := "DumplingBandLaw"
def lw_P (b : Addr) (xs : List Int32) (args : Array Value) (s : State) : Prop := args = #[.ref b] ∧ s.IntsAt b xs ∧ xs.length ≤ 2048 ∧ (Jvm.Cond.and given_1 narrow_1).before args s = true
def lw_Q (_ : Array Value) (s : State) (o : Outcome) (t : State) : Prop := o = .returned (some (.int 1)) ∧ Framed s o t [] 600000 7302250
def lw_Z (below : List Frame) (a : Array Value) (s : State) : State → Prop := fun t => ∃ o, t.status = .running ∧ Ended t below o ∧ lw_Q a s o t
/-- the law's own end, with 1 on the stack, nothing written that was there before, its room as the claim has it -/
theorem lw_ret {p : Program} {l : Launch} {e : Env} {s : State} {m : MethodId} {below : List Frame} {meth : Method} {c : Code} {b : Nat} (hx : p.tables.exec = Jvm.exec) (hb : c.code = code) (hr : meth.sig.returnType = ret) (hlocks : meth.locks = false) {pc : Nat} {H : Heap} {ls : Array Slot} (hdg : decode code pc = .ok (.ireturn, 1)) : W p l e room_1 s m #[Value.ref b] below meth c H [] 600000 7302250 (lw_Z below #[Value.ref b] s) (F0 m pc ls [.int 1]) := by
  intro T hT X
  obtain ⟨fs, hret, hrun, hended, hW, hframe⟩ := X.leave (v := some (.int 1)) (hlocks := hlocks) (fun h => by rw [hr] at h; cases h)
  have hmeth' : T.vm.method? m = some meth := X.method'
  refine ⟨T.setFrames fs, ?_, .returned (some (.int 1)), hrun, hended, rfl, ⟨_, rfl⟩, hW, hframe⟩
  jvm_step X.here [X.here.top, hx, hb, hdg, hmeth', hr, ret, narrow_b1]
  (try refine ⟨rfl, ?_⟩); (try refine ⟨rfl, ?_⟩)
  first | (intro acts; rw [hret _ acts rfl rfl rfl]) | rw [hret _ _ rfl rfl rfl]
  exact Steps.refl _
/-- what holds at the law's entry: the machine, the code, the tables' words (any of lw_tbl by 'hts w (by decide +kernel)'), the script of L ints xs at the cell b, what the Statement gives of the start (any of its parts by flat_of_before) -/
def lw_At (p : Program) (s : State) (m : MethodId) (meth : Method) (c : Code) (b L : Nat) (xs : Nat → Int32) : Prop :=
  p.tables.exec = Jvm.exec ∧ c.code = code ∧ meth.sig.returnType = ret ∧ c.maxLocals = 4 ∧ s.vm.findClass R_law = some m.cls ∧ (∀ w ∈ lw_tbl, w.before #[Value.ref b] s = true) ∧ va_X b L xs s s.heap ∧ b < s.heap.size ∧ meth.locks = false ∧ (Jvm.Cond.and given_1 narrow_1).before #[Value.ref b] s = true
/-! THE LAW'S ENTRY: what is left is a run of the pure machine -/
def mj_h0 (xs : List Int32) : mj_H := (fun k => if k = 0 then some (.inl (3, xs)) else none, 1, 0)
set_option maxHeartbeats 4000000 in
theorem mj_start {p : Program} {e : Env} {s : State} {m : MethodId} {below : List Frame} {meth : Method} {c : Code} (l : Launch) {b L : Nat} {xs : Nat → Int32} (C0 : lw_At p s m meth c b L xs)
    (hrun : ∃ (n : Nat) (hf : mj_H), mj_exec n 167 (0, [.ref 0, .null, .null, .null], [], mj_h0 ((List.range L).map xs)) = some (some (.int 1), hf) ∧ hf.2.1 ≤ 600000 ∧ hf.2.2 ≤ 7302250) : W p l e room_1 s m #[Value.ref b] below meth c s.heap [] 0 0 (lw_Z below #[Value.ref b] s) (entryFrame m ([Value.ref b] : List Value).toArray 4) := by
  obtain ⟨n, hf, he, hcs, hss⟩ := hrun
  obtain ⟨hx, hb, hr, hml, hown, hts, hX, hbl, hlocks, hgv⟩ := id C0
  have hts2 : ∀ w ∈ mj_W, w.before #[Value.ref b] s = true := fun w hw => hts w (List.mem_filter.mp hw).1
  have hk : ∀ a : Nat, ∃ (cC : ClassId) (iS : Nat → Nat), ∀ (C : String) (T : u_T) (N : Nat), mj_cl[a]? = some (C, T, N) → u_Kn s C T N cC iS := by
    intro a
    by_cases ha : a < 8
    · obtain ⟨C, T, N, hc⟩ := mj_cl_ex ha
      obtain ⟨d1, d2, d3, d4, -, -⟩ := mj_clf hc
      obtain ⟨cC, iS, h1⟩ := u_known (C := C) (T := T) (N := N) (n := N) hts2 d4 (by rw [d1, d2]; exact hts2 _ (mj_ins ha))
      exact ⟨cC, iS, fun C' T' N' h' => by cases hc.symm.trans h'; exact h1⟩
    · exact ⟨0, fun _ => 0, fun C T N h' => absurd (List.getElem?_eq_some_iff.mp h').1 (by simp; omega)⟩
  obtain ⟨dC, hk⟩ := Classical.axiomOfChoice hk
  obtain ⟨dI, hk⟩ := Classical.axiomOfChoice hk
  obtain ⟨cI, kI, compI, i1, i2, i3⟩ := Cond.arrayClass_spec (hts2 _ (mj_has_in mj_arrI))
  obtain ⟨cZ, kZ, compZ, z1, z2, z3⟩ := Cond.arrayClass_spec (hts2 _ (mj_has_in mj_arrZ))
  have hover : (Cond.arrayOver (.object "DumplingBand$March")).before #[Value.ref b] s = true := hts _ (List.mem_of_getElem? mj_arrM)
  obtain ⟨compM, cM, kM, m1, -, m3, m4, m5⟩ := Cond.arrayOver_spec hover
  let G : mj_G := ((dC, dI), (cI, cZ, cM), b, s.heap.size - 1)
  have hsz : 0 < s.heap.size := by omega
  have hK : mj_Kn G s := by
    refine ⟨⟨fun a q hq => hk a q.1 q.2.1 q.2.2 hq, fun k q hq => ?_⟩, va_AO.of hover, fun q hq => ?_⟩
    · match k, hq with
      | 0, hq => cases hq; exact ⟨fun n z => ⟨fun k h => (by cases h), kI, i2, compI, i3⟩, i1⟩
      | 1, hq => cases hq; exact ⟨fun n z => ⟨fun k h => (by cases h), kZ, z2, compZ, z3⟩, z1⟩
      | 2, hq => cases hq; exact ⟨fun n z => ⟨fun k h => (by cases h), kM, m3, compM, m4⟩, kM, compM, m3, m4, m1, m5⟩
      | k + 3, hq => simp at hq
    · obtain ⟨j, hj⟩ := List.getElem?_of_mem hq
      have hjl : j < 4 := by
        have h1 := (List.getElem?_eq_some_iff.mp hj).1
        have h2 : mj_nest.length = 4 := by decide +kernel
        omega
      have h3 : ∃ ps : List Nat, ps.length = 4 ∧ (mj_nest.zip ps).all (fun q => decide (lw_tbl[q.2]? = some (Cond.methodLinkNest q.1.1 q.1.2.1 q.1.2.2.1 q.1.2.2.2))) = true := ⟨_, rfl, mj_nest_ok⟩
      obtain ⟨ps, hps, hall⟩ := h3
      have h4 : (mj_nest.zip ps)[j]? = some (q, ps[j]'(by omega)) := by
        rw [List.getElem?_zip_eq_some]
        exact ⟨hj, List.getElem?_eq_getElem _⟩
      have h5 := List.all_eq_true.mp hall _ (List.mem_of_getElem? h4)
      exact va_Nw.of rfl (hts _ (List.mem_of_getElem? (of_decide_eq_true h5)))
  have hR : mj_Rep G s (mj_h0 ((List.range L).map xs)) s.heap := by
    refine ⟨?_, ?_, ?_, fun k e hk => ?_⟩
    · show s.heap.size = s.heap.size - 1 + 1
      omega
    · show b ≤ s.heap.size - 1
      omega
    · show 0 < 1
      omega
    · by_cases hk0 : k = 0
      · subst hk0
        have he : e = .inl (3, (List.range L).map xs) := by simpa [mj_h0] using hk.symm
        subst he
        refine ⟨by show 0 < 1; omega, Or.inr (Or.inr ⟨rfl, rfl, ?_⟩)⟩
        obtain ⟨scr, x1, x2, x3, x4, x5⟩ := hX
        refine ⟨scr, x1, x2, x3, by simpa using x4, fun j hj => ?_⟩
        have hj2 : j < L := by simpa using hj
        rw [x5 j hj2]
        simp [List.getD, hj2]
      · simp [mj_h0, hk0] at hk
  have C : mj_Cx p s m #[Value.ref b] meth c 167 room_1 := ⟨hx, hb, hml, hown, hts2, hr, hlocks, fun h => absurd h (by decide +kernel), by decide +kernel, by decide +kernel⟩
  have hent : mj_ent 167 [.ref 0] = [.ref 0, .null, .null, .null] := by decide +kernel
  have hL := mj_entry (G := G) (j := 167) (as := [.ref 0]) (by decide +kernel) (fun _ v hv => by rw [List.mem_singleton.mp hv]; rfl)
  rw [hent] at hL
  rw [lg_entry_eq]
  refine mj_main l n 167 0 _ [] _ _ _ he p e room_1 s m #[Value.ref b] below meth c s.heap [] 0 0 _ _ G C hK hL hR (fun q hq => by cases hq) (by show 0 + (hf.2.1 - 1) ≤ 600000; omega) (by show 0 + (hf.2.2 - 0) ≤ 7302250; omega) ?_
  intro pc' lsC' H' locs' hret hR' hlo'
  refine va_forget (fun q hq => ?_) ?_
  · have h1 : s.heap.size - 1 < q.base := hlo' q hq
    omega
  · refine W.widen (k := 600000) (n := 7302250) (by show 0 + (hf.2.1 - 1) ≤ 600000; omega) (by show 0 + (hf.2.2 - 0) ≤ 7302250; omega) ?_
    exact lw_ret hx hb hr hlocks hret.1
/-! THE PURE MACHINE WITHOUT FUEL -/
theorem mj_fuel : ∀ (n i : Nat) (s : mj_S) (r : Option Value × mj_H), mj_exec n i s = some r → mj_exec (n + 1) i s = some r := by
  intro n
  induction n with
  | zero => intro i s r h; cases h
  | succ n ih =>
    intro i s r h
    obtain ⟨pc, ls, st, hh⟩ := s
    rw [mj_exec] at h ⊢
    split at h
    · cases h
    · rename_i q hat
      split at h
      · cases h
      · rename_i s1 hs
        exact ih _ _ _ h
      · exact h
      · rename_i j as rest hs
        split at h
        · cases h
        · rename_i v1 h1 he1
          rw [ih _ _ _ he1]
          exact ih _ _ _ h
theorem mj_fuel_add {n i : Nat} {s : mj_S} {r : Option Value × mj_H} (h : mj_exec n i s = some r) : ∀ k, mj_exec (n + k) i s = some r := by
  intro k
  induction k with
  | zero => exact h
  | succ k ih => exact mj_fuel _ _ _ _ ih
theorem mj_fuel_le {n k i : Nat} {s : mj_S} {r : Option Value × mj_H} (h : mj_exec n i s = some r) (hk : n ≤ k) : mj_exec k i s = some r := by
  have := mj_fuel_add h (k - n)
  rwa [show n + (k - n) = k by omega] at this
theorem mj_det {n k i : Nat} {s : mj_S} {r r' : Option Value × mj_H} (h : mj_exec n i s = some r) (h' : mj_exec k i s = some r') : r = r' := by
  have h1 := mj_fuel_le h (Nat.le_max_left n k)
  have h2 := mj_fuel_le h' (Nat.le_max_right n k)
  exact Option.some.inj (h1.symm.trans h2)
noncomputable def mj_R (i : Nat) (s : mj_S) : Option (Option Value × mj_H) := @dite (Option (Option Value × mj_H)) (∃ (r : Option Value × mj_H) (n : Nat), mj_exec n i s = some r) (Classical.propDecidable _) (fun h => some (Classical.choose h)) (fun _ => none)
theorem mj_R_of {n i : Nat} {s : mj_S} {r : Option Value × mj_H} (h : mj_exec n i s = some r) : mj_R i s = some r := by
  have hx : ∃ (r : Option Value × mj_H) (n : Nat), mj_exec n i s = some r := ⟨r, n, h⟩
  unfold mj_R
  rw [dif_pos hx]
  obtain ⟨k, hk⟩ := Classical.choose_spec hx
  rw [mj_det hk h]
theorem mj_R_iff {i : Nat} {s : mj_S} {r : Option Value × mj_H} : mj_R i s = some r ↔ ∃ n, mj_exec n i s = some r := by
  constructor
  · intro h
    by_cases hx : ∃ (r : Option Value × mj_H) (n : Nat), mj_exec n i s = some r
    · obtain ⟨r', n, hn⟩ := hx
      rw [mj_R_of hn] at h
      cases h
      exact ⟨n, hn⟩
    · unfold mj_R at h
      rw [dif_neg hx] at h
      cases h
  · rintro ⟨n, h⟩
    exact mj_R_of h
theorem mj_ext {a b : Option (Option Value × mj_H)} (h : ∀ r, a = some r ↔ b = some r) : a = b := by
  cases a with
  | none =>
    cases b with
    | none => rfl
    | some r => exact ((h r).mpr rfl)
  | some r => exact ((h r).mp rfl).symm
/-- a step that is no call -/
theorem mj_R_next {i pc : Nat} {ls st : List Value} {h : mj_H} {q : Instr × Nat × Nat × Nat} {s' : mj_S} (hat : mj_at i pc = some q) (hs : mj_step i q pc ls st h = some (.inl s')) : mj_R i (pc, ls, st, h) = mj_R i s' := by
  apply mj_ext
  intro r
  rw [mj_R_iff, mj_R_iff]
  constructor
  · rintro ⟨n, hn⟩
    match n, hn with
    | n + 1, hn =>
      rw [mj_exec, hat] at hn
      simp only [hs] at hn
      exact ⟨n, hn⟩
  · rintro ⟨n, hn⟩
    refine ⟨n + 1, ?_⟩
    rw [mj_exec, hat]
    simp only [hs]
    exact hn
theorem mj_R_none {i pc : Nat} {ls st : List Value} {h : mj_H} {q : Instr × Nat × Nat × Nat} (hat : mj_at i pc = some q) (hs : mj_step i q pc ls st h = none) : mj_R i (pc, ls, st, h) = none := by
  apply mj_ext
  intro r
  rw [mj_R_iff]
  constructor
  · rintro ⟨n, hn⟩
    match n, hn with
    | n + 1, hn =>
      rw [mj_exec, hat] at hn
      simp only [hs] at hn
      cases hn
  · intro h
    cases h
theorem mj_R_ret {i pc : Nat} {ls st : List Value} {h : mj_H} {q : Instr × Nat × Nat × Nat} {v : Option Value} (hat : mj_at i pc = some q) (hs : mj_step i q pc ls st h = some (.inr (.inl v))) : mj_R i (pc, ls, st, h) = some (v, h) := by
  refine mj_R_of (n := 1) ?_
  rw [mj_exec, hat]
  simp only [hs]
noncomputable def mj_C (j : Nat) (as : List Value) (h : mj_H) : Option (Option Value × mj_H) := mj_R j (0, mj_ent j as, [], h)
theorem mj_R_call {i pc : Nat} {ls st : List Value} {h : mj_H} {q : Instr × Nat × Nat × Nat} {j : Nat} {as rest : List Value} (hat : mj_at i pc = some q) (hs : mj_step i q pc ls st h = some (.inr (.inr (j, as, rest)))) : mj_R i (pc, ls, st, h) = (mj_C j as h).bind (fun r => mj_R i (pc + 3, ls, r.1.toList ++ rest, r.2)) := by
  apply mj_ext
  intro r
  rw [mj_R_iff, Option.bind_eq_some_iff]
  constructor
  · rintro ⟨n, hn⟩
    match n, hn with
    | n + 1, hn =>
      rw [mj_exec, hat] at hn
      simp only [hs] at hn
      split at hn
      · cases hn
      · rename_i v1 h1 he1
        exact ⟨(v1, h1), mj_R_of he1, mj_R_of hn⟩
  · rintro ⟨⟨v1, h1⟩, ha, hb⟩
    obtain ⟨n, hn⟩ := mj_R_iff.mp ha
    obtain ⟨k, hk⟩ := mj_R_iff.mp hb
    refine ⟨max n k + 1, ?_⟩
    rw [mj_exec, hat]
    simp only [hs]
    rw [mj_fuel_le hn (Nat.le_max_left n k)]
    exact mj_fuel_le hk (Nat.le_max_right n k)
end
section
/-! the store's reads and writes, as functions that may fail; what a step does, said of the runs -/
def mj_bd {α β : Type} (x : Option α) (f : α → Option β) : Option β := x.bind f
theorem mj_bs {α β : Type} {x : Option α} {v : α} (h : x = some v) (f : α → Option β) : mj_bd x f = f v := by rw [h]; rfl
def mj_gf (h : mj_H) (x a b : Nat) : Option Value := match h.1 x with
  | some (.inr (c, fs)) => if c = a then fs[b]? else none
  | _ => none
def mj_pf (h : mj_H) (x a b : Nat) (v : Value) : Option mj_H := match h.1 x with
  | some (.inr (c, fs)) => if c = a ∧ b < fs.length ∧ mj_okv (mj_ft a b) v = true then some (mj_up h x (.inr (c, fs.set b v))) else none
  | _ => none
def mj_gi (h : mj_H) (x : Nat) (j : Int32) : Option Int32 := match h.1 x with
  | some (.inl (t, l)) => if t ≠ 1 ∧ ¬ j < 0 then l[j.toNatClampNeg]? else none
  | _ => none
def mj_pi (h : mj_H) (x : Nat) (j v : Int32) : Option mj_H := match h.1 x with
  | some (.inl (t, l)) => if t = 0 ∧ ¬ j < 0 ∧ j.toNatClampNeg < l.length then some (mj_up h x (.inl (t, l.set j.toNatClampNeg v))) else none
  | _ => none
def mj_gz (h : mj_H) (x : Nat) (j : Int32) : Option Int32 := match h.1 x with
  | some (.inl (t, l)) => if t = 1 ∧ ¬ j < 0 then l[j.toNatClampNeg]? else none
  | _ => none
def mj_pz (h : mj_H) (x : Nat) (j v : Int32) : Option mj_H := match h.1 x with
  | some (.inl (t, l)) => if t = 1 ∧ ¬ j < 0 ∧ j.toNatClampNeg < l.length ∧ (v == 0 || v == 1) = true then some (mj_up h x (.inl (t, l.set j.toNatClampNeg v))) else none
  | _ => none
def mj_gq (h : mj_H) (x : Nat) (j : Int32) : Option Nat := match h.1 x with
  | some (.inr (t, l)) => if t = 99 ∧ ¬ j < 0 then (match l[j.toNatClampNeg]? with | some (.ref v) => some v | _ => none) else none
  | _ => none
def mj_pq (h : mj_H) (x : Nat) (j : Int32) (v : Nat) : Option mj_H := match h.1 x with
  | some (.inr (t, l)) => if t = 99 ∧ ¬ j < 0 ∧ j.toNatClampNeg < l.length ∧ mj_isC h v 2 = true then some (mj_up h x (.inr (t, l.set j.toNatClampNeg (.ref v)))) else none
  | _ => none
def mj_al (h : mj_H) (x : Nat) : Option Int32 := match h.1 x with
  | some (.inl (_, l)) => some (Int32.ofNat l.length)
  | _ => none
section MJO
variable {i pc len a b : Nat} {ls st : List Value} {h : mj_H}
theorem mj_R_if {c : Prop} [Decidable c] {q : Instr × Nat × Nat × Nat} {s1 s2 : mj_S} (hat : mj_at i pc = some q) (hs : mj_step i q pc ls st h = if c then some (.inl s1) else some (.inl s2)) : mj_R i (pc, ls, st, h) = if c then mj_R i s1 else mj_R i s2 := by
  split at hs
  · rename_i hc
    rw [if_pos hc]
    exact mj_R_next hat hs
  · rename_i hc
    rw [if_neg hc]
    exact mj_R_next hat hs
theorem mj_R_div {y : Int32} {q : Instr × Nat × Nat × Nat} {s1 : mj_S} (hat : mj_at i pc = some q) (hs : mj_step i q pc ls st h = if y = 0 then none else some (.inl s1)) : mj_R i (pc, ls, st, h) = if y = 0 then none else mj_R i s1 := by
  split at hs
  · rename_i hc
    rw [if_pos hc]
    exact mj_R_none hat hs
  · rename_i hc
    rw [if_neg hc]
    exact mj_R_next hat hs
theorem mj_R_divl {y : Int64} {q : Instr × Nat × Nat × Nat} {s1 : mj_S} (hat : mj_at i pc = some q) (hs : mj_step i q pc ls st h = if y = 0 then none else some (.inl s1)) : mj_R i (pc, ls, st, h) = if y = 0 then none else mj_R i s1 := by
  split at hs
  · rename_i hc
    rw [if_pos hc]
    exact mj_R_none hat hs
  · rename_i hc
    rw [if_neg hc]
    exact mj_R_next hat hs
theorem mj_R_gf {x n : Nat} (hat : mj_at i pc = some (.getfield n, len, a, b)) : mj_R i (pc, ls, .ref x :: st, h) = mj_bd (mj_gf h x a b) (fun v => mj_R i (pc + 3, ls, v :: st, h)) := by
  have hs : mj_step i (.getfield n, len, a, b) pc ls (.ref x :: st) h = (match mj_gf h x a b with | some v => some (.inl (pc + 3, ls, v :: st, h)) | none => none) := by
    simp only [mj_step, mj_nx, mj_gf]
    cases h.1 x with
    | none => rfl
    | some e =>
      obtain ⟨t, l⟩ | ⟨t, l⟩ := e
      · rfl
      · by_cases hc : t = a
        · simp only [if_pos hc]
          cases l[b]? <;> rfl
        · simp only [if_neg hc]
  cases hg : mj_gf h x a b with
  | none => rw [hg] at hs; rw [mj_R_none hat hs]; rfl
  | some v => rw [hg] at hs; rw [mj_R_next hat hs]; rfl
theorem mj_R_pf {x n : Nat} {v : Value} (hat : mj_at i pc = some (.putfield n, len, a, b)) : mj_R i (pc, ls, v :: .ref x :: st, h) = mj_bd (mj_pf h x a b v) (fun h' => mj_R i (pc + 3, ls, st, h')) := by
  have hs : mj_step i (.putfield n, len, a, b) pc ls (v :: .ref x :: st) h = (match mj_pf h x a b v with | some h' => some (.inl (pc + 3, ls, st, h')) | none => none) := by
    simp only [mj_step, mj_nx, mj_pf]
    cases h.1 x with
    | none => rfl
    | some e =>
      obtain ⟨t, l⟩ | ⟨t, l⟩ := e
      · rfl
      · by_cases hc : t = a ∧ b < l.length ∧ mj_okv (mj_ft a b) v = true
        · simp only [if_pos hc]
        · simp only [if_neg hc]
  cases hg : mj_pf h x a b v with
  | none => rw [hg] at hs; rw [mj_R_none hat hs]; rfl
  | some v => rw [hg] at hs; rw [mj_R_next hat hs]; rfl
theorem mj_R_gi {x : Nat} {j : Int32} (hat : mj_at i pc = some (.iaload, len, a, b)) : mj_R i (pc, ls, .int j :: .ref x :: st, h) = mj_bd (mj_gi h x j) (fun v => mj_R i (pc + 1, ls, .int v :: st, h)) := by
  have hs : mj_step i (.iaload, len, a, b) pc ls (.int j :: .ref x :: st) h = (match mj_gi h x j with | some v => some (.inl (pc + 1, ls, .int v :: st, h)) | none => none) := by
    simp only [mj_step, mj_nx, mj_gi]
    cases h.1 x with
    | none => rfl
    | some e =>
      obtain ⟨t, l⟩ | ⟨t, l⟩ := e
      · by_cases hc : t ≠ 1 ∧ ¬ j < 0
        · simp only [if_pos hc]
          cases l[j.toNatClampNeg]? <;> rfl
        · simp only [if_neg hc]
      · rfl
  cases hg : mj_gi h x j with
  | none => rw [hg] at hs; rw [mj_R_none hat hs]; rfl
  | some v => rw [hg] at hs; rw [mj_R_next hat hs]; rfl
theorem mj_R_pi {x : Nat} {j v : Int32} (hat : mj_at i pc = some (.iastore, len, a, b)) : mj_R i (pc, ls, .int v :: .int j :: .ref x :: st, h) = mj_bd (mj_pi h x j v) (fun h' => mj_R i (pc + 1, ls, st, h')) := by
  have hs : mj_step i (.iastore, len, a, b) pc ls (.int v :: .int j :: .ref x :: st) h = (match mj_pi h x j v with | some h' => some (.inl (pc + 1, ls, st, h')) | none => none) := by
    simp only [mj_step, mj_nx, mj_pi]
    cases h.1 x with
    | none => rfl
    | some e =>
      obtain ⟨t, l⟩ | ⟨t, l⟩ := e
      · by_cases hc : t = 0 ∧ ¬ j < 0 ∧ j.toNatClampNeg < l.length
        · simp only [if_pos hc]
        · simp only [if_neg hc]
      · rfl
  cases hg : mj_pi h x j v with
  | none => rw [hg] at hs; rw [mj_R_none hat hs]; rfl
  | some v => rw [hg] at hs; rw [mj_R_next hat hs]; rfl
theorem mj_R_gz {x : Nat} {j : Int32} (hat : mj_at i pc = some (.baload, len, a, b)) : mj_R i (pc, ls, .int j :: .ref x :: st, h) = mj_bd (mj_gz h x j) (fun v => mj_R i (pc + 1, ls, .int v :: st, h)) := by
  have hs : mj_step i (.baload, len, a, b) pc ls (.int j :: .ref x :: st) h = (match mj_gz h x j with | some v => some (.inl (pc + 1, ls, .int v :: st, h)) | none => none) := by
    simp only [mj_step, mj_nx, mj_gz]
    cases h.1 x with
    | none => rfl
    | some e =>
      obtain ⟨t, l⟩ | ⟨t, l⟩ := e
      · by_cases hc : t = 1 ∧ ¬ j < 0
        · simp only [if_pos hc]
          cases l[j.toNatClampNeg]? <;> rfl
        · simp only [if_neg hc]
      · rfl
  cases hg : mj_gz h x j with
  | none => rw [hg] at hs; rw [mj_R_none hat hs]; rfl
  | some v => rw [hg] at hs; rw [mj_R_next hat hs]; rfl
theorem mj_R_pz {x : Nat} {j v : Int32} (hat : mj_at i pc = some (.bastore, len, a, b)) : mj_R i (pc, ls, .int v :: .int j :: .ref x :: st, h) = mj_bd (mj_pz h x j v) (fun h' => mj_R i (pc + 1, ls, st, h')) := by
  have hs : mj_step i (.bastore, len, a, b) pc ls (.int v :: .int j :: .ref x :: st) h = (match mj_pz h x j v with | some h' => some (.inl (pc + 1, ls, st, h')) | none => none) := by
    simp only [mj_step, mj_nx, mj_pz]
    cases h.1 x with
    | none => rfl
    | some e =>
      obtain ⟨t, l⟩ | ⟨t, l⟩ := e
      · by_cases hc : t = 1 ∧ ¬ j < 0 ∧ j.toNatClampNeg < l.length ∧ (v == 0 || v == 1) = true
        · simp only [if_pos hc]
        · simp only [if_neg hc]
      · rfl
  cases hg : mj_pz h x j v with
  | none => rw [hg] at hs; rw [mj_R_none hat hs]; rfl
  | some v => rw [hg] at hs; rw [mj_R_next hat hs]; rfl
theorem mj_R_gq {x : Nat} {j : Int32} (hat : mj_at i pc = some (.aaload, len, a, b)) : mj_R i (pc, ls, .int j :: .ref x :: st, h) = mj_bd (mj_gq h x j) (fun v => mj_R i (pc + 1, ls, .ref v :: st, h)) := by
  have hs : mj_step i (.aaload, len, a, b) pc ls (.int j :: .ref x :: st) h = (match mj_gq h x j with | some v => some (.inl (pc + 1, ls, .ref v :: st, h)) | none => none) := by
    simp only [mj_step, mj_nx, mj_gq]
    cases h.1 x with
    | none => rfl
    | some e =>
      obtain ⟨t, l⟩ | ⟨t, l⟩ := e
      · rfl
      · by_cases hc : t = 99 ∧ ¬ j < 0
        · simp only [if_pos hc]
          cases l[j.toNatClampNeg]? with
          | none => rfl
          | some w => cases w <;> rfl
        · simp only [if_neg hc]
  cases hg : mj_gq h x j with
  | none => rw [hg] at hs; rw [mj_R_none hat hs]; rfl
  | some v => rw [hg] at hs; rw [mj_R_next hat hs]; rfl
theorem mj_R_pq {x v : Nat} {j : Int32} (hat : mj_at i pc = some (.aastore, len, a, b)) : mj_R i (pc, ls, .ref v :: .int j :: .ref x :: st, h) = mj_bd (mj_pq h x j v) (fun h' => mj_R i (pc + 1, ls, st, h')) := by
  have hs : mj_step i (.aastore, len, a, b) pc ls (.ref v :: .int j :: .ref x :: st) h = (match mj_pq h x j v with | some h' => some (.inl (pc + 1, ls, st, h')) | none => none) := by
    simp only [mj_step, mj_nx, mj_pq]
    cases h.1 x with
    | none => rfl
    | some e =>
      obtain ⟨t, l⟩ | ⟨t, l⟩ := e
      · rfl
      · by_cases hc : t = 99 ∧ ¬ j < 0 ∧ j.toNatClampNeg < l.length ∧ mj_isC h v 2 = true
        · simp only [if_pos hc]
        · simp only [if_neg hc]
  cases hg : mj_pq h x j v with
  | none => rw [hg] at hs; rw [mj_R_none hat hs]; rfl
  | some v => rw [hg] at hs; rw [mj_R_next hat hs]; rfl
theorem mj_R_al {x : Nat} (hat : mj_at i pc = some (.arraylength, len, a, b)) : mj_R i (pc, ls, .ref x :: st, h) = mj_bd (mj_al h x) (fun v => mj_R i (pc + 1, ls, .int v :: st, h)) := by
  have hs : mj_step i (.arraylength, len, a, b) pc ls (.ref x :: st) h = (match mj_al h x with | some v => some (.inl (pc + 1, ls, .int v :: st, h)) | none => none) := by
    simp only [mj_step, mj_nx, mj_al]
    cases h.1 x with
    | none => rfl
    | some e => obtain ⟨t, l⟩ | ⟨t, l⟩ := e <;> rfl
  cases hg : mj_al h x with
  | none => rw [hg] at hs; rw [mj_R_none hat hs]; rfl
  | some v => rw [hg] at hs; rw [mj_R_next hat hs]; rfl
theorem mj_R_cv {q : Instr × Nat × Nat × Nat} {x c j : Nat} {as rest : List Value} (hat : mj_at i pc = some q) (hs : mj_step i q pc ls st h = if mj_isC h x c = true then some (.inr (.inr (j, as, rest))) else none) : mj_R i (pc, ls, st, h) = if mj_isC h x c = true then mj_bd (mj_C j as h) (fun r => mj_R i (pc + 3, ls, r.1.toList ++ rest, r.2)) else none := by
  split at hs
  · rename_i hc
    rw [if_pos hc]
    exact mj_R_call hat hs
  · rename_i hc
    rw [if_neg hc]
    exact mj_R_none hat hs
theorem mj_R_cs {q : Instr × Nat × Nat × Nat} {j : Nat} {as rest : List Value} (hat : mj_at i pc = some q) (hs : mj_step i q pc ls st h = some (.inr (.inr (j, as, rest)))) : mj_R i (pc, ls, st, h) = mj_bd (mj_C j as h) (fun r => mj_R i (pc + 3, ls, r.1.toList ++ rest, r.2)) := mj_R_call hat hs
theorem mj_R_rz {x : Int32} (hat : mj_at i pc = some (.ireturn, len, a, b)) (hr : mj_r i = some .boolean) : mj_R i (pc, ls, [.int x], h) = if (x == 0 || x == 1) = true then some (some (.int x), h) else none := by
  have hs : mj_step i (.ireturn, len, a, b) pc ls [.int x] h = if (x == 0 || x == 1) = true then some (.inr (.inl (some (.int x)))) else none := by
    simp only [mj_step, mj_okr, hr]
  split
  · rename_i hc
    rw [if_pos hc] at hs
    exact mj_R_ret hat hs
  · rename_i hc
    rw [if_neg hc] at hs
    exact mj_R_none hat hs
end MJO
section MJB
variable {i pc len a b : Nat} {ls st : List Value} {h : mj_H} {x y : Int32} {n : Int}
theorem mj_R_jmp {c : Prop} [Decidable c] {q : Instr × Nat × Nat × Nat} {s1 s2 : mj_S} {bb : Bool} (hat : mj_at i pc = some q) (hb : bb = decide c) (hs : mj_step i q pc ls st h = if bb = true then some (.inl s1) else some (.inl s2)) : mj_R i (pc, ls, st, h) = if c then mj_R i s1 else mj_R i s2 := by
  subst hb
  by_cases hc : c
  · rw [if_pos hc]
    rw [if_pos (by simpa using hc)] at hs
    exact mj_R_next hat hs
  · rw [if_neg hc]
    rw [if_neg (by simpa using hc)] at hs
    exact mj_R_next hat hs
theorem mj_R_ieq (hat : mj_at i pc = some (.ifCond .eq n, len, a, b)) : mj_R i (pc, ls, .int x :: st, h) = if x = nI 0 then mj_R i (a, ls, st, h) else mj_R i (pc + 3, ls, st, h) := by
  rw [show nI 0 = (0 : Int32) from rfl]
  exact mj_R_jmp hat (bb := mj_cond .eq x 0) rfl rfl
theorem mj_R_ine (hat : mj_at i pc = some (.ifCond .ne n, len, a, b)) : mj_R i (pc, ls, .int x :: st, h) = if x = nI 0 then mj_R i (pc + 3, ls, st, h) else mj_R i (a, ls, st, h) := by
  rw [show nI 0 = (0 : Int32) from rfl]
  rw [mj_R_jmp (c := ¬ x = 0) hat (bb := mj_cond .ne x 0) rfl rfl]
  by_cases hx : x = 0
  · rw [if_neg (fun q => q hx), if_pos hx]
  · rw [if_pos hx, if_neg hx]
theorem mj_R_ilt (hat : mj_at i pc = some (.ifCond .lt n, len, a, b)) : mj_R i (pc, ls, .int x :: st, h) = if x < nI 0 then mj_R i (a, ls, st, h) else mj_R i (pc + 3, ls, st, h) := by
  rw [show nI 0 = (0 : Int32) from rfl]
  exact mj_R_jmp hat (bb := mj_cond .lt x 0) rfl rfl
theorem mj_R_ige (hat : mj_at i pc = some (.ifCond .ge n, len, a, b)) : mj_R i (pc, ls, .int x :: st, h) = if nI 0 ≤ x then mj_R i (a, ls, st, h) else mj_R i (pc + 3, ls, st, h) := by
  rw [show nI 0 = (0 : Int32) from rfl]
  exact mj_R_jmp hat (bb := mj_cond .ge x 0) rfl rfl
theorem mj_R_igt (hat : mj_at i pc = some (.ifCond .gt n, len, a, b)) : mj_R i (pc, ls, .int x :: st, h) = if nI 0 < x then mj_R i (a, ls, st, h) else mj_R i (pc + 3, ls, st, h) := by
  rw [show nI 0 = (0 : Int32) from rfl]
  exact mj_R_jmp hat (bb := mj_cond .gt x 0) rfl rfl
theorem mj_R_ile (hat : mj_at i pc = some (.ifCond .le n, len, a, b)) : mj_R i (pc, ls, .int x :: st, h) = if x ≤ nI 0 then mj_R i (a, ls, st, h) else mj_R i (pc + 3, ls, st, h) := by
  rw [show nI 0 = (0 : Int32) from rfl]
  exact mj_R_jmp hat (bb := mj_cond .le x 0) rfl rfl
theorem mj_R_jeq (hat : mj_at i pc = some (.if_icmp .eq n, len, a, b)) : mj_R i (pc, ls, .int y :: .int x :: st, h) = if x = y then mj_R i (a, ls, st, h) else mj_R i (pc + 3, ls, st, h) := mj_R_jmp hat (bb := mj_cond .eq x y) rfl rfl
theorem mj_R_jne (hat : mj_at i pc = some (.if_icmp .ne n, len, a, b)) : mj_R i (pc, ls, .int y :: .int x :: st, h) = if x = y then mj_R i (pc + 3, ls, st, h) else mj_R i (a, ls, st, h) := by
  rw [mj_R_jmp (c := ¬ x = y) hat (bb := mj_cond .ne x y) rfl rfl]
  by_cases hx : x = y
  · rw [if_neg (fun q => q hx), if_pos hx]
  · rw [if_pos hx, if_neg hx]
theorem mj_R_jlt (hat : mj_at i pc = some (.if_icmp .lt n, len, a, b)) : mj_R i (pc, ls, .int y :: .int x :: st, h) = if x < y then mj_R i (a, ls, st, h) else mj_R i (pc + 3, ls, st, h) := mj_R_jmp hat (bb := mj_cond .lt x y) rfl rfl
theorem mj_R_jge (hat : mj_at i pc = some (.if_icmp .ge n, len, a, b)) : mj_R i (pc, ls, .int y :: .int x :: st, h) = if y ≤ x then mj_R i (a, ls, st, h) else mj_R i (pc + 3, ls, st, h) := mj_R_jmp hat (bb := mj_cond .ge x y) rfl rfl
theorem mj_R_jgt (hat : mj_at i pc = some (.if_icmp .gt n, len, a, b)) : mj_R i (pc, ls, .int y :: .int x :: st, h) = if y < x then mj_R i (a, ls, st, h) else mj_R i (pc + 3, ls, st, h) := mj_R_jmp hat (bb := mj_cond .gt x y) rfl rfl
theorem mj_R_jle (hat : mj_at i pc = some (.if_icmp .le n, len, a, b)) : mj_R i (pc, ls, .int y :: .int x :: st, h) = if x ≤ y then mj_R i (a, ls, st, h) else mj_R i (pc + 3, ls, st, h) := mj_R_jmp hat (bb := mj_cond .le x y) rfl rfl
theorem mj_sw_out {k : Nat} (hx : ∀ j, j < k → x ≠ nI j) : x.toInt < 0 ∨ ((k : Int) - 1) < x.toInt := by
  rcases Int.lt_or_le x.toInt 0 with h1 | h1
  · exact Or.inl h1
  · rcases Int.lt_or_le ((k : Int) - 1) x.toInt with h2 | h2
    · exact Or.inr h2
    · exfalso
      have h3 : x.toInt.toNat < k := by omega
      refine hx _ h3 (Int32.toInt_inj.mp ?_)
      have h4 : x.toInt < 2 ^ 31 := Int32.toInt_lt x
      rw [nI_toInt (by omega)]
      omega
theorem mj_R_dfl {d lo hi : Int} {offs : Array Int} {k t : Nat} (hat : mj_at i pc = some (.tableswitch d lo hi offs, len, a, b)) (h0 : lo = 0) (h1 : hi = (k : Int) - 1) (ht : (pc : Int) + d = (t : Int)) (hx : ∀ j, j < k → x ≠ nI j) : mj_R i (pc, ls, .int x :: st, h) = mj_R i (t, ls, st, h) := by
  refine mj_R_next hat ?_
  have ho := mj_sw_out hx
  rw [← h1] at ho
  subst h0
  simp only [mj_step, if_pos ho, mj_jmp, ht, mj_nx]
  rw [if_pos (by omega)]
  rfl
end MJB
end
section
theorem mc_9 {a0 : Nat} {a1 : Nat} {h : mj_H} : mj_C 9 [.ref a0, .ref a1] h = mj_R 9 (0, [.ref a0, .ref a1], [], h) := rfl
theorem mq_9_0 {l1 : Value} {x : Nat} {st : List Value} {h : mj_H} : mj_R 9 (0, [.ref x, l1], st, h) = mj_R 9 (1, [.ref x, l1], .ref x :: st, h) := mj_R_next rfl rfl
theorem mq_9_1 {l0 l1 : Value} {a0 : Nat} {h : mj_H} : mj_R 9 (1, [l0, l1], [.ref a0], h) = mj_R 9 (4, [l0, l1], [], h) := mj_R_next rfl rfl
theorem mq_9_4 {l1 : Value} {x : Nat} {st : List Value} {h : mj_H} : mj_R 9 (4, [.ref x, l1], st, h) = mj_R 9 (5, [.ref x, l1], .ref x :: st, h) := mj_R_next rfl rfl
theorem mq_9_5 {l0 l1 : Value} {st : List Value} {h : mj_H} : mj_R 9 (5, [l0, l1], st, h) = mj_R 9 (7, [l0, l1], .int (nI 6) :: st, h) := mj_R_next rfl rfl
-- mq_9_7: .newarray .int
theorem mq_9_7 {l0 l1 : Value} {st : List Value} {h : mj_H} : mj_R 9 (7, [l0, l1], .int (nI 6) :: st, h) = mj_R 9 (9, [l0, l1], .ref h.2.1 :: st, mj_new h (.inl (0, List.replicate 6 0))) := mj_R_next rfl rfl
theorem mq_9_9 {l0 l1 : Value} {x : Nat} {v : Value} {st : List Value} {h : mj_H} : mj_R 9 (9, [l0, l1], v :: .ref x :: st, h) = mj_bd (mj_pf h x 2 6 v) (fun h' => mj_R 9 (12, [l0, l1], st, h')) := mj_R_pf rfl
theorem mq_9_12 {l1 : Value} {x : Nat} {st : List Value} {h : mj_H} : mj_R 9 (12, [.ref x, l1], st, h) = mj_R 9 (13, [.ref x, l1], .ref x :: st, h) := mj_R_next rfl rfl
theorem mq_9_13 {l0 : Value} {x : Nat} {st : List Value} {h : mj_H} : mj_R 9 (13, [l0, .ref x], st, h) = mj_R 9 (14, [l0, .ref x], .ref x :: st, h) := mj_R_next rfl rfl
theorem mq_9_14 {l0 l1 : Value} {x : Nat} {v : Value} {st : List Value} {h : mj_H} : mj_R 9 (14, [l0, l1], v :: .ref x :: st, h) = mj_bd (mj_pf h x 2 0 v) (fun h' => mj_R 9 (17, [l0, l1], st, h')) := mj_R_pf rfl
theorem mq_9_17 {l0 l1 : Value} {h : mj_H} : mj_R 9 (17, [l0, l1], [], h) = some (none, h) := mj_R_ret rfl rfl
theorem mc_10 {a0 : Nat} {h : mj_H} : mj_C 10 [.ref a0] h = mj_R 10 (0, [.ref a0], [], h) := rfl
theorem mq_10_0 {x : Nat} {st : List Value} {h : mj_H} : mj_R 10 (0, [.ref x], st, h) = mj_R 10 (1, [.ref x], .ref x :: st, h) := mj_R_next rfl rfl
theorem mq_10_1 {x : Nat} {st : List Value} {h : mj_H} : mj_R 10 (1, [.ref x], st, h) = mj_R 10 (2, [.ref x], .ref x :: st, h) := mj_R_next rfl rfl
theorem mq_10_2 {l0 : Value} {x : Nat} {st : List Value} {h : mj_H} : mj_R 10 (2, [l0], .ref x :: st, h) = mj_bd (mj_gf h x 2 0) (fun v => mj_R 10 (5, [l0], v :: st, h)) := mj_R_gf rfl
theorem mq_10_5 {l0 : Value} {x : Nat} {st : List Value} {h : mj_H} : mj_R 10 (5, [l0], .ref x :: st, h) = mj_bd (mj_gf h x 3 0) (fun v => mj_R 10 (8, [l0], v :: st, h)) := mj_R_gf rfl
theorem mq_10_8 {l0 : Value} {x : Nat} {v : Value} {st : List Value} {h : mj_H} : mj_R 10 (8, [l0], v :: .ref x :: st, h) = mj_bd (mj_pf h x 2 1 v) (fun h' => mj_R 10 (11, [l0], st, h')) := mj_R_pf rfl
theorem mq_10_11 {x : Nat} {st : List Value} {h : mj_H} : mj_R 10 (11, [.ref x], st, h) = mj_R 10 (12, [.ref x], .ref x :: st, h) := mj_R_next rfl rfl
theorem mq_10_12 {l0 : Value} {st : List Value} {h : mj_H} : mj_R 10 (12, [l0], st, h) = mj_R 10 (13, [l0], .int (nI 0) :: st, h) := mj_R_next rfl rfl
theorem mq_10_13 {l0 : Value} {x : Nat} {v : Value} {st : List Value} {h : mj_H} : mj_R 10 (13, [l0], v :: .ref x :: st, h) = mj_bd (mj_pf h x 2 2 v) (fun h' => mj_R 10 (16, [l0], st, h')) := mj_R_pf rfl
theorem mq_10_16 {x : Nat} {st : List Value} {h : mj_H} : mj_R 10 (16, [.ref x], st, h) = mj_R 10 (17, [.ref x], .ref x :: st, h) := mj_R_next rfl rfl
theorem mq_10_17 {l0 : Value} {st : List Value} {h : mj_H} : mj_R 10 (17, [l0], st, h) = mj_R 10 (18, [l0], .int (nI 0) :: st, h) := mj_R_next rfl rfl
theorem mq_10_18 {l0 : Value} {x : Nat} {v : Value} {st : List Value} {h : mj_H} : mj_R 10 (18, [l0], v :: .ref x :: st, h) = mj_bd (mj_pf h x 2 3 v) (fun h' => mj_R 10 (21, [l0], st, h')) := mj_R_pf rfl
theorem mq_10_21 {x : Nat} {st : List Value} {h : mj_H} : mj_R 10 (21, [.ref x], st, h) = mj_R 10 (22, [.ref x], .ref x :: st, h) := mj_R_next rfl rfl
theorem mq_10_22 {l0 : Value} {st : List Value} {h : mj_H} : mj_R 10 (22, [l0], st, h) = mj_R 10 (23, [l0], .int (nI 0) :: st, h) := mj_R_next rfl rfl
theorem mq_10_23 {l0 : Value} {x : Nat} {v : Value} {st : List Value} {h : mj_H} : mj_R 10 (23, [l0], v :: .ref x :: st, h) = mj_bd (mj_pf h x 2 4 v) (fun h' => mj_R 10 (26, [l0], st, h')) := mj_R_pf rfl
theorem mq_10_26 {x : Nat} {st : List Value} {h : mj_H} : mj_R 10 (26, [.ref x], st, h) = mj_R 10 (27, [.ref x], .ref x :: st, h) := mj_R_next rfl rfl
theorem mq_10_27 {l0 : Value} {st : List Value} {h : mj_H} : mj_R 10 (27, [l0], st, h) = mj_R 10 (28, [l0], .int (nI 0) :: st, h) := mj_R_next rfl rfl
theorem mq_10_28 {l0 : Value} {x : Nat} {v : Value} {st : List Value} {h : mj_H} : mj_R 10 (28, [l0], v :: .ref x :: st, h) = mj_bd (mj_pf h x 2 5 v) (fun h' => mj_R 10 (31, [l0], st, h')) := mj_R_pf rfl
theorem mq_10_31 {l0 : Value} {h : mj_H} : mj_R 10 (31, [l0], [], h) = some (none, h) := mj_R_ret rfl rfl
theorem mc_11 {a0 : Nat} {h : mj_H} : mj_C 11 [.ref a0] h = mj_R 11 (0, [.ref a0], [], h) := rfl
theorem mq_11_0 {x : Nat} {st : List Value} {h : mj_H} : mj_R 11 (0, [.ref x], st, h) = mj_R 11 (1, [.ref x], .ref x :: st, h) := mj_R_next rfl rfl
theorem mq_11_1 {l0 : Value} {a0 : Nat} {h : mj_H} : mj_R 11 (1, [l0], [.ref a0], h) = if mj_isC h a0 2 = true then mj_bd (mj_C 12 [.ref a0] h) (fun r => mj_R 11 (4, [l0], r.1.toList ++ [], r.2)) else none := mj_R_cv rfl rfl
theorem mq_11_4 {l0 : Value} {x : Int32} {st : List Value} {h : mj_H} : mj_R 11 (4, [l0], .int x :: st, h) = if x = nI 0 then mj_R 11 (14, [l0], st, h) else mj_R 11 (7, [l0], st, h) := mj_R_ieq rfl
theorem mq_11_7 {x : Nat} {st : List Value} {h : mj_H} : mj_R 11 (7, [.ref x], st, h) = mj_R 11 (8, [.ref x], .ref x :: st, h) := mj_R_next rfl rfl
theorem mq_11_8 {l0 : Value} {x : Nat} {st : List Value} {h : mj_H} : mj_R 11 (8, [l0], .ref x :: st, h) = mj_bd (mj_gf h x 2 4) (fun v => mj_R 11 (11, [l0], v :: st, h)) := mj_R_gf rfl
theorem mq_11_11 {l0 : Value} {st : List Value} {h : mj_H} : mj_R 11 (11, [l0], st, h) = mj_R 11 (16, [l0], st, h) := mj_R_next rfl rfl
theorem mq_11_14 {l0 : Value} {st : List Value} {h : mj_H} : mj_R 11 (14, [l0], st, h) = mj_R 11 (16, [l0], .int (-9) :: st, h) := mj_R_next rfl rfl
theorem mq_11_16 {l0 : Value} {x : Int32} {h : mj_H} : mj_R 11 (16, [l0], [.int x], h) = some (some (.int x), h) := mj_R_ret rfl rfl
theorem mc_12 {a0 : Nat} {h : mj_H} : mj_C 12 [.ref a0] h = mj_R 12 (0, [.ref a0], [], h) := rfl
theorem mq_12_0 {x : Nat} {st : List Value} {h : mj_H} : mj_R 12 (0, [.ref x], st, h) = mj_R 12 (1, [.ref x], .ref x :: st, h) := mj_R_next rfl rfl
theorem mq_12_1 {l0 : Value} {x : Nat} {st : List Value} {h : mj_H} : mj_R 12 (1, [l0], .ref x :: st, h) = mj_bd (mj_gf h x 2 0) (fun v => mj_R 12 (4, [l0], v :: st, h)) := mj_R_gf rfl
theorem mq_12_4 {x : Nat} {st : List Value} {h : mj_H} : mj_R 12 (4, [.ref x], st, h) = mj_R 12 (5, [.ref x], .ref x :: st, h) := mj_R_next rfl rfl
theorem mq_12_5 {l0 : Value} {x : Nat} {st : List Value} {h : mj_H} : mj_R 12 (5, [l0], .ref x :: st, h) = mj_bd (mj_gf h x 2 4) (fun v => mj_R 12 (8, [l0], v :: st, h)) := mj_R_gf rfl
theorem mq_12_8 {l0 : Value} {a0 : Nat} {a1 : Int32} {h : mj_H} : mj_R 12 (8, [l0], [.int a1, .ref a0], h) = if mj_isC h a0 3 = true then mj_bd (mj_C 31 [.ref a0, .int a1] h) (fun r => mj_R 12 (11, [l0], r.1.toList ++ [], r.2)) else none := mj_R_cv rfl rfl
theorem mq_12_11 {l0 : Value} {x : Int32} {h : mj_H} : mj_R 12 (11, [l0], [.int x], h) = if (x == 0 || x == 1) = true then some (some (.int x), h) else none := mj_R_rz rfl rfl
theorem mc_13 {a0 : Nat} {a1 : Int32} {h : mj_H} : mj_C 13 [.ref a0, .int a1] h = mj_R 13 (0, [.ref a0, .int a1, .null, .null], [], h) := rfl
theorem mq_13_0 {l1 l2 l3 : Value} {x : Nat} {st : List Value} {h : mj_H} : mj_R 13 (0, [.ref x, l1, l2, l3], st, h) = mj_R 13 (1, [.ref x, l1, l2, l3], .ref x :: st, h) := mj_R_next rfl rfl
theorem mq_13_1 {l0 l1 l2 l3 : Value} {x : Nat} {st : List Value} {h : mj_H} : mj_R 13 (1, [l0, l1, l2, l3], .ref x :: st, h) = mj_bd (mj_gf h x 2 0) (fun v => mj_R 13 (4, [l0, l1, l2, l3], v :: st, h)) := mj_R_gf rfl
theorem mq_13_4 {l0 l2 l3 : Value} {x : Int32} {st : List Value} {h : mj_H} : mj_R 13 (4, [l0, .int x, l2, l3], st, h) = mj_R 13 (5, [l0, .int x, l2, l3], .int x :: st, h) := mj_R_next rfl rfl
theorem mq_13_5 {l0 l1 l2 l3 : Value} {a0 : Nat} {a1 : Int32} {h : mj_H} : mj_R 13 (5, [l0, l1, l2, l3], [.int a1, .ref a0], h) = if mj_isC h a0 3 = true then mj_bd (mj_C 38 [.ref a0, .int a1] h) (fun r => mj_R 13 (8, [l0, l1, l2, l3], r.1.toList ++ [], r.2)) else none := mj_R_cv rfl rfl
theorem mq_13_8 {l0 l1 l2 l3 : Value} {x : Int32} {st : List Value} {h : mj_H} : mj_R 13 (8, [l0, l1, l2, l3], .int x :: st, h) = mj_R 13 (9, [l0, l1, .int x, l3], st, h) := mj_R_next rfl rfl
theorem mq_13_9 {l1 l2 l3 : Value} {x : Nat} {st : List Value} {h : mj_H} : mj_R 13 (9, [.ref x, l1, l2, l3], st, h) = mj_R 13 (10, [.ref x, l1, l2, l3], .ref x :: st, h) := mj_R_next rfl rfl
theorem mq_13_10 {l0 l1 l2 l3 : Value} {x : Nat} {st : List Value} {h : mj_H} : mj_R 13 (10, [l0, l1, l2, l3], .ref x :: st, h) = mj_bd (mj_gf h x 2 0) (fun v => mj_R 13 (13, [l0, l1, l2, l3], v :: st, h)) := mj_R_gf rfl
theorem mq_13_13 {l0 l2 l3 : Value} {x : Int32} {st : List Value} {h : mj_H} : mj_R 13 (13, [l0, .int x, l2, l3], st, h) = mj_R 13 (14, [l0, .int x, l2, l3], .int x :: st, h) := mj_R_next rfl rfl
theorem mq_13_14 {l0 l1 l2 l3 : Value} {a0 : Nat} {a1 : Int32} {h : mj_H} : mj_R 13 (14, [l0, l1, l2, l3], [.int a1, .ref a0], h) = if mj_isC h a0 3 = true then mj_bd (mj_C 31 [.ref a0, .int a1] h) (fun r => mj_R 13 (17, [l0, l1, l2, l3], r.1.toList ++ [], r.2)) else none := mj_R_cv rfl rfl
theorem mq_13_17 {l0 l1 l2 l3 : Value} {x : Int32} {st : List Value} {h : mj_H} : mj_R 13 (17, [l0, l1, l2, l3], .int x :: st, h) = if x = nI 0 then mj_R 13 (37, [l0, l1, l2, l3], st, h) else mj_R 13 (20, [l0, l1, l2, l3], st, h) := mj_R_ieq rfl
theorem mq_13_20 {l1 l2 l3 : Value} {x : Nat} {st : List Value} {h : mj_H} : mj_R 13 (20, [.ref x, l1, l2, l3], st, h) = mj_R 13 (21, [.ref x, l1, l2, l3], .ref x :: st, h) := mj_R_next rfl rfl
theorem mq_13_21 {l0 l1 l2 l3 : Value} {x : Nat} {st : List Value} {h : mj_H} : mj_R 13 (21, [l0, l1, l2, l3], .ref x :: st, h) = mj_bd (mj_gf h x 2 0) (fun v => mj_R 13 (24, [l0, l1, l2, l3], v :: st, h)) := mj_R_gf rfl
theorem mq_13_24 {l0 l1 l2 l3 : Value} {x : Nat} {st : List Value} {h : mj_H} : mj_R 13 (24, [l0, l1, l2, l3], .ref x :: st, h) = mj_bd (mj_gf h x 3 3) (fun v => mj_R 13 (27, [l0, l1, l2, l3], v :: st, h)) := mj_R_gf rfl
theorem mq_13_27 {l0 l2 l3 : Value} {x : Int32} {st : List Value} {h : mj_H} : mj_R 13 (27, [l0, .int x, l2, l3], st, h) = mj_R 13 (28, [l0, .int x, l2, l3], .int x :: st, h) := mj_R_next rfl rfl
theorem mq_13_28 {l0 l1 l2 l3 : Value} {x : Nat} {j : Int32} {st : List Value} {h : mj_H} : mj_R 13 (28, [l0, l1, l2, l3], .int j :: .ref x :: st, h) = mj_bd (mj_gi h x j) (fun v => mj_R 13 (29, [l0, l1, l2, l3], .int v :: st, h)) := mj_R_gi rfl
theorem mq_13_29 {l0 l1 l2 l3 : Value} {st : List Value} {h : mj_H} : mj_R 13 (29, [l0, l1, l2, l3], st, h) = mj_R 13 (30, [l0, l1, l2, l3], .int (nI 2) :: st, h) := mj_R_next rfl rfl
theorem mq_13_30 {l0 l1 l2 l3 : Value} {x y : Int32} {st : List Value} {h : mj_H} : mj_R 13 (30, [l0, l1, l2, l3], .int y :: .int x :: st, h) = if x = y then mj_R 13 (33, [l0, l1, l2, l3], st, h) else mj_R 13 (37, [l0, l1, l2, l3], st, h) := mj_R_jne rfl
theorem mq_13_33 {l0 l1 l2 l3 : Value} {st : List Value} {h : mj_H} : mj_R 13 (33, [l0, l1, l2, l3], st, h) = mj_R 13 (34, [l0, l1, l2, l3], .int (nI 1) :: st, h) := mj_R_next rfl rfl
theorem mq_13_34 {l0 l1 l2 l3 : Value} {st : List Value} {h : mj_H} : mj_R 13 (34, [l0, l1, l2, l3], st, h) = mj_R 13 (38, [l0, l1, l2, l3], st, h) := mj_R_next rfl rfl
theorem mq_13_37 {l0 l1 l2 l3 : Value} {st : List Value} {h : mj_H} : mj_R 13 (37, [l0, l1, l2, l3], st, h) = mj_R 13 (38, [l0, l1, l2, l3], .int (nI 0) :: st, h) := mj_R_next rfl rfl
theorem mq_13_38 {l0 l1 l2 l3 : Value} {x : Int32} {st : List Value} {h : mj_H} : mj_R 13 (38, [l0, l1, l2, l3], .int x :: st, h) = mj_R 13 (39, [l0, l1, l2, .int x], st, h) := mj_R_next rfl rfl
theorem mq_13_39 {l0 l1 l2 : Value} {x : Int32} {st : List Value} {h : mj_H} : mj_R 13 (39, [l0, l1, l2, .int x], st, h) = mj_R 13 (40, [l0, l1, l2, .int x], .int x :: st, h) := mj_R_next rfl rfl
theorem mq_13_40 {l0 l1 l2 l3 : Value} {x : Int32} {st : List Value} {h : mj_H} : mj_R 13 (40, [l0, l1, l2, l3], .int x :: st, h) = if x = nI 0 then mj_R 13 (54, [l0, l1, l2, l3], st, h) else mj_R 13 (43, [l0, l1, l2, l3], st, h) := mj_R_ieq rfl
theorem mq_13_43 {l0 l1 l3 : Value} {x : Int32} {st : List Value} {h : mj_H} : mj_R 13 (43, [l0, l1, .int x, l3], st, h) = mj_R 13 (44, [l0, l1, .int x, l3], .int x :: st, h) := mj_R_next rfl rfl
theorem mq_13_44 {l1 l2 l3 : Value} {x : Nat} {st : List Value} {h : mj_H} : mj_R 13 (44, [.ref x, l1, l2, l3], st, h) = mj_R 13 (45, [.ref x, l1, l2, l3], .ref x :: st, h) := mj_R_next rfl rfl
theorem mq_13_45 {l0 l1 l2 l3 : Value} {a0 : Nat} {s0 : Value} {h : mj_H} : mj_R 13 (45, [l0, l1, l2, l3], [.ref a0, s0], h) = if mj_isC h a0 2 = true then mj_bd (mj_C 14 [.ref a0] h) (fun r => mj_R 13 (48, [l0, l1, l2, l3], r.1.toList ++ [s0], r.2)) else none := mj_R_cv rfl rfl
theorem mq_13_48 {l0 l1 l2 l3 : Value} {a0 : Int32} {a1 : Int32} {h : mj_H} : mj_R 13 (48, [l0, l1, l2, l3], [.int a1, .int a0], h) = mj_R 13 (51, [l0, l1, l2, l3], .int (if a0 < a1 then a1 else a0) :: [], h) := mj_R_next rfl rfl
theorem mq_13_51 {l0 l1 l2 l3 : Value} {st : List Value} {h : mj_H} : mj_R 13 (51, [l0, l1, l2, l3], st, h) = mj_R 13 (55, [l0, l1, l2, l3], st, h) := mj_R_next rfl rfl
theorem mq_13_54 {l0 l1 l3 : Value} {x : Int32} {st : List Value} {h : mj_H} : mj_R 13 (54, [l0, l1, .int x, l3], st, h) = mj_R 13 (55, [l0, l1, .int x, l3], .int x :: st, h) := mj_R_next rfl rfl
theorem mq_13_55 {l0 l1 l2 l3 : Value} {x : Int32} {h : mj_H} : mj_R 13 (55, [l0, l1, l2, l3], [.int x], h) = some (some (.int x), h) := mj_R_ret rfl rfl
theorem mc_14 {a0 : Nat} {h : mj_H} : mj_C 14 [.ref a0] h = mj_R 14 (0, [.ref a0, .null, .null], [], h) := rfl
theorem mq_14_0 {l0 l1 l2 : Value} {st : List Value} {h : mj_H} : mj_R 14 (0, [l0, l1, l2], st, h) = mj_R 14 (1, [l0, l1, l2], .int (nI 0) :: st, h) := mj_R_next rfl rfl
theorem mq_14_1 {l0 l1 l2 : Value} {x : Int32} {st : List Value} {h : mj_H} : mj_R 14 (1, [l0, l1, l2], .int x :: st, h) = mj_R 14 (2, [l0, .int x, l2], st, h) := mj_R_next rfl rfl
theorem mq_14_2 {l0 l1 l2 : Value} {st : List Value} {h : mj_H} : mj_R 14 (2, [l0, l1, l2], st, h) = mj_R 14 (3, [l0, l1, l2], .int (nI 0) :: st, h) := mj_R_next rfl rfl
theorem mq_14_3 {l0 l1 l2 : Value} {x : Int32} {st : List Value} {h : mj_H} : mj_R 14 (3, [l0, l1, l2], .int x :: st, h) = mj_R 14 (4, [l0, l1, .int x], st, h) := mj_R_next rfl rfl
theorem mq_14_4 {l0 l1 : Value} {x : Int32} {st : List Value} {h : mj_H} : mj_R 14 (4, [l0, l1, .int x], st, h) = mj_R 14 (5, [l0, l1, .int x], .int x :: st, h) := mj_R_next rfl rfl
theorem mq_14_5 {l1 l2 : Value} {x : Nat} {st : List Value} {h : mj_H} : mj_R 14 (5, [.ref x, l1, l2], st, h) = mj_R 14 (6, [.ref x, l1, l2], .ref x :: st, h) := mj_R_next rfl rfl
theorem mq_14_6 {l0 l1 l2 : Value} {x : Nat} {st : List Value} {h : mj_H} : mj_R 14 (6, [l0, l1, l2], .ref x :: st, h) = mj_bd (mj_gf h x 2 0) (fun v => mj_R 14 (9, [l0, l1, l2], v :: st, h)) := mj_R_gf rfl
theorem mq_14_9 {l0 l1 l2 : Value} {x : Nat} {st : List Value} {h : mj_H} : mj_R 14 (9, [l0, l1, l2], .ref x :: st, h) = mj_bd (mj_gf h x 3 1) (fun v => mj_R 14 (12, [l0, l1, l2], v :: st, h)) := mj_R_gf rfl
theorem mq_14_12 {l0 l1 l2 : Value} {x y : Int32} {st : List Value} {h : mj_H} : mj_R 14 (12, [l0, l1, l2], .int y :: .int x :: st, h) = if y ≤ x then mj_R 14 (40, [l0, l1, l2], st, h) else mj_R 14 (15, [l0, l1, l2], st, h) := mj_R_jge rfl
theorem mq_14_15 {l1 l2 : Value} {x : Nat} {st : List Value} {h : mj_H} : mj_R 14 (15, [.ref x, l1, l2], st, h) = mj_R 14 (16, [.ref x, l1, l2], .ref x :: st, h) := mj_R_next rfl rfl
theorem mq_14_16 {l0 l1 : Value} {x : Int32} {st : List Value} {h : mj_H} : mj_R 14 (16, [l0, l1, .int x], st, h) = mj_R 14 (17, [l0, l1, .int x], .int x :: st, h) := mj_R_next rfl rfl
theorem mq_14_17 {l0 l1 l2 : Value} {a0 : Nat} {a1 : Int32} {h : mj_H} : mj_R 14 (17, [l0, l1, l2], [.int a1, .ref a0], h) = if mj_isC h a0 2 = true then mj_bd (mj_C 15 [.ref a0, .int a1] h) (fun r => mj_R 14 (20, [l0, l1, l2], r.1.toList ++ [], r.2)) else none := mj_R_cv rfl rfl
theorem mq_14_20 {l0 l1 l2 : Value} {x : Int32} {st : List Value} {h : mj_H} : mj_R 14 (20, [l0, l1, l2], .int x :: st, h) = if x = nI 0 then mj_R 14 (34, [l0, l1, l2], st, h) else mj_R 14 (23, [l0, l1, l2], st, h) := mj_R_ieq rfl
theorem mq_14_23 {l0 l2 : Value} {x : Int32} {st : List Value} {h : mj_H} : mj_R 14 (23, [l0, .int x, l2], st, h) = mj_R 14 (24, [l0, .int x, l2], .int x :: st, h) := mj_R_next rfl rfl
theorem mq_14_24 {l1 l2 : Value} {x : Nat} {st : List Value} {h : mj_H} : mj_R 14 (24, [.ref x, l1, l2], st, h) = mj_R 14 (25, [.ref x, l1, l2], .ref x :: st, h) := mj_R_next rfl rfl
theorem mq_14_25 {l0 l1 l2 : Value} {x : Nat} {st : List Value} {h : mj_H} : mj_R 14 (25, [l0, l1, l2], .ref x :: st, h) = mj_bd (mj_gf h x 2 6) (fun v => mj_R 14 (28, [l0, l1, l2], v :: st, h)) := mj_R_gf rfl
theorem mq_14_28 {l0 l1 : Value} {x : Int32} {st : List Value} {h : mj_H} : mj_R 14 (28, [l0, l1, .int x], st, h) = mj_R 14 (29, [l0, l1, .int x], .int x :: st, h) := mj_R_next rfl rfl
theorem mq_14_29 {l0 l1 l2 : Value} {x : Nat} {j : Int32} {st : List Value} {h : mj_H} : mj_R 14 (29, [l0, l1, l2], .int j :: .ref x :: st, h) = mj_bd (mj_gi h x j) (fun v => mj_R 14 (30, [l0, l1, l2], .int v :: st, h)) := mj_R_gi rfl
theorem mq_14_30 {l0 l1 l2 : Value} {a0 : Int32} {a1 : Int32} {h : mj_H} : mj_R 14 (30, [l0, l1, l2], [.int a1, .int a0], h) = mj_R 14 (33, [l0, l1, l2], .int (if a0 < a1 then a1 else a0) :: [], h) := mj_R_next rfl rfl
theorem mq_14_33 {l0 l1 l2 : Value} {x : Int32} {st : List Value} {h : mj_H} : mj_R 14 (33, [l0, l1, l2], .int x :: st, h) = mj_R 14 (34, [l0, .int x, l2], st, h) := mj_R_next rfl rfl
theorem mq_14_34 {l0 l1 : Value} {x : Int32} {st : List Value} {h : mj_H} : mj_R 14 (34, [l0, l1, .int x], st, h) = mj_R 14 (37, [l0, l1, .int (x + (nI 1))], st, h) := mj_R_next rfl rfl
theorem mq_14_37 {l0 l1 l2 : Value} {st : List Value} {h : mj_H} : mj_R 14 (37, [l0, l1, l2], st, h) = mj_R 14 (4, [l0, l1, l2], st, h) := mj_R_next rfl rfl
theorem mq_14_40 {l0 l2 : Value} {x : Int32} {st : List Value} {h : mj_H} : mj_R 14 (40, [l0, .int x, l2], st, h) = mj_R 14 (41, [l0, .int x, l2], .int x :: st, h) := mj_R_next rfl rfl
theorem mq_14_41 {l0 l1 l2 : Value} {x : Int32} {h : mj_H} : mj_R 14 (41, [l0, l1, l2], [.int x], h) = some (some (.int x), h) := mj_R_ret rfl rfl
theorem mc_15 {a0 : Nat} {a1 : Int32} {h : mj_H} : mj_C 15 [.ref a0, .int a1] h = mj_R 15 (0, [.ref a0, .int a1], [], h) := rfl
theorem mq_15_0 {l1 : Value} {x : Nat} {st : List Value} {h : mj_H} : mj_R 15 (0, [.ref x, l1], st, h) = mj_R 15 (1, [.ref x, l1], .ref x :: st, h) := mj_R_next rfl rfl
theorem mq_15_1 {l0 l1 : Value} {x : Nat} {st : List Value} {h : mj_H} : mj_R 15 (1, [l0, l1], .ref x :: st, h) = mj_bd (mj_gf h x 2 2) (fun v => mj_R 15 (4, [l0, l1], v :: st, h)) := mj_R_gf rfl
theorem mq_15_4 {l0 l1 : Value} {st : List Value} {h : mj_H} : mj_R 15 (4, [l0, l1], st, h) = mj_R 15 (5, [l0, l1], .int (nI 1) :: st, h) := mj_R_next rfl rfl
theorem mq_15_5 {l0 : Value} {x : Int32} {st : List Value} {h : mj_H} : mj_R 15 (5, [l0, .int x], st, h) = mj_R 15 (6, [l0, .int x], .int x :: st, h) := mj_R_next rfl rfl
theorem mq_15_6 {l0 l1 : Value} {x y : Int32} {st : List Value} {h : mj_H} : mj_R 15 (6, [l0, l1], .int y :: .int x :: st, h) = mj_R 15 (7, [l0, l1], .int (x <<< (y &&& 31)) :: st, h) := mj_R_next rfl rfl
theorem mq_15_7 {l0 l1 : Value} {x y : Int32} {st : List Value} {h : mj_H} : mj_R 15 (7, [l0, l1], .int y :: .int x :: st, h) = mj_R 15 (8, [l0, l1], .int (x &&& y) :: st, h) := mj_R_next rfl rfl
theorem mq_15_8 {l0 l1 : Value} {x : Int32} {st : List Value} {h : mj_H} : mj_R 15 (8, [l0, l1], .int x :: st, h) = if x = nI 0 then mj_R 15 (15, [l0, l1], st, h) else mj_R 15 (11, [l0, l1], st, h) := mj_R_ieq rfl
theorem mq_15_11 {l0 l1 : Value} {st : List Value} {h : mj_H} : mj_R 15 (11, [l0, l1], st, h) = mj_R 15 (12, [l0, l1], .int (nI 1) :: st, h) := mj_R_next rfl rfl
theorem mq_15_12 {l0 l1 : Value} {st : List Value} {h : mj_H} : mj_R 15 (12, [l0, l1], st, h) = mj_R 15 (16, [l0, l1], st, h) := mj_R_next rfl rfl
theorem mq_15_15 {l0 l1 : Value} {st : List Value} {h : mj_H} : mj_R 15 (15, [l0, l1], st, h) = mj_R 15 (16, [l0, l1], .int (nI 0) :: st, h) := mj_R_next rfl rfl
theorem mq_15_16 {l0 l1 : Value} {x : Int32} {h : mj_H} : mj_R 15 (16, [l0, l1], [.int x], h) = if (x == 0 || x == 1) = true then some (some (.int x), h) else none := mj_R_rz rfl rfl
theorem mc_16 {a0 : Nat} {h : mj_H} : mj_C 16 [.ref a0] h = mj_R 16 (0, [.ref a0], [], h) := rfl
theorem mq_16_0 {x : Nat} {st : List Value} {h : mj_H} : mj_R 16 (0, [.ref x], st, h) = mj_R 16 (1, [.ref x], .ref x :: st, h) := mj_R_next rfl rfl
theorem mq_16_1 {l0 : Value} {a0 : Nat} {h : mj_H} : mj_R 16 (1, [l0], [.ref a0], h) = if mj_isC h a0 2 = true then mj_bd (mj_C 12 [.ref a0] h) (fun r => mj_R 16 (4, [l0], r.1.toList ++ [], r.2)) else none := mj_R_cv rfl rfl
theorem mq_16_4 {l0 : Value} {x : Int32} {st : List Value} {h : mj_H} : mj_R 16 (4, [l0], .int x :: st, h) = if x = nI 0 then mj_R 16 (26, [l0], st, h) else mj_R 16 (7, [l0], st, h) := mj_R_ieq rfl
theorem mq_16_7 {x : Nat} {st : List Value} {h : mj_H} : mj_R 16 (7, [.ref x], st, h) = mj_R 16 (8, [.ref x], .ref x :: st, h) := mj_R_next rfl rfl
theorem mq_16_8 {x : Nat} {st : List Value} {h : mj_H} : mj_R 16 (8, [.ref x], st, h) = mj_R 16 (9, [.ref x], .ref x :: st, h) := mj_R_next rfl rfl
theorem mq_16_9 {l0 : Value} {x : Nat} {st : List Value} {h : mj_H} : mj_R 16 (9, [l0], .ref x :: st, h) = mj_bd (mj_gf h x 2 4) (fun v => mj_R 16 (12, [l0], v :: st, h)) := mj_R_gf rfl
theorem mq_16_12 {l0 : Value} {a0 : Nat} {a1 : Int32} {h : mj_H} : mj_R 16 (12, [l0], [.int a1, .ref a0], h) = if mj_isC h a0 2 = true then mj_bd (mj_C 13 [.ref a0, .int a1] h) (fun r => mj_R 16 (15, [l0], r.1.toList ++ [], r.2)) else none := mj_R_cv rfl rfl
theorem mq_16_15 {x : Nat} {st : List Value} {h : mj_H} : mj_R 16 (15, [.ref x], st, h) = mj_R 16 (16, [.ref x], .ref x :: st, h) := mj_R_next rfl rfl
theorem mq_16_16 {l0 : Value} {x : Nat} {st : List Value} {h : mj_H} : mj_R 16 (16, [l0], .ref x :: st, h) = mj_bd (mj_gf h x 2 1) (fun v => mj_R 16 (19, [l0], v :: st, h)) := mj_R_gf rfl
theorem mq_16_19 {l0 : Value} {x y : Int32} {st : List Value} {h : mj_H} : mj_R 16 (19, [l0], .int y :: .int x :: st, h) = if y < x then mj_R 16 (26, [l0], st, h) else mj_R 16 (22, [l0], st, h) := mj_R_jgt rfl
theorem mq_16_22 {l0 : Value} {st : List Value} {h : mj_H} : mj_R 16 (22, [l0], st, h) = mj_R 16 (23, [l0], .int (nI 1) :: st, h) := mj_R_next rfl rfl
theorem mq_16_23 {l0 : Value} {st : List Value} {h : mj_H} : mj_R 16 (23, [l0], st, h) = mj_R 16 (27, [l0], st, h) := mj_R_next rfl rfl
theorem mq_16_26 {l0 : Value} {st : List Value} {h : mj_H} : mj_R 16 (26, [l0], st, h) = mj_R 16 (27, [l0], .int (nI 0) :: st, h) := mj_R_next rfl rfl
theorem mq_16_27 {l0 : Value} {x : Int32} {h : mj_H} : mj_R 16 (27, [l0], [.int x], h) = if (x == 0 || x == 1) = true then some (some (.int x), h) else none := mj_R_rz rfl rfl
theorem mc_17 {a0 : Nat} {a1 : Nat} {h : mj_H} : mj_C 17 [.ref a0, .ref a1] h = mj_R 17 (0, [.ref a0, .ref a1, .null], [], h) := rfl
theorem mq_17_0 {l1 l2 : Value} {x : Nat} {st : List Value} {h : mj_H} : mj_R 17 (0, [.ref x, l1, l2], st, h) = mj_R 17 (1, [.ref x, l1, l2], .ref x :: st, h) := mj_R_next rfl rfl
theorem mq_17_1 {l0 l2 : Value} {x : Nat} {st : List Value} {h : mj_H} : mj_R 17 (1, [l0, .ref x, l2], st, h) = mj_R 17 (2, [l0, .ref x, l2], .ref x :: st, h) := mj_R_next rfl rfl
theorem mq_17_2 {l0 l1 l2 : Value} {x : Nat} {st : List Value} {h : mj_H} : mj_R 17 (2, [l0, l1, l2], .ref x :: st, h) = mj_bd (mj_gf h x 2 1) (fun v => mj_R 17 (5, [l0, l1, l2], v :: st, h)) := mj_R_gf rfl
theorem mq_17_5 {l0 l1 l2 : Value} {x : Nat} {v : Value} {st : List Value} {h : mj_H} : mj_R 17 (5, [l0, l1, l2], v :: .ref x :: st, h) = mj_bd (mj_pf h x 2 1 v) (fun h' => mj_R 17 (8, [l0, l1, l2], st, h')) := mj_R_pf rfl
theorem mq_17_8 {l1 l2 : Value} {x : Nat} {st : List Value} {h : mj_H} : mj_R 17 (8, [.ref x, l1, l2], st, h) = mj_R 17 (9, [.ref x, l1, l2], .ref x :: st, h) := mj_R_next rfl rfl
theorem mq_17_9 {l0 l2 : Value} {x : Nat} {st : List Value} {h : mj_H} : mj_R 17 (9, [l0, .ref x, l2], st, h) = mj_R 17 (10, [l0, .ref x, l2], .ref x :: st, h) := mj_R_next rfl rfl
theorem mq_17_10 {l0 l1 l2 : Value} {x : Nat} {st : List Value} {h : mj_H} : mj_R 17 (10, [l0, l1, l2], .ref x :: st, h) = mj_bd (mj_gf h x 2 2) (fun v => mj_R 17 (13, [l0, l1, l2], v :: st, h)) := mj_R_gf rfl
theorem mq_17_13 {l0 l1 l2 : Value} {x : Nat} {v : Value} {st : List Value} {h : mj_H} : mj_R 17 (13, [l0, l1, l2], v :: .ref x :: st, h) = mj_bd (mj_pf h x 2 2 v) (fun h' => mj_R 17 (16, [l0, l1, l2], st, h')) := mj_R_pf rfl
theorem mq_17_16 {l1 l2 : Value} {x : Nat} {st : List Value} {h : mj_H} : mj_R 17 (16, [.ref x, l1, l2], st, h) = mj_R 17 (17, [.ref x, l1, l2], .ref x :: st, h) := mj_R_next rfl rfl
theorem mq_17_17 {l0 l2 : Value} {x : Nat} {st : List Value} {h : mj_H} : mj_R 17 (17, [l0, .ref x, l2], st, h) = mj_R 17 (18, [l0, .ref x, l2], .ref x :: st, h) := mj_R_next rfl rfl
theorem mq_17_18 {l0 l1 l2 : Value} {x : Nat} {st : List Value} {h : mj_H} : mj_R 17 (18, [l0, l1, l2], .ref x :: st, h) = mj_bd (mj_gf h x 2 3) (fun v => mj_R 17 (21, [l0, l1, l2], v :: st, h)) := mj_R_gf rfl
theorem mq_17_21 {l0 l1 l2 : Value} {x : Nat} {v : Value} {st : List Value} {h : mj_H} : mj_R 17 (21, [l0, l1, l2], v :: .ref x :: st, h) = mj_bd (mj_pf h x 2 3 v) (fun h' => mj_R 17 (24, [l0, l1, l2], st, h')) := mj_R_pf rfl
theorem mq_17_24 {l1 l2 : Value} {x : Nat} {st : List Value} {h : mj_H} : mj_R 17 (24, [.ref x, l1, l2], st, h) = mj_R 17 (25, [.ref x, l1, l2], .ref x :: st, h) := mj_R_next rfl rfl
theorem mq_17_25 {l0 l2 : Value} {x : Nat} {st : List Value} {h : mj_H} : mj_R 17 (25, [l0, .ref x, l2], st, h) = mj_R 17 (26, [l0, .ref x, l2], .ref x :: st, h) := mj_R_next rfl rfl
theorem mq_17_26 {l0 l1 l2 : Value} {x : Nat} {st : List Value} {h : mj_H} : mj_R 17 (26, [l0, l1, l2], .ref x :: st, h) = mj_bd (mj_gf h x 2 4) (fun v => mj_R 17 (29, [l0, l1, l2], v :: st, h)) := mj_R_gf rfl
theorem mq_17_29 {l0 l1 l2 : Value} {x : Nat} {v : Value} {st : List Value} {h : mj_H} : mj_R 17 (29, [l0, l1, l2], v :: .ref x :: st, h) = mj_bd (mj_pf h x 2 4 v) (fun h' => mj_R 17 (32, [l0, l1, l2], st, h')) := mj_R_pf rfl
theorem mq_17_32 {l1 l2 : Value} {x : Nat} {st : List Value} {h : mj_H} : mj_R 17 (32, [.ref x, l1, l2], st, h) = mj_R 17 (33, [.ref x, l1, l2], .ref x :: st, h) := mj_R_next rfl rfl
theorem mq_17_33 {l0 l2 : Value} {x : Nat} {st : List Value} {h : mj_H} : mj_R 17 (33, [l0, .ref x, l2], st, h) = mj_R 17 (34, [l0, .ref x, l2], .ref x :: st, h) := mj_R_next rfl rfl
theorem mq_17_34 {l0 l1 l2 : Value} {x : Nat} {st : List Value} {h : mj_H} : mj_R 17 (34, [l0, l1, l2], .ref x :: st, h) = mj_bd (mj_gf h x 2 5) (fun v => mj_R 17 (37, [l0, l1, l2], v :: st, h)) := mj_R_gf rfl
theorem mq_17_37 {l0 l1 l2 : Value} {x : Nat} {v : Value} {st : List Value} {h : mj_H} : mj_R 17 (37, [l0, l1, l2], v :: .ref x :: st, h) = mj_bd (mj_pf h x 2 5 v) (fun h' => mj_R 17 (40, [l0, l1, l2], st, h')) := mj_R_pf rfl
theorem mq_17_40 {l0 l1 l2 : Value} {st : List Value} {h : mj_H} : mj_R 17 (40, [l0, l1, l2], st, h) = mj_R 17 (41, [l0, l1, l2], .int (nI 0) :: st, h) := mj_R_next rfl rfl
theorem mq_17_41 {l0 l1 l2 : Value} {x : Int32} {st : List Value} {h : mj_H} : mj_R 17 (41, [l0, l1, l2], .int x :: st, h) = mj_R 17 (42, [l0, l1, .int x], st, h) := mj_R_next rfl rfl
theorem mq_17_42 {l0 l1 : Value} {x : Int32} {st : List Value} {h : mj_H} : mj_R 17 (42, [l0, l1, .int x], st, h) = mj_R 17 (43, [l0, l1, .int x], .int x :: st, h) := mj_R_next rfl rfl
theorem mq_17_43 {l0 l1 l2 : Value} {st : List Value} {h : mj_H} : mj_R 17 (43, [l0, l1, l2], st, h) = mj_R 17 (45, [l0, l1, l2], .int (nI 6) :: st, h) := mj_R_next rfl rfl
theorem mq_17_45 {l0 l1 l2 : Value} {x y : Int32} {st : List Value} {h : mj_H} : mj_R 17 (45, [l0, l1, l2], .int y :: .int x :: st, h) = if y ≤ x then mj_R 17 (66, [l0, l1, l2], st, h) else mj_R 17 (48, [l0, l1, l2], st, h) := mj_R_jge rfl
theorem mq_17_48 {l1 l2 : Value} {x : Nat} {st : List Value} {h : mj_H} : mj_R 17 (48, [.ref x, l1, l2], st, h) = mj_R 17 (49, [.ref x, l1, l2], .ref x :: st, h) := mj_R_next rfl rfl
theorem mq_17_49 {l0 l1 l2 : Value} {x : Nat} {st : List Value} {h : mj_H} : mj_R 17 (49, [l0, l1, l2], .ref x :: st, h) = mj_bd (mj_gf h x 2 6) (fun v => mj_R 17 (52, [l0, l1, l2], v :: st, h)) := mj_R_gf rfl
theorem mq_17_52 {l0 l1 : Value} {x : Int32} {st : List Value} {h : mj_H} : mj_R 17 (52, [l0, l1, .int x], st, h) = mj_R 17 (53, [l0, l1, .int x], .int x :: st, h) := mj_R_next rfl rfl
theorem mq_17_53 {l0 l2 : Value} {x : Nat} {st : List Value} {h : mj_H} : mj_R 17 (53, [l0, .ref x, l2], st, h) = mj_R 17 (54, [l0, .ref x, l2], .ref x :: st, h) := mj_R_next rfl rfl
theorem mq_17_54 {l0 l1 l2 : Value} {x : Nat} {st : List Value} {h : mj_H} : mj_R 17 (54, [l0, l1, l2], .ref x :: st, h) = mj_bd (mj_gf h x 2 6) (fun v => mj_R 17 (57, [l0, l1, l2], v :: st, h)) := mj_R_gf rfl
theorem mq_17_57 {l0 l1 : Value} {x : Int32} {st : List Value} {h : mj_H} : mj_R 17 (57, [l0, l1, .int x], st, h) = mj_R 17 (58, [l0, l1, .int x], .int x :: st, h) := mj_R_next rfl rfl
theorem mq_17_58 {l0 l1 l2 : Value} {x : Nat} {j : Int32} {st : List Value} {h : mj_H} : mj_R 17 (58, [l0, l1, l2], .int j :: .ref x :: st, h) = mj_bd (mj_gi h x j) (fun v => mj_R 17 (59, [l0, l1, l2], .int v :: st, h)) := mj_R_gi rfl
theorem mq_17_59 {l0 l1 l2 : Value} {x : Nat} {j v : Int32} {st : List Value} {h : mj_H} : mj_R 17 (59, [l0, l1, l2], .int v :: .int j :: .ref x :: st, h) = mj_bd (mj_pi h x j v) (fun h' => mj_R 17 (60, [l0, l1, l2], st, h')) := mj_R_pi rfl
theorem mq_17_60 {l0 l1 : Value} {x : Int32} {st : List Value} {h : mj_H} : mj_R 17 (60, [l0, l1, .int x], st, h) = mj_R 17 (63, [l0, l1, .int (x + (nI 1))], st, h) := mj_R_next rfl rfl
theorem mq_17_63 {l0 l1 l2 : Value} {st : List Value} {h : mj_H} : mj_R 17 (63, [l0, l1, l2], st, h) = mj_R 17 (42, [l0, l1, l2], st, h) := mj_R_next rfl rfl
theorem mq_17_66 {l0 l1 l2 : Value} {h : mj_H} : mj_R 17 (66, [l0, l1, l2], [], h) = some (none, h) := mj_R_ret rfl rfl
theorem mc_18 {a0 : Nat} {h : mj_H} : mj_C 18 [.ref a0] h = mj_R 18 (0, [.ref a0, .null, .null], [], h) := rfl
theorem mq_18_0 {l1 l2 : Value} {x : Nat} {st : List Value} {h : mj_H} : mj_R 18 (0, [.ref x, l1, l2], st, h) = mj_R 18 (1, [.ref x, l1, l2], .ref x :: st, h) := mj_R_next rfl rfl
theorem mq_18_1 {l0 l1 l2 : Value} {a0 : Nat} {h : mj_H} : mj_R 18 (1, [l0, l1, l2], [.ref a0], h) = if mj_isC h a0 2 = true then mj_bd (mj_C 16 [.ref a0] h) (fun r => mj_R 18 (4, [l0, l1, l2], r.1.toList ++ [], r.2)) else none := mj_R_cv rfl rfl
theorem mq_18_4 {l0 l1 l2 : Value} {x : Int32} {st : List Value} {h : mj_H} : mj_R 18 (4, [l0, l1, l2], .int x :: st, h) = if x = nI 0 then mj_R 18 (7, [l0, l1, l2], st, h) else mj_R 18 (9, [l0, l1, l2], st, h) := mj_R_ine rfl
theorem mq_18_7 {l0 l1 l2 : Value} {st : List Value} {h : mj_H} : mj_R 18 (7, [l0, l1, l2], st, h) = mj_R 18 (8, [l0, l1, l2], .int (nI 0) :: st, h) := mj_R_next rfl rfl
theorem mq_18_8 {l0 l1 l2 : Value} {x : Int32} {h : mj_H} : mj_R 18 (8, [l0, l1, l2], [.int x], h) = some (some (.int x), h) := mj_R_ret rfl rfl
theorem mq_18_9 {l1 l2 : Value} {x : Nat} {st : List Value} {h : mj_H} : mj_R 18 (9, [.ref x, l1, l2], st, h) = mj_R 18 (10, [.ref x, l1, l2], .ref x :: st, h) := mj_R_next rfl rfl
theorem mq_18_10 {l0 l1 l2 : Value} {x : Nat} {st : List Value} {h : mj_H} : mj_R 18 (10, [l0, l1, l2], .ref x :: st, h) = mj_bd (mj_gf h x 2 4) (fun v => mj_R 18 (13, [l0, l1, l2], v :: st, h)) := mj_R_gf rfl
theorem mq_18_13 {l0 l1 l2 : Value} {x : Int32} {st : List Value} {h : mj_H} : mj_R 18 (13, [l0, l1, l2], .int x :: st, h) = mj_R 18 (14, [l0, .int x, l2], st, h) := mj_R_next rfl rfl
theorem mq_18_14 {l1 l2 : Value} {x : Nat} {st : List Value} {h : mj_H} : mj_R 18 (14, [.ref x, l1, l2], st, h) = mj_R 18 (15, [.ref x, l1, l2], .ref x :: st, h) := mj_R_next rfl rfl
theorem mq_18_15 {l0 l2 : Value} {x : Int32} {st : List Value} {h : mj_H} : mj_R 18 (15, [l0, .int x, l2], st, h) = mj_R 18 (16, [l0, .int x, l2], .int x :: st, h) := mj_R_next rfl rfl
theorem mq_18_16 {l0 l1 l2 : Value} {a0 : Nat} {a1 : Int32} {h : mj_H} : mj_R 18 (16, [l0, l1, l2], [.int a1, .ref a0], h) = if mj_isC h a0 2 = true then mj_bd (mj_C 13 [.ref a0, .int a1] h) (fun r => mj_R 18 (19, [l0, l1, l2], r.1.toList ++ [], r.2)) else none := mj_R_cv rfl rfl
theorem mq_18_19 {l0 l1 l2 : Value} {x : Int32} {st : List Value} {h : mj_H} : mj_R 18 (19, [l0, l1, l2], .int x :: st, h) = mj_R 18 (20, [l0, l1, .int x], st, h) := mj_R_next rfl rfl
theorem mq_18_20 {l1 l2 : Value} {x : Nat} {st : List Value} {h : mj_H} : mj_R 18 (20, [.ref x, l1, l2], st, h) = mj_R 18 (21, [.ref x, l1, l2], .ref x :: st, h) := mj_R_next rfl rfl
theorem mq_18_21 {l0 l1 l2 : Value} {x : Nat} {st : List Value} {h : mj_H} : mj_R 18 (21, [l0, l1, l2], .ref x :: st, h) = mj_R 18 (22, [l0, l1, l2], .ref x :: .ref x :: st, h) := mj_R_next rfl rfl
theorem mq_18_22 {l0 l1 l2 : Value} {x : Nat} {st : List Value} {h : mj_H} : mj_R 18 (22, [l0, l1, l2], .ref x :: st, h) = mj_bd (mj_gf h x 2 1) (fun v => mj_R 18 (25, [l0, l1, l2], v :: st, h)) := mj_R_gf rfl
theorem mq_18_25 {l0 l1 : Value} {x : Int32} {st : List Value} {h : mj_H} : mj_R 18 (25, [l0, l1, .int x], st, h) = mj_R 18 (26, [l0, l1, .int x], .int x :: st, h) := mj_R_next rfl rfl
theorem mq_18_26 {l0 l1 l2 : Value} {x y : Int32} {st : List Value} {h : mj_H} : mj_R 18 (26, [l0, l1, l2], .int y :: .int x :: st, h) = mj_R 18 (27, [l0, l1, l2], .int (x - y) :: st, h) := mj_R_next rfl rfl
theorem mq_18_27 {l0 l1 l2 : Value} {x : Nat} {v : Value} {st : List Value} {h : mj_H} : mj_R 18 (27, [l0, l1, l2], v :: .ref x :: st, h) = mj_bd (mj_pf h x 2 1 v) (fun h' => mj_R 18 (30, [l0, l1, l2], st, h')) := mj_R_pf rfl
theorem mq_18_30 {l1 l2 : Value} {x : Nat} {st : List Value} {h : mj_H} : mj_R 18 (30, [.ref x, l1, l2], st, h) = mj_R 18 (31, [.ref x, l1, l2], .ref x :: st, h) := mj_R_next rfl rfl
theorem mq_18_31 {l0 l1 l2 : Value} {x : Nat} {st : List Value} {h : mj_H} : mj_R 18 (31, [l0, l1, l2], .ref x :: st, h) = mj_bd (mj_gf h x 2 6) (fun v => mj_R 18 (34, [l0, l1, l2], v :: st, h)) := mj_R_gf rfl
theorem mq_18_34 {l0 l2 : Value} {x : Int32} {st : List Value} {h : mj_H} : mj_R 18 (34, [l0, .int x, l2], st, h) = mj_R 18 (35, [l0, .int x, l2], .int x :: st, h) := mj_R_next rfl rfl
theorem mq_18_35 {l0 l1 : Value} {x : Int32} {st : List Value} {h : mj_H} : mj_R 18 (35, [l0, l1, .int x], st, h) = mj_R 18 (36, [l0, l1, .int x], .int x :: st, h) := mj_R_next rfl rfl
theorem mq_18_36 {l0 l1 l2 : Value} {x : Nat} {j v : Int32} {st : List Value} {h : mj_H} : mj_R 18 (36, [l0, l1, l2], .int v :: .int j :: .ref x :: st, h) = mj_bd (mj_pi h x j v) (fun h' => mj_R 18 (37, [l0, l1, l2], st, h')) := mj_R_pi rfl
theorem mq_18_37 {l1 l2 : Value} {x : Nat} {st : List Value} {h : mj_H} : mj_R 18 (37, [.ref x, l1, l2], st, h) = mj_R 18 (38, [.ref x, l1, l2], .ref x :: st, h) := mj_R_next rfl rfl
theorem mq_18_38 {l0 l1 l2 : Value} {x : Nat} {st : List Value} {h : mj_H} : mj_R 18 (38, [l0, l1, l2], .ref x :: st, h) = mj_R 18 (39, [l0, l1, l2], .ref x :: .ref x :: st, h) := mj_R_next rfl rfl
theorem mq_18_39 {l0 l1 l2 : Value} {x : Nat} {st : List Value} {h : mj_H} : mj_R 18 (39, [l0, l1, l2], .ref x :: st, h) = mj_bd (mj_gf h x 2 2) (fun v => mj_R 18 (42, [l0, l1, l2], v :: st, h)) := mj_R_gf rfl
theorem mq_18_42 {l0 l1 l2 : Value} {st : List Value} {h : mj_H} : mj_R 18 (42, [l0, l1, l2], st, h) = mj_R 18 (43, [l0, l1, l2], .int (nI 1) :: st, h) := mj_R_next rfl rfl
theorem mq_18_43 {l0 l2 : Value} {x : Int32} {st : List Value} {h : mj_H} : mj_R 18 (43, [l0, .int x, l2], st, h) = mj_R 18 (44, [l0, .int x, l2], .int x :: st, h) := mj_R_next rfl rfl
theorem mq_18_44 {l0 l1 l2 : Value} {x y : Int32} {st : List Value} {h : mj_H} : mj_R 18 (44, [l0, l1, l2], .int y :: .int x :: st, h) = mj_R 18 (45, [l0, l1, l2], .int (x <<< (y &&& 31)) :: st, h) := mj_R_next rfl rfl
theorem mq_18_45 {l0 l1 l2 : Value} {x y : Int32} {st : List Value} {h : mj_H} : mj_R 18 (45, [l0, l1, l2], .int y :: .int x :: st, h) = mj_R 18 (46, [l0, l1, l2], .int (x ||| y) :: st, h) := mj_R_next rfl rfl
theorem mq_18_46 {l0 l1 l2 : Value} {x : Nat} {v : Value} {st : List Value} {h : mj_H} : mj_R 18 (46, [l0, l1, l2], v :: .ref x :: st, h) = mj_bd (mj_pf h x 2 2 v) (fun h' => mj_R 18 (49, [l0, l1, l2], st, h')) := mj_R_pf rfl
theorem mq_18_49 {l1 l2 : Value} {x : Nat} {st : List Value} {h : mj_H} : mj_R 18 (49, [.ref x, l1, l2], st, h) = mj_R 18 (50, [.ref x, l1, l2], .ref x :: st, h) := mj_R_next rfl rfl
theorem mq_18_50 {l0 l1 l2 : Value} {x : Nat} {st : List Value} {h : mj_H} : mj_R 18 (50, [l0, l1, l2], .ref x :: st, h) = mj_R 18 (51, [l0, l1, l2], .ref x :: .ref x :: st, h) := mj_R_next rfl rfl
theorem mq_18_51 {l0 l1 l2 : Value} {x : Nat} {st : List Value} {h : mj_H} : mj_R 18 (51, [l0, l1, l2], .ref x :: st, h) = mj_bd (mj_gf h x 2 4) (fun v => mj_R 18 (54, [l0, l1, l2], v :: st, h)) := mj_R_gf rfl
theorem mq_18_54 {l0 l1 l2 : Value} {st : List Value} {h : mj_H} : mj_R 18 (54, [l0, l1, l2], st, h) = mj_R 18 (55, [l0, l1, l2], .int (nI 1) :: st, h) := mj_R_next rfl rfl
theorem mq_18_55 {l0 l1 l2 : Value} {x y : Int32} {st : List Value} {h : mj_H} : mj_R 18 (55, [l0, l1, l2], .int y :: .int x :: st, h) = mj_R 18 (56, [l0, l1, l2], .int (x + y) :: st, h) := mj_R_next rfl rfl
theorem mq_18_56 {l0 l1 l2 : Value} {x : Nat} {v : Value} {st : List Value} {h : mj_H} : mj_R 18 (56, [l0, l1, l2], v :: .ref x :: st, h) = mj_bd (mj_pf h x 2 4 v) (fun h' => mj_R 18 (59, [l0, l1, l2], st, h')) := mj_R_pf rfl
theorem mq_18_59 {l1 l2 : Value} {x : Nat} {st : List Value} {h : mj_H} : mj_R 18 (59, [.ref x, l1, l2], st, h) = mj_R 18 (60, [.ref x, l1, l2], .ref x :: st, h) := mj_R_next rfl rfl
theorem mq_18_60 {l0 l2 : Value} {x : Int32} {st : List Value} {h : mj_H} : mj_R 18 (60, [l0, .int x, l2], st, h) = mj_R 18 (61, [l0, .int x, l2], .int x :: st, h) := mj_R_next rfl rfl
theorem mq_18_61 {l0 l1 l2 : Value} {a0 : Nat} {a1 : Int32} {h : mj_H} : mj_R 18 (61, [l0, l1, l2], [.int a1, .ref a0], h) = if mj_isC h a0 2 = true then mj_bd (mj_C 19 [.ref a0, .int a1] h) (fun r => mj_R 18 (64, [l0, l1, l2], r.1.toList ++ [], r.2)) else none := mj_R_cv rfl rfl
theorem mq_18_64 {l0 l1 l2 : Value} {x : Int32} {h : mj_H} : mj_R 18 (64, [l0, l1, l2], [.int x], h) = some (some (.int x), h) := mj_R_ret rfl rfl
theorem mc_19 {a0 : Nat} {a1 : Int32} {h : mj_H} : mj_C 19 [.ref a0, .int a1] h = mj_R 19 (0, [.ref a0, .int a1, .null, .null, .null], [], h) := rfl
theorem mq_19_0 {l1 l2 l3 l4 : Value} {x : Nat} {st : List Value} {h : mj_H} : mj_R 19 (0, [.ref x, l1, l2, l3, l4], st, h) = mj_R 19 (1, [.ref x, l1, l2, l3, l4], .ref x :: st, h) := mj_R_next rfl rfl
theorem mq_19_1 {l0 l1 l2 l3 l4 : Value} {x : Nat} {st : List Value} {h : mj_H} : mj_R 19 (1, [l0, l1, l2, l3, l4], .ref x :: st, h) = mj_bd (mj_gf h x 2 2) (fun v => mj_R 19 (4, [l0, l1, l2, l3, l4], v :: st, h)) := mj_R_gf rfl
theorem mq_19_4 {l0 l1 l2 l3 l4 : Value} {x : Int32} {st : List Value} {h : mj_H} : mj_R 19 (4, [l0, l1, l2, l3, l4], .int x :: st, h) = mj_R 19 (5, [l0, l1, .int x, l3, l4], st, h) := mj_R_next rfl rfl
theorem mq_19_5 {l0 l1 l2 l3 l4 : Value} {st : List Value} {h : mj_H} : mj_R 19 (5, [l0, l1, l2, l3, l4], st, h) = mj_R 19 (6, [l0, l1, l2, l3, l4], .int (nI 0) :: st, h) := mj_R_next rfl rfl
theorem mq_19_6 {l0 l1 l2 l3 l4 : Value} {x : Int32} {st : List Value} {h : mj_H} : mj_R 19 (6, [l0, l1, l2, l3, l4], .int x :: st, h) = mj_R 19 (7, [l0, l1, l2, .int x, l4], st, h) := mj_R_next rfl rfl
theorem mq_19_7 {l0 l1 l2 l4 : Value} {x : Int32} {st : List Value} {h : mj_H} : mj_R 19 (7, [l0, l1, l2, .int x, l4], st, h) = mj_R 19 (8, [l0, l1, l2, .int x, l4], .int x :: st, h) := mj_R_next rfl rfl
theorem mq_19_8 {l1 l2 l3 l4 : Value} {x : Nat} {st : List Value} {h : mj_H} : mj_R 19 (8, [.ref x, l1, l2, l3, l4], st, h) = mj_R 19 (9, [.ref x, l1, l2, l3, l4], .ref x :: st, h) := mj_R_next rfl rfl
theorem mq_19_9 {l0 l1 l2 l3 l4 : Value} {x : Nat} {st : List Value} {h : mj_H} : mj_R 19 (9, [l0, l1, l2, l3, l4], .ref x :: st, h) = mj_bd (mj_gf h x 2 0) (fun v => mj_R 19 (12, [l0, l1, l2, l3, l4], v :: st, h)) := mj_R_gf rfl
theorem mq_19_12 {l0 l1 l2 l3 l4 : Value} {x : Nat} {st : List Value} {h : mj_H} : mj_R 19 (12, [l0, l1, l2, l3, l4], .ref x :: st, h) = mj_bd (mj_gf h x 3 1) (fun v => mj_R 19 (15, [l0, l1, l2, l3, l4], v :: st, h)) := mj_R_gf rfl
theorem mq_19_15 {l0 l1 l2 l3 l4 : Value} {x y : Int32} {st : List Value} {h : mj_H} : mj_R 19 (15, [l0, l1, l2, l3, l4], .int y :: .int x :: st, h) = if y ≤ x then mj_R 19 (99, [l0, l1, l2, l3, l4], st, h) else mj_R 19 (18, [l0, l1, l2, l3, l4], st, h) := mj_R_jge rfl
theorem mq_19_18 {l1 l2 l3 l4 : Value} {x : Nat} {st : List Value} {h : mj_H} : mj_R 19 (18, [.ref x, l1, l2, l3, l4], st, h) = mj_R 19 (19, [.ref x, l1, l2, l3, l4], .ref x :: st, h) := mj_R_next rfl rfl
theorem mq_19_19 {l0 l2 l3 l4 : Value} {x : Int32} {st : List Value} {h : mj_H} : mj_R 19 (19, [l0, .int x, l2, l3, l4], st, h) = mj_R 19 (20, [l0, .int x, l2, l3, l4], .int x :: st, h) := mj_R_next rfl rfl
theorem mq_19_20 {l0 l1 l2 l3 l4 : Value} {a0 : Nat} {a1 : Int32} {h : mj_H} : mj_R 19 (20, [l0, l1, l2, l3, l4], [.int a1, .ref a0], h) = if mj_isC h a0 2 = true then mj_bd (mj_C 15 [.ref a0, .int a1] h) (fun r => mj_R 19 (23, [l0, l1, l2, l3, l4], r.1.toList ++ [], r.2)) else none := mj_R_cv rfl rfl
theorem mq_19_23 {l0 l1 l2 l3 l4 : Value} {x : Int32} {st : List Value} {h : mj_H} : mj_R 19 (23, [l0, l1, l2, l3, l4], .int x :: st, h) = if x = nI 0 then mj_R 19 (99, [l0, l1, l2, l3, l4], st, h) else mj_R 19 (26, [l0, l1, l2, l3, l4], st, h) := mj_R_ieq rfl
theorem mq_19_26 {l1 l2 l3 l4 : Value} {x : Nat} {st : List Value} {h : mj_H} : mj_R 19 (26, [.ref x, l1, l2, l3, l4], st, h) = mj_R 19 (27, [.ref x, l1, l2, l3, l4], .ref x :: st, h) := mj_R_next rfl rfl
theorem mq_19_27 {l0 l1 l2 l4 : Value} {x : Int32} {st : List Value} {h : mj_H} : mj_R 19 (27, [l0, l1, l2, .int x, l4], st, h) = mj_R 19 (28, [l0, l1, l2, .int x, l4], .int x :: st, h) := mj_R_next rfl rfl
theorem mq_19_28 {l0 l1 l2 l3 l4 : Value} {a0 : Nat} {a1 : Int32} {h : mj_H} : mj_R 19 (28, [l0, l1, l2, l3, l4], [.int a1, .ref a0], h) = if mj_isC h a0 2 = true then mj_bd (mj_C 15 [.ref a0, .int a1] h) (fun r => mj_R 19 (31, [l0, l1, l2, l3, l4], r.1.toList ++ [], r.2)) else none := mj_R_cv rfl rfl
theorem mq_19_31 {l0 l1 l2 l3 l4 : Value} {x : Int32} {st : List Value} {h : mj_H} : mj_R 19 (31, [l0, l1, l2, l3, l4], .int x :: st, h) = if x = nI 0 then mj_R 19 (93, [l0, l1, l2, l3, l4], st, h) else mj_R 19 (34, [l0, l1, l2, l3, l4], st, h) := mj_R_ieq rfl
theorem mq_19_34 {l1 l2 l3 l4 : Value} {x : Nat} {st : List Value} {h : mj_H} : mj_R 19 (34, [.ref x, l1, l2, l3, l4], st, h) = mj_R 19 (35, [.ref x, l1, l2, l3, l4], .ref x :: st, h) := mj_R_next rfl rfl
theorem mq_19_35 {l0 l1 l2 l3 l4 : Value} {x : Nat} {st : List Value} {h : mj_H} : mj_R 19 (35, [l0, l1, l2, l3, l4], .ref x :: st, h) = mj_bd (mj_gf h x 2 0) (fun v => mj_R 19 (38, [l0, l1, l2, l3, l4], v :: st, h)) := mj_R_gf rfl
theorem mq_19_38 {l0 l1 l2 l3 l4 : Value} {x : Nat} {st : List Value} {h : mj_H} : mj_R 19 (38, [l0, l1, l2, l3, l4], .ref x :: st, h) = mj_bd (mj_gf h x 3 7) (fun v => mj_R 19 (41, [l0, l1, l2, l3, l4], v :: st, h)) := mj_R_gf rfl
theorem mq_19_41 {l0 l2 l3 l4 : Value} {x : Int32} {st : List Value} {h : mj_H} : mj_R 19 (41, [l0, .int x, l2, l3, l4], st, h) = mj_R 19 (42, [l0, .int x, l2, l3, l4], .int x :: st, h) := mj_R_next rfl rfl
theorem mq_19_42 {l0 l1 l2 l3 l4 : Value} {x : Nat} {j : Int32} {st : List Value} {h : mj_H} : mj_R 19 (42, [l0, l1, l2, l3, l4], .int j :: .ref x :: st, h) = mj_bd (mj_gi h x j) (fun v => mj_R 19 (43, [l0, l1, l2, l3, l4], .int v :: st, h)) := mj_R_gi rfl
theorem mq_19_43 {l0 l1 l2 l3 l4 : Value} {st : List Value} {h : mj_H} : mj_R 19 (43, [l0, l1, l2, l3, l4], st, h) = mj_R 19 (44, [l0, l1, l2, l3, l4], .int (nI 1) :: st, h) := mj_R_next rfl rfl
theorem mq_19_44 {l0 l1 l2 l4 : Value} {x : Int32} {st : List Value} {h : mj_H} : mj_R 19 (44, [l0, l1, l2, .int x, l4], st, h) = mj_R 19 (45, [l0, l1, l2, .int x, l4], .int x :: st, h) := mj_R_next rfl rfl
theorem mq_19_45 {l0 l1 l2 l3 l4 : Value} {x y : Int32} {st : List Value} {h : mj_H} : mj_R 19 (45, [l0, l1, l2, l3, l4], .int y :: .int x :: st, h) = mj_R 19 (46, [l0, l1, l2, l3, l4], .int (x <<< (y &&& 31)) :: st, h) := mj_R_next rfl rfl
theorem mq_19_46 {l0 l1 l2 l3 l4 : Value} {x y : Int32} {st : List Value} {h : mj_H} : mj_R 19 (46, [l0, l1, l2, l3, l4], .int y :: .int x :: st, h) = mj_R 19 (47, [l0, l1, l2, l3, l4], .int (x &&& y) :: st, h) := mj_R_next rfl rfl
theorem mq_19_47 {l0 l1 l2 l3 l4 : Value} {x : Int32} {st : List Value} {h : mj_H} : mj_R 19 (47, [l0, l1, l2, l3, l4], .int x :: st, h) = if x = nI 0 then mj_R 19 (93, [l0, l1, l2, l3, l4], st, h) else mj_R 19 (50, [l0, l1, l2, l3, l4], st, h) := mj_R_ieq rfl
theorem mq_19_50 {l1 l2 l3 l4 : Value} {x : Nat} {st : List Value} {h : mj_H} : mj_R 19 (50, [.ref x, l1, l2, l3, l4], st, h) = mj_R 19 (51, [.ref x, l1, l2, l3, l4], .ref x :: st, h) := mj_R_next rfl rfl
theorem mq_19_51 {l0 l1 l2 l3 l4 : Value} {x : Nat} {st : List Value} {h : mj_H} : mj_R 19 (51, [l0, l1, l2, l3, l4], .ref x :: st, h) = mj_bd (mj_gf h x 2 0) (fun v => mj_R 19 (54, [l0, l1, l2, l3, l4], v :: st, h)) := mj_R_gf rfl
theorem mq_19_54 {l0 l1 l2 l3 l4 : Value} {x : Nat} {st : List Value} {h : mj_H} : mj_R 19 (54, [l0, l1, l2, l3, l4], .ref x :: st, h) = mj_bd (mj_gf h x 3 5) (fun v => mj_R 19 (57, [l0, l1, l2, l3, l4], v :: st, h)) := mj_R_gf rfl
theorem mq_19_57 {l0 l1 l2 l4 : Value} {x : Int32} {st : List Value} {h : mj_H} : mj_R 19 (57, [l0, l1, l2, .int x, l4], st, h) = mj_R 19 (58, [l0, l1, l2, .int x, l4], .int x :: st, h) := mj_R_next rfl rfl
theorem mq_19_58 {l0 l1 l2 l3 l4 : Value} {x : Nat} {j : Int32} {st : List Value} {h : mj_H} : mj_R 19 (58, [l0, l1, l2, l3, l4], .int j :: .ref x :: st, h) = mj_bd (mj_gi h x j) (fun v => mj_R 19 (59, [l0, l1, l2, l3, l4], .int v :: st, h)) := mj_R_gi rfl
theorem mq_19_59 {l1 l2 l3 l4 : Value} {x : Nat} {st : List Value} {h : mj_H} : mj_R 19 (59, [.ref x, l1, l2, l3, l4], st, h) = mj_R 19 (60, [.ref x, l1, l2, l3, l4], .ref x :: st, h) := mj_R_next rfl rfl
theorem mq_19_60 {l0 l1 l2 l3 l4 : Value} {x : Nat} {st : List Value} {h : mj_H} : mj_R 19 (60, [l0, l1, l2, l3, l4], .ref x :: st, h) = mj_bd (mj_gf h x 2 0) (fun v => mj_R 19 (63, [l0, l1, l2, l3, l4], v :: st, h)) := mj_R_gf rfl
theorem mq_19_63 {l0 l1 l2 l3 l4 : Value} {x : Nat} {st : List Value} {h : mj_H} : mj_R 19 (63, [l0, l1, l2, l3, l4], .ref x :: st, h) = mj_bd (mj_gf h x 3 5) (fun v => mj_R 19 (66, [l0, l1, l2, l3, l4], v :: st, h)) := mj_R_gf rfl
theorem mq_19_66 {l0 l2 l3 l4 : Value} {x : Int32} {st : List Value} {h : mj_H} : mj_R 19 (66, [l0, .int x, l2, l3, l4], st, h) = mj_R 19 (67, [l0, .int x, l2, l3, l4], .int x :: st, h) := mj_R_next rfl rfl
theorem mq_19_67 {l0 l1 l2 l3 l4 : Value} {x : Nat} {j : Int32} {st : List Value} {h : mj_H} : mj_R 19 (67, [l0, l1, l2, l3, l4], .int j :: .ref x :: st, h) = mj_bd (mj_gi h x j) (fun v => mj_R 19 (68, [l0, l1, l2, l3, l4], .int v :: st, h)) := mj_R_gi rfl
theorem mq_19_68 {l0 l1 l2 l3 l4 : Value} {x y : Int32} {st : List Value} {h : mj_H} : mj_R 19 (68, [l0, l1, l2, l3, l4], .int y :: .int x :: st, h) = if y ≤ x then mj_R 19 (75, [l0, l1, l2, l3, l4], st, h) else mj_R 19 (71, [l0, l1, l2, l3, l4], st, h) := mj_R_jge rfl
theorem mq_19_71 {l0 l1 l2 l4 : Value} {x : Int32} {st : List Value} {h : mj_H} : mj_R 19 (71, [l0, l1, l2, .int x, l4], st, h) = mj_R 19 (72, [l0, l1, l2, .int x, l4], .int x :: st, h) := mj_R_next rfl rfl
theorem mq_19_72 {l0 l1 l2 l3 l4 : Value} {st : List Value} {h : mj_H} : mj_R 19 (72, [l0, l1, l2, l3, l4], st, h) = mj_R 19 (76, [l0, l1, l2, l3, l4], st, h) := mj_R_next rfl rfl
theorem mq_19_75 {l0 l2 l3 l4 : Value} {x : Int32} {st : List Value} {h : mj_H} : mj_R 19 (75, [l0, .int x, l2, l3, l4], st, h) = mj_R 19 (76, [l0, .int x, l2, l3, l4], .int x :: st, h) := mj_R_next rfl rfl
theorem mq_19_76 {l0 l1 l2 l3 l4 : Value} {x : Int32} {st : List Value} {h : mj_H} : mj_R 19 (76, [l0, l1, l2, l3, l4], .int x :: st, h) = mj_R 19 (78, [l0, l1, l2, l3, .int x], st, h) := mj_R_next rfl rfl
theorem mq_19_78 {l1 l2 l3 l4 : Value} {x : Nat} {st : List Value} {h : mj_H} : mj_R 19 (78, [.ref x, l1, l2, l3, l4], st, h) = mj_R 19 (79, [.ref x, l1, l2, l3, l4], .ref x :: st, h) := mj_R_next rfl rfl
theorem mq_19_79 {l0 l1 l2 l3 l4 : Value} {x : Nat} {st : List Value} {h : mj_H} : mj_R 19 (79, [l0, l1, l2, l3, l4], .ref x :: st, h) = mj_R 19 (80, [l0, l1, l2, l3, l4], .ref x :: .ref x :: st, h) := mj_R_next rfl rfl
theorem mq_19_80 {l0 l1 l2 l3 l4 : Value} {x : Nat} {st : List Value} {h : mj_H} : mj_R 19 (80, [l0, l1, l2, l3, l4], .ref x :: st, h) = mj_bd (mj_gf h x 2 2) (fun v => mj_R 19 (83, [l0, l1, l2, l3, l4], v :: st, h)) := mj_R_gf rfl
theorem mq_19_83 {l0 l1 l2 l3 l4 : Value} {st : List Value} {h : mj_H} : mj_R 19 (83, [l0, l1, l2, l3, l4], st, h) = mj_R 19 (84, [l0, l1, l2, l3, l4], .int (nI 1) :: st, h) := mj_R_next rfl rfl
theorem mq_19_84 {l0 l1 l2 l3 : Value} {x : Int32} {st : List Value} {h : mj_H} : mj_R 19 (84, [l0, l1, l2, l3, .int x], st, h) = mj_R 19 (86, [l0, l1, l2, l3, .int x], .int x :: st, h) := mj_R_next rfl rfl
theorem mq_19_86 {l0 l1 l2 l3 l4 : Value} {x y : Int32} {st : List Value} {h : mj_H} : mj_R 19 (86, [l0, l1, l2, l3, l4], .int y :: .int x :: st, h) = mj_R 19 (87, [l0, l1, l2, l3, l4], .int (x <<< (y &&& 31)) :: st, h) := mj_R_next rfl rfl
theorem mq_19_87 {l0 l1 l2 l3 l4 : Value} {st : List Value} {h : mj_H} : mj_R 19 (87, [l0, l1, l2, l3, l4], st, h) = mj_R 19 (88, [l0, l1, l2, l3, l4], .int (-1) :: st, h) := mj_R_next rfl rfl
theorem mq_19_88 {l0 l1 l2 l3 l4 : Value} {x y : Int32} {st : List Value} {h : mj_H} : mj_R 19 (88, [l0, l1, l2, l3, l4], .int y :: .int x :: st, h) = mj_R 19 (89, [l0, l1, l2, l3, l4], .int (x ^^^ y) :: st, h) := mj_R_next rfl rfl
theorem mq_19_89 {l0 l1 l2 l3 l4 : Value} {x y : Int32} {st : List Value} {h : mj_H} : mj_R 19 (89, [l0, l1, l2, l3, l4], .int y :: .int x :: st, h) = mj_R 19 (90, [l0, l1, l2, l3, l4], .int (x &&& y) :: st, h) := mj_R_next rfl rfl
theorem mq_19_90 {l0 l1 l2 l3 l4 : Value} {x : Nat} {v : Value} {st : List Value} {h : mj_H} : mj_R 19 (90, [l0, l1, l2, l3, l4], v :: .ref x :: st, h) = mj_bd (mj_pf h x 2 2 v) (fun h' => mj_R 19 (93, [l0, l1, l2, l3, l4], st, h')) := mj_R_pf rfl
theorem mq_19_93 {l0 l1 l2 l4 : Value} {x : Int32} {st : List Value} {h : mj_H} : mj_R 19 (93, [l0, l1, l2, .int x, l4], st, h) = mj_R 19 (96, [l0, l1, l2, .int (x + (nI 1)), l4], st, h) := mj_R_next rfl rfl
theorem mq_19_96 {l0 l1 l2 l3 l4 : Value} {st : List Value} {h : mj_H} : mj_R 19 (96, [l0, l1, l2, l3, l4], st, h) = mj_R 19 (7, [l0, l1, l2, l3, l4], st, h) := mj_R_next rfl rfl
theorem mq_19_99 {l0 l1 l3 l4 : Value} {x : Int32} {st : List Value} {h : mj_H} : mj_R 19 (99, [l0, l1, .int x, l3, l4], st, h) = mj_R 19 (100, [l0, l1, .int x, l3, l4], .int x :: st, h) := mj_R_next rfl rfl
theorem mq_19_100 {l1 l2 l3 l4 : Value} {x : Nat} {st : List Value} {h : mj_H} : mj_R 19 (100, [.ref x, l1, l2, l3, l4], st, h) = mj_R 19 (101, [.ref x, l1, l2, l3, l4], .ref x :: st, h) := mj_R_next rfl rfl
theorem mq_19_101 {l0 l1 l2 l3 l4 : Value} {x : Nat} {st : List Value} {h : mj_H} : mj_R 19 (101, [l0, l1, l2, l3, l4], .ref x :: st, h) = mj_bd (mj_gf h x 2 2) (fun v => mj_R 19 (104, [l0, l1, l2, l3, l4], v :: st, h)) := mj_R_gf rfl
theorem mq_19_104 {l0 l1 l2 l3 l4 : Value} {st : List Value} {h : mj_H} : mj_R 19 (104, [l0, l1, l2, l3, l4], st, h) = mj_R 19 (105, [l0, l1, l2, l3, l4], .int (-1) :: st, h) := mj_R_next rfl rfl
theorem mq_19_105 {l0 l1 l2 l3 l4 : Value} {x y : Int32} {st : List Value} {h : mj_H} : mj_R 19 (105, [l0, l1, l2, l3, l4], .int y :: .int x :: st, h) = mj_R 19 (106, [l0, l1, l2, l3, l4], .int (x ^^^ y) :: st, h) := mj_R_next rfl rfl
theorem mq_19_106 {l0 l1 l2 l3 l4 : Value} {x y : Int32} {st : List Value} {h : mj_H} : mj_R 19 (106, [l0, l1, l2, l3, l4], .int y :: .int x :: st, h) = mj_R 19 (107, [l0, l1, l2, l3, l4], .int (x &&& y) :: st, h) := mj_R_next rfl rfl
theorem mq_19_107 {l0 l1 l2 l3 l4 : Value} {x : Int32} {h : mj_H} : mj_R 19 (107, [l0, l1, l2, l3, l4], [.int x], h) = some (some (.int x), h) := mj_R_ret rfl rfl
theorem mc_20 {a0 : Nat} {h : mj_H} : mj_C 20 [.ref a0] h = mj_R 20 (0, [.ref a0], [], h) := rfl
theorem mq_20_0 {x : Nat} {st : List Value} {h : mj_H} : mj_R 20 (0, [.ref x], st, h) = mj_R 20 (1, [.ref x], .ref x :: st, h) := mj_R_next rfl rfl
theorem mq_20_1 {l0 : Value} {a0 : Nat} {h : mj_H} : mj_R 20 (1, [l0], [.ref a0], h) = if mj_isC h a0 2 = true then mj_bd (mj_C 12 [.ref a0] h) (fun r => mj_R 20 (4, [l0], r.1.toList ++ [], r.2)) else none := mj_R_cv rfl rfl
theorem mq_20_4 {l0 : Value} {x : Int32} {st : List Value} {h : mj_H} : mj_R 20 (4, [l0], .int x :: st, h) = if x = nI 0 then mj_R 20 (17, [l0], st, h) else mj_R 20 (7, [l0], st, h) := mj_R_ieq rfl
theorem mq_20_7 {x : Nat} {st : List Value} {h : mj_H} : mj_R 20 (7, [.ref x], st, h) = mj_R 20 (8, [.ref x], .ref x :: st, h) := mj_R_next rfl rfl
theorem mq_20_8 {l0 : Value} {x : Nat} {st : List Value} {h : mj_H} : mj_R 20 (8, [l0], .ref x :: st, h) = mj_R 20 (9, [l0], .ref x :: .ref x :: st, h) := mj_R_next rfl rfl
theorem mq_20_9 {l0 : Value} {x : Nat} {st : List Value} {h : mj_H} : mj_R 20 (9, [l0], .ref x :: st, h) = mj_bd (mj_gf h x 2 4) (fun v => mj_R 20 (12, [l0], v :: st, h)) := mj_R_gf rfl
theorem mq_20_12 {l0 : Value} {st : List Value} {h : mj_H} : mj_R 20 (12, [l0], st, h) = mj_R 20 (13, [l0], .int (nI 1) :: st, h) := mj_R_next rfl rfl
theorem mq_20_13 {l0 : Value} {x y : Int32} {st : List Value} {h : mj_H} : mj_R 20 (13, [l0], .int y :: .int x :: st, h) = mj_R 20 (14, [l0], .int (x + y) :: st, h) := mj_R_next rfl rfl
theorem mq_20_14 {l0 : Value} {x : Nat} {v : Value} {st : List Value} {h : mj_H} : mj_R 20 (14, [l0], v :: .ref x :: st, h) = mj_bd (mj_pf h x 2 4 v) (fun h' => mj_R 20 (17, [l0], st, h')) := mj_R_pf rfl
theorem mq_20_17 {l0 : Value} {h : mj_H} : mj_R 20 (17, [l0], [], h) = some (none, h) := mj_R_ret rfl rfl
theorem mc_21 {a0 : Nat} {h : mj_H} : mj_C 21 [.ref a0] h = mj_R 21 (0, [.ref a0, .null, .null, .null], [], h) := rfl
theorem mq_21_0 {l1 l2 l3 : Value} {x : Nat} {st : List Value} {h : mj_H} : mj_R 21 (0, [.ref x, l1, l2, l3], st, h) = mj_R 21 (1, [.ref x, l1, l2, l3], .ref x :: st, h) := mj_R_next rfl rfl
theorem mq_21_1 {l0 l1 l2 l3 : Value} {x : Nat} {st : List Value} {h : mj_H} : mj_R 21 (1, [l0, l1, l2, l3], .ref x :: st, h) = mj_bd (mj_gf h x 2 2) (fun v => mj_R 21 (4, [l0, l1, l2, l3], v :: st, h)) := mj_R_gf rfl
theorem mq_21_4 {l0 l1 l2 l3 : Value} {x : Int32} {st : List Value} {h : mj_H} : mj_R 21 (4, [l0, l1, l2, l3], .int x :: st, h) = mj_R 21 (5, [l0, .int x, l2, l3], st, h) := mj_R_next rfl rfl
theorem mq_21_5 {l0 l1 l2 l3 : Value} {st : List Value} {h : mj_H} : mj_R 21 (5, [l0, l1, l2, l3], st, h) = mj_R 21 (6, [l0, l1, l2, l3], .int (nI 0) :: st, h) := mj_R_next rfl rfl
theorem mq_21_6 {l0 l1 l2 l3 : Value} {x : Int32} {st : List Value} {h : mj_H} : mj_R 21 (6, [l0, l1, l2, l3], .int x :: st, h) = mj_R 21 (7, [l0, l1, .int x, l3], st, h) := mj_R_next rfl rfl
theorem mq_21_7 {l0 l1 l2 l3 : Value} {st : List Value} {h : mj_H} : mj_R 21 (7, [l0, l1, l2, l3], st, h) = mj_R 21 (8, [l0, l1, l2, l3], .int (nI 0) :: st, h) := mj_R_next rfl rfl
theorem mq_21_8 {l0 l1 l2 l3 : Value} {x : Int32} {st : List Value} {h : mj_H} : mj_R 21 (8, [l0, l1, l2, l3], .int x :: st, h) = mj_R 21 (9, [l0, l1, l2, .int x], st, h) := mj_R_next rfl rfl
theorem mq_21_9 {l0 l1 l2 : Value} {x : Int32} {st : List Value} {h : mj_H} : mj_R 21 (9, [l0, l1, l2, .int x], st, h) = mj_R 21 (10, [l0, l1, l2, .int x], .int x :: st, h) := mj_R_next rfl rfl
theorem mq_21_10 {l1 l2 l3 : Value} {x : Nat} {st : List Value} {h : mj_H} : mj_R 21 (10, [.ref x, l1, l2, l3], st, h) = mj_R 21 (11, [.ref x, l1, l2, l3], .ref x :: st, h) := mj_R_next rfl rfl
theorem mq_21_11 {l0 l1 l2 l3 : Value} {x : Nat} {st : List Value} {h : mj_H} : mj_R 21 (11, [l0, l1, l2, l3], .ref x :: st, h) = mj_bd (mj_gf h x 2 0) (fun v => mj_R 21 (14, [l0, l1, l2, l3], v :: st, h)) := mj_R_gf rfl
theorem mq_21_14 {l0 l1 l2 l3 : Value} {x : Nat} {st : List Value} {h : mj_H} : mj_R 21 (14, [l0, l1, l2, l3], .ref x :: st, h) = mj_bd (mj_gf h x 3 1) (fun v => mj_R 21 (17, [l0, l1, l2, l3], v :: st, h)) := mj_R_gf rfl
theorem mq_21_17 {l0 l1 l2 l3 : Value} {x y : Int32} {st : List Value} {h : mj_H} : mj_R 21 (17, [l0, l1, l2, l3], .int y :: .int x :: st, h) = if y ≤ x then mj_R 21 (87, [l0, l1, l2, l3], st, h) else mj_R 21 (20, [l0, l1, l2, l3], st, h) := mj_R_jge rfl
theorem mq_21_20 {l1 l2 l3 : Value} {x : Nat} {st : List Value} {h : mj_H} : mj_R 21 (20, [.ref x, l1, l2, l3], st, h) = mj_R 21 (21, [.ref x, l1, l2, l3], .ref x :: st, h) := mj_R_next rfl rfl
theorem mq_21_21 {l0 l1 l2 : Value} {x : Int32} {st : List Value} {h : mj_H} : mj_R 21 (21, [l0, l1, l2, .int x], st, h) = mj_R 21 (22, [l0, l1, l2, .int x], .int x :: st, h) := mj_R_next rfl rfl
theorem mq_21_22 {l0 l1 l2 l3 : Value} {a0 : Nat} {a1 : Int32} {h : mj_H} : mj_R 21 (22, [l0, l1, l2, l3], [.int a1, .ref a0], h) = if mj_isC h a0 2 = true then mj_bd (mj_C 15 [.ref a0, .int a1] h) (fun r => mj_R 21 (25, [l0, l1, l2, l3], r.1.toList ++ [], r.2)) else none := mj_R_cv rfl rfl
theorem mq_21_25 {l0 l1 l2 l3 : Value} {x : Int32} {st : List Value} {h : mj_H} : mj_R 21 (25, [l0, l1, l2, l3], .int x :: st, h) = if x = nI 0 then mj_R 21 (48, [l0, l1, l2, l3], st, h) else mj_R 21 (28, [l0, l1, l2, l3], st, h) := mj_R_ieq rfl
theorem mq_21_28 {l1 l2 l3 : Value} {x : Nat} {st : List Value} {h : mj_H} : mj_R 21 (28, [.ref x, l1, l2, l3], st, h) = mj_R 21 (29, [.ref x, l1, l2, l3], .ref x :: st, h) := mj_R_next rfl rfl
theorem mq_21_29 {l0 l1 l2 l3 : Value} {x : Nat} {st : List Value} {h : mj_H} : mj_R 21 (29, [l0, l1, l2, l3], .ref x :: st, h) = mj_bd (mj_gf h x 2 1) (fun v => mj_R 21 (32, [l0, l1, l2, l3], v :: st, h)) := mj_R_gf rfl
theorem mq_21_32 {l0 l1 l2 l3 : Value} {x : Int32} {st : List Value} {h : mj_H} : mj_R 21 (32, [l0, l1, l2, l3], .int x :: st, h) = if x ≤ nI 0 then mj_R 21 (48, [l0, l1, l2, l3], st, h) else mj_R 21 (35, [l0, l1, l2, l3], st, h) := mj_R_ile rfl
theorem mq_21_35 {l1 l2 l3 : Value} {x : Nat} {st : List Value} {h : mj_H} : mj_R 21 (35, [.ref x, l1, l2, l3], st, h) = mj_R 21 (36, [.ref x, l1, l2, l3], .ref x :: st, h) := mj_R_next rfl rfl
theorem mq_21_36 {l0 l1 l2 l3 : Value} {x : Nat} {st : List Value} {h : mj_H} : mj_R 21 (36, [l0, l1, l2, l3], .ref x :: st, h) = mj_R 21 (37, [l0, l1, l2, l3], .ref x :: .ref x :: st, h) := mj_R_next rfl rfl
theorem mq_21_37 {l0 l1 l2 l3 : Value} {x : Nat} {st : List Value} {h : mj_H} : mj_R 21 (37, [l0, l1, l2, l3], .ref x :: st, h) = mj_bd (mj_gf h x 2 1) (fun v => mj_R 21 (40, [l0, l1, l2, l3], v :: st, h)) := mj_R_gf rfl
theorem mq_21_40 {l0 l1 l2 l3 : Value} {st : List Value} {h : mj_H} : mj_R 21 (40, [l0, l1, l2, l3], st, h) = mj_R 21 (41, [l0, l1, l2, l3], .int (nI 1) :: st, h) := mj_R_next rfl rfl
theorem mq_21_41 {l0 l1 l2 l3 : Value} {x y : Int32} {st : List Value} {h : mj_H} : mj_R 21 (41, [l0, l1, l2, l3], .int y :: .int x :: st, h) = mj_R 21 (42, [l0, l1, l2, l3], .int (x - y) :: st, h) := mj_R_next rfl rfl
theorem mq_21_42 {l0 l1 l2 l3 : Value} {x : Nat} {v : Value} {st : List Value} {h : mj_H} : mj_R 21 (42, [l0, l1, l2, l3], v :: .ref x :: st, h) = mj_bd (mj_pf h x 2 1 v) (fun h' => mj_R 21 (45, [l0, l1, l2, l3], st, h')) := mj_R_pf rfl
theorem mq_21_45 {l0 l1 l2 l3 : Value} {st : List Value} {h : mj_H} : mj_R 21 (45, [l0, l1, l2, l3], st, h) = mj_R 21 (62, [l0, l1, l2, l3], st, h) := mj_R_next rfl rfl
theorem mq_21_48 {l1 l2 l3 : Value} {x : Nat} {st : List Value} {h : mj_H} : mj_R 21 (48, [.ref x, l1, l2, l3], st, h) = mj_R 21 (49, [.ref x, l1, l2, l3], .ref x :: st, h) := mj_R_next rfl rfl
theorem mq_21_49 {l0 l1 l2 l3 : Value} {x : Nat} {st : List Value} {h : mj_H} : mj_R 21 (49, [l0, l1, l2, l3], .ref x :: st, h) = mj_R 21 (50, [l0, l1, l2, l3], .ref x :: .ref x :: st, h) := mj_R_next rfl rfl
theorem mq_21_50 {l0 l1 l2 l3 : Value} {x : Nat} {st : List Value} {h : mj_H} : mj_R 21 (50, [l0, l1, l2, l3], .ref x :: st, h) = mj_bd (mj_gf h x 2 2) (fun v => mj_R 21 (53, [l0, l1, l2, l3], v :: st, h)) := mj_R_gf rfl
theorem mq_21_53 {l0 l1 l2 l3 : Value} {st : List Value} {h : mj_H} : mj_R 21 (53, [l0, l1, l2, l3], st, h) = mj_R 21 (54, [l0, l1, l2, l3], .int (nI 1) :: st, h) := mj_R_next rfl rfl
theorem mq_21_54 {l0 l1 l2 : Value} {x : Int32} {st : List Value} {h : mj_H} : mj_R 21 (54, [l0, l1, l2, .int x], st, h) = mj_R 21 (55, [l0, l1, l2, .int x], .int x :: st, h) := mj_R_next rfl rfl
theorem mq_21_55 {l0 l1 l2 l3 : Value} {x y : Int32} {st : List Value} {h : mj_H} : mj_R 21 (55, [l0, l1, l2, l3], .int y :: .int x :: st, h) = mj_R 21 (56, [l0, l1, l2, l3], .int (x <<< (y &&& 31)) :: st, h) := mj_R_next rfl rfl
theorem mq_21_56 {l0 l1 l2 l3 : Value} {st : List Value} {h : mj_H} : mj_R 21 (56, [l0, l1, l2, l3], st, h) = mj_R 21 (57, [l0, l1, l2, l3], .int (-1) :: st, h) := mj_R_next rfl rfl
theorem mq_21_57 {l0 l1 l2 l3 : Value} {x y : Int32} {st : List Value} {h : mj_H} : mj_R 21 (57, [l0, l1, l2, l3], .int y :: .int x :: st, h) = mj_R 21 (58, [l0, l1, l2, l3], .int (x ^^^ y) :: st, h) := mj_R_next rfl rfl
theorem mq_21_58 {l0 l1 l2 l3 : Value} {x y : Int32} {st : List Value} {h : mj_H} : mj_R 21 (58, [l0, l1, l2, l3], .int y :: .int x :: st, h) = mj_R 21 (59, [l0, l1, l2, l3], .int (x &&& y) :: st, h) := mj_R_next rfl rfl
theorem mq_21_59 {l0 l1 l2 l3 : Value} {x : Nat} {v : Value} {st : List Value} {h : mj_H} : mj_R 21 (59, [l0, l1, l2, l3], v :: .ref x :: st, h) = mj_bd (mj_pf h x 2 2 v) (fun h' => mj_R 21 (62, [l0, l1, l2, l3], st, h')) := mj_R_pf rfl
theorem mq_21_62 {l1 l2 l3 : Value} {x : Nat} {st : List Value} {h : mj_H} : mj_R 21 (62, [.ref x, l1, l2, l3], st, h) = mj_R 21 (63, [.ref x, l1, l2, l3], .ref x :: st, h) := mj_R_next rfl rfl
theorem mq_21_63 {l0 l1 l2 l3 : Value} {x : Nat} {st : List Value} {h : mj_H} : mj_R 21 (63, [l0, l1, l2, l3], .ref x :: st, h) = mj_bd (mj_gf h x 2 0) (fun v => mj_R 21 (66, [l0, l1, l2, l3], v :: st, h)) := mj_R_gf rfl
theorem mq_21_66 {l0 l1 l2 l3 : Value} {x : Nat} {st : List Value} {h : mj_H} : mj_R 21 (66, [l0, l1, l2, l3], .ref x :: st, h) = mj_bd (mj_gf h x 3 3) (fun v => mj_R 21 (69, [l0, l1, l2, l3], v :: st, h)) := mj_R_gf rfl
theorem mq_21_69 {l0 l1 l2 : Value} {x : Int32} {st : List Value} {h : mj_H} : mj_R 21 (69, [l0, l1, l2, .int x], st, h) = mj_R 21 (70, [l0, l1, l2, .int x], .int x :: st, h) := mj_R_next rfl rfl
theorem mq_21_70 {l0 l1 l2 l3 : Value} {x : Nat} {j : Int32} {st : List Value} {h : mj_H} : mj_R 21 (70, [l0, l1, l2, l3], .int j :: .ref x :: st, h) = mj_bd (mj_gi h x j) (fun v => mj_R 21 (71, [l0, l1, l2, l3], .int v :: st, h)) := mj_R_gi rfl
theorem mq_21_71 {l0 l1 l2 l3 : Value} {st : List Value} {h : mj_H} : mj_R 21 (71, [l0, l1, l2, l3], st, h) = mj_R 21 (72, [l0, l1, l2, l3], .int (nI 3) :: st, h) := mj_R_next rfl rfl
theorem mq_21_72 {l0 l1 l2 l3 : Value} {x y : Int32} {st : List Value} {h : mj_H} : mj_R 21 (72, [l0, l1, l2, l3], .int y :: .int x :: st, h) = if x = y then mj_R 21 (75, [l0, l1, l2, l3], st, h) else mj_R 21 (81, [l0, l1, l2, l3], st, h) := mj_R_jne rfl
theorem mq_21_75 {l0 l1 l3 : Value} {x : Int32} {st : List Value} {h : mj_H} : mj_R 21 (75, [l0, l1, .int x, l3], st, h) = mj_R 21 (76, [l0, l1, .int x, l3], .int x :: st, h) := mj_R_next rfl rfl
theorem mq_21_76 {l0 l1 l2 l3 : Value} {st : List Value} {h : mj_H} : mj_R 21 (76, [l0, l1, l2, l3], st, h) = mj_R 21 (77, [l0, l1, l2, l3], .int (nI 1) :: st, h) := mj_R_next rfl rfl
theorem mq_21_77 {l0 l1 l2 : Value} {x : Int32} {st : List Value} {h : mj_H} : mj_R 21 (77, [l0, l1, l2, .int x], st, h) = mj_R 21 (78, [l0, l1, l2, .int x], .int x :: st, h) := mj_R_next rfl rfl
theorem mq_21_78 {l0 l1 l2 l3 : Value} {x y : Int32} {st : List Value} {h : mj_H} : mj_R 21 (78, [l0, l1, l2, l3], .int y :: .int x :: st, h) = mj_R 21 (79, [l0, l1, l2, l3], .int (x <<< (y &&& 31)) :: st, h) := mj_R_next rfl rfl
theorem mq_21_79 {l0 l1 l2 l3 : Value} {x y : Int32} {st : List Value} {h : mj_H} : mj_R 21 (79, [l0, l1, l2, l3], .int y :: .int x :: st, h) = mj_R 21 (80, [l0, l1, l2, l3], .int (x ||| y) :: st, h) := mj_R_next rfl rfl
theorem mq_21_80 {l0 l1 l2 l3 : Value} {x : Int32} {st : List Value} {h : mj_H} : mj_R 21 (80, [l0, l1, l2, l3], .int x :: st, h) = mj_R 21 (81, [l0, l1, .int x, l3], st, h) := mj_R_next rfl rfl
theorem mq_21_81 {l0 l1 l2 : Value} {x : Int32} {st : List Value} {h : mj_H} : mj_R 21 (81, [l0, l1, l2, .int x], st, h) = mj_R 21 (84, [l0, l1, l2, .int (x + (nI 1))], st, h) := mj_R_next rfl rfl
theorem mq_21_84 {l0 l1 l2 l3 : Value} {st : List Value} {h : mj_H} : mj_R 21 (84, [l0, l1, l2, l3], st, h) = mj_R 21 (9, [l0, l1, l2, l3], st, h) := mj_R_next rfl rfl
theorem mq_21_87 {l1 l2 l3 : Value} {x : Nat} {st : List Value} {h : mj_H} : mj_R 21 (87, [.ref x, l1, l2, l3], st, h) = mj_R 21 (88, [.ref x, l1, l2, l3], .ref x :: st, h) := mj_R_next rfl rfl
theorem mq_21_88 {l0 l1 l2 l3 : Value} {x : Nat} {st : List Value} {h : mj_H} : mj_R 21 (88, [l0, l1, l2, l3], .ref x :: st, h) = mj_R 21 (89, [l0, l1, l2, l3], .ref x :: .ref x :: st, h) := mj_R_next rfl rfl
theorem mq_21_89 {l0 l1 l2 l3 : Value} {x : Nat} {st : List Value} {h : mj_H} : mj_R 21 (89, [l0, l1, l2, l3], .ref x :: st, h) = mj_bd (mj_gf h x 2 2) (fun v => mj_R 21 (92, [l0, l1, l2, l3], v :: st, h)) := mj_R_gf rfl
theorem mq_21_92 {l0 l1 l3 : Value} {x : Int32} {st : List Value} {h : mj_H} : mj_R 21 (92, [l0, l1, .int x, l3], st, h) = mj_R 21 (93, [l0, l1, .int x, l3], .int x :: st, h) := mj_R_next rfl rfl
theorem mq_21_93 {l0 l1 l2 l3 : Value} {st : List Value} {h : mj_H} : mj_R 21 (93, [l0, l1, l2, l3], st, h) = mj_R 21 (94, [l0, l1, l2, l3], .int (-1) :: st, h) := mj_R_next rfl rfl
theorem mq_21_94 {l0 l1 l2 l3 : Value} {x y : Int32} {st : List Value} {h : mj_H} : mj_R 21 (94, [l0, l1, l2, l3], .int y :: .int x :: st, h) = mj_R 21 (95, [l0, l1, l2, l3], .int (x ^^^ y) :: st, h) := mj_R_next rfl rfl
theorem mq_21_95 {l0 l1 l2 l3 : Value} {x y : Int32} {st : List Value} {h : mj_H} : mj_R 21 (95, [l0, l1, l2, l3], .int y :: .int x :: st, h) = mj_R 21 (96, [l0, l1, l2, l3], .int (x &&& y) :: st, h) := mj_R_next rfl rfl
theorem mq_21_96 {l0 l1 l2 l3 : Value} {x : Nat} {v : Value} {st : List Value} {h : mj_H} : mj_R 21 (96, [l0, l1, l2, l3], v :: .ref x :: st, h) = mj_bd (mj_pf h x 2 2 v) (fun h' => mj_R 21 (99, [l0, l1, l2, l3], st, h')) := mj_R_pf rfl
theorem mq_21_99 {l1 l2 l3 : Value} {x : Nat} {st : List Value} {h : mj_H} : mj_R 21 (99, [.ref x, l1, l2, l3], st, h) = mj_R 21 (100, [.ref x, l1, l2, l3], .ref x :: st, h) := mj_R_next rfl rfl
theorem mq_21_100 {l0 l1 l2 l3 : Value} {x : Nat} {st : List Value} {h : mj_H} : mj_R 21 (100, [l0, l1, l2, l3], .ref x :: st, h) = mj_R 21 (101, [l0, l1, l2, l3], .ref x :: .ref x :: st, h) := mj_R_next rfl rfl
theorem mq_21_101 {l0 l1 l2 l3 : Value} {x : Nat} {st : List Value} {h : mj_H} : mj_R 21 (101, [l0, l1, l2, l3], .ref x :: st, h) = mj_bd (mj_gf h x 2 3) (fun v => mj_R 21 (104, [l0, l1, l2, l3], v :: st, h)) := mj_R_gf rfl
theorem mq_21_104 {l0 l1 l2 l3 : Value} {st : List Value} {h : mj_H} : mj_R 21 (104, [l0, l1, l2, l3], st, h) = mj_R 21 (105, [l0, l1, l2, l3], .int (nI 1) :: st, h) := mj_R_next rfl rfl
theorem mq_21_105 {l0 l1 l2 l3 : Value} {x y : Int32} {st : List Value} {h : mj_H} : mj_R 21 (105, [l0, l1, l2, l3], .int y :: .int x :: st, h) = mj_R 21 (106, [l0, l1, l2, l3], .int (x + y) :: st, h) := mj_R_next rfl rfl
theorem mq_21_106 {l0 l1 l2 l3 : Value} {x : Nat} {v : Value} {st : List Value} {h : mj_H} : mj_R 21 (106, [l0, l1, l2, l3], v :: .ref x :: st, h) = mj_bd (mj_pf h x 2 3 v) (fun h' => mj_R 21 (109, [l0, l1, l2, l3], st, h')) := mj_R_pf rfl
theorem mq_21_109 {l0 l2 l3 : Value} {x : Int32} {st : List Value} {h : mj_H} : mj_R 21 (109, [l0, .int x, l2, l3], st, h) = mj_R 21 (110, [l0, .int x, l2, l3], .int x :: st, h) := mj_R_next rfl rfl
theorem mq_21_110 {l1 l2 l3 : Value} {x : Nat} {st : List Value} {h : mj_H} : mj_R 21 (110, [.ref x, l1, l2, l3], st, h) = mj_R 21 (111, [.ref x, l1, l2, l3], .ref x :: st, h) := mj_R_next rfl rfl
theorem mq_21_111 {l0 l1 l2 l3 : Value} {x : Nat} {st : List Value} {h : mj_H} : mj_R 21 (111, [l0, l1, l2, l3], .ref x :: st, h) = mj_bd (mj_gf h x 2 2) (fun v => mj_R 21 (114, [l0, l1, l2, l3], v :: st, h)) := mj_R_gf rfl
theorem mq_21_114 {l0 l1 l2 l3 : Value} {st : List Value} {h : mj_H} : mj_R 21 (114, [l0, l1, l2, l3], st, h) = mj_R 21 (115, [l0, l1, l2, l3], .int (-1) :: st, h) := mj_R_next rfl rfl
theorem mq_21_115 {l0 l1 l2 l3 : Value} {x y : Int32} {st : List Value} {h : mj_H} : mj_R 21 (115, [l0, l1, l2, l3], .int y :: .int x :: st, h) = mj_R 21 (116, [l0, l1, l2, l3], .int (x ^^^ y) :: st, h) := mj_R_next rfl rfl
theorem mq_21_116 {l0 l1 l2 l3 : Value} {x y : Int32} {st : List Value} {h : mj_H} : mj_R 21 (116, [l0, l1, l2, l3], .int y :: .int x :: st, h) = mj_R 21 (117, [l0, l1, l2, l3], .int (x &&& y) :: st, h) := mj_R_next rfl rfl
theorem mq_21_117 {l0 l1 l2 l3 : Value} {x : Int32} {h : mj_H} : mj_R 21 (117, [l0, l1, l2, l3], [.int x], h) = some (some (.int x), h) := mj_R_ret rfl rfl
theorem mc_22 {a0 : Nat} {h : mj_H} : mj_C 22 [.ref a0] h = mj_R 22 (0, [.ref a0], [], h) := rfl
theorem mq_22_0 {x : Nat} {st : List Value} {h : mj_H} : mj_R 22 (0, [.ref x], st, h) = mj_R 22 (1, [.ref x], .ref x :: st, h) := mj_R_next rfl rfl
theorem mq_22_1 {l0 : Value} {x : Nat} {st : List Value} {h : mj_H} : mj_R 22 (1, [l0], .ref x :: st, h) = mj_bd (mj_gf h x 2 0) (fun v => mj_R 22 (4, [l0], v :: st, h)) := mj_R_gf rfl
theorem mq_22_4 {x : Nat} {st : List Value} {h : mj_H} : mj_R 22 (4, [.ref x], st, h) = mj_R 22 (5, [.ref x], .ref x :: st, h) := mj_R_next rfl rfl
theorem mq_22_5 {l0 : Value} {x : Nat} {st : List Value} {h : mj_H} : mj_R 22 (5, [l0], .ref x :: st, h) = mj_bd (mj_gf h x 2 2) (fun v => mj_R 22 (8, [l0], v :: st, h)) := mj_R_gf rfl
theorem mq_22_8 {x : Nat} {st : List Value} {h : mj_H} : mj_R 22 (8, [.ref x], st, h) = mj_R 22 (9, [.ref x], .ref x :: st, h) := mj_R_next rfl rfl
theorem mq_22_9 {l0 : Value} {x : Nat} {st : List Value} {h : mj_H} : mj_R 22 (9, [l0], .ref x :: st, h) = mj_bd (mj_gf h x 2 5) (fun v => mj_R 22 (12, [l0], v :: st, h)) := mj_R_gf rfl
theorem mq_22_12 {l0 : Value} {a0 : Nat} {a1 : Int32} {a2 : Int32} {h : mj_H} : mj_R 22 (12, [l0], [.int a2, .int a1, .ref a0], h) = if mj_isC h a0 3 = true then mj_bd (mj_C 40 [.ref a0, .int a1, .int a2] h) (fun r => mj_R 22 (15, [l0], r.1.toList ++ [], r.2)) else none := mj_R_cv rfl rfl
theorem mq_22_15 {l0 : Value} {x : Int32} {h : mj_H} : mj_R 22 (15, [l0], [.int x], h) = if (x == 0 || x == 1) = true then some (some (.int x), h) else none := mj_R_rz rfl rfl
theorem mc_23 {a0 : Nat} {h : mj_H} : mj_C 23 [.ref a0] h = mj_R 23 (0, [.ref a0, .null], [], h) := rfl
theorem mq_23_0 {l1 : Value} {x : Nat} {st : List Value} {h : mj_H} : mj_R 23 (0, [.ref x, l1], st, h) = mj_R 23 (1, [.ref x, l1], .ref x :: st, h) := mj_R_next rfl rfl
theorem mq_23_1 {l0 l1 : Value} {x : Nat} {st : List Value} {h : mj_H} : mj_R 23 (1, [l0, l1], .ref x :: st, h) = mj_bd (mj_gf h x 2 5) (fun v => mj_R 23 (4, [l0, l1], v :: st, h)) := mj_R_gf rfl
theorem mq_23_4 {l0 l1 : Value} {x : Int32} {st : List Value} {h : mj_H} : mj_R 23 (4, [l0, l1], .int x :: st, h) = mj_R 23 (5, [l0, .int x], st, h) := mj_R_next rfl rfl
theorem mq_23_5 {l1 : Value} {x : Nat} {st : List Value} {h : mj_H} : mj_R 23 (5, [.ref x, l1], st, h) = mj_R 23 (6, [.ref x, l1], .ref x :: st, h) := mj_R_next rfl rfl
theorem mq_23_6 {l0 l1 : Value} {x : Nat} {st : List Value} {h : mj_H} : mj_R 23 (6, [l0, l1], .ref x :: st, h) = mj_R 23 (7, [l0, l1], .ref x :: .ref x :: st, h) := mj_R_next rfl rfl
theorem mq_23_7 {l0 l1 : Value} {x : Nat} {st : List Value} {h : mj_H} : mj_R 23 (7, [l0, l1], .ref x :: st, h) = mj_bd (mj_gf h x 2 5) (fun v => mj_R 23 (10, [l0, l1], v :: st, h)) := mj_R_gf rfl
theorem mq_23_10 {l0 l1 : Value} {st : List Value} {h : mj_H} : mj_R 23 (10, [l0, l1], st, h) = mj_R 23 (11, [l0, l1], .int (nI 1) :: st, h) := mj_R_next rfl rfl
theorem mq_23_11 {l0 l1 : Value} {x y : Int32} {st : List Value} {h : mj_H} : mj_R 23 (11, [l0, l1], .int y :: .int x :: st, h) = mj_R 23 (12, [l0, l1], .int (x + y) :: st, h) := mj_R_next rfl rfl
theorem mq_23_12 {l0 l1 : Value} {x : Nat} {v : Value} {st : List Value} {h : mj_H} : mj_R 23 (12, [l0, l1], v :: .ref x :: st, h) = mj_bd (mj_pf h x 2 5 v) (fun h' => mj_R 23 (15, [l0, l1], st, h')) := mj_R_pf rfl
theorem mq_23_15 {l0 : Value} {x : Int32} {st : List Value} {h : mj_H} : mj_R 23 (15, [l0, .int x], st, h) = mj_R 23 (16, [l0, .int x], .int x :: st, h) := mj_R_next rfl rfl
theorem mq_23_16 {l0 l1 : Value} {x : Int32} {h : mj_H} : mj_R 23 (16, [l0, l1], [.int x], h) = some (some (.int x), h) := mj_R_ret rfl rfl
theorem mc_24 {a0 : Nat} {a1 : Int32} {h : mj_H} : mj_C 24 [.ref a0, .int a1] h = mj_R 24 (0, [.ref a0, .int a1, .null], [], h) := rfl
theorem mq_24_0 {l0 l2 : Value} {x : Int32} {st : List Value} {h : mj_H} : mj_R 24 (0, [l0, .int x, l2], st, h) = mj_R 24 (1, [l0, .int x, l2], .int x :: st, h) := mj_R_next rfl rfl
theorem mq_24_1 {l0 l1 l2 : Value} {x : Int32} {st : List Value} {h : mj_H} : mj_R 24 (1, [l0, l1, l2], .int x :: st, h) = if x = nI 0 then mj_R 24 (4, [l0, l1, l2], st, h) else mj_R 24 (11, [l0, l1, l2], st, h) := mj_R_ine rfl
theorem mq_24_4 {l1 l2 : Value} {x : Nat} {st : List Value} {h : mj_H} : mj_R 24 (4, [.ref x, l1, l2], st, h) = mj_R 24 (5, [.ref x, l1, l2], .ref x :: st, h) := mj_R_next rfl rfl
theorem mq_24_5 {l0 l1 l2 : Value} {a0 : Nat} {h : mj_H} : mj_R 24 (5, [l0, l1, l2], [.ref a0], h) = if mj_isC h a0 2 = true then mj_bd (mj_C 12 [.ref a0] h) (fun r => mj_R 24 (8, [l0, l1, l2], r.1.toList ++ [], r.2)) else none := mj_R_cv rfl rfl
theorem mq_24_8 {l0 l1 l2 : Value} {x : Int32} {st : List Value} {h : mj_H} : mj_R 24 (8, [l0, l1, l2], .int x :: st, h) = if x = nI 0 then mj_R 24 (11, [l0, l1, l2], st, h) else mj_R 24 (40, [l0, l1, l2], st, h) := mj_R_ine rfl
theorem mq_24_11 {l0 l2 : Value} {x : Int32} {st : List Value} {h : mj_H} : mj_R 24 (11, [l0, .int x, l2], st, h) = mj_R 24 (12, [l0, .int x, l2], .int x :: st, h) := mj_R_next rfl rfl
theorem mq_24_12 {l0 l1 l2 : Value} {st : List Value} {h : mj_H} : mj_R 24 (12, [l0, l1, l2], st, h) = mj_R 24 (13, [l0, l1, l2], .int (nI 1) :: st, h) := mj_R_next rfl rfl
theorem mq_24_13 {l0 l1 l2 : Value} {x y : Int32} {st : List Value} {h : mj_H} : mj_R 24 (13, [l0, l1, l2], .int y :: .int x :: st, h) = if x = y then mj_R 24 (16, [l0, l1, l2], st, h) else mj_R 24 (23, [l0, l1, l2], st, h) := mj_R_jne rfl
theorem mq_24_16 {l1 l2 : Value} {x : Nat} {st : List Value} {h : mj_H} : mj_R 24 (16, [.ref x, l1, l2], st, h) = mj_R 24 (17, [.ref x, l1, l2], .ref x :: st, h) := mj_R_next rfl rfl
theorem mq_24_17 {l0 l1 l2 : Value} {a0 : Nat} {h : mj_H} : mj_R 24 (17, [l0, l1, l2], [.ref a0], h) = if mj_isC h a0 2 = true then mj_bd (mj_C 16 [.ref a0] h) (fun r => mj_R 24 (20, [l0, l1, l2], r.1.toList ++ [], r.2)) else none := mj_R_cv rfl rfl
theorem mq_24_20 {l0 l1 l2 : Value} {x : Int32} {st : List Value} {h : mj_H} : mj_R 24 (20, [l0, l1, l2], .int x :: st, h) = if x = nI 0 then mj_R 24 (23, [l0, l1, l2], st, h) else mj_R 24 (40, [l0, l1, l2], st, h) := mj_R_ine rfl
theorem mq_24_23 {l0 l2 : Value} {x : Int32} {st : List Value} {h : mj_H} : mj_R 24 (23, [l0, .int x, l2], st, h) = mj_R 24 (24, [l0, .int x, l2], .int x :: st, h) := mj_R_next rfl rfl
theorem mq_24_24 {l0 l1 l2 : Value} {st : List Value} {h : mj_H} : mj_R 24 (24, [l0, l1, l2], st, h) = mj_R 24 (25, [l0, l1, l2], .int (nI 2) :: st, h) := mj_R_next rfl rfl
theorem mq_24_25 {l0 l1 l2 : Value} {x y : Int32} {st : List Value} {h : mj_H} : mj_R 24 (25, [l0, l1, l2], .int y :: .int x :: st, h) = if x = y then mj_R 24 (40, [l0, l1, l2], st, h) else mj_R 24 (28, [l0, l1, l2], st, h) := mj_R_jeq rfl
theorem mq_24_28 {l0 l2 : Value} {x : Int32} {st : List Value} {h : mj_H} : mj_R 24 (28, [l0, .int x, l2], st, h) = mj_R 24 (29, [l0, .int x, l2], .int x :: st, h) := mj_R_next rfl rfl
theorem mq_24_29 {l0 l1 l2 : Value} {st : List Value} {h : mj_H} : mj_R 24 (29, [l0, l1, l2], st, h) = mj_R 24 (30, [l0, l1, l2], .int (nI 3) :: st, h) := mj_R_next rfl rfl
theorem mq_24_30 {l0 l1 l2 : Value} {x y : Int32} {st : List Value} {h : mj_H} : mj_R 24 (30, [l0, l1, l2], .int y :: .int x :: st, h) = if x = y then mj_R 24 (33, [l0, l1, l2], st, h) else mj_R 24 (44, [l0, l1, l2], st, h) := mj_R_jne rfl
theorem mq_24_33 {l1 l2 : Value} {x : Nat} {st : List Value} {h : mj_H} : mj_R 24 (33, [.ref x, l1, l2], st, h) = mj_R 24 (34, [.ref x, l1, l2], .ref x :: st, h) := mj_R_next rfl rfl
theorem mq_24_34 {l0 l1 l2 : Value} {a0 : Nat} {h : mj_H} : mj_R 24 (34, [l0, l1, l2], [.ref a0], h) = if mj_isC h a0 2 = true then mj_bd (mj_C 22 [.ref a0] h) (fun r => mj_R 24 (37, [l0, l1, l2], r.1.toList ++ [], r.2)) else none := mj_R_cv rfl rfl
theorem mq_24_37 {l0 l1 l2 : Value} {x : Int32} {st : List Value} {h : mj_H} : mj_R 24 (37, [l0, l1, l2], .int x :: st, h) = if x = nI 0 then mj_R 24 (44, [l0, l1, l2], st, h) else mj_R 24 (40, [l0, l1, l2], st, h) := mj_R_ieq rfl
theorem mq_24_40 {l0 l1 l2 : Value} {st : List Value} {h : mj_H} : mj_R 24 (40, [l0, l1, l2], st, h) = mj_R 24 (41, [l0, l1, l2], .int (nI 1) :: st, h) := mj_R_next rfl rfl
theorem mq_24_41 {l0 l1 l2 : Value} {st : List Value} {h : mj_H} : mj_R 24 (41, [l0, l1, l2], st, h) = mj_R 24 (45, [l0, l1, l2], st, h) := mj_R_next rfl rfl
theorem mq_24_44 {l0 l1 l2 : Value} {st : List Value} {h : mj_H} : mj_R 24 (44, [l0, l1, l2], st, h) = mj_R 24 (45, [l0, l1, l2], .int (nI 0) :: st, h) := mj_R_next rfl rfl
theorem mq_24_45 {l0 l1 l2 : Value} {x : Int32} {st : List Value} {h : mj_H} : mj_R 24 (45, [l0, l1, l2], .int x :: st, h) = mj_R 24 (46, [l0, l1, .int x], st, h) := mj_R_next rfl rfl
theorem mq_24_46 {l0 l1 : Value} {x : Int32} {st : List Value} {h : mj_H} : mj_R 24 (46, [l0, l1, .int x], st, h) = mj_R 24 (47, [l0, l1, .int x], .int x :: st, h) := mj_R_next rfl rfl
theorem mq_24_47 {l0 l1 l2 : Value} {x : Int32} {st : List Value} {h : mj_H} : mj_R 24 (47, [l0, l1, l2], .int x :: st, h) = if x = nI 0 then mj_R 24 (104, [l0, l1, l2], st, h) else mj_R 24 (50, [l0, l1, l2], st, h) := mj_R_ieq rfl
theorem mq_24_50 {l0 l2 : Value} {x : Int32} {st : List Value} {h : mj_H} : mj_R 24 (50, [l0, .int x, l2], st, h) = mj_R 24 (51, [l0, .int x, l2], .int x :: st, h) := mj_R_next rfl rfl
theorem mq_24_51_0 {l0 l1 l2 : Value} {st : List Value} {h : mj_H} : mj_R 24 (51, [l0, l1, l2], .int (nI 0) :: st, h) = mj_R 24 (76, [l0, l1, l2], st, h) := mj_R_next rfl rfl
theorem mq_24_51_1 {l0 l1 l2 : Value} {st : List Value} {h : mj_H} : mj_R 24 (51, [l0, l1, l2], .int (nI 1) :: st, h) = mj_R 24 (83, [l0, l1, l2], st, h) := mj_R_next rfl rfl
theorem mq_24_51_2 {l0 l1 l2 : Value} {st : List Value} {h : mj_H} : mj_R 24 (51, [l0, l1, l2], .int (nI 2) :: st, h) = mj_R 24 (91, [l0, l1, l2], st, h) := mj_R_next rfl rfl
theorem mq_24_51_d {l0 l1 l2 : Value} {st : List Value} {h : mj_H} {x : Int32} (hx : ∀ j, j < 3 → x ≠ nI j) : mj_R 24 (51, [l0, l1, l2], .int x :: st, h) = mj_R 24 (99, [l0, l1, l2], st, h) := mj_R_dfl (k := 3) rfl rfl rfl rfl hx
theorem mq_24_76 {l1 l2 : Value} {x : Nat} {st : List Value} {h : mj_H} : mj_R 24 (76, [.ref x, l1, l2], st, h) = mj_R 24 (77, [.ref x, l1, l2], .ref x :: st, h) := mj_R_next rfl rfl
theorem mq_24_77 {l0 l1 l2 : Value} {a0 : Nat} {h : mj_H} : mj_R 24 (77, [l0, l1, l2], [.ref a0], h) = if mj_isC h a0 2 = true then mj_bd (mj_C 20 [.ref a0] h) (fun r => mj_R 24 (80, [l0, l1, l2], r.1.toList ++ [], r.2)) else none := mj_R_cv rfl rfl
theorem mq_24_80 {l0 l1 l2 : Value} {st : List Value} {h : mj_H} : mj_R 24 (80, [l0, l1, l2], st, h) = mj_R 24 (104, [l0, l1, l2], st, h) := mj_R_next rfl rfl
theorem mq_24_83 {l1 l2 : Value} {x : Nat} {st : List Value} {h : mj_H} : mj_R 24 (83, [.ref x, l1, l2], st, h) = mj_R 24 (84, [.ref x, l1, l2], .ref x :: st, h) := mj_R_next rfl rfl
theorem mq_24_84 {l0 l1 l2 : Value} {a0 : Nat} {h : mj_H} : mj_R 24 (84, [l0, l1, l2], [.ref a0], h) = if mj_isC h a0 2 = true then mj_bd (mj_C 18 [.ref a0] h) (fun r => mj_R 24 (87, [l0, l1, l2], r.1.toList ++ [], r.2)) else none := mj_R_cv rfl rfl
theorem mq_24_87 {l0 l1 l2 : Value} {x : Int32} {st : List Value} {h : mj_H} : mj_R 24 (87, [l0, l1, l2], .int x :: st, h) = mj_R 24 (88, [l0, l1, l2], st, h) := mj_R_next rfl rfl
theorem mq_24_88 {l0 l1 l2 : Value} {st : List Value} {h : mj_H} : mj_R 24 (88, [l0, l1, l2], st, h) = mj_R 24 (104, [l0, l1, l2], st, h) := mj_R_next rfl rfl
theorem mq_24_91 {l1 l2 : Value} {x : Nat} {st : List Value} {h : mj_H} : mj_R 24 (91, [.ref x, l1, l2], st, h) = mj_R 24 (92, [.ref x, l1, l2], .ref x :: st, h) := mj_R_next rfl rfl
theorem mq_24_92 {l0 l1 l2 : Value} {a0 : Nat} {h : mj_H} : mj_R 24 (92, [l0, l1, l2], [.ref a0], h) = if mj_isC h a0 2 = true then mj_bd (mj_C 21 [.ref a0] h) (fun r => mj_R 24 (95, [l0, l1, l2], r.1.toList ++ [], r.2)) else none := mj_R_cv rfl rfl
theorem mq_24_95 {l0 l1 l2 : Value} {x : Int32} {st : List Value} {h : mj_H} : mj_R 24 (95, [l0, l1, l2], .int x :: st, h) = mj_R 24 (96, [l0, l1, l2], st, h) := mj_R_next rfl rfl
theorem mq_24_96 {l0 l1 l2 : Value} {st : List Value} {h : mj_H} : mj_R 24 (96, [l0, l1, l2], st, h) = mj_R 24 (104, [l0, l1, l2], st, h) := mj_R_next rfl rfl
theorem mq_24_99 {l1 l2 : Value} {x : Nat} {st : List Value} {h : mj_H} : mj_R 24 (99, [.ref x, l1, l2], st, h) = mj_R 24 (100, [.ref x, l1, l2], .ref x :: st, h) := mj_R_next rfl rfl
theorem mq_24_100 {l0 l1 l2 : Value} {a0 : Nat} {h : mj_H} : mj_R 24 (100, [l0, l1, l2], [.ref a0], h) = if mj_isC h a0 2 = true then mj_bd (mj_C 23 [.ref a0] h) (fun r => mj_R 24 (103, [l0, l1, l2], r.1.toList ++ [], r.2)) else none := mj_R_cv rfl rfl
theorem mq_24_103 {l0 l1 l2 : Value} {x : Int32} {st : List Value} {h : mj_H} : mj_R 24 (103, [l0, l1, l2], .int x :: st, h) = mj_R 24 (104, [l0, l1, l2], st, h) := mj_R_next rfl rfl
theorem mq_24_104 {l0 l1 : Value} {x : Int32} {st : List Value} {h : mj_H} : mj_R 24 (104, [l0, l1, .int x], st, h) = mj_R 24 (105, [l0, l1, .int x], .int x :: st, h) := mj_R_next rfl rfl
theorem mq_24_105 {l0 l1 l2 : Value} {x : Int32} {h : mj_H} : mj_R 24 (105, [l0, l1, l2], [.int x], h) = if (x == 0 || x == 1) = true then some (some (.int x), h) else none := mj_R_rz rfl rfl
end
