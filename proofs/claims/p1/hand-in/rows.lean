section
-- ===== PART A: goes FIRST, ahead of the names: the tables' words, and 'selects' of the private methods out of them =====
/-- a private method of a class that the tables say can be made, by its rows of tables_1 -/
def lw_okq (q : MethodName × Nat) : Prop := (q.1.cls ≠ "java/lang/invoke/MethodHandle" ∧ q.1.cls ≠ "java/lang/invoke/VarHandle") ∧ Cond.instantiable q.1.cls q.2 ∈ tables_1 ∧ Cond.privateMethod q.1 ∈ tables_1 ∧ Cond.instanceMethod q.1 ∈ tables_1
theorem lw_p0 : lw_okq (⟨"AgreeTold", "refreshLeft", "()V"⟩, 19) := ⟨⟨by decide +kernel, by decide +kernel⟩, List.mem_of_getElem? (i := 28) (by decide +kernel), List.mem_of_getElem? (i := 415) (by decide +kernel), List.mem_of_getElem? (i := 416) (by decide +kernel)⟩
theorem lw_p1 : lw_okq (⟨"AgreeTold", "groundInto", "(LAgreeTold$FutureSet;)V"⟩, 19) := ⟨⟨by decide +kernel, by decide +kernel⟩, List.mem_of_getElem? (i := 28) (by decide +kernel), List.mem_of_getElem? (i := 419) (by decide +kernel), List.mem_of_getElem? (i := 420) (by decide +kernel)⟩
theorem lw_p2 : lw_okq (⟨"AgreeTold", "sayingRow", "(I)LAgreeTold$FutureSet;"⟩, 19) := ⟨⟨by decide +kernel, by decide +kernel⟩, List.mem_of_getElem? (i := 28) (by decide +kernel), List.mem_of_getElem? (i := 460) (by decide +kernel), List.mem_of_getElem? (i := 461) (by decide +kernel)⟩
theorem lw_p3 : lw_okq (⟨"AgreeTold$Tape", "cutToken", "(I)I"⟩, 7) := ⟨⟨by decide +kernel, by decide +kernel⟩, List.mem_of_getElem? (i := 42) (by decide +kernel), List.mem_of_getElem? (i := 543) (by decide +kernel), List.mem_of_getElem? (i := 544) (by decide +kernel)⟩
theorem lw_p4 : lw_okq (⟨"AgreeTold$Tape", "signAt", "(I)C"⟩, 7) := ⟨⟨by decide +kernel, by decide +kernel⟩, List.mem_of_getElem? (i := 42) (by decide +kernel), List.mem_of_getElem? (i := 547) (by decide +kernel), List.mem_of_getElem? (i := 548) (by decide +kernel)⟩
theorem lw_p5 : lw_okq (⟨"AgreeTold$Tape", "cutWord", "(I)I"⟩, 7) := ⟨⟨by decide +kernel, by decide +kernel⟩, List.mem_of_getElem? (i := 42) (by decide +kernel), List.mem_of_getElem? (i := 554) (by decide +kernel), List.mem_of_getElem? (i := 555) (by decide +kernel)⟩
theorem lw_p6 : lw_okq (⟨"AgreeTold$Tape", "wordKind", "(J)I"⟩, 7) := ⟨⟨by decide +kernel, by decide +kernel⟩, List.mem_of_getElem? (i := 42) (by decide +kernel), List.mem_of_getElem? (i := 558) (by decide +kernel), List.mem_of_getElem? (i := 559) (by decide +kernel)⟩
theorem lw_p7 : lw_okq (⟨"AgreeTold$Tape", "addToken", "(IIJ)V"⟩, 7) := ⟨⟨by decide +kernel, by decide +kernel⟩, List.mem_of_getElem? (i := 42) (by decide +kernel), List.mem_of_getElem? (i := 562) (by decide +kernel), List.mem_of_getElem? (i := 563) (by decide +kernel)⟩
theorem lw_p8 : lw_okq (⟨"AgreeTold$Tape", "cutNumber", "(I)I"⟩, 7) := ⟨⟨by decide +kernel, by decide +kernel⟩, List.mem_of_getElem? (i := 42) (by decide +kernel), List.mem_of_getElem? (i := 569) (by decide +kernel), List.mem_of_getElem? (i := 570) (by decide +kernel)⟩
theorem lw_p9 : lw_okq (⟨"AgreeTold$Reader", "begin", "(LAgreeTold$Land;)V"⟩, 12) := ⟨⟨by decide +kernel, by decide +kernel⟩, List.mem_of_getElem? (i := 36) (by decide +kernel), List.mem_of_getElem? (i := 635) (by decide +kernel), List.mem_of_getElem? (i := 636) (by decide +kernel)⟩
theorem lw_p10 : lw_okq (⟨"AgreeTold$Reader", "advance", "()V"⟩, 12) := ⟨⟨by decide +kernel, by decide +kernel⟩, List.mem_of_getElem? (i := 36) (by decide +kernel), List.mem_of_getElem? (i := 639) (by decide +kernel), List.mem_of_getElem? (i := 640) (by decide +kernel)⟩
theorem lw_p11 : lw_okq (⟨"AgreeTold$Reader", "readDays", "()V"⟩, 12) := ⟨⟨by decide +kernel, by decide +kernel⟩, List.mem_of_getElem? (i := 36) (by decide +kernel), List.mem_of_getElem? (i := 643) (by decide +kernel), List.mem_of_getElem? (i := 644) (by decide +kernel)⟩
theorem lw_p12 : lw_okq (⟨"AgreeTold$Reader", "takeKind", "(I)V"⟩, 12) := ⟨⟨by decide +kernel, by decide +kernel⟩, List.mem_of_getElem? (i := 36) (by decide +kernel), List.mem_of_getElem? (i := 647) (by decide +kernel), List.mem_of_getElem? (i := 648) (by decide +kernel)⟩
theorem lw_p13 : lw_okq (⟨"AgreeTold$Reader", "wrong", "(I)V"⟩, 12) := ⟨⟨by decide +kernel, by decide +kernel⟩, List.mem_of_getElem? (i := 36) (by decide +kernel), List.mem_of_getElem? (i := 651) (by decide +kernel), List.mem_of_getElem? (i := 652) (by decide +kernel)⟩
theorem lw_p14 : lw_okq (⟨"AgreeTold$Reader", "takeNumber", "(II)I"⟩, 12) := ⟨⟨by decide +kernel, by decide +kernel⟩, List.mem_of_getElem? (i := 36) (by decide +kernel), List.mem_of_getElem? (i := 655) (by decide +kernel), List.mem_of_getElem? (i := 656) (by decide +kernel)⟩
theorem lw_p15 : lw_okq (⟨"AgreeTold$Reader", "readPerson", "()V"⟩, 12) := ⟨⟨by decide +kernel, by decide +kernel⟩, List.mem_of_getElem? (i := 36) (by decide +kernel), List.mem_of_getElem? (i := 659) (by decide +kernel), List.mem_of_getElem? (i := 660) (by decide +kernel)⟩
def lw_privs_1 : List (MethodName × Nat) := [(⟨"AgreeTold", "refreshLeft", "()V"⟩, 19), (⟨"AgreeTold", "groundInto", "(LAgreeTold$FutureSet;)V"⟩, 19), (⟨"AgreeTold", "sayingRow", "(I)LAgreeTold$FutureSet;"⟩, 19), (⟨"AgreeTold$Tape", "cutToken", "(I)I"⟩, 7), (⟨"AgreeTold$Tape", "signAt", "(I)C"⟩, 7), (⟨"AgreeTold$Tape", "cutWord", "(I)I"⟩, 7), (⟨"AgreeTold$Tape", "wordKind", "(J)I"⟩, 7), (⟨"AgreeTold$Tape", "addToken", "(IIJ)V"⟩, 7), (⟨"AgreeTold$Tape", "cutNumber", "(I)I"⟩, 7), (⟨"AgreeTold$Reader", "begin", "(LAgreeTold$Land;)V"⟩, 12), (⟨"AgreeTold$Reader", "advance", "()V"⟩, 12), (⟨"AgreeTold$Reader", "readDays", "()V"⟩, 12), (⟨"AgreeTold$Reader", "takeKind", "(I)V"⟩, 12), (⟨"AgreeTold$Reader", "wrong", "(I)V"⟩, 12), (⟨"AgreeTold$Reader", "takeNumber", "(II)I"⟩, 12), (⟨"AgreeTold$Reader", "readPerson", "()V"⟩, 12)]
theorem lw_r1 : ∀ q ∈ lw_privs_1, lw_okq q := List.forall_mem_cons.mpr ⟨lw_p0, List.forall_mem_cons.mpr ⟨lw_p1, List.forall_mem_cons.mpr ⟨lw_p2, List.forall_mem_cons.mpr ⟨lw_p3, List.forall_mem_cons.mpr ⟨lw_p4, List.forall_mem_cons.mpr ⟨lw_p5, List.forall_mem_cons.mpr ⟨lw_p6, List.forall_mem_cons.mpr ⟨lw_p7, List.forall_mem_cons.mpr ⟨lw_p8, List.forall_mem_cons.mpr ⟨lw_p9, List.forall_mem_cons.mpr ⟨lw_p10, List.forall_mem_cons.mpr ⟨lw_p11, List.forall_mem_cons.mpr ⟨lw_p12, List.forall_mem_cons.mpr ⟨lw_p13, List.forall_mem_cons.mpr ⟨lw_p14, List.forall_mem_cons.mpr ⟨lw_p15, fun _ h => absurd h List.not_mem_nil⟩⟩⟩⟩⟩⟩⟩⟩⟩⟩⟩⟩⟩⟩⟩⟩
theorem lw_p16 : lw_okq (⟨"AgreeTold$Reader", "takeNewName", "()J"⟩, 12) := ⟨⟨by decide +kernel, by decide +kernel⟩, List.mem_of_getElem? (i := 36) (by decide +kernel), List.mem_of_getElem? (i := 671) (by decide +kernel), List.mem_of_getElem? (i := 672) (by decide +kernel)⟩
theorem lw_p17 : lw_okq (⟨"AgreeTold$Reader", "readEvent", "()V"⟩, 12) := ⟨⟨by decide +kernel, by decide +kernel⟩, List.mem_of_getElem? (i := 36) (by decide +kernel), List.mem_of_getElem? (i := 686) (by decide +kernel), List.mem_of_getElem? (i := 687) (by decide +kernel)⟩
theorem lw_p18 : lw_okq (⟨"AgreeTold$Reader", "readProphet", "()V"⟩, 12) := ⟨⟨by decide +kernel, by decide +kernel⟩, List.mem_of_getElem? (i := 36) (by decide +kernel), List.mem_of_getElem? (i := 694) (by decide +kernel), List.mem_of_getElem? (i := 695) (by decide +kernel)⟩
theorem lw_p19 : lw_okq (⟨"AgreeTold$Reader", "readLaw", "()V"⟩, 12) := ⟨⟨by decide +kernel, by decide +kernel⟩, List.mem_of_getElem? (i := 36) (by decide +kernel), List.mem_of_getElem? (i := 702) (by decide +kernel), List.mem_of_getElem? (i := 703) (by decide +kernel)⟩
theorem lw_p20 : lw_okq (⟨"AgreeTold$Reader", "readFormula", "(I)V"⟩, 12) := ⟨⟨by decide +kernel, by decide +kernel⟩, List.mem_of_getElem? (i := 36) (by decide +kernel), List.mem_of_getElem? (i := 706) (by decide +kernel), List.mem_of_getElem? (i := 707) (by decide +kernel)⟩
theorem lw_p21 : lw_okq (⟨"AgreeTold$Reader", "readItem", "(I)V"⟩, 12) := ⟨⟨by decide +kernel, by decide +kernel⟩, List.mem_of_getElem? (i := 36) (by decide +kernel), List.mem_of_getElem? (i := 710) (by decide +kernel), List.mem_of_getElem? (i := 711) (by decide +kernel)⟩
theorem lw_p22 : lw_okq (⟨"AgreeTold$Reader", "emit", "(I)V"⟩, 12) := ⟨⟨by decide +kernel, by decide +kernel⟩, List.mem_of_getElem? (i := 36) (by decide +kernel), List.mem_of_getElem? (i := 715) (by decide +kernel), List.mem_of_getElem? (i := 716) (by decide +kernel)⟩
theorem lw_p23 : lw_okq (⟨"AgreeTold$Reader", "readPair", "()V"⟩, 12) := ⟨⟨by decide +kernel, by decide +kernel⟩, List.mem_of_getElem? (i := 36) (by decide +kernel), List.mem_of_getElem? (i := 719) (by decide +kernel), List.mem_of_getElem? (i := 720) (by decide +kernel)⟩
theorem lw_p24 : lw_okq (⟨"AgreeTold$Reader", "takeName", "([JI)I"⟩, 12) := ⟨⟨by decide +kernel, by decide +kernel⟩, List.mem_of_getElem? (i := 36) (by decide +kernel), List.mem_of_getElem? (i := 723) (by decide +kernel), List.mem_of_getElem? (i := 724) (by decide +kernel)⟩
theorem lw_p25 : lw_okq (⟨"AgreeTold$Reader", "readSingle", "()V"⟩, 12) := ⟨⟨by decide +kernel, by decide +kernel⟩, List.mem_of_getElem? (i := 36) (by decide +kernel), List.mem_of_getElem? (i := 730) (by decide +kernel), List.mem_of_getElem? (i := 731) (by decide +kernel)⟩
theorem lw_p26 : lw_okq (⟨"AgreeTold$Reader", "emitWhen", "(IIII)V"⟩, 12) := ⟨⟨by decide +kernel, by decide +kernel⟩, List.mem_of_getElem? (i := 36) (by decide +kernel), List.mem_of_getElem? (i := 734) (by decide +kernel), List.mem_of_getElem? (i := 735) (by decide +kernel)⟩
theorem lw_p27 : lw_okq (⟨"AgreeTold$Reader", "readWish", "()V"⟩, 12) := ⟨⟨by decide +kernel, by decide +kernel⟩, List.mem_of_getElem? (i := 36) (by decide +kernel), List.mem_of_getElem? (i := 742) (by decide +kernel), List.mem_of_getElem? (i := 743) (by decide +kernel)⟩
theorem lw_p28 : lw_okq (⟨"AgreeTold$Reader", "readPrice", "()V"⟩, 12) := ⟨⟨by decide +kernel, by decide +kernel⟩, List.mem_of_getElem? (i := 36) (by decide +kernel), List.mem_of_getElem? (i := 758) (by decide +kernel), List.mem_of_getElem? (i := 759) (by decide +kernel)⟩
theorem lw_p29 : lw_okq (⟨"AgreeTold$Reader", "readExpression", "(II)V"⟩, 12) := ⟨⟨by decide +kernel, by decide +kernel⟩, List.mem_of_getElem? (i := 36) (by decide +kernel), List.mem_of_getElem? (i := 762) (by decide +kernel), List.mem_of_getElem? (i := 763) (by decide +kernel)⟩
theorem lw_p30 : lw_okq (⟨"AgreeTold$Reader", "readPart", "(I)V"⟩, 12) := ⟨⟨by decide +kernel, by decide +kernel⟩, List.mem_of_getElem? (i := 36) (by decide +kernel), List.mem_of_getElem? (i := 766) (by decide +kernel), List.mem_of_getElem? (i := 767) (by decide +kernel)⟩
theorem lw_p31 : lw_okq (⟨"AgreeTold$Worlds", "buildWords", "(I)V"⟩, 10) := ⟨⟨by decide +kernel, by decide +kernel⟩, List.mem_of_getElem? (i := 268) (by decide +kernel), List.mem_of_getElem? (i := 782) (by decide +kernel), List.mem_of_getElem? (i := 783) (by decide +kernel)⟩
def lw_privs_2 : List (MethodName × Nat) := [(⟨"AgreeTold$Reader", "takeNewName", "()J"⟩, 12), (⟨"AgreeTold$Reader", "readEvent", "()V"⟩, 12), (⟨"AgreeTold$Reader", "readProphet", "()V"⟩, 12), (⟨"AgreeTold$Reader", "readLaw", "()V"⟩, 12), (⟨"AgreeTold$Reader", "readFormula", "(I)V"⟩, 12), (⟨"AgreeTold$Reader", "readItem", "(I)V"⟩, 12), (⟨"AgreeTold$Reader", "emit", "(I)V"⟩, 12), (⟨"AgreeTold$Reader", "readPair", "()V"⟩, 12), (⟨"AgreeTold$Reader", "takeName", "([JI)I"⟩, 12), (⟨"AgreeTold$Reader", "readSingle", "()V"⟩, 12), (⟨"AgreeTold$Reader", "emitWhen", "(IIII)V"⟩, 12), (⟨"AgreeTold$Reader", "readWish", "()V"⟩, 12), (⟨"AgreeTold$Reader", "readPrice", "()V"⟩, 12), (⟨"AgreeTold$Reader", "readExpression", "(II)V"⟩, 12), (⟨"AgreeTold$Reader", "readPart", "(I)V"⟩, 12), (⟨"AgreeTold$Worlds", "buildWords", "(I)V"⟩, 10)]
theorem lw_r2 : ∀ q ∈ lw_privs_2, lw_okq q := List.forall_mem_cons.mpr ⟨lw_p16, List.forall_mem_cons.mpr ⟨lw_p17, List.forall_mem_cons.mpr ⟨lw_p18, List.forall_mem_cons.mpr ⟨lw_p19, List.forall_mem_cons.mpr ⟨lw_p20, List.forall_mem_cons.mpr ⟨lw_p21, List.forall_mem_cons.mpr ⟨lw_p22, List.forall_mem_cons.mpr ⟨lw_p23, List.forall_mem_cons.mpr ⟨lw_p24, List.forall_mem_cons.mpr ⟨lw_p25, List.forall_mem_cons.mpr ⟨lw_p26, List.forall_mem_cons.mpr ⟨lw_p27, List.forall_mem_cons.mpr ⟨lw_p28, List.forall_mem_cons.mpr ⟨lw_p29, List.forall_mem_cons.mpr ⟨lw_p30, List.forall_mem_cons.mpr ⟨lw_p31, fun _ h => absurd h List.not_mem_nil⟩⟩⟩⟩⟩⟩⟩⟩⟩⟩⟩⟩⟩⟩⟩⟩
theorem lw_p32 : lw_okq (⟨"AgreeTold$Worlds", "fillBlocks", "(IIII)V"⟩, 10) := ⟨⟨by decide +kernel, by decide +kernel⟩, List.mem_of_getElem? (i := 268) (by decide +kernel), List.mem_of_getElem? (i := 787) (by decide +kernel), List.mem_of_getElem? (i := 788) (by decide +kernel)⟩
theorem lw_p33 : lw_okq (⟨"AgreeTold$Worlds", "solveCell", "([IIII)J"⟩, 10) := ⟨⟨by decide +kernel, by decide +kernel⟩, List.mem_of_getElem? (i := 268) (by decide +kernel), List.mem_of_getElem? (i := 803) (by decide +kernel), List.mem_of_getElem? (i := 804) (by decide +kernel)⟩
theorem lw_p34 : lw_okq (⟨"AgreeTold$Worlds", "clauseCell", "(II)J"⟩, 10) := ⟨⟨by decide +kernel, by decide +kernel⟩, List.mem_of_getElem? (i := 268) (by decide +kernel), List.mem_of_getElem? (i := 809) (by decide +kernel), List.mem_of_getElem? (i := 810) (by decide +kernel)⟩
theorem lw_p35 : lw_okq (⟨"AgreeTold$Worlds", "pairCell", "(II)J"⟩, 10) := ⟨⟨by decide +kernel, by decide +kernel⟩, List.mem_of_getElem? (i := 268) (by decide +kernel), List.mem_of_getElem? (i := 813) (by decide +kernel), List.mem_of_getElem? (i := 814) (by decide +kernel)⟩
theorem lw_p36 : lw_okq (⟨"AgreeTold$Worlds", "wordCell", "(IIII)J"⟩, 10) := ⟨⟨by decide +kernel, by decide +kernel⟩, List.mem_of_getElem? (i := 268) (by decide +kernel), List.mem_of_getElem? (i := 817) (by decide +kernel), List.mem_of_getElem? (i := 818) (by decide +kernel)⟩
theorem lw_p37 : lw_okq (⟨"AgreeTold$Worlds", "timesCell", "(III)J"⟩, 10) := ⟨⟨by decide +kernel, by decide +kernel⟩, List.mem_of_getElem? (i := 268) (by decide +kernel), List.mem_of_getElem? (i := 821) (by decide +kernel), List.mem_of_getElem? (i := 822) (by decide +kernel)⟩
theorem lw_p38 : lw_okq (⟨"AgreeTold$Worlds", "duringCell", "(III)J"⟩, 10) := ⟨⟨by decide +kernel, by decide +kernel⟩, List.mem_of_getElem? (i := 268) (by decide +kernel), List.mem_of_getElem? (i := 825) (by decide +kernel), List.mem_of_getElem? (i := 826) (by decide +kernel)⟩
theorem lw_p39 : lw_okq (⟨"AgreeTold", "forgetPast", "()V"⟩, 19) := ⟨⟨by decide +kernel, by decide +kernel⟩, List.mem_of_getElem? (i := 28) (by decide +kernel), List.mem_of_getElem? (i := 838) (by decide +kernel), List.mem_of_getElem? (i := 839) (by decide +kernel)⟩
theorem lw_p40 : lw_okq (⟨"AgreeTold", "remember", "()V"⟩, 19) := ⟨⟨by decide +kernel, by decide +kernel⟩, List.mem_of_getElem? (i := 28) (by decide +kernel), List.mem_of_getElem? (i := 862) (by decide +kernel), List.mem_of_getElem? (i := 863) (by decide +kernel)⟩
theorem lw_p41 : lw_okq (⟨"AgreeTold", "gatherAsked", "()Z"⟩, 19) := ⟨⟨by decide +kernel, by decide +kernel⟩, List.mem_of_getElem? (i := 28) (by decide +kernel), List.mem_of_getElem? (i := 1052) (by decide +kernel), List.mem_of_getElem? (i := 1053) (by decide +kernel)⟩
theorem lw_p42 : lw_okq (⟨"AgreeTold$Joint", "gatherCell", "(JI)V"⟩, 3) := ⟨⟨by decide +kernel, by decide +kernel⟩, List.mem_of_getElem? (i := 339) (by decide +kernel), List.mem_of_getElem? (i := 1069) (by decide +kernel), List.mem_of_getElem? (i := 1070) (by decide +kernel)⟩
theorem lw_p43 : lw_okq (⟨"AgreeTold$Joint", "spread", "(I)V"⟩, 3) := ⟨⟨by decide +kernel, by decide +kernel⟩, List.mem_of_getElem? (i := 339) (by decide +kernel), List.mem_of_getElem? (i := 1074) (by decide +kernel), List.mem_of_getElem? (i := 1075) (by decide +kernel)⟩
theorem lw_p44 : lw_okq (⟨"AgreeTold", "grandSayings", "()I"⟩, 19) := ⟨⟨by decide +kernel, by decide +kernel⟩, List.mem_of_getElem? (i := 28) (by decide +kernel), List.mem_of_getElem? (i := 1092) (by decide +kernel), List.mem_of_getElem? (i := 1093) (by decide +kernel)⟩
theorem lw_p45 : lw_okq (⟨"AgreeTold", "findMaking", "(I)I"⟩, 19) := ⟨⟨by decide +kernel, by decide +kernel⟩, List.mem_of_getElem? (i := 28) (by decide +kernel), List.mem_of_getElem? (i := 1105) (by decide +kernel), List.mem_of_getElem? (i := 1106) (by decide +kernel)⟩
theorem lw_p46 : lw_okq (⟨"AgreeTold", "gatherOpen", "()I"⟩, 19) := ⟨⟨by decide +kernel, by decide +kernel⟩, List.mem_of_getElem? (i := 28) (by decide +kernel), List.mem_of_getElem? (i := 1117) (by decide +kernel), List.mem_of_getElem? (i := 1118) (by decide +kernel)⟩
theorem lw_p47 : lw_okq (⟨"AgreeTold", "findPartner", "(III)I"⟩, 19) := ⟨⟨by decide +kernel, by decide +kernel⟩, List.mem_of_getElem? (i := 28) (by decide +kernel), List.mem_of_getElem? (i := 1122) (by decide +kernel), List.mem_of_getElem? (i := 1123) (by decide +kernel)⟩
def lw_privs_3 : List (MethodName × Nat) := [(⟨"AgreeTold$Worlds", "fillBlocks", "(IIII)V"⟩, 10), (⟨"AgreeTold$Worlds", "solveCell", "([IIII)J"⟩, 10), (⟨"AgreeTold$Worlds", "clauseCell", "(II)J"⟩, 10), (⟨"AgreeTold$Worlds", "pairCell", "(II)J"⟩, 10), (⟨"AgreeTold$Worlds", "wordCell", "(IIII)J"⟩, 10), (⟨"AgreeTold$Worlds", "timesCell", "(III)J"⟩, 10), (⟨"AgreeTold$Worlds", "duringCell", "(III)J"⟩, 10), (⟨"AgreeTold", "forgetPast", "()V"⟩, 19), (⟨"AgreeTold", "remember", "()V"⟩, 19), (⟨"AgreeTold", "gatherAsked", "()Z"⟩, 19), (⟨"AgreeTold$Joint", "gatherCell", "(JI)V"⟩, 3), (⟨"AgreeTold$Joint", "spread", "(I)V"⟩, 3), (⟨"AgreeTold", "grandSayings", "()I"⟩, 19), (⟨"AgreeTold", "findMaking", "(I)I"⟩, 19), (⟨"AgreeTold", "gatherOpen", "()I"⟩, 19), (⟨"AgreeTold", "findPartner", "(III)I"⟩, 19)]
theorem lw_r3 : ∀ q ∈ lw_privs_3, lw_okq q := List.forall_mem_cons.mpr ⟨lw_p32, List.forall_mem_cons.mpr ⟨lw_p33, List.forall_mem_cons.mpr ⟨lw_p34, List.forall_mem_cons.mpr ⟨lw_p35, List.forall_mem_cons.mpr ⟨lw_p36, List.forall_mem_cons.mpr ⟨lw_p37, List.forall_mem_cons.mpr ⟨lw_p38, List.forall_mem_cons.mpr ⟨lw_p39, List.forall_mem_cons.mpr ⟨lw_p40, List.forall_mem_cons.mpr ⟨lw_p41, List.forall_mem_cons.mpr ⟨lw_p42, List.forall_mem_cons.mpr ⟨lw_p43, List.forall_mem_cons.mpr ⟨lw_p44, List.forall_mem_cons.mpr ⟨lw_p45, List.forall_mem_cons.mpr ⟨lw_p46, List.forall_mem_cons.mpr ⟨lw_p47, fun _ h => absurd h List.not_mem_nil⟩⟩⟩⟩⟩⟩⟩⟩⟩⟩⟩⟩⟩⟩⟩⟩
theorem lw_p48 : lw_okq (⟨"AgreeTold", "vagueCode", "(III)I"⟩, 19) := ⟨⟨by decide +kernel, by decide +kernel⟩, List.mem_of_getElem? (i := 28) (by decide +kernel), List.mem_of_getElem? (i := 1134) (by decide +kernel), List.mem_of_getElem? (i := 1135) (by decide +kernel)⟩
theorem lw_p49 : lw_okq (⟨"AgreeTold", "leftWith", "(I)I"⟩, 19) := ⟨⟨by decide +kernel, by decide +kernel⟩, List.mem_of_getElem? (i := 28) (by decide +kernel), List.mem_of_getElem? (i := 1140) (by decide +kernel), List.mem_of_getElem? (i := 1141) (by decide +kernel)⟩
theorem lw_p50 : lw_okq (⟨"AgreeTold", "gatherWishes", "()V"⟩, 19) := ⟨⟨by decide +kernel, by decide +kernel⟩, List.mem_of_getElem? (i := 28) (by decide +kernel), List.mem_of_getElem? (i := 1170) (by decide +kernel), List.mem_of_getElem? (i := 1171) (by decide +kernel)⟩
theorem lw_p51 : lw_okq (⟨"AgreeTold", "coinsOf", "(I)I"⟩, 19) := ⟨⟨by decide +kernel, by decide +kernel⟩, List.mem_of_getElem? (i := 28) (by decide +kernel), List.mem_of_getElem? (i := 1174) (by decide +kernel), List.mem_of_getElem? (i := 1175) (by decide +kernel)⟩
theorem lw_p52 : lw_okq (⟨"AgreeTold", "winningWish", "(II)I"⟩, 19) := ⟨⟨by decide +kernel, by decide +kernel⟩, List.mem_of_getElem? (i := 28) (by decide +kernel), List.mem_of_getElem? (i := 1182) (by decide +kernel), List.mem_of_getElem? (i := 1183) (by decide +kernel)⟩
theorem lw_p53 : lw_okq (⟨"AgreeTold", "promisesOutside", "(I)I"⟩, 19) := ⟨⟨by decide +kernel, by decide +kernel⟩, List.mem_of_getElem? (i := 28) (by decide +kernel), List.mem_of_getElem? (i := 1190) (by decide +kernel), List.mem_of_getElem? (i := 1191) (by decide +kernel)⟩
theorem lw_p54 : lw_okq (⟨"AgreeTold", "runYear", "(II)I"⟩, 19) := ⟨⟨by decide +kernel, by decide +kernel⟩, List.mem_of_getElem? (i := 28) (by decide +kernel), List.mem_of_getElem? (i := 1255) (by decide +kernel), List.mem_of_getElem? (i := 1256) (by decide +kernel)⟩
theorem lw_p55 : lw_okq (⟨"AgreeTold", "yearCodes", "(IIII)I"⟩, 19) := ⟨⟨by decide +kernel, by decide +kernel⟩, List.mem_of_getElem? (i := 28) (by decide +kernel), List.mem_of_getElem? (i := 1260) (by decide +kernel), List.mem_of_getElem? (i := 1261) (by decide +kernel)⟩
theorem lw_p56 : lw_okq (⟨"java/lang/Throwable", "fillInStackTrace", "(I)Ljava/lang/Throwable;"⟩, 6) := ⟨⟨by decide +kernel, by decide +kernel⟩, List.mem_of_getElem? (i := 1316) (by decide +kernel), List.mem_of_getElem? (i := 1314) (by decide +kernel), List.mem_of_getElem? (i := 1315) (by decide +kernel)⟩
theorem lw_p57 : lw_okq (⟨"AgreeToldModel", "lay", "(J)V"⟩, 45) := ⟨⟨by decide +kernel, by decide +kernel⟩, List.mem_of_getElem? (i := 1355) (by decide +kernel), List.mem_of_getElem? (i := 1353) (by decide +kernel), List.mem_of_getElem? (i := 1354) (by decide +kernel)⟩
theorem lw_p58 : lw_okq (⟨"AgreeToldModel", "standsAsAlways", "(I)V"⟩, 45) := ⟨⟨by decide +kernel, by decide +kernel⟩, List.mem_of_getElem? (i := 1355) (by decide +kernel), List.mem_of_getElem? (i := 1396) (by decide +kernel), List.mem_of_getElem? (i := 1397) (by decide +kernel)⟩
theorem lw_p59 : lw_okq (⟨"AgreeToldModel", "begins", "()V"⟩, 45) := ⟨⟨by decide +kernel, by decide +kernel⟩, List.mem_of_getElem? (i := 1355) (by decide +kernel), List.mem_of_getElem? (i := 1400) (by decide +kernel), List.mem_of_getElem? (i := 1401) (by decide +kernel)⟩
theorem lw_p60 : lw_okq (⟨"AgreeToldModel", "findsFutures", "()V"⟩, 45) := ⟨⟨by decide +kernel, by decide +kernel⟩, List.mem_of_getElem? (i := 1355) (by decide +kernel), List.mem_of_getElem? (i := 1404) (by decide +kernel), List.mem_of_getElem? (i := 1405) (by decide +kernel)⟩
theorem lw_p61 : lw_okq (⟨"AgreeToldModel", "events", "()I"⟩, 45) := ⟨⟨by decide +kernel, by decide +kernel⟩, List.mem_of_getElem? (i := 1355) (by decide +kernel), List.mem_of_getElem? (i := 1408) (by decide +kernel), List.mem_of_getElem? (i := 1409) (by decide +kernel)⟩
theorem lw_p62 : lw_okq (⟨"AgreeToldModel", "days", "()I"⟩, 45) := ⟨⟨by decide +kernel, by decide +kernel⟩, List.mem_of_getElem? (i := 1355) (by decide +kernel), List.mem_of_getElem? (i := 1412) (by decide +kernel), List.mem_of_getElem? (i := 1413) (by decide +kernel)⟩
theorem lw_p63 : lw_okq (⟨"AgreeToldModel", "people", "()I"⟩, 45) := ⟨⟨by decide +kernel, by decide +kernel⟩, List.mem_of_getElem? (i := 1355) (by decide +kernel), List.mem_of_getElem? (i := 1416) (by decide +kernel), List.mem_of_getElem? (i := 1417) (by decide +kernel)⟩
def lw_privs_4 : List (MethodName × Nat) := [(⟨"AgreeTold", "vagueCode", "(III)I"⟩, 19), (⟨"AgreeTold", "leftWith", "(I)I"⟩, 19), (⟨"AgreeTold", "gatherWishes", "()V"⟩, 19), (⟨"AgreeTold", "coinsOf", "(I)I"⟩, 19), (⟨"AgreeTold", "winningWish", "(II)I"⟩, 19), (⟨"AgreeTold", "promisesOutside", "(I)I"⟩, 19), (⟨"AgreeTold", "runYear", "(II)I"⟩, 19), (⟨"AgreeTold", "yearCodes", "(IIII)I"⟩, 19), (⟨"java/lang/Throwable", "fillInStackTrace", "(I)Ljava/lang/Throwable;"⟩, 6), (⟨"AgreeToldModel", "lay", "(J)V"⟩, 45), (⟨"AgreeToldModel", "standsAsAlways", "(I)V"⟩, 45), (⟨"AgreeToldModel", "begins", "()V"⟩, 45), (⟨"AgreeToldModel", "findsFutures", "()V"⟩, 45), (⟨"AgreeToldModel", "events", "()I"⟩, 45), (⟨"AgreeToldModel", "days", "()I"⟩, 45), (⟨"AgreeToldModel", "people", "()I"⟩, 45)]
theorem lw_r4 : ∀ q ∈ lw_privs_4, lw_okq q := List.forall_mem_cons.mpr ⟨lw_p48, List.forall_mem_cons.mpr ⟨lw_p49, List.forall_mem_cons.mpr ⟨lw_p50, List.forall_mem_cons.mpr ⟨lw_p51, List.forall_mem_cons.mpr ⟨lw_p52, List.forall_mem_cons.mpr ⟨lw_p53, List.forall_mem_cons.mpr ⟨lw_p54, List.forall_mem_cons.mpr ⟨lw_p55, List.forall_mem_cons.mpr ⟨lw_p56, List.forall_mem_cons.mpr ⟨lw_p57, List.forall_mem_cons.mpr ⟨lw_p58, List.forall_mem_cons.mpr ⟨lw_p59, List.forall_mem_cons.mpr ⟨lw_p60, List.forall_mem_cons.mpr ⟨lw_p61, List.forall_mem_cons.mpr ⟨lw_p62, List.forall_mem_cons.mpr ⟨lw_p63, fun _ h => absurd h List.not_mem_nil⟩⟩⟩⟩⟩⟩⟩⟩⟩⟩⟩⟩⟩⟩⟩⟩
theorem lw_p64 : lw_okq (⟨"AgreeToldModel", "clears", "(I)V"⟩, 45) := ⟨⟨by decide +kernel, by decide +kernel⟩, List.mem_of_getElem? (i := 1355) (by decide +kernel), List.mem_of_getElem? (i := 1424) (by decide +kernel), List.mem_of_getElem? (i := 1425) (by decide +kernel)⟩
theorem lw_p65 : lw_okq (⟨"AgreeToldModel", "laysFuture", "(I)V"⟩, 45) := ⟨⟨by decide +kernel, by decide +kernel⟩, List.mem_of_getElem? (i := 1355) (by decide +kernel), List.mem_of_getElem? (i := 1428) (by decide +kernel), List.mem_of_getElem? (i := 1429) (by decide +kernel)⟩
theorem lw_p66 : lw_okq (⟨"AgreeToldModel", "sets", "(II)V"⟩, 45) := ⟨⟨by decide +kernel, by decide +kernel⟩, List.mem_of_getElem? (i := 1355) (by decide +kernel), List.mem_of_getElem? (i := 1432) (by decide +kernel), List.mem_of_getElem? (i := 1433) (by decide +kernel)⟩
theorem lw_p67 : lw_okq (⟨"AgreeToldModel", "worthAt", "(I)I"⟩, 45) := ⟨⟨by decide +kernel, by decide +kernel⟩, List.mem_of_getElem? (i := 1355) (by decide +kernel), List.mem_of_getElem? (i := 1436) (by decide +kernel), List.mem_of_getElem? (i := 1437) (by decide +kernel)⟩
theorem lw_p68 : lw_okq (⟨"AgreeToldModel", "holdsClause", "(I)Z"⟩, 45) := ⟨⟨by decide +kernel, by decide +kernel⟩, List.mem_of_getElem? (i := 1355) (by decide +kernel), List.mem_of_getElem? (i := 1440) (by decide +kernel), List.mem_of_getElem? (i := 1441) (by decide +kernel)⟩
theorem lw_p69 : lw_okq (⟨"AgreeToldModel", "firstDay", "(II)I"⟩, 45) := ⟨⟨by decide +kernel, by decide +kernel⟩, List.mem_of_getElem? (i := 1355) (by decide +kernel), List.mem_of_getElem? (i := 1444) (by decide +kernel), List.mem_of_getElem? (i := 1445) (by decide +kernel)⟩
theorem lw_p70 : lw_okq (⟨"AgreeToldModel", "hasOn", "(III)Z"⟩, 45) := ⟨⟨by decide +kernel, by decide +kernel⟩, List.mem_of_getElem? (i := 1355) (by decide +kernel), List.mem_of_getElem? (i := 1448) (by decide +kernel), List.mem_of_getElem? (i := 1449) (by decide +kernel)⟩
theorem lw_p71 : lw_okq (⟨"AgreeToldModel", "holdsOf", "(IIII)Z"⟩, 45) := ⟨⟨by decide +kernel, by decide +kernel⟩, List.mem_of_getElem? (i := 1355) (by decide +kernel), List.mem_of_getElem? (i := 1452) (by decide +kernel), List.mem_of_getElem? (i := 1453) (by decide +kernel)⟩
theorem lw_p72 : lw_okq (⟨"AgreeToldModel", "kindOf", "(I)I"⟩, 45) := ⟨⟨by decide +kernel, by decide +kernel⟩, List.mem_of_getElem? (i := 1355) (by decide +kernel), List.mem_of_getElem? (i := 1459) (by decide +kernel), List.mem_of_getElem? (i := 1460) (by decide +kernel)⟩
theorem lw_p73 : lw_okq (⟨"AgreeToldModel", "laysFormula", "(III)V"⟩, 45) := ⟨⟨by decide +kernel, by decide +kernel⟩, List.mem_of_getElem? (i := 1355) (by decide +kernel), List.mem_of_getElem? (i := 1463) (by decide +kernel), List.mem_of_getElem? (i := 1464) (by decide +kernel)⟩
theorem lw_p74 : lw_okq (⟨"AgreeToldModel", "isNaming", "(I)Z"⟩, 45) := ⟨⟨by decide +kernel, by decide +kernel⟩, List.mem_of_getElem? (i := 1355) (by decide +kernel), List.mem_of_getElem? (i := 1467) (by decide +kernel), List.mem_of_getElem? (i := 1468) (by decide +kernel)⟩
theorem lw_p75 : lw_okq (⟨"AgreeToldModel", "cutAll", "()V"⟩, 45) := ⟨⟨by decide +kernel, by decide +kernel⟩, List.mem_of_getElem? (i := 1355) (by decide +kernel), List.mem_of_getElem? (i := 1611) (by decide +kernel), List.mem_of_getElem? (i := 1612) (by decide +kernel)⟩
theorem lw_p76 : lw_okq (⟨"AgreeToldModel", "takeWord", "(I)V"⟩, 45) := ⟨⟨by decide +kernel, by decide +kernel⟩, List.mem_of_getElem? (i := 1355) (by decide +kernel), List.mem_of_getElem? (i := 1630) (by decide +kernel), List.mem_of_getElem? (i := 1631) (by decide +kernel)⟩
theorem lw_p77 : lw_okq (⟨"AgreeToldModel", "hasWord", "(I)Z"⟩, 45) := ⟨⟨by decide +kernel, by decide +kernel⟩, List.mem_of_getElem? (i := 1355) (by decide +kernel), List.mem_of_getElem? (i := 1634) (by decide +kernel), List.mem_of_getElem? (i := 1635) (by decide +kernel)⟩
theorem lw_p78 : lw_okq (⟨"AgreeToldModel", "isWord", "(I)Z"⟩, 45) := ⟨⟨by decide +kernel, by decide +kernel⟩, List.mem_of_getElem? (i := 1355) (by decide +kernel), List.mem_of_getElem? (i := 1638) (by decide +kernel), List.mem_of_getElem? (i := 1639) (by decide +kernel)⟩
theorem lw_p79 : lw_okq (⟨"AgreeToldModel", "wrong", "(I)V"⟩, 45) := ⟨⟨by decide +kernel, by decide +kernel⟩, List.mem_of_getElem? (i := 1355) (by decide +kernel), List.mem_of_getElem? (i := 1642) (by decide +kernel), List.mem_of_getElem? (i := 1643) (by decide +kernel)⟩
def lw_privs_5 : List (MethodName × Nat) := [(⟨"AgreeToldModel", "clears", "(I)V"⟩, 45), (⟨"AgreeToldModel", "laysFuture", "(I)V"⟩, 45), (⟨"AgreeToldModel", "sets", "(II)V"⟩, 45), (⟨"AgreeToldModel", "worthAt", "(I)I"⟩, 45), (⟨"AgreeToldModel", "holdsClause", "(I)Z"⟩, 45), (⟨"AgreeToldModel", "firstDay", "(II)I"⟩, 45), (⟨"AgreeToldModel", "hasOn", "(III)Z"⟩, 45), (⟨"AgreeToldModel", "holdsOf", "(IIII)Z"⟩, 45), (⟨"AgreeToldModel", "kindOf", "(I)I"⟩, 45), (⟨"AgreeToldModel", "laysFormula", "(III)V"⟩, 45), (⟨"AgreeToldModel", "isNaming", "(I)Z"⟩, 45), (⟨"AgreeToldModel", "cutAll", "()V"⟩, 45), (⟨"AgreeToldModel", "takeWord", "(I)V"⟩, 45), (⟨"AgreeToldModel", "hasWord", "(I)Z"⟩, 45), (⟨"AgreeToldModel", "isWord", "(I)Z"⟩, 45), (⟨"AgreeToldModel", "wrong", "(I)V"⟩, 45)]
theorem lw_r5 : ∀ q ∈ lw_privs_5, lw_okq q := List.forall_mem_cons.mpr ⟨lw_p64, List.forall_mem_cons.mpr ⟨lw_p65, List.forall_mem_cons.mpr ⟨lw_p66, List.forall_mem_cons.mpr ⟨lw_p67, List.forall_mem_cons.mpr ⟨lw_p68, List.forall_mem_cons.mpr ⟨lw_p69, List.forall_mem_cons.mpr ⟨lw_p70, List.forall_mem_cons.mpr ⟨lw_p71, List.forall_mem_cons.mpr ⟨lw_p72, List.forall_mem_cons.mpr ⟨lw_p73, List.forall_mem_cons.mpr ⟨lw_p74, List.forall_mem_cons.mpr ⟨lw_p75, List.forall_mem_cons.mpr ⟨lw_p76, List.forall_mem_cons.mpr ⟨lw_p77, List.forall_mem_cons.mpr ⟨lw_p78, List.forall_mem_cons.mpr ⟨lw_p79, fun _ h => absurd h List.not_mem_nil⟩⟩⟩⟩⟩⟩⟩⟩⟩⟩⟩⟩⟩⟩⟩⟩
theorem lw_p80 : lw_okq (⟨"AgreeToldModel", "takeNumber", "(II)I"⟩, 45) := ⟨⟨by decide +kernel, by decide +kernel⟩, List.mem_of_getElem? (i := 1355) (by decide +kernel), List.mem_of_getElem? (i := 1646) (by decide +kernel), List.mem_of_getElem? (i := 1647) (by decide +kernel)⟩
theorem lw_p81 : lw_okq (⟨"AgreeToldModel", "takeSign", "(I)V"⟩, 45) := ⟨⟨by decide +kernel, by decide +kernel⟩, List.mem_of_getElem? (i := 1355) (by decide +kernel), List.mem_of_getElem? (i := 1650) (by decide +kernel), List.mem_of_getElem? (i := 1651) (by decide +kernel)⟩
theorem lw_p82 : lw_okq (⟨"AgreeToldModel", "isSign", "(I)Z"⟩, 45) := ⟨⟨by decide +kernel, by decide +kernel⟩, List.mem_of_getElem? (i := 1355) (by decide +kernel), List.mem_of_getElem? (i := 1654) (by decide +kernel), List.mem_of_getElem? (i := 1655) (by decide +kernel)⟩
theorem lw_p83 : lw_okq (⟨"AgreeToldModel", "readLine", "()V"⟩, 45) := ⟨⟨by decide +kernel, by decide +kernel⟩, List.mem_of_getElem? (i := 1355) (by decide +kernel), List.mem_of_getElem? (i := 1658) (by decide +kernel), List.mem_of_getElem? (i := 1659) (by decide +kernel)⟩
theorem lw_p84 : lw_okq (⟨"AgreeToldModel", "readPerson", "()V"⟩, 45) := ⟨⟨by decide +kernel, by decide +kernel⟩, List.mem_of_getElem? (i := 1355) (by decide +kernel), List.mem_of_getElem? (i := 1662) (by decide +kernel), List.mem_of_getElem? (i := 1663) (by decide +kernel)⟩
theorem lw_p85 : lw_okq (⟨"AgreeToldModel", "readName", "(I)V"⟩, 45) := ⟨⟨by decide +kernel, by decide +kernel⟩, List.mem_of_getElem? (i := 1355) (by decide +kernel), List.mem_of_getElem? (i := 1666) (by decide +kernel), List.mem_of_getElem? (i := 1667) (by decide +kernel)⟩
theorem lw_p86 : lw_okq (⟨"AgreeToldModel", "isName", "()Z"⟩, 45) := ⟨⟨by decide +kernel, by decide +kernel⟩, List.mem_of_getElem? (i := 1355) (by decide +kernel), List.mem_of_getElem? (i := 1670) (by decide +kernel), List.mem_of_getElem? (i := 1671) (by decide +kernel)⟩
theorem lw_p87 : lw_okq (⟨"AgreeToldModel", "wordHere", "(II)I"⟩, 45) := ⟨⟨by decide +kernel, by decide +kernel⟩, List.mem_of_getElem? (i := 1355) (by decide +kernel), List.mem_of_getElem? (i := 1674) (by decide +kernel), List.mem_of_getElem? (i := 1675) (by decide +kernel)⟩
theorem lw_p88 : lw_okq (⟨"AgreeToldModel", "find", "()I"⟩, 45) := ⟨⟨by decide +kernel, by decide +kernel⟩, List.mem_of_getElem? (i := 1355) (by decide +kernel), List.mem_of_getElem? (i := 1678) (by decide +kernel), List.mem_of_getElem? (i := 1679) (by decide +kernel)⟩
theorem lw_p89 : lw_okq (⟨"AgreeToldModel", "takeAfter", "(III)I"⟩, 45) := ⟨⟨by decide +kernel, by decide +kernel⟩, List.mem_of_getElem? (i := 1355) (by decide +kernel), List.mem_of_getElem? (i := 1682) (by decide +kernel), List.mem_of_getElem? (i := 1683) (by decide +kernel)⟩
theorem lw_p90 : lw_okq (⟨"AgreeToldModel", "readEvent", "()V"⟩, 45) := ⟨⟨by decide +kernel, by decide +kernel⟩, List.mem_of_getElem? (i := 1355) (by decide +kernel), List.mem_of_getElem? (i := 1686) (by decide +kernel), List.mem_of_getElem? (i := 1687) (by decide +kernel)⟩
theorem lw_p91 : lw_okq (⟨"AgreeToldModel", "readProphet", "()V"⟩, 45) := ⟨⟨by decide +kernel, by decide +kernel⟩, List.mem_of_getElem? (i := 1355) (by decide +kernel), List.mem_of_getElem? (i := 1690) (by decide +kernel), List.mem_of_getElem? (i := 1691) (by decide +kernel)⟩
theorem lw_p92 : lw_okq (⟨"AgreeToldModel", "readLaw", "()V"⟩, 45) := ⟨⟨by decide +kernel, by decide +kernel⟩, List.mem_of_getElem? (i := 1355) (by decide +kernel), List.mem_of_getElem? (i := 1694) (by decide +kernel), List.mem_of_getElem? (i := 1695) (by decide +kernel)⟩
theorem lw_p93 : lw_okq (⟨"AgreeToldModel", "readFormula", "(I)V"⟩, 45) := ⟨⟨by decide +kernel, by decide +kernel⟩, List.mem_of_getElem? (i := 1355) (by decide +kernel), List.mem_of_getElem? (i := 1698) (by decide +kernel), List.mem_of_getElem? (i := 1699) (by decide +kernel)⟩
theorem lw_p94 : lw_okq (⟨"AgreeToldModel", "readTerm", "(I)V"⟩, 45) := ⟨⟨by decide +kernel, by decide +kernel⟩, List.mem_of_getElem? (i := 1355) (by decide +kernel), List.mem_of_getElem? (i := 1702) (by decide +kernel), List.mem_of_getElem? (i := 1703) (by decide +kernel)⟩
theorem lw_p95 : lw_okq (⟨"AgreeToldModel", "readItem", "(I)V"⟩, 45) := ⟨⟨by decide +kernel, by decide +kernel⟩, List.mem_of_getElem? (i := 1355) (by decide +kernel), List.mem_of_getElem? (i := 1706) (by decide +kernel), List.mem_of_getElem? (i := 1707) (by decide +kernel)⟩
def lw_privs_6 : List (MethodName × Nat) := [(⟨"AgreeToldModel", "takeNumber", "(II)I"⟩, 45), (⟨"AgreeToldModel", "takeSign", "(I)V"⟩, 45), (⟨"AgreeToldModel", "isSign", "(I)Z"⟩, 45), (⟨"AgreeToldModel", "readLine", "()V"⟩, 45), (⟨"AgreeToldModel", "readPerson", "()V"⟩, 45), (⟨"AgreeToldModel", "readName", "(I)V"⟩, 45), (⟨"AgreeToldModel", "isName", "()Z"⟩, 45), (⟨"AgreeToldModel", "wordHere", "(II)I"⟩, 45), (⟨"AgreeToldModel", "find", "()I"⟩, 45), (⟨"AgreeToldModel", "takeAfter", "(III)I"⟩, 45), (⟨"AgreeToldModel", "readEvent", "()V"⟩, 45), (⟨"AgreeToldModel", "readProphet", "()V"⟩, 45), (⟨"AgreeToldModel", "readLaw", "()V"⟩, 45), (⟨"AgreeToldModel", "readFormula", "(I)V"⟩, 45), (⟨"AgreeToldModel", "readTerm", "(I)V"⟩, 45), (⟨"AgreeToldModel", "readItem", "(I)V"⟩, 45)]
theorem lw_r6 : ∀ q ∈ lw_privs_6, lw_okq q := List.forall_mem_cons.mpr ⟨lw_p80, List.forall_mem_cons.mpr ⟨lw_p81, List.forall_mem_cons.mpr ⟨lw_p82, List.forall_mem_cons.mpr ⟨lw_p83, List.forall_mem_cons.mpr ⟨lw_p84, List.forall_mem_cons.mpr ⟨lw_p85, List.forall_mem_cons.mpr ⟨lw_p86, List.forall_mem_cons.mpr ⟨lw_p87, List.forall_mem_cons.mpr ⟨lw_p88, List.forall_mem_cons.mpr ⟨lw_p89, List.forall_mem_cons.mpr ⟨lw_p90, List.forall_mem_cons.mpr ⟨lw_p91, List.forall_mem_cons.mpr ⟨lw_p92, List.forall_mem_cons.mpr ⟨lw_p93, List.forall_mem_cons.mpr ⟨lw_p94, List.forall_mem_cons.mpr ⟨lw_p95, fun _ h => absurd h List.not_mem_nil⟩⟩⟩⟩⟩⟩⟩⟩⟩⟩⟩⟩⟩⟩⟩⟩
theorem lw_p96 : lw_okq (⟨"AgreeToldModel", "emit", "(II)V"⟩, 45) := ⟨⟨by decide +kernel, by decide +kernel⟩, List.mem_of_getElem? (i := 1355) (by decide +kernel), List.mem_of_getElem? (i := 1713) (by decide +kernel), List.mem_of_getElem? (i := 1714) (by decide +kernel)⟩
theorem lw_p97 : lw_okq (⟨"AgreeToldModel", "hasSign", "(I)Z"⟩, 45) := ⟨⟨by decide +kernel, by decide +kernel⟩, List.mem_of_getElem? (i := 1355) (by decide +kernel), List.mem_of_getElem? (i := 1717) (by decide +kernel), List.mem_of_getElem? (i := 1718) (by decide +kernel)⟩
theorem lw_p98 : lw_okq (⟨"AgreeToldModel", "readClause", "()I"⟩, 45) := ⟨⟨by decide +kernel, by decide +kernel⟩, List.mem_of_getElem? (i := 1355) (by decide +kernel), List.mem_of_getElem? (i := 1721) (by decide +kernel), List.mem_of_getElem? (i := 1722) (by decide +kernel)⟩
theorem lw_p99 : lw_okq (⟨"AgreeToldModel", "takeTold", "(II)I"⟩, 45) := ⟨⟨by decide +kernel, by decide +kernel⟩, List.mem_of_getElem? (i := 1355) (by decide +kernel), List.mem_of_getElem? (i := 1725) (by decide +kernel), List.mem_of_getElem? (i := 1726) (by decide +kernel)⟩
theorem lw_p100 : lw_okq (⟨"AgreeToldModel", "readWish", "()V"⟩, 45) := ⟨⟨by decide +kernel, by decide +kernel⟩, List.mem_of_getElem? (i := 1355) (by decide +kernel), List.mem_of_getElem? (i := 1732) (by decide +kernel), List.mem_of_getElem? (i := 1733) (by decide +kernel)⟩
theorem lw_p101 : lw_okq (⟨"AgreeToldModel", "readPrice", "()V"⟩, 45) := ⟨⟨by decide +kernel, by decide +kernel⟩, List.mem_of_getElem? (i := 1355) (by decide +kernel), List.mem_of_getElem? (i := 1736) (by decide +kernel), List.mem_of_getElem? (i := 1737) (by decide +kernel)⟩
theorem lw_p102 : lw_okq (⟨"AgreeToldModel", "ors", "(I)V"⟩, 45) := ⟨⟨by decide +kernel, by decide +kernel⟩, List.mem_of_getElem? (i := 1355) (by decide +kernel), List.mem_of_getElem? (i := 1740) (by decide +kernel), List.mem_of_getElem? (i := 1741) (by decide +kernel)⟩
theorem lw_p103 : lw_okq (⟨"AgreeToldModel", "test", "(I)V"⟩, 45) := ⟨⟨by decide +kernel, by decide +kernel⟩, List.mem_of_getElem? (i := 1355) (by decide +kernel), List.mem_of_getElem? (i := 1744) (by decide +kernel), List.mem_of_getElem? (i := 1745) (by decide +kernel)⟩
theorem lw_p104 : lw_okq (⟨"AgreeToldModel", "sums", "(I)V"⟩, 45) := ⟨⟨by decide +kernel, by decide +kernel⟩, List.mem_of_getElem? (i := 1355) (by decide +kernel), List.mem_of_getElem? (i := 1748) (by decide +kernel), List.mem_of_getElem? (i := 1749) (by decide +kernel)⟩
theorem lw_p105 : lw_okq (⟨"AgreeToldModel", "products", "(I)V"⟩, 45) := ⟨⟨by decide +kernel, by decide +kernel⟩, List.mem_of_getElem? (i := 1355) (by decide +kernel), List.mem_of_getElem? (i := 1752) (by decide +kernel), List.mem_of_getElem? (i := 1753) (by decide +kernel)⟩
theorem lw_p106 : lw_okq (⟨"AgreeToldModel", "takePart", "(I)V"⟩, 45) := ⟨⟨by decide +kernel, by decide +kernel⟩, List.mem_of_getElem? (i := 1355) (by decide +kernel), List.mem_of_getElem? (i := 1756) (by decide +kernel), List.mem_of_getElem? (i := 1757) (by decide +kernel)⟩
theorem lw_p107 : lw_okq (⟨"AgreeToldModel", "readAll", "(Z)I"⟩, 45) := ⟨⟨by decide +kernel, by decide +kernel⟩, List.mem_of_getElem? (i := 1355) (by decide +kernel), List.mem_of_getElem? (i := 1764) (by decide +kernel), List.mem_of_getElem? (i := 1765) (by decide +kernel)⟩
theorem lw_p108 : lw_okq (⟨"AgreeToldModel", "findLeft", "()I"⟩, 45) := ⟨⟨by decide +kernel, by decide +kernel⟩, List.mem_of_getElem? (i := 1355) (by decide +kernel), List.mem_of_getElem? (i := 1768) (by decide +kernel), List.mem_of_getElem? (i := 1769) (by decide +kernel)⟩
theorem lw_p109 : lw_okq (⟨"AgreeToldModel", "everySaying", "()I"⟩, 45) := ⟨⟨by decide +kernel, by decide +kernel⟩, List.mem_of_getElem? (i := 1355) (by decide +kernel), List.mem_of_getElem? (i := 1772) (by decide +kernel), List.mem_of_getElem? (i := 1773) (by decide +kernel)⟩
theorem lw_p110 : lw_okq (⟨"AgreeToldModel", "lays", "(IIZ)V"⟩, 45) := ⟨⟨by decide +kernel, by decide +kernel⟩, List.mem_of_getElem? (i := 1355) (by decide +kernel), List.mem_of_getElem? (i := 1776) (by decide +kernel), List.mem_of_getElem? (i := 1777) (by decide +kernel)⟩
theorem lw_p111 : lw_okq (⟨"AgreeToldModel", "copiesRow", "(II)V"⟩, 45) := ⟨⟨by decide +kernel, by decide +kernel⟩, List.mem_of_getElem? (i := 1355) (by decide +kernel), List.mem_of_getElem? (i := 1780) (by decide +kernel), List.mem_of_getElem? (i := 1781) (by decide +kernel)⟩
def lw_privs_7 : List (MethodName × Nat) := [(⟨"AgreeToldModel", "emit", "(II)V"⟩, 45), (⟨"AgreeToldModel", "hasSign", "(I)Z"⟩, 45), (⟨"AgreeToldModel", "readClause", "()I"⟩, 45), (⟨"AgreeToldModel", "takeTold", "(II)I"⟩, 45), (⟨"AgreeToldModel", "readWish", "()V"⟩, 45), (⟨"AgreeToldModel", "readPrice", "()V"⟩, 45), (⟨"AgreeToldModel", "ors", "(I)V"⟩, 45), (⟨"AgreeToldModel", "test", "(I)V"⟩, 45), (⟨"AgreeToldModel", "sums", "(I)V"⟩, 45), (⟨"AgreeToldModel", "products", "(I)V"⟩, 45), (⟨"AgreeToldModel", "takePart", "(I)V"⟩, 45), (⟨"AgreeToldModel", "readAll", "(Z)I"⟩, 45), (⟨"AgreeToldModel", "findLeft", "()I"⟩, 45), (⟨"AgreeToldModel", "everySaying", "()I"⟩, 45), (⟨"AgreeToldModel", "lays", "(IIZ)V"⟩, 45), (⟨"AgreeToldModel", "copiesRow", "(II)V"⟩, 45)]
theorem lw_r7 : ∀ q ∈ lw_privs_7, lw_okq q := List.forall_mem_cons.mpr ⟨lw_p96, List.forall_mem_cons.mpr ⟨lw_p97, List.forall_mem_cons.mpr ⟨lw_p98, List.forall_mem_cons.mpr ⟨lw_p99, List.forall_mem_cons.mpr ⟨lw_p100, List.forall_mem_cons.mpr ⟨lw_p101, List.forall_mem_cons.mpr ⟨lw_p102, List.forall_mem_cons.mpr ⟨lw_p103, List.forall_mem_cons.mpr ⟨lw_p104, List.forall_mem_cons.mpr ⟨lw_p105, List.forall_mem_cons.mpr ⟨lw_p106, List.forall_mem_cons.mpr ⟨lw_p107, List.forall_mem_cons.mpr ⟨lw_p108, List.forall_mem_cons.mpr ⟨lw_p109, List.forall_mem_cons.mpr ⟨lw_p110, List.forall_mem_cons.mpr ⟨lw_p111, fun _ h => absurd h List.not_mem_nil⟩⟩⟩⟩⟩⟩⟩⟩⟩⟩⟩⟩⟩⟩⟩⟩
theorem lw_p112 : lw_okq (⟨"AgreeToldModel", "meets", "(II)V"⟩, 45) := ⟨⟨by decide +kernel, by decide +kernel⟩, List.mem_of_getElem? (i := 1355) (by decide +kernel), List.mem_of_getElem? (i := 1784) (by decide +kernel), List.mem_of_getElem? (i := 1785) (by decide +kernel)⟩
theorem lw_p113 : lw_okq (⟨"AgreeToldModel", "many", "(I)I"⟩, 45) := ⟨⟨by decide +kernel, by decide +kernel⟩, List.mem_of_getElem? (i := 1355) (by decide +kernel), List.mem_of_getElem? (i := 1791) (by decide +kernel), List.mem_of_getElem? (i := 1792) (by decide +kernel)⟩
theorem lw_p114 : lw_okq (⟨"AgreeToldModel", "manyBoth", "(II)I"⟩, 45) := ⟨⟨by decide +kernel, by decide +kernel⟩, List.mem_of_getElem? (i := 1355) (by decide +kernel), List.mem_of_getElem? (i := 1802) (by decide +kernel), List.mem_of_getElem? (i := 1803) (by decide +kernel)⟩
theorem lw_p115 : lw_okq (⟨"AgreeToldModel", "keeps", "()V"⟩, 45) := ⟨⟨by decide +kernel, by decide +kernel⟩, List.mem_of_getElem? (i := 1355) (by decide +kernel), List.mem_of_getElem? (i := 1806) (by decide +kernel), List.mem_of_getElem? (i := 1807) (by decide +kernel)⟩
theorem lw_p116 : lw_okq (⟨"AgreeToldModel", "copies", "(II)V"⟩, 45) := ⟨⟨by decide +kernel, by decide +kernel⟩, List.mem_of_getElem? (i := 1355) (by decide +kernel), List.mem_of_getElem? (i := 1810) (by decide +kernel), List.mem_of_getElem? (i := 1811) (by decide +kernel)⟩
theorem lw_p117 : lw_okq (⟨"AgreeToldModel", "isPerson", "(I)Z"⟩, 45) := ⟨⟨by decide +kernel, by decide +kernel⟩, List.mem_of_getElem? (i := 1355) (by decide +kernel), List.mem_of_getElem? (i := 1823) (by decide +kernel), List.mem_of_getElem? (i := 1824) (by decide +kernel)⟩
theorem lw_p118 : lw_okq (⟨"AgreeToldModel", "isProphet", "(I)Z"⟩, 45) := ⟨⟨by decide +kernel, by decide +kernel⟩, List.mem_of_getElem? (i := 1355) (by decide +kernel), List.mem_of_getElem? (i := 1831) (by decide +kernel), List.mem_of_getElem? (i := 1832) (by decide +kernel)⟩
theorem lw_p119 : lw_okq (⟨"AgreeToldModel", "isSaying", "(I)Z"⟩, 45) := ⟨⟨by decide +kernel, by decide +kernel⟩, List.mem_of_getElem? (i := 1355) (by decide +kernel), List.mem_of_getElem? (i := 1843) (by decide +kernel), List.mem_of_getElem? (i := 1844) (by decide +kernel)⟩
theorem lw_p120 : lw_okq (⟨"AgreeToldModel", "isGrand", "(I)Z"⟩, 45) := ⟨⟨by decide +kernel, by decide +kernel⟩, List.mem_of_getElem? (i := 1355) (by decide +kernel), List.mem_of_getElem? (i := 1851) (by decide +kernel), List.mem_of_getElem? (i := 1852) (by decide +kernel)⟩
theorem lw_p121 : lw_okq (⟨"AgreeToldModel", "isEvent", "(I)Z"⟩, 45) := ⟨⟨by decide +kernel, by decide +kernel⟩, List.mem_of_getElem? (i := 1355) (by decide +kernel), List.mem_of_getElem? (i := 1859) (by decide +kernel), List.mem_of_getElem? (i := 1860) (by decide +kernel)⟩
theorem lw_p122 : lw_okq (⟨"AgreeToldModel", "wordAt", "(III)I"⟩, 45) := ⟨⟨by decide +kernel, by decide +kernel⟩, List.mem_of_getElem? (i := 1355) (by decide +kernel), List.mem_of_getElem? (i := 1863) (by decide +kernel), List.mem_of_getElem? (i := 1864) (by decide +kernel)⟩
theorem lw_p123 : lw_okq (⟨"AgreeToldModel", "isAny", "(II)Z"⟩, 45) := ⟨⟨by decide +kernel, by decide +kernel⟩, List.mem_of_getElem? (i := 1355) (by decide +kernel), List.mem_of_getElem? (i := 1867) (by decide +kernel), List.mem_of_getElem? (i := 1868) (by decide +kernel)⟩
theorem lw_p124 : lw_okq (⟨"AgreeToldModel", "isDay", "(I)Z"⟩, 45) := ⟨⟨by decide +kernel, by decide +kernel⟩, List.mem_of_getElem? (i := 1355) (by decide +kernel), List.mem_of_getElem? (i := 1875) (by decide +kernel), List.mem_of_getElem? (i := 1876) (by decide +kernel)⟩
theorem lw_p125 : lw_okq (⟨"AgreeToldModel", "isWord", "(III)Z"⟩, 45) := ⟨⟨by decide +kernel, by decide +kernel⟩, List.mem_of_getElem? (i := 1355) (by decide +kernel), List.mem_of_getElem? (i := 1891) (by decide +kernel), List.mem_of_getElem? (i := 1892) (by decide +kernel)⟩
theorem lw_p126 : lw_okq (⟨"AgreeToldModel", "findChosen", "(Z)I"⟩, 45) := ⟨⟨by decide +kernel, by decide +kernel⟩, List.mem_of_getElem? (i := 1355) (by decide +kernel), List.mem_of_getElem? (i := 1910) (by decide +kernel), List.mem_of_getElem? (i := 1911) (by decide +kernel)⟩
theorem lw_p127 : lw_okq (⟨"AgreeToldModel", "chooses", "(IIZ)V"⟩, 45) := ⟨⟨by decide +kernel, by decide +kernel⟩, List.mem_of_getElem? (i := 1355) (by decide +kernel), List.mem_of_getElem? (i := 1914) (by decide +kernel), List.mem_of_getElem? (i := 1915) (by decide +kernel)⟩
def lw_privs_8 : List (MethodName × Nat) := [(⟨"AgreeToldModel", "meets", "(II)V"⟩, 45), (⟨"AgreeToldModel", "many", "(I)I"⟩, 45), (⟨"AgreeToldModel", "manyBoth", "(II)I"⟩, 45), (⟨"AgreeToldModel", "keeps", "()V"⟩, 45), (⟨"AgreeToldModel", "copies", "(II)V"⟩, 45), (⟨"AgreeToldModel", "isPerson", "(I)Z"⟩, 45), (⟨"AgreeToldModel", "isProphet", "(I)Z"⟩, 45), (⟨"AgreeToldModel", "isSaying", "(I)Z"⟩, 45), (⟨"AgreeToldModel", "isGrand", "(I)Z"⟩, 45), (⟨"AgreeToldModel", "isEvent", "(I)Z"⟩, 45), (⟨"AgreeToldModel", "wordAt", "(III)I"⟩, 45), (⟨"AgreeToldModel", "isAny", "(II)Z"⟩, 45), (⟨"AgreeToldModel", "isDay", "(I)Z"⟩, 45), (⟨"AgreeToldModel", "isWord", "(III)Z"⟩, 45), (⟨"AgreeToldModel", "findChosen", "(Z)I"⟩, 45), (⟨"AgreeToldModel", "chooses", "(IIZ)V"⟩, 45)]
theorem lw_r8 : ∀ q ∈ lw_privs_8, lw_okq q := List.forall_mem_cons.mpr ⟨lw_p112, List.forall_mem_cons.mpr ⟨lw_p113, List.forall_mem_cons.mpr ⟨lw_p114, List.forall_mem_cons.mpr ⟨lw_p115, List.forall_mem_cons.mpr ⟨lw_p116, List.forall_mem_cons.mpr ⟨lw_p117, List.forall_mem_cons.mpr ⟨lw_p118, List.forall_mem_cons.mpr ⟨lw_p119, List.forall_mem_cons.mpr ⟨lw_p120, List.forall_mem_cons.mpr ⟨lw_p121, List.forall_mem_cons.mpr ⟨lw_p122, List.forall_mem_cons.mpr ⟨lw_p123, List.forall_mem_cons.mpr ⟨lw_p124, List.forall_mem_cons.mpr ⟨lw_p125, List.forall_mem_cons.mpr ⟨lw_p126, List.forall_mem_cons.mpr ⟨lw_p127, fun _ h => absurd h List.not_mem_nil⟩⟩⟩⟩⟩⟩⟩⟩⟩⟩⟩⟩⟩⟩⟩⟩
theorem lw_p128 : lw_okq (⟨"AgreeToldModel", "isBetter", "(I)Z"⟩, 45) := ⟨⟨by decide +kernel, by decide +kernel⟩, List.mem_of_getElem? (i := 1355) (by decide +kernel), List.mem_of_getElem? (i := 1921) (by decide +kernel), List.mem_of_getElem? (i := 1922) (by decide +kernel)⟩
theorem lw_p129 : lw_okq (⟨"AgreeToldModel", "numberOf", "(III)I"⟩, 45) := ⟨⟨by decide +kernel, by decide +kernel⟩, List.mem_of_getElem? (i := 1355) (by decide +kernel), List.mem_of_getElem? (i := 1933) (by decide +kernel), List.mem_of_getElem? (i := 1934) (by decide +kernel)⟩
theorem lw_p130 : lw_okq (⟨"AgreeToldModel", "findMaking", "(I)I"⟩, 45) := ⟨⟨by decide +kernel, by decide +kernel⟩, List.mem_of_getElem? (i := 1355) (by decide +kernel), List.mem_of_getElem? (i := 1937) (by decide +kernel), List.mem_of_getElem? (i := 1938) (by decide +kernel)⟩
theorem lw_p131 : lw_okq (⟨"AgreeToldModel", "findOpen", "()V"⟩, 45) := ⟨⟨by decide +kernel, by decide +kernel⟩, List.mem_of_getElem? (i := 1355) (by decide +kernel), List.mem_of_getElem? (i := 1941) (by decide +kernel), List.mem_of_getElem? (i := 1942) (by decide +kernel)⟩
theorem lw_p132 : lw_okq (⟨"AgreeToldModel", "isNumber", "(I)Z"⟩, 45) := ⟨⟨by decide +kernel, by decide +kernel⟩, List.mem_of_getElem? (i := 1355) (by decide +kernel), List.mem_of_getElem? (i := 1945) (by decide +kernel), List.mem_of_getElem? (i := 1946) (by decide +kernel)⟩
theorem lw_p133 : lw_okq (⟨"AgreeToldModel", "rowOf", "(I)I"⟩, 45) := ⟨⟨by decide +kernel, by decide +kernel⟩, List.mem_of_getElem? (i := 1355) (by decide +kernel), List.mem_of_getElem? (i := 1949) (by decide +kernel), List.mem_of_getElem? (i := 1950) (by decide +kernel)⟩
theorem lw_p134 : lw_okq (⟨"AgreeToldModel", "makes", "(II)Z"⟩, 45) := ⟨⟨by decide +kernel, by decide +kernel⟩, List.mem_of_getElem? (i := 1355) (by decide +kernel), List.mem_of_getElem? (i := 1953) (by decide +kernel), List.mem_of_getElem? (i := 1954) (by decide +kernel)⟩
theorem lw_p135 : lw_okq (⟨"AgreeToldModel", "isAll", "(II)Z"⟩, 45) := ⟨⟨by decide +kernel, by decide +kernel⟩, List.mem_of_getElem? (i := 1355) (by decide +kernel), List.mem_of_getElem? (i := 1957) (by decide +kernel), List.mem_of_getElem? (i := 1958) (by decide +kernel)⟩
theorem lw_p136 : lw_okq (⟨"AgreeToldModel", "findVague", "(II)I"⟩, 45) := ⟨⟨by decide +kernel, by decide +kernel⟩, List.mem_of_getElem? (i := 1355) (by decide +kernel), List.mem_of_getElem? (i := 1970) (by decide +kernel), List.mem_of_getElem? (i := 1971) (by decide +kernel)⟩
theorem lw_p137 : lw_okq (⟨"AgreeToldModel", "vagueMany", "()I"⟩, 45) := ⟨⟨by decide +kernel, by decide +kernel⟩, List.mem_of_getElem? (i := 1355) (by decide +kernel), List.mem_of_getElem? (i := 1974) (by decide +kernel), List.mem_of_getElem? (i := 1975) (by decide +kernel)⟩
theorem lw_p138 : lw_okq (⟨"AgreeToldModel", "isSet", "(II)Z"⟩, 45) := ⟨⟨by decide +kernel, by decide +kernel⟩, List.mem_of_getElem? (i := 1355) (by decide +kernel), List.mem_of_getElem? (i := 1978) (by decide +kernel), List.mem_of_getElem? (i := 1979) (by decide +kernel)⟩
theorem lw_p139 : lw_okq (⟨"AgreeToldModel", "holdsVague", "(III)Z"⟩, 45) := ⟨⟨by decide +kernel, by decide +kernel⟩, List.mem_of_getElem? (i := 1355) (by decide +kernel), List.mem_of_getElem? (i := 1982) (by decide +kernel), List.mem_of_getElem? (i := 1983) (by decide +kernel)⟩
theorem lw_p140 : lw_okq (⟨"AgreeToldModel", "canWish", "(I)Z"⟩, 45) := ⟨⟨by decide +kernel, by decide +kernel⟩, List.mem_of_getElem? (i := 1355) (by decide +kernel), List.mem_of_getElem? (i := 2006) (by decide +kernel), List.mem_of_getElem? (i := 2007) (by decide +kernel)⟩
theorem lw_p141 : lw_okq (⟨"AgreeToldModel", "winsDuel", "(III)Z"⟩, 45) := ⟨⟨by decide +kernel, by decide +kernel⟩, List.mem_of_getElem? (i := 1355) (by decide +kernel), List.mem_of_getElem? (i := 2014) (by decide +kernel), List.mem_of_getElem? (i := 2015) (by decide +kernel)⟩
theorem lw_p142 : lw_okq (⟨"AgreeToldModel", "findsKeeper", "(I)Z"⟩, 45) := ⟨⟨by decide +kernel, by decide +kernel⟩, List.mem_of_getElem? (i := 1355) (by decide +kernel), List.mem_of_getElem? (i := 2022) (by decide +kernel), List.mem_of_getElem? (i := 2023) (by decide +kernel)⟩
theorem lw_p143 : lw_okq (⟨"AgreeToldModel", "mayKeep", "(II)Z"⟩, 45) := ⟨⟨by decide +kernel, by decide +kernel⟩, List.mem_of_getElem? (i := 1355) (by decide +kernel), List.mem_of_getElem? (i := 2026) (by decide +kernel), List.mem_of_getElem? (i := 2027) (by decide +kernel)⟩
def lw_privs_9 : List (MethodName × Nat) := [(⟨"AgreeToldModel", "isBetter", "(I)Z"⟩, 45), (⟨"AgreeToldModel", "numberOf", "(III)I"⟩, 45), (⟨"AgreeToldModel", "findMaking", "(I)I"⟩, 45), (⟨"AgreeToldModel", "findOpen", "()V"⟩, 45), (⟨"AgreeToldModel", "isNumber", "(I)Z"⟩, 45), (⟨"AgreeToldModel", "rowOf", "(I)I"⟩, 45), (⟨"AgreeToldModel", "makes", "(II)Z"⟩, 45), (⟨"AgreeToldModel", "isAll", "(II)Z"⟩, 45), (⟨"AgreeToldModel", "findVague", "(II)I"⟩, 45), (⟨"AgreeToldModel", "vagueMany", "()I"⟩, 45), (⟨"AgreeToldModel", "isSet", "(II)Z"⟩, 45), (⟨"AgreeToldModel", "holdsVague", "(III)Z"⟩, 45), (⟨"AgreeToldModel", "canWish", "(I)Z"⟩, 45), (⟨"AgreeToldModel", "winsDuel", "(III)Z"⟩, 45), (⟨"AgreeToldModel", "findsKeeper", "(I)Z"⟩, 45), (⟨"AgreeToldModel", "mayKeep", "(II)Z"⟩, 45)]
theorem lw_r9 : ∀ q ∈ lw_privs_9, lw_okq q := List.forall_mem_cons.mpr ⟨lw_p128, List.forall_mem_cons.mpr ⟨lw_p129, List.forall_mem_cons.mpr ⟨lw_p130, List.forall_mem_cons.mpr ⟨lw_p131, List.forall_mem_cons.mpr ⟨lw_p132, List.forall_mem_cons.mpr ⟨lw_p133, List.forall_mem_cons.mpr ⟨lw_p134, List.forall_mem_cons.mpr ⟨lw_p135, List.forall_mem_cons.mpr ⟨lw_p136, List.forall_mem_cons.mpr ⟨lw_p137, List.forall_mem_cons.mpr ⟨lw_p138, List.forall_mem_cons.mpr ⟨lw_p139, List.forall_mem_cons.mpr ⟨lw_p140, List.forall_mem_cons.mpr ⟨lw_p141, List.forall_mem_cons.mpr ⟨lw_p142, List.forall_mem_cons.mpr ⟨lw_p143, fun _ h => absurd h List.not_mem_nil⟩⟩⟩⟩⟩⟩⟩⟩⟩⟩⟩⟩⟩⟩⟩⟩
theorem lw_p144 : lw_okq (⟨"AgreeToldModel", "keptBy", "(I)I"⟩, 45) := ⟨⟨by decide +kernel, by decide +kernel⟩, List.mem_of_getElem? (i := 1355) (by decide +kernel), List.mem_of_getElem? (i := 2030) (by decide +kernel), List.mem_of_getElem? (i := 2031) (by decide +kernel)⟩
theorem lw_p145 : lw_okq (⟨"AgreeToldModel", "daysLeft", "()I"⟩, 45) := ⟨⟨by decide +kernel, by decide +kernel⟩, List.mem_of_getElem? (i := 1355) (by decide +kernel), List.mem_of_getElem? (i := 2034) (by decide +kernel), List.mem_of_getElem? (i := 2035) (by decide +kernel)⟩
theorem lw_p146 : lw_okq (⟨"AgreeToldModel", "draw", "(I)I"⟩, 45) := ⟨⟨by decide +kernel, by decide +kernel⟩, List.mem_of_getElem? (i := 1355) (by decide +kernel), List.mem_of_getElem? (i := 2046) (by decide +kernel), List.mem_of_getElem? (i := 2047) (by decide +kernel)⟩
theorem lw_p147 : lw_okq (⟨"AgreeToldModel", "laysWord", "(IIIII)V"⟩, 45) := ⟨⟨by decide +kernel, by decide +kernel⟩, List.mem_of_getElem? (i := 1355) (by decide +kernel), List.mem_of_getElem? (i := 2058) (by decide +kernel), List.mem_of_getElem? (i := 2059) (by decide +kernel)⟩
theorem lw_p148 : lw_okq (⟨"AgreeToldModel", "joins", "(II)V"⟩, 45) := ⟨⟨by decide +kernel, by decide +kernel⟩, List.mem_of_getElem? (i := 1355) (by decide +kernel), List.mem_of_getElem? (i := 2062) (by decide +kernel), List.mem_of_getElem? (i := 2063) (by decide +kernel)⟩
def lw_privs_10 : List (MethodName × Nat) := [(⟨"AgreeToldModel", "keptBy", "(I)I"⟩, 45), (⟨"AgreeToldModel", "daysLeft", "()I"⟩, 45), (⟨"AgreeToldModel", "draw", "(I)I"⟩, 45), (⟨"AgreeToldModel", "laysWord", "(IIIII)V"⟩, 45), (⟨"AgreeToldModel", "joins", "(II)V"⟩, 45)]
theorem lw_r10 : ∀ q ∈ lw_privs_10, lw_okq q := List.forall_mem_cons.mpr ⟨lw_p144, List.forall_mem_cons.mpr ⟨lw_p145, List.forall_mem_cons.mpr ⟨lw_p146, List.forall_mem_cons.mpr ⟨lw_p147, List.forall_mem_cons.mpr ⟨lw_p148, fun _ h => absurd h List.not_mem_nil⟩⟩⟩⟩⟩
def lw_privs : List (MethodName × Nat) := lw_privs_1 ++ (lw_privs_2 ++ (lw_privs_3 ++ (lw_privs_4 ++ (lw_privs_5 ++ (lw_privs_6 ++ (lw_privs_7 ++ (lw_privs_8 ++ (lw_privs_9 ++ (lw_privs_10)))))))))
def lw_tbl : List Cond := k2_sels lw_privs ++ tables_1
theorem lw_privs_ok : ∀ q ∈ lw_privs, lw_okq q := by
  show ∀ q ∈ lw_privs_1 ++ (lw_privs_2 ++ (lw_privs_3 ++ (lw_privs_4 ++ (lw_privs_5 ++ (lw_privs_6 ++ (lw_privs_7 ++ (lw_privs_8 ++ (lw_privs_9 ++ (lw_privs_10))))))))), lw_okq q
  exact List.forall_mem_append.mpr ⟨lw_r1, List.forall_mem_append.mpr ⟨lw_r2, List.forall_mem_append.mpr ⟨lw_r3, List.forall_mem_append.mpr ⟨lw_r4, List.forall_mem_append.mpr ⟨lw_r5, List.forall_mem_append.mpr ⟨lw_r6, List.forall_mem_append.mpr ⟨lw_r7, List.forall_mem_append.mpr ⟨lw_r8, List.forall_mem_append.mpr ⟨lw_r9, lw_r10⟩⟩⟩⟩⟩⟩⟩⟩⟩
-- ===== end of PART A; then your names; then what follows =====
end
section
/-! An interpreter of the bytecode over abstract worlds: values are exact, or ints in an interval; cells are lists. -/
abbrev zi_V : Type := Value ⊕ (Int32 × Int32)
abbrev zi_C : Type := (Nat × List zi_V) ⊕ (Nat × Nat × zi_V × List (Nat × zi_V))
abbrev zi_E : Type := Instr × Nat × List Nat
abbrev zi_T : Type := List (Nat × List (Nat × zi_E))
abbrev zi_M : Type := MethodName × ByteArray × Nat × Option FieldType × zi_T × List Nat
abbrev zi_F : Type := Nat × List (Nat × zi_V) × List zi_V × List zi_C × Nat × Nat
abbrev zi_R : Type := Option zi_V × List zi_C × Nat × Nat
abbrev zi_K : Type := Nat → List zi_V → List zi_C → Option zi_R
/-- relations of lists, place by place -/
def zi_F2 {α β : Type} (r : α → β → Prop) : List α → List β → Prop
  | [], [] => True
  | a :: as, b :: bs => r a b ∧ zi_F2 r as bs
  | _, _ => False
noncomputable def zi_lk (pc : Nat) (l : List (Nat × zi_E)) : Option zi_E := List.rec (motive := fun _ => Option zi_E) none (fun q _ ih => bif Nat.beq q.1 pc then some q.2 else ih) l
noncomputable def zi_lk2 (pc : Nat) (l : zi_T) : Option zi_E := List.rec (motive := fun _ => Option zi_E) none (fun q _ ih => bif Nat.ble q.1 pc then ih else zi_lk pc q.2) l
noncomputable def zi_look (d : zi_V) (us : List (Nat × zi_V)) (j : Nat) : zi_V := List.rec (motive := fun _ => zi_V) d (fun q _ ih => bif Nat.beq q.1 j then q.2 else ih) us
noncomputable def zi_loc (al : List (Nat × zi_V)) (j : Nat) : Option zi_V := List.rec (motive := fun _ => Option zi_V) none (fun q _ ih => bif Nat.beq q.1 j then some q.2 else ih) al
def zi_kd (v : zi_V) : Nat := match v with
  | .inl (.int _) => 0
  | .inl (.long _) => 1
  | .inl (.ref _) => 2
  | .inl .null => 3
  | .inr _ => 0
  | _ => 9
def zi_cat (v : zi_V) : Nat := match v with
  | .inl (.long _) => 2
  | _ => 1
noncomputable def zi_del1 (i : Nat) (al : List (Nat × zi_V)) : List (Nat × zi_V) := List.rec (motive := fun _ => List (Nat × zi_V)) [] (fun q _ ih => bif (!(Nat.beq q.1 i) && !(Nat.beq (q.1 + 1) i && Nat.beq (zi_cat q.2) 2)) then q :: ih else ih) al
noncomputable def zi_del2 (i : Nat) (al : List (Nat × zi_V)) : List (Nat × zi_V) := List.rec (motive := fun _ => List (Nat × zi_V)) [] (fun q _ ih => bif (!(Nat.beq q.1 i) && (!(Nat.beq q.1 (i + 1)) && !(Nat.beq (q.1 + 1) i && Nat.beq (zi_cat q.2) 2))) then q :: ih else ih) al
noncomputable def zi_ent (i : Nat) (vs : List zi_V) : List (Nat × zi_V) := List.rec (motive := fun _ => Nat → List (Nat × zi_V)) (fun _ => []) (fun v _ ih => fun i => (i, v) :: ih (i + zi_cat v)) vs i
noncomputable def zi_cats (vs : List zi_V) : Nat := List.rec (motive := fun _ => Nat) 0 (fun v _ ih => zi_cat v + ih) vs
def zi_iv (v : zi_V) : Option (Int32 × Int32) := match v with
  | .inl (.int x) => some (x, x)
  | .inr p => some p
  | _ => none
def zi_lt (a b : Int32 × Int32) : Option Bool := bif decide (a.2 < b.1) then some true else bif decide (b.2 ≤ a.1) then some false else none
def zi_le (a b : Int32 × Int32) : Option Bool := bif decide (a.2 ≤ b.1) then some true else bif decide (b.2 < a.1) then some false else none
def zi_eq (a b : Int32 × Int32) : Option Bool := bif decide (a.2 < b.1) || decide (b.2 < a.1) then some false else bif decide (a.1 = a.2) && decide (b.1 = b.2) && decide (a.1 = b.1) then some true else none
def zi_cmp (c : ClassFile.Cond) (a b : Int32 × Int32) : Option Bool := match c with
  | .eq => zi_eq a b
  | .ne => (zi_eq a b).map (fun q => !q)
  | .lt => zi_lt a b
  | .ge => zi_le b a
  | .gt => zi_lt b a
  | .le => zi_le a b
def zi_test (c : ClassFile.Cond) (v w : zi_V) : Option Bool := match zi_iv v, zi_iv w with
  | some a, some b => zi_cmp c a b
  | _, _ => none
/-- the types of arrays, by their numbers -/
def zi_ft (t : Nat) : FieldType := match t with
  | 0 => .int
  | 1 => .long
  | 2 => .boolean
  | 3 => .char
  | 4 => .object "AgreeTold$FutureSet"
  | 5 => .object "AgreeTold$Story"
  | _ => .object "AgreeTold$Saying"
def zi_tk (t : Nat) : Nat := match t with
  | 0 => 0
  | 1 => 1
  | 2 => 0
  | 3 => 0
  | _ => 2
def zi_df (t : Nat) : zi_V := match t with
  | 0 => .inl (.int 0)
  | 1 => .inl (.long 0)
  | 2 => .inl (.int 0)
  | 3 => .inl (.int 0)
  | _ => .inl .null
def zi_fit (ty : FieldType) (v : zi_V) : Bool := match v with
  | .inl w => decide (narrow ty w = w) && fits ty w
  | .inr _ => decide (ty = .int)
def zi_rok (ty : FieldType) (v : zi_V) : Bool := match v with
  | .inl (.int x) => decide (narrow ty (.int x) = .int x)
  | .inl (.long _) => decide (ty = .long)
  | .inl (.ref _) => match ty with | .object _ => true | .array _ => true | _ => false
  | .inl .null => match ty with | .object _ => true | .array _ => true | _ => false
  | .inr _ => decide (ty = .int)
  | _ => false
def zi_in (x : Int32) (n : Nat) : Bool := !decide (x < 0) && Nat.ble (x.toNatClampNeg + 1) n
def zi_Fs : List (String × List ((String × String × String × Bool) × FieldType)) := [
  ("AgreeTold", [(("AgreeTold", "reader", "LAgreeTold$Reader;", true), (.object "AgreeTold$Reader")),
    (("AgreeTold", "tape", "LAgreeTold$Tape;", true), (.object "AgreeTold$Tape")),
    (("AgreeTold", "worlds", "LAgreeTold$Worlds;", true), (.object "AgreeTold$Worlds")),
    (("AgreeTold", "priceLaw", "LAgreeTold$PriceLaw;", true), (.object "AgreeTold$PriceLaw")),
    (("AgreeTold", "joint", "LAgreeTold$Joint;", true), (.object "AgreeTold$Joint")),
    (("AgreeTold", "draws", "LAgreeTold$Draws;", true), (.object "AgreeTold$Draws")),
    (("AgreeTold", "story", "LAgreeTold$Story;", true), (.object "AgreeTold$Story")),
    (("AgreeTold", "past", "[LAgreeTold$Story;", true), (.array (.object "AgreeTold$Story"))),
    (("AgreeTold", "marks", "[LAgreeTold$Story;", true), (.array (.object "AgreeTold$Story"))),
    (("AgreeTold", "left", "LAgreeTold$FutureSet;", true), (.object "AgreeTold$FutureSet")),
    (("AgreeTold", "scratch", "LAgreeTold$FutureSet;", true), (.object "AgreeTold$FutureSet")),
    (("AgreeTold", "second", "LAgreeTold$FutureSet;", true), (.object "AgreeTold$FutureSet")),
    (("AgreeTold", "openWords", "[I", true), (.array .int)),
    (("AgreeTold", "small", "[I", true), (.array .int)),
    (("AgreeTold", "tellings", "[I", true), (.array .int)),
    (("AgreeTold", "wins", "[Z", true), (.array .boolean)),
    (("AgreeTold", "land", "LAgreeTold$Land;", false), (.object "AgreeTold$Land")),
    (("AgreeTold", "pastStart", "I", false), .int),
    (("AgreeTold", "pastCount", "I", false), .int)]),
  ("AgreeTold$Reader", [(("AgreeTold$Reader", "tape", "LAgreeTold$Tape;", true), (.object "AgreeTold$Tape")),
    (("AgreeTold$Reader", "facts", "[J", true), (.array .long)),
    (("AgreeTold$Reader", "codes", "[I", true), (.array .int)),
    (("AgreeTold$Reader", "used", "I", false), .int),
    (("AgreeTold$Reader", "teller", "I", false), .int),
    (("AgreeTold$Reader", "naming", "Z", false), .boolean),
    (("AgreeTold$Reader", "land", "LAgreeTold$Land;", false), (.object "AgreeTold$Land")),
    (("AgreeTold$Reader", "softened", "Z", false), .boolean),
    (("AgreeTold$Reader", "at", "I", false), .int),
    (("AgreeTold$Reader", "kind", "I", false), .int),
    (("AgreeTold$Reader", "value", "J", false), .long),
    (("AgreeTold$Reader", "fault", "I", false), .int)]),
  ("AgreeTold$Tape", [(("AgreeTold$Tape", "signs", "[C", true), (.array .char)),
    (("AgreeTold$Tape", "kinds", "[I", true), (.array .int)),
    (("AgreeTold$Tape", "places", "[I", true), (.array .int)),
    (("AgreeTold$Tape", "values", "[J", true), (.array .long)),
    (("AgreeTold$Tape", "keywords", "[J", true), (.array .long)),
    (("AgreeTold$Tape", "length", "I", false), .int),
    (("AgreeTold$Tape", "tokens", "I", false), .int)]),
  ("AgreeTold$Land", [(("AgreeTold$Land", "peopleNames", "[J", true), (.array .long)),
    (("AgreeTold$Land", "eventNames", "[J", true), (.array .long)),
    (("AgreeTold$Land", "prophetNames", "[J", true), (.array .long)),
    (("AgreeTold$Land", "talls", "[I", true), (.array .int)),
    (("AgreeTold$Land", "kinds", "[I", true), (.array .int)),
    (("AgreeTold$Land", "purses", "[I", true), (.array .int)),
    (("AgreeTold$Land", "owners", "[I", true), (.array .int)),
    (("AgreeTold$Land", "coins", "[I", true), (.array .int)),
    (("AgreeTold$Land", "lawBegins", "[I", true), (.array .int)),
    (("AgreeTold$Land", "lawEnds", "[I", true), (.array .int)),
    (("AgreeTold$Land", "wishBegins", "[I", true), (.array .int)),
    (("AgreeTold$Land", "wishEnds", "[I", true), (.array .int)),
    (("AgreeTold$Land", "price", "[I", false), (.array .int)),
    (("AgreeTold$Land", "priced", "Z", false), .boolean),
    (("AgreeTold$Land", "days", "I", false), .int),
    (("AgreeTold$Land", "people", "I", false), .int),
    (("AgreeTold$Land", "events", "I", false), .int),
    (("AgreeTold$Land", "prophets", "I", false), .int),
    (("AgreeTold$Land", "laws", "I", false), .int),
    (("AgreeTold$Land", "wishes", "I", false), .int)]),
  ("AgreeTold$Worlds", [(("AgreeTold$Worlds", "laws", "LAgreeTold$FutureSet;", true), (.object "AgreeTold$FutureSet")),
    (("AgreeTold$Worlds", "nothing", "LAgreeTold$FutureSet;", true), (.object "AgreeTold$FutureSet")),
    (("AgreeTold$Worlds", "total", "I", false), .int),
    (("AgreeTold$Worlds", "words", "[LAgreeTold$FutureSet;", true), (.array (.object "AgreeTold$FutureSet"))),
    (("AgreeTold$Worlds", "wishes", "[LAgreeTold$FutureSet;", true), (.array (.object "AgreeTold$FutureSet"))),
    (("AgreeTold$Worlds", "one", "LAgreeTold$FutureSet;", true), (.object "AgreeTold$FutureSet")),
    (("AgreeTold$Worlds", "stack", "[J", true), (.array .long)),
    (("AgreeTold$Worlds", "days", "I", false), .int),
    (("AgreeTold$Worlds", "people", "I", false), .int),
    (("AgreeTold$Worlds", "length", "I", false), .int)]),
  ("AgreeTold$FutureSet", [(("AgreeTold$FutureSet", "cells", "[J", false), (.array .long)),
    (("AgreeTold$FutureSet", "length", "I", false), .int)]),
  ("AgreeTold$PriceLaw", [(("AgreeTold$PriceLaw", "stack", "[I", true), (.array .int))]),
  ("AgreeTold$Joint", [(("AgreeTold$Joint", "rows", "[LAgreeTold$FutureSet;", true), (.array (.object "AgreeTold$FutureSet"))),
    (("AgreeTold$Joint", "can", "[Z", false), (.array .boolean)),
    (("AgreeTold$Joint", "size", "I", false), .int)]),
  ("AgreeTold$Draws", [(("AgreeTold$Draws", "state", "J", false), .long)]),
  ("AgreeTold$Story", [(("AgreeTold$Story", "sayings", "[LAgreeTold$Saying;", true), (.array (.object "AgreeTold$Saying"))),
    (("AgreeTold$Story", "purses", "[I", true), (.array .int)),
    (("AgreeTold$Story", "cameEvents", "[I", true), (.array .int)),
    (("AgreeTold$Story", "owedTo", "[I", true), (.array .int)),
    (("AgreeTold$Story", "owedTall", "[I", true), (.array .int)),
    (("AgreeTold$Story", "asked", "LAgreeTold$FutureSet;", false), (.object "AgreeTold$FutureSet")),
    (("AgreeTold$Story", "told", "I", false), .int),
    (("AgreeTold$Story", "today", "I", false), .int),
    (("AgreeTold$Story", "promises", "I", false), .int)]),
  ("AgreeTold$Saying", [(("AgreeTold$Saying", "prophet", "I", true), .int),
    (("AgreeTold$Saying", "price", "I", true), .int),
    (("AgreeTold$Saying", "leftThen", "I", true), .int),
    (("AgreeTold$Saying", "row", "LAgreeTold$FutureSet;", true), (.object "AgreeTold$FutureSet"))]),
  ("AgreeToldModel", [(("AgreeToldModel", "thrown", "I", false), .int),
    (("AgreeToldModel", "tape", "[I", true), (.array .int)),
    (("AgreeToldModel", "taped", "I", false), .int),
    (("AgreeToldModel", "size", "I", false), .int),
    (("AgreeToldModel", "sort", "[I", true), (.array .int)),
    (("AgreeToldModel", "place", "[I", true), (.array .int)),
    (("AgreeToldModel", "value", "[J", true), (.array .long)),
    (("AgreeToldModel", "at", "I", false), .int),
    (("AgreeToldModel", "fault", "I", false), .int),
    (("AgreeToldModel", "words", "[J", true), (.array .long)),
    (("AgreeToldModel", "lands", "[I", true), (.array .int)),
    (("AgreeToldModel", "op", "[I", true), (.array .int)),
    (("AgreeToldModel", "arg", "[I", true), (.array .int)),
    (("AgreeToldModel", "codes", "I", false), .int),
    (("AgreeToldModel", "names", "[J", true), (.array .long)),
    (("AgreeToldModel", "readNames", "[J", true), (.array .long)),
    (("AgreeToldModel", "nameOf", "[I", true), (.array .int)),
    (("AgreeToldModel", "readNameOf", "[I", true), (.array .int)),
    (("AgreeToldModel", "namesMany", "I", false), .int),
    (("AgreeToldModel", "readMany", "I", false), .int),
    (("AgreeToldModel", "readFrom", "I", false), .int),
    (("AgreeToldModel", "facts", "[I", true), (.array .int)),
    (("AgreeToldModel", "pile", "[I", true), (.array .int)),
    (("AgreeToldModel", "bits", "[J", true), (.array .long)),
    (("AgreeToldModel", "futures", "I", false), .int),
    (("AgreeToldModel", "longs", "I", false), .int),
    (("AgreeToldModel", "power", "[I", true), (.array .int)),
    (("AgreeToldModel", "has", "[I", true), (.array .int)),
    (("AgreeToldModel", "isVague", "Z", false), .boolean),
    (("AgreeToldModel", "state", "[I", true), (.array .int)),
    (("AgreeToldModel", "undos", "I", false), .int),
    (("AgreeToldModel", "isMarked", "[Z", true), (.array .boolean)),
    (("AgreeToldModel", "isAsked", "[Z", true), (.array .boolean)),
    (("AgreeToldModel", "teller", "I", false), .int),
    (("AgreeToldModel", "bestSet", "I", false), .int),
    (("AgreeToldModel", "bestMany", "I", false), .int),
    (("AgreeToldModel", "open", "[I", true), (.array .int)),
    (("AgreeToldModel", "openMany", "I", false), .int),
    (("AgreeToldModel", "made", "[I", true), (.array .int)),
    (("AgreeToldModel", "vagueLeft", "[I", true), (.array .int)),
    (("AgreeToldModel", "duelWish", "I", false), .int),
    (("AgreeToldModel", "keeper", "[I", true), (.array .int)),
    (("AgreeToldModel", "tried", "[Z", true), (.array .boolean)),
    (("AgreeToldModel", "g", "J", false), .long),
    (("AgreeToldModel", "toldBy", "[I", true), (.array .int))])]
/-- the String constants: whose pool, which entry, the text -/
def zi_sr : List (String × Nat × String) := [("AgreeTold$Tape", 26, "days person tall event prophet purse law wish for price some all together ahead on by from ever never times most plain vague fool grand weather not and or"), ("AgreeTold$Reader", 18, "before after told"), ("AgreeTold$Tape", 77, "()<=+-*;"), ("AgreeTold", 343, "no such word")]
def zi_sn : List Nat := [154, 17, 8, 12]
def zi_sb : List (List Int32) := [[100, 97, 121, 115, 32, 112, 101, 114, 115, 111, 110, 32, 116, 97, 108, 108, 32, 101, 118, 101, 110, 116, 32, 112, 114, 111, 112, 104, 101, 116, 32, 112, 117, 114, 115, 101, 32, 108, 97, 119, 32, 119, 105, 115, 104, 32, 102, 111, 114, 32, 112, 114, 105, 99, 101, 32, 115, 111, 109, 101, 32, 97, 108, 108, 32, 116, 111, 103, 101, 116, 104, 101, 114, 32, 97, 104, 101, 97, 100, 32, 111, 110, 32, 98, 121, 32, 102, 114, 111, 109, 32, 101, 118, 101, 114, 32, 110, 101, 118, 101, 114, 32, 116, 105, 109, 101, 115, 32, 109, 111, 115, 116, 32, 112, 108, 97, 105, 110, 32, 118, 97, 103, 117, 101, 32, 102, 111, 111, 108, 32, 103, 114, 97, 110, 100, 32, 119, 101, 97, 116, 104, 101, 114, 32, 110, 111, 116, 32, 97, 110, 100, 32, 111, 114], [98, 101, 102, 111, 114, 101, 32, 97, 102, 116, 101, 114, 32, 116, 111, 108, 100], [40, 41, 60, 61, 43, 45, 42, 59], [110, 111, 32, 115, 117, 99, 104, 32, 119, 111, 114, 100]]
def zi_nest : List (String × Nat × MethodName × String) := [("AgreeTold", 9, ⟨"AgreeTold$Reader", "<init>", "()V"⟩, "AgreeTold"), ("AgreeTold$Reader", 11, ⟨"AgreeTold$Tape", "<init>", "()V"⟩, "AgreeTold"), ("AgreeTold$Reader", 34, ⟨"AgreeTold$Land", "<init>", "()V"⟩, "AgreeTold"), ("AgreeTold$Worlds", 11, ⟨"AgreeTold$FutureSet", "<init>", "()V"⟩, "AgreeTold"), ("AgreeTold", 30, ⟨"AgreeTold$PriceLaw", "<init>", "()V"⟩, "AgreeTold"), ("AgreeTold", 37, ⟨"AgreeTold$Joint", "<init>", "()V"⟩, "AgreeTold"), ("AgreeTold", 44, ⟨"AgreeTold$Draws", "<init>", "()V"⟩, "AgreeTold"), ("AgreeTold", 65, ⟨"AgreeTold$FutureSet", "<init>", "()V"⟩, "AgreeTold"), ("AgreeTold", 92, ⟨"AgreeTold$Land", "<init>", "()V"⟩, "AgreeTold"), ("AgreeTold$Reader", 197, ⟨"AgreeTold", "clauseCode", "(IIIII)I"⟩, "AgreeTold"), ("AgreeTold$Worlds", 98, ⟨"AgreeTold", "wordNumber", "(III)I"⟩, "AgreeTold")]
end
section
/-! The classes' fields, the String constants, and the interpreter itself. -/
def zi_cl : List vw_C := zi_Fs.map (fun q => (q.1, (fun k => (q.2.getD k (("", "", "", false), .int)).1), q.2.length))
def zi_ty (ci k : Nat) : FieldType := ((zi_Fs.getD ci ("", [])).2.getD k (("", "", "", false), .int)).2
def zi_dfv (ty : FieldType) : zi_V := match ty with
  | .long => .inl (.long 0)
  | .object _ => .inl .null
  | .array _ => .inl .null
  | _ => .inl (.int 0)
def zi_new (ci : Nat) : List zi_V := (zi_Fs.getD ci ("", [])).2.map (fun q => zi_dfv q.2)
abbrev zi_O : Type := Option (zi_F ⊕ Option zi_V)
def zi_ps (pc n : Nat) (al : List (Nat × zi_V)) (st : List zi_V) (A : List zi_C) (nc ns : Nat) (v : zi_V) : zi_O := some (.inl (pc + n, al, v :: st, A, nc, ns))
noncomputable def zi_ld (pc n : Nat) (al : List (Nat × zi_V)) (st : List zi_V) (A : List zi_C) (nc ns : Nat) (i k : Nat) : zi_O := match zi_loc al i with
  | some v => bif Nat.beq (zi_kd v) k then some (.inl (pc + n, al, v :: st, A, nc, ns)) else none
  | none => none
noncomputable def zi_lda (pc n : Nat) (al : List (Nat × zi_V)) (st : List zi_V) (A : List zi_C) (nc ns : Nat) (i : Nat) : zi_O := match zi_loc al i with
  | some v => bif Nat.ble 2 (zi_kd v) then some (.inl (pc + n, al, v :: st, A, nc, ns)) else none
  | none => none
noncomputable def zi_sti (pc n nL : Nat) (al : List (Nat × zi_V)) (st : List zi_V) (A : List zi_C) (nc ns : Nat) (i : Nat) : zi_O := match st with
  | v :: r => bif Nat.beq (zi_kd v) 0 && Nat.ble (i + 1) nL then some (.inl (pc + n, (i, v) :: zi_del1 i al, r, A, nc, ns)) else none
  | [] => none
noncomputable def zi_sta (pc n nL : Nat) (al : List (Nat × zi_V)) (st : List zi_V) (A : List zi_C) (nc ns : Nat) (i : Nat) : zi_O := match st with
  | v :: r => bif Nat.ble 2 (zi_kd v) && Nat.ble (i + 1) nL then some (.inl (pc + n, (i, v) :: zi_del1 i al, r, A, nc, ns)) else none
  | [] => none
noncomputable def zi_stl (pc n nL : Nat) (al : List (Nat × zi_V)) (st : List zi_V) (A : List zi_C) (nc ns : Nat) (i : Nat) : zi_O := match st with
  | v :: r => bif Nat.beq (zi_kd v) 1 && Nat.ble (i + 2) nL then some (.inl (pc + n, (i, v) :: zi_del2 i al, r, A, nc, ns)) else none
  | [] => none
noncomputable def zi_inc (pc n nL : Nat) (al : List (Nat × zi_V)) (st : List zi_V) (A : List zi_C) (nc ns : Nat) (i : Nat) (k : Int) : zi_O := match zi_loc al i with
  | some (.inl (.int x)) => bif Nat.ble (i + 1) nL then some (.inl (pc + n, (i, .inl (.int (x + Int32.ofInt k))) :: zi_del1 i al, st, A, nc, ns)) else none
  | _ => none
def zi_ii (op : Int32 → Int32 → Int32) (pc n : Nat) (al : List (Nat × zi_V)) (st : List zi_V) (A : List zi_C) (nc ns : Nat) : zi_O := match st with
  | .inl (.int y) :: .inl (.int x) :: r => some (.inl (pc + n, al, .inl (.int (op x y)) :: r, A, nc, ns))
  | _ => none
def zi_iz (op : Int32 → Int32 → Int32) (pc n : Nat) (al : List (Nat × zi_V)) (st : List zi_V) (A : List zi_C) (nc ns : Nat) : zi_O := match st with
  | .inl (.int y) :: .inl (.int x) :: r => bif decide (y = 0) then none else some (.inl (pc + n, al, .inl (.int (op x y)) :: r, A, nc, ns))
  | _ => none
def zi_ll (op : Int64 → Int64 → Int64) (pc n : Nat) (al : List (Nat × zi_V)) (st : List zi_V) (A : List zi_C) (nc ns : Nat) : zi_O := match st with
  | .inl (.long y) :: .inl (.long x) :: r => some (.inl (pc + n, al, .inl (.long (op x y)) :: r, A, nc, ns))
  | _ => none
def zi_lc (pc n : Nat) (al : List (Nat × zi_V)) (st : List zi_V) (A : List zi_C) (nc ns : Nat) : zi_O := match st with
  | .inl (.long y) :: .inl (.long x) :: r => some (.inl (pc + n, al, .inl (.int (lg_cmp x y)) :: r, A, nc, ns))
  | _ => none
def zi_lw (op : Int64 → Int32 → Int64) (pc n : Nat) (al : List (Nat × zi_V)) (st : List zi_V) (A : List zi_C) (nc ns : Nat) : zi_O := match st with
  | .inl (.int y) :: .inl (.long x) :: r => some (.inl (pc + n, al, .inl (.long (op x y)) :: r, A, nc, ns))
  | _ => none
def zi_i1 (op : Int32 → Value) (pc n : Nat) (al : List (Nat × zi_V)) (st : List zi_V) (A : List zi_C) (nc ns : Nat) : zi_O := match st with
  | .inl (.int x) :: r => some (.inl (pc + n, al, .inl (op x) :: r, A, nc, ns))
  | _ => none
def zi_l1 (op : Int64 → Value) (pc n : Nat) (al : List (Nat × zi_V)) (st : List zi_V) (A : List zi_C) (nc ns : Nat) : zi_O := match st with
  | .inl (.long x) :: r => some (.inl (pc + n, al, .inl (op x) :: r, A, nc, ns))
  | _ => none
def zi_dup (pc n : Nat) (al : List (Nat × zi_V)) (st : List zi_V) (A : List zi_C) (nc ns : Nat) : zi_O := match st with
  | v :: r => bif Nat.beq (zi_cat v) 1 then some (.inl (pc + n, al, v :: v :: r, A, nc, ns)) else none
  | [] => none
def zi_pop (pc n : Nat) (al : List (Nat × zi_V)) (st : List zi_V) (A : List zi_C) (nc ns : Nat) : zi_O := match st with
  | v :: r => bif Nat.beq (zi_cat v) 1 then some (.inl (pc + n, al, r, A, nc, ns)) else none
  | [] => none
def zi_dup2 (pc n : Nat) (al : List (Nat × zi_V)) (st : List zi_V) (A : List zi_C) (nc ns : Nat) : zi_O := match st with
  | v :: w :: r => bif Nat.beq (zi_cat v) 2 then some (.inl (pc + n, al, v :: v :: w :: r, A, nc, ns)) else bif Nat.beq (zi_cat w) 1 then some (.inl (pc + n, al, v :: w :: v :: w :: r, A, nc, ns)) else none
  | _ => none
def zi_br (pc n : Nat) (al : List (Nat × zi_V)) (st : List zi_V) (A : List zi_C) (nc ns : Nat) (tgt : Nat) (q : Option Bool) : zi_O := match q with
  | some true => some (.inl (tgt, al, st, A, nc, ns))
  | some false => some (.inl (pc + n, al, st, A, nc, ns))
  | none => none
def zi_if1 (c : ClassFile.Cond) (pc n : Nat) (al : List (Nat × zi_V)) (st : List zi_V) (A : List zi_C) (nc ns : Nat) (tgt : Nat) : zi_O := match st with
  | v :: r => zi_br pc n al r A nc ns tgt (zi_test c v (.inl (.int 0)))
  | _ => none
def zi_if2 (c : ClassFile.Cond) (pc n : Nat) (al : List (Nat × zi_V)) (st : List zi_V) (A : List zi_C) (nc ns : Nat) (tgt : Nat) : zi_O := match st with
  | w :: v :: r => zi_br pc n al r A nc ns tgt (zi_test c v w)
  | _ => none
def zi_nul (k : Bool) (pc n : Nat) (al : List (Nat × zi_V)) (st : List zi_V) (A : List zi_C) (nc ns : Nat) (tgt : Nat) : zi_O := match st with
  | .inl .null :: r => zi_br pc n al r A nc ns tgt (some k)
  | .inl (.ref _) :: r => zi_br pc n al r A nc ns tgt (some (!k))
  | _ => none
def zi_tsw (lo hi : Int) (al : List (Nat × zi_V)) (st : List zi_V) (A : List zi_C) (nc ns : Nat) (o : List Nat) : zi_O := match st, o with
  | v :: r, d :: ts => match zi_iv v with
    | some q => bif decide (q.2.toInt < lo) || decide (hi < q.1.toInt) then some (.inl (d, al, r, A, nc, ns)) else
        bif decide (q.1 = q.2) && !decide (q.1.toInt < lo) && !decide (hi < q.1.toInt) then (match ts[(q.1.toInt - lo).toNat]? with
          | some t => some (.inl (t, al, r, A, nc, ns))
          | none => none) else none
    | none => none
  | _, _ => none
noncomputable def zi_get (pc n : Nat) (al : List (Nat × zi_V)) (st : List zi_V) (A : List zi_C) (nc ns : Nat) (ci k : Nat) : zi_O := match st with
  | .inl (.ref r) :: rest => bif Nat.ble 10 r then (match A[r - 10]? with
      | some (.inl q) => bif Nat.beq q.1 ci then (match q.2[k]? with
          | some v => some (.inl (pc + n, al, v :: rest, A, nc, ns))
          | none => none) else none
      | _ => none)
    else bif Nat.ble (r + 1) 4 && Nat.beq ci 100 then (bif Nat.beq k 0 then some (.inl (pc + n, al, .inl (.ref (4 + r)) :: rest, A, nc, ns)) else bif Nat.beq k 1 then some (.inl (pc + n, al, .inl (.int 0) :: rest, A, nc, ns)) else none) else none
  | _ => none
noncomputable def zi_put (pc n : Nat) (al : List (Nat × zi_V)) (st : List zi_V) (A : List zi_C) (nc ns : Nat) (ci k : Nat) : zi_O := match st with
  | v :: .inl (.ref r) :: rest => bif Nat.ble 10 r then (match A[r - 10]? with
      | some (.inl q) => bif Nat.beq q.1 ci && Nat.ble (k + 1) q.2.length && zi_fit (zi_ty ci k) v then some (.inl (pc + n, al, rest, A.set (r - 10) (.inl (ci, q.2.set k v)), nc, ns)) else none
      | _ => none) else none
  | _ => none
def zi_gts (pc n : Nat) (al : List (Nat × zi_V)) (st : List zi_V) (A : List zi_C) (nc ns : Nat) (k : Nat) : zi_O := match k with
  | 0 => some (.inl (pc + n, al, .inl (.int 1) :: st, A, nc, ns))
  | _ => some (.inl (pc + n, al, .inl (.retAddr 0) :: st, A, nc, ns))
noncomputable def zi_len (sl : List zi_V) (pc n : Nat) (al : List (Nat × zi_V)) (st : List zi_V) (A : List zi_C) (nc ns : Nat) : zi_O := match st with
  | .inl (.ref r) :: rest => bif Nat.ble 10 r then (match A[r - 10]? with
      | some (.inr q) => bif Nat.ble q.1 6 then some (.inl (pc + n, al, .inl (.int (Int32.ofNat q.2.1)) :: rest, A, nc, ns)) else none
      | _ => none)
    else bif Nat.beq r 8 then (match sl with | [] => none | _ :: _ => some (.inl (pc + n, al, .inl (.int (Int32.ofNat sl.length)) :: rest, A, nc, ns)))
    else bif Nat.ble 4 r && Nat.ble (r + 1) 8 then some (.inl (pc + n, al, .inl (.int (Int32.ofNat (zi_sn.getD (r - 4) 0))) :: rest, A, nc, ns)) else none
  | _ => none
/-- loads: t the wanted type's number (7: references of any class) -/
noncomputable def zi_ald (t : Nat) (sl : List zi_V) (pc n : Nat) (al : List (Nat × zi_V)) (st : List zi_V) (A : List zi_C) (nc ns : Nat) : zi_O := match st with
  | .inl (.int x) :: .inl (.ref r) :: rest => bif Nat.ble 10 r then (match A[r - 10]? with
      | some (.inr q) => bif ((Nat.beq q.1 t && Nat.ble q.1 6) || (Nat.beq t 7 && Nat.ble 4 q.1 && Nat.ble q.1 6)) && zi_in x q.2.1 then some (.inl (pc + n, al, zi_look q.2.2.1 q.2.2.2 x.toNatClampNeg :: rest, A, nc, ns)) else none
      | _ => none)
    else bif Nat.beq r 8 && Nat.beq t 0 && zi_in x sl.length then (match sl[x.toNatClampNeg]? with
      | some v => some (.inl (pc + n, al, v :: rest, A, nc, ns))
      | none => none)
    else bif Nat.ble 4 r && Nat.ble (r + 1) 8 && Nat.beq t 2 && zi_in x (zi_sn.getD (r - 4) 0) then some (.inl (pc + n, al, .inl (.int ((zi_sb.getD (r - 4) []).getD x.toNatClampNeg 0)) :: rest, A, nc, ns)) else none
  | _ => none
/-- what may be stored: 0 any int, 1 a long, 2 an exact boolean, 3 an exact char -/
def zi_sok (t : Nat) (v : zi_V) : Bool := match t with
  | 0 => Nat.beq (zi_kd v) 0
  | 1 => Nat.beq (zi_kd v) 1
  | 2 => (match v with | .inl (.int x) => decide (narrow .boolean (.int x) = .int x) | _ => false)
  | 3 => (match v with | .inl (.int x) => decide (narrow .char (.int x) = .int x) | _ => false)
  | _ => false
noncomputable def zi_ast (t : Nat) (pc n : Nat) (al : List (Nat × zi_V)) (st : List zi_V) (A : List zi_C) (nc ns : Nat) : zi_O := match st with
  | v :: .inl (.int x) :: .inl (.ref r) :: rest => bif Nat.ble 10 r then (match A[r - 10]? with
      | some (.inr q) => bif Nat.beq q.1 t && zi_in x q.2.1 && zi_sok t v then some (.inl (pc + n, al, rest, A.set (r - 10) (.inr (q.1, q.2.1, q.2.2.1, (x.toNatClampNeg, v) :: q.2.2.2)), nc, ns)) else none
      | _ => none) else none
  | _ => none
/-- a reference into an array: null, or an object of just the array's class -/
noncomputable def zi_aso (A : List zi_C) (t : Nat) (v : zi_V) : Bool := match v with
  | .inl .null => true
  | .inl (.ref r) => Nat.ble 10 r && (match A[r - 10]? with
      | some (.inl q) => decide (some (zi_ft t) = (zi_Fs[q.1]?).map (fun z => FieldType.object z.1))
      | _ => false)
  | _ => false
noncomputable def zi_aas (pc n : Nat) (al : List (Nat × zi_V)) (st : List zi_V) (A : List zi_C) (nc ns : Nat) : zi_O := match st with
  | v :: .inl (.int x) :: .inl (.ref r) :: rest => bif Nat.ble 10 r then (match A[r - 10]? with
      | some (.inr q) => bif Nat.ble 4 q.1 && Nat.ble q.1 6 && zi_in x q.2.1 && zi_aso A q.1 v then some (.inl (pc + n, al, rest, A.set (r - 10) (.inr (q.1, q.2.1, q.2.2.1, (x.toNatClampNeg, v) :: q.2.2.2)), nc, ns)) else none
      | _ => none) else none
  | _ => none
def zi_nw (pc n : Nat) (al : List (Nat × zi_V)) (st : List zi_V) (A : List zi_C) (nc ns : Nat) (ci : Nat) : zi_O :=
  some (.inl (pc + n, al, .inl (.ref (10 + A.length)) :: st, A ++ [.inl (ci, zi_new ci)], nc + 1, ns + (zi_Fs.getD ci ("", [])).2.length))
def zi_nwa (pc n : Nat) (al : List (Nat × zi_V)) (st : List zi_V) (A : List zi_C) (nc ns : Nat) (t : Nat) : zi_O := match st with
  | .inl (.int x) :: r => bif !decide (x < 0) && Nat.ble x.toNatClampNeg 1000000 && Nat.ble t 6 then some (.inl (pc + n, al, .inl (.ref (10 + A.length)) :: r, A ++ [.inr (t, x.toNatClampNeg, zi_df t, [])], nc + 1, ns + x.toNatClampNeg)) else none
  | _ => none
noncomputable def zi_inv (call : zi_K) (pc n : Nat) (al : List (Nat × zi_V)) (st : List zi_V) (A : List zi_C) (nc ns : Nat) (mi k : Nat) : zi_O :=
  bif Nat.ble k st.length && Nat.ble (zi_cats (st.drop k)) 8 then (match call mi (st.take k).reverse A with
    | some q => (match q.1 with
      | some v => some (.inl (pc + n, al, v :: st.drop k, q.2.1, nc + q.2.2.1, ns + q.2.2.2))
      | none => some (.inl (pc + n, al, st.drop k, q.2.1, nc + q.2.2.1, ns + q.2.2.2)))
    | none => none) else none
/-- Math.max, Math.min -/
def zi_mm (z : Nat) (pc n : Nat) (al : List (Nat × zi_V)) (st : List zi_V) (A : List zi_C) (nc ns : Nat) : zi_O := match st with
  | .inl (.int y) :: .inl (.int x) :: r => some (.inl (pc + n, al, .inl (.int (match z with | 0 => (if x < y then y else x) | _ => (if y < x then y else x))) :: r, A, nc, ns))
  | _ => none
noncomputable def zi_obj (pc n : Nat) (al : List (Nat × zi_V)) (st : List zi_V) (A : List zi_C) (nc ns : Nat) : zi_O := match st with
  | .inl (.ref _) :: r => bif Nat.ble (zi_cats r) 8 then some (.inl (pc + n, al, r, A, nc, ns)) else none
  | _ => none
def zi_rk (k : Nat) (v : zi_V) : Bool := match k with
  | 0 => Nat.beq (zi_kd v) 0
  | 1 => Nat.beq (zi_kd v) 1
  | _ => Nat.ble 2 (zi_kd v)
def zi_ret (k : Nat) (ret : Option FieldType) (st : List zi_V) : zi_O := match ret, st with
  | some ty, [v] => bif zi_rok ty v && zi_rk k v then some (.inr (some v)) else none
  | _, _ => none
def zi_rtv (ret : Option FieldType) (st : List zi_V) : zi_O := match ret, st with
  | none, [] => some (.inr none)
  | _, _ => none
/-- receivers of virtual calls: objects of the callee's own class, or String constants -/
noncomputable def zi_rcv (A : List zi_C) (ci : Nat) (v : Option zi_V) : Bool := match v with
  | some (.inl (.ref r)) => bif Nat.ble 10 r then (match A[r - 10]? with
      | some (.inl q) => Nat.beq q.1 ci
      | _ => false) else Nat.ble (r + 1) 4 && Nat.beq ci 100
  | _ => false
noncomputable def zi_do (call : zi_K) (sl : List zi_V) (nL : Nat) (ret : Option FieldType) (pc : Nat) (al : List (Nat × zi_V)) (st : List zi_V) (A : List zi_C) (nc ns : Nat) (i : Instr) (n : Nat) (o : List Nat) : zi_O := match i with
  | .iconst k => zi_ps pc n al st A nc ns (.inl (.int (Int32.ofInt k)))
  | .bipush k => zi_ps pc n al st A nc ns (.inl (.int (Int8.ofInt k).toInt32))
  | .sipush k => zi_ps pc n al st A nc ns (.inl (.int (Int16.ofInt k).toInt32))
  | .lconst k => zi_ps pc n al st A nc ns (.inl (.long (Int64.ofNat k.val)))
  | .aconst_null => zi_ps pc n al st A nc ns (.inl .null)
  | .ldc _ => (match o with
      | 0 :: v :: _ => zi_ps pc n al st A nc ns (.inl (.int (Int32.ofNat v)))
      | 1 :: r :: _ => zi_ps pc n al st A nc ns (.inl (.ref r))
      | _ => none)
  | .ldc_w _ => (match o with
      | 0 :: v :: _ => zi_ps pc n al st A nc ns (.inl (.int (Int32.ofNat v)))
      | _ => none)
  | .ldc2_w _ => (match o with
      | v :: _ => zi_ps pc n al st A nc ns (.inl (.long (Int64.ofNat v)))
      | _ => none)
  | .iload k => zi_ld pc n al st A nc ns k 0
  | .iload_n k => zi_ld pc n al st A nc ns k.val 0
  | .lload k => zi_ld pc n al st A nc ns k 1
  | .lload_n k => zi_ld pc n al st A nc ns k.val 1
  | .aload k => zi_lda pc n al st A nc ns k
  | .aload_n k => zi_lda pc n al st A nc ns k.val
  | .istore k => zi_sti pc n nL al st A nc ns k
  | .istore_n k => zi_sti pc n nL al st A nc ns k.val
  | .lstore k => zi_stl pc n nL al st A nc ns k
  | .lstore_n k => zi_stl pc n nL al st A nc ns k.val
  | .astore k => zi_sta pc n nL al st A nc ns k
  | .astore_n k => zi_sta pc n nL al st A nc ns k.val
  | .iinc k d => zi_inc pc n nL al st A nc ns k d
  | .iadd => zi_ii (fun x y => x + y) pc n al st A nc ns
  | .isub => zi_ii (fun x y => x - y) pc n al st A nc ns
  | .imul => zi_ii (fun x y => x * y) pc n al st A nc ns
  | .iand => zi_ii (fun x y => x &&& y) pc n al st A nc ns
  | .ior => zi_ii (fun x y => x ||| y) pc n al st A nc ns
  | .ixor => zi_ii (fun x y => x ^^^ y) pc n al st A nc ns
  | .ishl => zi_ii (fun x y => x <<< (y &&& 31)) pc n al st A nc ns
  | .ishr => zi_ii (fun x y => x >>> (y &&& 31)) pc n al st A nc ns
  | .iushr => zi_ii (fun x y => (x.toUInt32 >>> (y.toUInt32 &&& Int32.toUInt32 31)).toInt32) pc n al st A nc ns
  | .idiv => zi_iz (fun x y => x / y) pc n al st A nc ns
  | .irem => zi_iz (fun x y => x - x / y * y) pc n al st A nc ns
  | .ladd => zi_ll (fun x y => x + y) pc n al st A nc ns
  | .lsub => zi_ll (fun x y => x - y) pc n al st A nc ns
  | .lmul => zi_ll (fun x y => x * y) pc n al st A nc ns
  | .land => zi_ll (fun x y => x &&& y) pc n al st A nc ns
  | .lor => zi_ll (fun x y => x ||| y) pc n al st A nc ns
  | .lxor => zi_ll (fun x y => x ^^^ y) pc n al st A nc ns
  | .lcmp => zi_lc pc n al st A nc ns
  | .lshl => zi_lw (fun x y => x <<< (y.toInt64 &&& 63)) pc n al st A nc ns
  | .lshr => zi_lw (fun x y => x >>> (y.toInt64 &&& 63)) pc n al st A nc ns
  | .lushr => zi_lw (fun x y => (x.toUInt64 >>> (y.toInt64.toUInt64 &&& Int64.toUInt64 63)).toInt64) pc n al st A nc ns
  | .ineg => zi_i1 (fun x => .int (-x)) pc n al st A nc ns
  | .i2l => zi_i1 (fun x => .long x.toInt64) pc n al st A nc ns
  | .i2c => zi_i1 (fun x => .int (x.toUInt32 % 65536).toInt32) pc n al st A nc ns
  | .i2b => zi_i1 (fun x => .int x.toInt8.toInt32) pc n al st A nc ns
  | .l2i => zi_l1 (fun x => .int x.toInt32) pc n al st A nc ns
  | .lneg => zi_l1 (fun x => .long (-x)) pc n al st A nc ns
  | .dup => zi_dup pc n al st A nc ns
  | .pop => zi_pop pc n al st A nc ns
  | .dup2 => zi_dup2 pc n al st A nc ns
  | .ifCond c _ => (match o with | t :: _ => zi_if1 c pc n al st A nc ns t | _ => none)
  | .if_icmp c _ => (match o with | t :: _ => zi_if2 c pc n al st A nc ns t | _ => none)
  | .goto _ => (match o with | t :: _ => some (.inl (t, al, st, A, nc, ns)) | _ => none)
  | .ifnull _ => (match o with | t :: _ => zi_nul true pc n al st A nc ns t | _ => none)
  | .ifnonnull _ => (match o with | t :: _ => zi_nul false pc n al st A nc ns t | _ => none)
  | .tableswitch _ lo hi _ => zi_tsw lo hi al st A nc ns o
  | .getfield _ => (match o with | ci :: k :: _ => zi_get pc n al st A nc ns ci k | _ => none)
  | .putfield _ => (match o with | ci :: k :: _ => zi_put pc n al st A nc ns ci k | _ => none)
  | .getstatic _ => (match o with | k :: _ => zi_gts pc n al st A nc ns k | _ => none)
  | .arraylength => zi_len sl pc n al st A nc ns
  | .iaload => zi_ald 0 sl pc n al st A nc ns
  | .laload => zi_ald 1 sl pc n al st A nc ns
  | .baload => zi_ald 2 sl pc n al st A nc ns
  | .caload => zi_ald 3 sl pc n al st A nc ns
  | .aaload => zi_ald 7 sl pc n al st A nc ns
  | .iastore => zi_ast 0 pc n al st A nc ns
  | .lastore => zi_ast 1 pc n al st A nc ns
  | .bastore => zi_ast 2 pc n al st A nc ns
  | .castore => zi_ast 3 pc n al st A nc ns
  | .aastore => zi_aas pc n al st A nc ns
  | .new _ => (match o with | ci :: _ => zi_nw pc n al st A nc ns ci | _ => none)
  | .newarray _ => (match o with | t :: _ => zi_nwa pc n al st A nc ns t | _ => none)
  | .anewarray _ => (match o with | t :: _ => zi_nwa pc n al st A nc ns t | _ => none)
  | .invokestatic _ => (match o with
      | [z] => bif Nat.ble (zi_cats st) 10 then zi_mm z pc n al st A nc ns else none
      | mi :: k :: _ => zi_inv call pc n al st A nc ns mi k
      | _ => none)
  | .invokespecial _ => (match o with
      | [] => zi_obj pc n al st A nc ns
      | mi :: k :: _ => (match st[k - 1]? with | some (.inl (.ref _)) => bif Nat.ble 1 k then zi_inv call pc n al st A nc ns mi k else none | _ => none)
      | _ => none)
  | .invokevirtual _ => (match o with | mi :: k :: ci :: _ => bif Nat.ble 1 k && zi_rcv A ci st[k - 1]? then zi_inv call pc n al st A nc ns mi k else none | _ => none)
  | .ireturn => zi_ret 0 ret st
  | .lreturn => zi_ret 1 ret st
  | .areturn => zi_ret 2 ret st
  | .return_ => zi_rtv ret st
  | _ => none
def zi_isr (i : Instr) : Bool := match i with
  | .ireturn => true
  | .lreturn => true
  | .areturn => true
  | .return_ => true
  | _ => false
noncomputable def zi_stp (call : zi_K) (sl : List zi_V) (M : zi_M) (f : zi_F) : zi_O := match zi_lk2 f.1 M.2.2.2.2.1 with
  | some e => (match zi_do call sl M.2.2.1 M.2.2.2.1 f.1 f.2.1 f.2.2.1 f.2.2.2.1 f.2.2.2.2.1 f.2.2.2.2.2 e.1 e.2.1 e.2.2 with
    | some (.inl g) => some (.inl g)
    | some (.inr v) => bif zi_isr e.1 then some (.inr v) else none
    | none => none)
  | none => none
/-- the counts only grow -/
def zi_up (f g : zi_F) : Bool := Nat.ble f.2.2.2.2.1 g.2.2.2.2.1 && Nat.ble f.2.2.2.2.2 g.2.2.2.2.2
/-- a frame's run to its return -/
noncomputable def zi_loop (call : zi_K) (M : zi_M) (n : Nat) (f : zi_F) : Option zi_R := Nat.rec (motive := fun _ => zi_F → Option zi_R) (fun _ => none) (fun _ ih f => match zi_stp call [] M f with
  | some (.inl g) => bif zi_up f g then ih g else none
  | some (.inr v) => some (v, f.2.2.2.1, f.2.2.2.2.1, f.2.2.2.2.2)
  | none => none) n f
noncomputable def zi_ev (Ms : List zi_M) (n d : Nat) : zi_K := Nat.rec (motive := fun _ => zi_K) (fun _ _ _ => none) (fun _ ih mi vs A => match Ms[mi]? with
  | some M => bif Nat.ble (zi_cats vs) M.2.2.1 then zi_loop ih M n (0, zi_ent 0 vs, [], A, 0, 0) else none
  | none => none) d
/-- so many steps of a frame -/
noncomputable def zi_run (call : zi_K) (sl : List zi_V) (M : zi_M) (n : Nat) (f : zi_F) : Option zi_F := Nat.rec (motive := fun _ => zi_F → Option zi_F) (fun f => some f) (fun _ ih f => match zi_stp call sl M f with
  | some (.inl g) => bif zi_up f g then ih g else none
  | _ => none) n f
end
section
/-! The relation between abstract and concrete states. -/
theorem zi_F2_cons {α β : Type} {r : α → β → Prop} {a : α} {as : List α} {l : List β} (h : zi_F2 r (a :: as) l) : ∃ b bs, l = b :: bs ∧ r a b ∧ zi_F2 r as bs := by
  cases l with
  | nil => exact h.elim
  | cons b bs => exact ⟨b, bs, rfl, h.1, h.2⟩
theorem zi_F2_nil {α β : Type} {r : α → β → Prop} {l : List β} (h : zi_F2 r ([] : List α) l) : l = [] := by
  cases l with
  | nil => rfl
  | cons b bs => exact h.elim
theorem zi_F2_len {α β : Type} {r : α → β → Prop} : ∀ {as : List α} {bs : List β}, zi_F2 r as bs → as.length = bs.length
  | [], [], _ => rfl
  | _ :: _, _ :: _, h => by simp [zi_F2_len h.2]
  | [], _ :: _, h => h.elim
  | _ :: _, [], h => h.elim
theorem zi_F2_get {α β : Type} {r : α → β → Prop} : ∀ {as : List α} {bs : List β}, zi_F2 r as bs → ∀ {i : Nat} {a : α}, as[i]? = some a → ∃ b, bs[i]? = some b ∧ r a b
  | [], _, _, _, _, h => by simp at h
  | _ :: _, [], h, _, _, _ => h.elim
  | a :: as, b :: bs, h, 0, x, hx => by
    have e : a = x := by simpa using hx
    rw [← e]
    exact ⟨b, rfl, h.1⟩
  | a :: as, b :: bs, h, i + 1, x, hx => by
    obtain ⟨y, hy, hr⟩ := zi_F2_get h.2 (i := i) (a := x) (by simpa using hx)
    exact ⟨y, by simpa using hy, hr⟩
theorem zi_F2_mono {α β : Type} {r r' : α → β → Prop} (hr : ∀ a b, r a b → r' a b) : ∀ {as : List α} {bs : List β}, zi_F2 r as bs → zi_F2 r' as bs
  | [], [], _ => trivial
  | _ :: _, _ :: _, h => ⟨hr _ _ h.1, zi_F2_mono hr h.2⟩
  | [], _ :: _, h => h.elim
  | _ :: _, [], h => h.elim
theorem zi_F2_set {α β : Type} {r : α → β → Prop} {a : α} {b : β} (hab : r a b) : ∀ {as : List α} {bs : List β}, zi_F2 r as bs → ∀ i : Nat, zi_F2 r (as.set i a) (bs.set i b)
  | [], [], _, _ => by simp [zi_F2]
  | _ :: _, _ :: _, h, 0 => ⟨hab, h.2⟩
  | _ :: _, _ :: _, h, i + 1 => ⟨h.1, zi_F2_set hab h.2 i⟩
  | [], _ :: _, h, _ => h.elim
  | _ :: _, [], h, _ => h.elim
theorem zi_F2_app {α β : Type} {r : α → β → Prop} : ∀ {as : List α} {bs : List β}, zi_F2 r as bs → ∀ {cs : List α} {ds : List β}, zi_F2 r cs ds → zi_F2 r (as ++ cs) (bs ++ ds)
  | [], [], _, _, _, h => h
  | _ :: _, _ :: _, h, _, _, h2 => ⟨h.1, zi_F2_app h.2 h2⟩
  | [], _ :: _, h, _, _, _ => h.elim
  | _ :: _, [], h, _, _, _ => h.elim
theorem zi_F2_take {α β : Type} {r : α → β → Prop} : ∀ {as : List α} {bs : List β}, zi_F2 r as bs → ∀ k : Nat, zi_F2 r (as.take k) (bs.take k)
  | [], [], _, k => by simp [zi_F2]
  | _ :: _, _ :: _, _, 0 => by simp [zi_F2]
  | _ :: _, _ :: _, h, k + 1 => ⟨h.1, zi_F2_take h.2 k⟩
  | [], _ :: _, h, _ => h.elim
  | _ :: _, [], h, _ => h.elim
theorem zi_F2_drop {α β : Type} {r : α → β → Prop} : ∀ {as : List α} {bs : List β}, zi_F2 r as bs → ∀ k : Nat, zi_F2 r (as.drop k) (bs.drop k)
  | [], [], _, k => by simp [zi_F2]
  | _ :: _, _ :: _, h, 0 => h
  | _ :: _, _ :: _, h, k + 1 => zi_F2_drop h.2 k
  | [], _ :: _, h, _ => h.elim
  | _ :: _, [], h, _ => h.elim
theorem zi_F2_rev {α β : Type} {r : α → β → Prop} : ∀ {as : List α} {bs : List β}, zi_F2 r as bs → zi_F2 r as.reverse bs.reverse
  | [], [], _ => trivial
  | a :: as, b :: bs, h => by
    rw [List.reverse_cons, List.reverse_cons]
    exact zi_F2_app (zi_F2_rev h.2) ⟨h.1, trivial⟩
  | [], _ :: _, h => h.elim
  | _ :: _, [], h => h.elim
/-- the address of an abstract place: 4 Strings, their 4 byte rows, the script, none, the cells that were made -/
def zi_ad (adK adV : Nat → Nat) (b : Nat) (ws : va_W) (i : Nat) : Option Nat := if i < 4 then some (adK i) else if i < 8 then some (adV (i - 4)) else if i = 8 then some b else if i = 9 then none else (ws[i - 10]?).map (fun q => q.1)
def zi_vr (ad : Nat → Option Nat) (v : zi_V) (w : Value) : Prop := match v with
  | .inl (.int x) => w = .int x
  | .inl (.long x) => w = .long x
  | .inl .null => w = .null
  | .inl (.ref i) => ∃ a, ad i = some a ∧ w = .ref a
  | .inl (.retAddr _) => w = .null ∨ ∃ a, w = .ref a
  | .inl (.float _) => False
  | .inl (.double _) => False
  | .inr q => ∃ x, w = .int x ∧ q.1 ≤ x ∧ x ≤ q.2
def zi_ar (ad : Nat → Option Nat) (dA : Nat → ClassId) (t n : Nat) (d : zi_V) (us : List (Nat × zi_V)) (e : va_E) : Prop := match zi_tk t with
  | 0 => ∃ f : Nat → Int32, e = .inl (dA t, n, .inl f) ∧ ∀ j, j < n → zi_vr ad (zi_look d us j) (.int (f j))
  | 1 => ∃ f : Nat → Int64, e = .inl (dA t, n, .inr (.inl f)) ∧ ∀ j, j < n → zi_vr ad (zi_look d us j) (.long (f j))
  | _ => ∃ f : Nat → Option Nat, e = .inl (dA t, n, .inr (.inr (.inr (.inr f)))) ∧ ∀ j, j < n → zi_vr ad (zi_look d us j) (va_rf (f j))
def zi_cr (ad : Nat → Option Nat) (dA : Nat → ClassId) (c : zi_C) (q : Nat × va_E) : Prop := match c with
  | .inl (ci, fs) => ∃ vs, q.2 = .inr (ci, vs) ∧ zi_F2 (zi_vr ad) fs vs
  | .inr (t, n, d, us) => zi_ar ad dA t n d us q.2
def zi_mo (ad ad' : Nat → Option Nat) : Prop := ∀ i a, ad i = some a → ad' i = some a
theorem zi_vr_mo {ad ad' : Nat → Option Nat} (h : zi_mo ad ad') {v : zi_V} {w : Value} (hv : zi_vr ad v w) : zi_vr ad' v w := by
  unfold zi_vr at hv ⊢
  split at hv <;> first | exact hv | (obtain ⟨a, h1, h2⟩ := hv; exact ⟨a, h _ _ h1, h2⟩)
theorem zi_cr_mo {ad ad' : Nat → Option Nat} (h : zi_mo ad ad') {dA : Nat → ClassId} {c : zi_C} {q : Nat × va_E} (hc : zi_cr ad dA c q) : zi_cr ad' dA c q := by
  unfold zi_cr at hc ⊢
  split at hc
  · obtain ⟨vs, h1, h2⟩ := hc
    exact ⟨vs, h1, zi_F2_mono (fun _ _ => zi_vr_mo h) h2⟩
  · unfold zi_ar at hc ⊢
    split at hc <;> (obtain ⟨f, h1, h2⟩ := hc; exact ⟨f, h1, fun j hj => zi_vr_mo h (h2 j hj)⟩)
theorem zi_mo_refl {ad : Nat → Option Nat} : zi_mo ad ad := fun _ _ h => h
def zi_ex (ws ws' : va_W) : Prop := ∀ (i q : Nat) (e : va_E), ws[i]? = some (q, e) → ∃ e', ws'[i]? = some (q, e')
theorem zi_ex_refl (ws : va_W) : zi_ex ws ws := fun _ _ e h => ⟨e, h⟩
theorem zi_ex_trans {a b c : va_W} (h1 : zi_ex a b) (h2 : zi_ex b c) : zi_ex a c := fun i q e h => by
  obtain ⟨e', h'⟩ := h1 i q e h
  exact h2 i q e' h'
theorem zi_ex_mo {adK adV : Nat → Nat} {b : Nat} {ws ws' : va_W} (h : zi_ex ws ws') : zi_mo (zi_ad adK adV b ws) (zi_ad adK adV b ws') := by
  intro i a hi
  unfold zi_ad at hi ⊢
  by_cases h1 : i < 4
  · rw [if_pos h1] at hi ⊢; exact hi
  · by_cases h2 : i < 8
    · rw [if_neg h1, if_pos h2] at hi ⊢; exact hi
    · by_cases h3 : i = 8
      · rw [if_neg h1, if_neg h2, if_pos h3] at hi ⊢; exact hi
      · by_cases h4 : i = 9
        · rw [if_neg h1, if_neg h2, if_neg h3, if_pos h4] at hi; cases hi
        · rw [if_neg h1, if_neg h2, if_neg h3, if_neg h4] at hi ⊢
          cases hw : ws[i - 10]? with
          | none => rw [hw] at hi; cases hi
          | some q =>
            rw [hw] at hi
            have e1 : q.1 = a := Option.some.inj hi
            obtain ⟨e', h'⟩ := h (i - 10) q.1 q.2 hw
            rw [h', e1.symm]; rfl
theorem zi_ex_set {ws : va_W} {k a : Nat} {e e' : va_E} (h : ws[k]? = some (a, e)) : zi_ex ws (ws.set k (a, e')) := by
  intro i q x hx
  by_cases hik : i = k
  · subst hik
    rw [h] at hx
    cases hx
    have hl : i < ws.length := (List.getElem?_eq_some_iff.mp h).1
    exact ⟨e', by simp [hl]⟩
  · exact ⟨x, by rw [List.getElem?_set_ne (fun z => hik z.symm)]; exact hx⟩
theorem zi_ex_app {ws l : va_W} : zi_ex ws (ws ++ l) := by
  intro i q x hx
  have hl : i < ws.length := (List.getElem?_eq_some_iff.mp hx).1
  exact ⟨x, by rw [List.getElem?_append_left hl]; exact hx⟩
theorem zi_ad_own {adK adV : Nat → Nat} {b : Nat} {ws : va_W} {r a : Nat} (hr : 10 ≤ r) (h : zi_ad adK adV b ws r = some a) : ∃ e, ws[r - 10]? = some (a, e) := by
  unfold zi_ad at h
  rw [if_neg (by omega), if_neg (by omega), if_neg (by omega), if_neg (by omega)] at h
  cases hw : ws[r - 10]? with
  | none => rw [hw] at h; cases h
  | some q => rw [hw] at h; exact ⟨q.2, by rw [← Option.some.inj h]⟩
theorem zi_ad_str {adK adV : Nat → Nat} {b : Nat} {ws : va_W} {r a : Nat} (hr : r < 4) (h : zi_ad adK adV b ws r = some a) : a = adK r := by
  unfold zi_ad at h
  rw [if_pos hr] at h
  exact (Option.some.inj h).symm
theorem zi_ad_byt {adK adV : Nat → Nat} {b : Nat} {ws : va_W} {r a : Nat} (h4 : 4 ≤ r) (hr : r < 8) (h : zi_ad adK adV b ws r = some a) : a = adV (r - 4) := by
  unfold zi_ad at h
  rw [if_neg (by omega), if_pos hr] at h
  exact (Option.some.inj h).symm
theorem zi_ad_scr {adK adV : Nat → Nat} {b : Nat} {ws : va_W} {a : Nat} (h : zi_ad adK adV b ws 8 = some a) : a = b := by
  unfold zi_ad at h
  exact (Option.some.inj h).symm
theorem zi_vr_cat {ad : Nat → Option Nat} {v : zi_V} {w : Value} (h : zi_vr ad v w) : w.category = zi_cat v := by
  unfold zi_vr at h
  split at h
  · subst h; rfl
  · subst h; rfl
  · subst h; rfl
  · obtain ⟨a, -, rfl⟩ := h; rfl
  · rcases h with rfl | ⟨a, rfl⟩ <;> rfl
  · exact h.elim
  · exact h.elim
  · obtain ⟨x, rfl, -, -⟩ := h; rfl
theorem zi_vr_int {ad : Nat → Option Nat} {v : zi_V} {w : Value} (h : zi_vr ad v w) (hk : zi_kd v = 0) : ∃ x, w = .int x := by
  unfold zi_vr at h
  split at h
  · exact ⟨_, h⟩
  · cases hk
  · cases hk
  · cases hk
  · cases hk
  · exact h.elim
  · exact h.elim
  · obtain ⟨x, e, -, -⟩ := h; exact ⟨x, e⟩
theorem zi_vr_long {ad : Nat → Option Nat} {v : zi_V} {w : Value} (h : zi_vr ad v w) (hk : zi_kd v = 1) : ∃ x, w = .long x := by
  unfold zi_vr at h
  split at h
  · cases hk
  · exact ⟨_, h⟩
  · cases hk
  · cases hk
  · cases hk
  · exact h.elim
  · exact h.elim
  · cases hk
theorem zi_vr_ref {ad : Nat → Option Nat} {v : zi_V} {w : Value} (h : zi_vr ad v w) (hk : 2 ≤ zi_kd v) : w = .null ∨ ∃ a, w = .ref a := by
  unfold zi_vr at h
  split at h
  · exact absurd hk (by simp [zi_kd])
  · exact absurd hk (by simp [zi_kd])
  · exact Or.inl h
  · obtain ⟨a, -, e⟩ := h; exact Or.inr ⟨a, e⟩
  · exact h
  · exact h.elim
  · exact h.elim
  · exact absurd hk (by simp [zi_kd])
theorem zi_vr_iv {ad : Nat → Option Nat} {v : zi_V} {w : Value} (h : zi_vr ad v w) {q : Int32 × Int32} (hq : zi_iv v = some q) : ∃ x, w = .int x ∧ q.1 ≤ x ∧ x ≤ q.2 := by
  unfold zi_vr at h
  split at h
  · cases hq; exact ⟨_, h, Int32.le_refl _, Int32.le_refl _⟩
  · cases hq
  · cases hq
  · cases hq
  · cases hq
  · exact h.elim
  · exact h.elim
  · cases hq; exact h
/-- the locals -/
def zi_lr (ad : Nat → Option Nat) (p : Nat × zi_V) (q : Nat × Value) : Prop := p.1 = q.1 ∧ zi_vr ad p.2 q.2
theorem zi_loc_get {ad : Nat → Option Nat} {i : Nat} {v : zi_V} : ∀ {al : List (Nat × zi_V)} {lv : List (Nat × Value)}, zi_F2 (zi_lr ad) al lv → zi_loc al i = some v → ∃ (k : Nat) (w : Value), lv[k]? = some (i, w) ∧ zi_vr ad v w
  | [], _, _, h => by cases h
  | _ :: _, [], h, _ => h.elim
  | p :: al, q :: lv, h, hv => by
    have hv : (bif Nat.beq p.1 i then some p.2 else zi_loc al i) = some v := hv
    cases hb : Nat.beq p.1 i with
    | true =>
      rw [hb] at hv
      have e1 : p.2 = v := Option.some.inj hv
      have e2 : p.1 = i := Nat.eq_of_beq_eq_true hb
      exact ⟨0, q.2, by rw [← e2, h.1.1]; rfl, by rw [← e1]; exact h.1.2⟩
    | false =>
      rw [hb] at hv
      obtain ⟨k, w, h1, h2⟩ := zi_loc_get h.2 hv
      exact ⟨k + 1, w, by simpa using h1, h2⟩
theorem zi_beq (a b : Nat) : Nat.beq a b = (a == b) := by
  cases h : Nat.beq a b with
  | true => rw [Nat.eq_of_beq_eq_true h]; simp
  | false =>
    have := Nat.ne_of_beq_eq_false h
    simp [this]
theorem zi_del1_ok {ad : Nat → Option Nat} (i : Nat) : ∀ {al : List (Nat × zi_V)} {lv : List (Nat × Value)}, zi_F2 (zi_lr ad) al lv → zi_F2 (zi_lr ad) (zi_del1 i al) (lv.filter (fun q => !(q.1 == i) && !(q.1 + 1 == i && q.2.category == 2)))
  | [], [], _ => trivial
  | [], _ :: _, h => h.elim
  | _ :: _, [], h => h.elim
  | p :: al, q :: lv, h => by
    have ih := zi_del1_ok i h.2
    have e1 : zi_del1 i (p :: al) = bif (!(Nat.beq p.1 i) && !(Nat.beq (p.1 + 1) i && Nat.beq (zi_cat p.2) 2)) then p :: zi_del1 i al else zi_del1 i al := rfl
    have e2 : (!(Nat.beq p.1 i) && !(Nat.beq (p.1 + 1) i && Nat.beq (zi_cat p.2) 2)) = (!(q.1 == i) && !(q.1 + 1 == i && q.2.category == 2)) := by
      rw [zi_beq, zi_beq, zi_beq, h.1.1, zi_vr_cat h.1.2]
    rw [e1, e2, List.filter_cons]
    cases (!(q.1 == i) && !(q.1 + 1 == i && q.2.category == 2)) with
    | true => exact ⟨h.1, ih⟩
    | false => exact ih
theorem zi_del2_ok {ad : Nat → Option Nat} (i : Nat) : ∀ {al : List (Nat × zi_V)} {lv : List (Nat × Value)}, zi_F2 (zi_lr ad) al lv → zi_F2 (zi_lr ad) (zi_del2 i al) (lv.filter (fun q => !(q.1 == i) && (!(q.1 == i + 1) && !(q.1 + 1 == i && q.2.category == 2))))
  | [], [], _ => trivial
  | [], _ :: _, h => h.elim
  | _ :: _, [], h => h.elim
  | p :: al, q :: lv, h => by
    have ih := zi_del2_ok i h.2
    have e1 : zi_del2 i (p :: al) = bif (!(Nat.beq p.1 i) && (!(Nat.beq p.1 (i + 1)) && !(Nat.beq (p.1 + 1) i && Nat.beq (zi_cat p.2) 2))) then p :: zi_del2 i al else zi_del2 i al := rfl
    have e2 : (!(Nat.beq p.1 i) && (!(Nat.beq p.1 (i + 1)) && !(Nat.beq (p.1 + 1) i && Nat.beq (zi_cat p.2) 2))) = (!(q.1 == i) && (!(q.1 == i + 1) && !(q.1 + 1 == i && q.2.category == 2))) := by
      rw [zi_beq, zi_beq, zi_beq, zi_beq, h.1.1, zi_vr_cat h.1.2]
    rw [e1, e2, List.filter_cons]
    cases (!(q.1 == i) && (!(q.1 == i + 1) && !(q.1 + 1 == i && q.2.category == 2))) with
    | true => exact ⟨h.1, ih⟩
    | false => exact ih
theorem zi_ent_ok {ad : Nat → Option Nat} : ∀ {vs : List zi_V} {ws : List Value}, zi_F2 (zi_vr ad) vs ws → ∀ i : Nat, zi_F2 (zi_lr ad) (zi_ent i vs) (lv_args i ws)
  | [], [], _, _ => trivial
  | [], _ :: _, h, _ => h.elim
  | _ :: _, [], h, _ => h.elim
  | v :: vs, w :: ws, h, i => by
    have e1 : zi_ent i (v :: vs) = (i, v) :: zi_ent (i + zi_cat v) vs := rfl
    have e2 : lv_args i (w :: ws) = (i, w) :: lv_args (i + zi_cat v) ws := by
      have hc := zi_vr_cat h.1
      rcases lv_cat w with h1 | h1
      · rw [lv_args, if_neg (by omega), ← hc, h1]
      · rw [lv_args, if_pos h1, ← hc, h1]
    rw [e1, e2]
    exact ⟨⟨rfl, h.1⟩, zi_ent_ok h.2 _⟩
theorem zi_cats_ok {ad : Nat → Option Nat} : ∀ {vs : List zi_V} {ws : List Value}, zi_F2 (zi_vr ad) vs ws → (ws.map fun v => v.category).sum = zi_cats vs
  | [], [], _ => rfl
  | [], _ :: _, h => h.elim
  | _ :: _, [], h => h.elim
  | v :: vs, w :: ws, h => by
    have e1 : zi_cats (v :: vs) = zi_cat v + zi_cats vs := rfl
    rw [e1, List.map_cons, List.sum_cons, zi_cats_ok h.2, zi_vr_cat h.1]
theorem zi_ilt (a b : Int32) : a < b ↔ a.toInt < b.toInt := Int32.lt_iff_toInt_lt
theorem zi_ile (a b : Int32) : a ≤ b ↔ a.toInt ≤ b.toInt := Int32.le_iff_toInt_le
theorem zi_ieq (a b : Int32) : a = b ↔ a.toInt = b.toInt := Int32.toInt_inj.symm
theorem zi_test_eq {x y : Int32} {a b : Int32 × Int32} (ha : a.1 ≤ x ∧ x ≤ a.2) (hb : b.1 ≤ y ∧ y ≤ b.2) {r : Bool} (h : zi_eq a b = some r) : (x = y) ↔ r = true := by
  have hx := (zi_ile _ _).mp ha.1
  have hx' := (zi_ile _ _).mp ha.2
  have hy := (zi_ile _ _).mp hb.1
  have hy' := (zi_ile _ _).mp hb.2
  rw [zi_ieq]
  unfold zi_eq at h
  cases h1 : (decide (a.2 < b.1) || decide (b.2 < a.1)) with
  | true =>
    rw [h1] at h
    cases h
    simp only [Bool.or_eq_true, decide_eq_true_eq, zi_ilt] at h1
    constructor
    · intro e; omega
    · intro e; cases e
  | false =>
    rw [h1] at h
    cases h2 : (decide (a.1 = a.2) && decide (b.1 = b.2) && decide (a.1 = b.1)) with
    | true =>
      rw [h2] at h
      cases h
      simp only [Bool.and_eq_true, decide_eq_true_eq, zi_ieq] at h2
      constructor
      · intro _; rfl
      · intro _; omega
    | false => rw [h2] at h; cases h
theorem zi_test_lt {x y : Int32} {a b : Int32 × Int32} (ha : a.1 ≤ x ∧ x ≤ a.2) (hb : b.1 ≤ y ∧ y ≤ b.2) {r : Bool} (h : zi_lt a b = some r) : (x < y) ↔ r = true := by
  have hx := (zi_ile _ _).mp ha.1
  have hx' := (zi_ile _ _).mp ha.2
  have hy := (zi_ile _ _).mp hb.1
  have hy' := (zi_ile _ _).mp hb.2
  rw [zi_ilt]
  unfold zi_lt at h
  cases h1 : decide (a.2 < b.1) with
  | true =>
    rw [h1] at h
    cases h
    simp only [decide_eq_true_eq, zi_ilt] at h1
    constructor
    · intro _; rfl
    · intro _; omega
  | false =>
    rw [h1] at h
    cases h2 : decide (b.2 ≤ a.1) with
    | true =>
      rw [h2] at h
      cases h
      simp only [decide_eq_true_eq, zi_ile] at h2
      constructor
      · intro e; omega
      · intro e; cases e
    | false => rw [h2] at h; cases h
theorem zi_test_le {x y : Int32} {a b : Int32 × Int32} (ha : a.1 ≤ x ∧ x ≤ a.2) (hb : b.1 ≤ y ∧ y ≤ b.2) {r : Bool} (h : zi_le a b = some r) : (x ≤ y) ↔ r = true := by
  have hx := (zi_ile _ _).mp ha.1
  have hx' := (zi_ile _ _).mp ha.2
  have hy := (zi_ile _ _).mp hb.1
  have hy' := (zi_ile _ _).mp hb.2
  rw [zi_ile]
  unfold zi_le at h
  cases h1 : decide (a.2 ≤ b.1) with
  | true =>
    rw [h1] at h
    cases h
    simp only [decide_eq_true_eq, zi_ile] at h1
    constructor
    · intro _; rfl
    · intro _; omega
  | false =>
    rw [h1] at h
    cases h2 : decide (b.2 < a.1) with
    | true =>
      rw [h2] at h
      cases h
      simp only [decide_eq_true_eq, zi_ilt] at h2
      constructor
      · intro e; omega
      · intro e; cases e
    | false => rw [h2] at h; cases h
end
section
/-! What holds throughout a frame; what a step is to give; steps that touch the stack and the locals alone. -/
def zi_gd : List Cond := lw_tbl.filter goodWord
def zi_at (q : Nat) (w : Cond) : Bool := decide (lw_tbl[q]? = some w) && goodWord w
theorem zi_at_mem {q : Nat} {w : Cond} (h : zi_at q w = true) : w ∈ zi_gd := by
  unfold zi_at at h
  rw [Bool.and_eq_true, decide_eq_true_eq] at h
  exact List.mem_filter.mpr ⟨List.mem_of_getElem? h.1, h.2⟩
def zi_tys (dA : Nat → ClassId) : List (ClassId × FieldType) := (List.range 7).map (fun t => (dA t, zi_ft t))
theorem zi_tys_at (dA : Nat → ClassId) {t : Nat} (h : t < 7) : (zi_tys dA)[t]? = some (dA t, zi_ft t) := by
  unfold zi_tys
  rw [List.getElem?_map, List.getElem?_range h]
  rfl
/-- what a state gives: the classes, the Strings, the statics, the words of the nest -/
def zi_X (B0 : Nat) (D : va_G) (dA : Nat → ClassId) (adK adV : Nat → Nat) (U : State) : Prop :=
  va_K D zi_cl (zi_tys dA) U ∧ vk_S 4 zi_sn zi_sb adK adV (fun q => B0 ≤ q) U U.heap ∧ (∀ (i : Nat) (q : String × Nat × String), zi_sr[i]? = some q → vk_R q.1 q.2.1 q.2.2 (adK i) U) ∧
  va_Z "java/lang/String" "COMPACT_STRINGS" "Z" (.int 1) (fun q => B0 ≤ q) U U.heap ∧ va_Zq "jdk/internal/util/Preconditions" "SIOOBE_FORMATTER" "Ljava/util/function/BiFunction;" (fun q => B0 ≤ q) U U.heap ∧
  (∀ q ∈ zi_nest, va_Nw (.methodLinkNest q.1 q.2.1 q.2.2.1 q.2.2.2) U) ∧ (va_AO "AgreeTold$FutureSet" U ∧ va_AO "AgreeTold$Story" U ∧ va_AO "AgreeTold$Saying" U) ∧ B0 ≤ U.heap.size
theorem zi_X_mv {B0 : Nat} {D : va_G} {dA : Nat → ClassId} {adK adV : Nat → Nat} {s U : State} {H : Heap} {locs : List Loc} (h : zi_X B0 D dA adK adV s) (hW : s.WarmedH U.vm) (hU : U.heap = H) (hS : va_S (fun q => B0 ≤ q) s.heap H locs) : zi_X B0 D dA adK adV U := by
  obtain ⟨h1, h2, h3, h4, h5, h6, h7, h8⟩ := h
  subst hU
  exact ⟨va_K.moved hW.alike h1, vk_S.moved hW.alike (h2.kept hS.2.1), fun i q hq => vk_R.warm hW (h3 i q hq), va_Z.moved hW.alike (h4.kept hS.2.1), va_Zq.moved hW.alike (h5.kept hS.2.1), fun q hq => va_Nw.warmM hW (h6 q hq), ⟨va_AO.moved hW.alike h7.1, va_AO.moved hW.alike h7.2.1, va_AO.moved hW.alike h7.2.2⟩, Nat.le_trans h8 hS.1⟩
theorem zi_X_cl {B0 : Nat} {D : va_G} {dA : Nat → ClassId} {adK adV : Nat → Nat} {U : State} {g : JFrame} {mk : MethodId} {a : Array Value} (h : zi_X B0 D dA adK adV U) : zi_X B0 D dA adK adV (U.calling g mk a) :=
  zi_X_mv (locs := []) h (U := U.calling g mk a) (State.WarmedH.refl U) rfl va_S.rf
def zi_Cx (p : Program) (R : Room) (s : State) (m : MethodId) (args : Array Value) (meth : Method) (c : Code) (B0 : Nat) (D : va_G) (dA : Nat → ClassId) (adK adV : Nat → Nat) (b : Nat) (M : zi_M) (d : Nat) (sl : List zi_V) : Prop :=
  (p.tables.exec = Jvm.exec ∧ c.code = M.2.1 ∧ c.maxLocals = M.2.2.1 ∧ meth.sig.returnType = M.2.2.2.1 ∧ s.vm.findClass M.1.cls = some m.cls ∧ (∀ w ∈ zi_gd, w.before args s = true) ∧ meth.locks = false ∧ meth.name = M.1.name) ∧ zi_X B0 D dA adK adV s ∧ (d + 1 ≤ R.frames ∧ 60 * (d + 1) ≤ R.locals) ∧
  (sl = [] ∨ ∃ xs : Nat → Int32, va_X b sl.length xs s s.heap ∧ b < s.heap.size ∧ b < B0 ∧ ∀ (ad : Nat → Option Nat) (j : Nat) (v : zi_V), sl[j]? = some v → zi_vr ad v (.int (xs j)))
def zi_St (B0 : Nat) (D : va_G) (dA : Nat → ClassId) (adK adV : Nat → Nat) (b nL : Nat) (s : State) (f : zi_F) (ws : va_W) (H : Heap) (locs : List Loc) (ls : Array Slot) (sc : List Value) : Prop :=
  va_P D zi_cl ws H ∧ va_D (fun q => B0 ≤ q) ws ∧ va_S (fun q => B0 ≤ q) s.heap H locs ∧ zi_F2 (zi_cr (zi_ad adK adV b ws) dA) f.2.2.2.1 ws ∧ (∃ lv, lv_has ls nL lv ∧ zi_F2 (zi_lr (zi_ad adK adV b ws)) f.2.1 lv) ∧ zi_F2 (zi_vr (zi_ad adK adV b ws)) f.2.2.1 sc
abbrev zi_W (p : Program) (l : Launch) (e : Env) (R : Room) (s : State) (m : MethodId) (args : Array Value) (below : List Frame) (meth : Method) (c : Code) (Q : State → Prop) (nc ns pc : Nat) (H : Heap) (locs : List Loc) (ls : Array Slot) (sc : List Value) : Prop := W p l e R s m args below meth c H locs nc ns Q (F0 m pc ls sc)
def zi_Go (p : Program) (l : Launch) (e : Env) (R : Room) (s : State) (m : MethodId) (args : Array Value) (below : List Frame) (meth : Method) (c : Code) (B0 : Nat) (D : va_G) (dA : Nat → ClassId) (adK adV : Nat → Nat) (b nL : Nat) (f g : zi_F) : Prop :=
  ∀ (Q : State → Prop) (ws : va_W) (H : Heap) (locs : List Loc) (ls : Array Slot) (sc : List Value), zi_St B0 D dA adK adV b nL s f ws H locs ls sc → g.2.2.2.2.1 ≤ R.cells → g.2.2.2.2.2 ≤ R.slots →
    (∀ (ws' : va_W) (H' : Heap) (locs' : List Loc) (ls' : Array Slot) (sc' : List Value), zi_ex ws ws' → zi_St B0 D dA adK adV b nL s g ws' H' locs' ls' sc' → zi_W p l e R s m args below meth c Q g.2.2.2.2.1 g.2.2.2.2.2 g.1 H' locs' ls' sc') →
    zi_W p l e R s m args below meth c Q f.2.2.2.2.1 f.2.2.2.2.2 f.1 H locs ls sc
section ZG
variable {p : Program} {l : Launch} {e : Env} {R : Room} {s : State} {m : MethodId} {args : Array Value} {below : List Frame} {meth : Method} {c : Code} {B0 : Nat} {D : va_G} {dA : Nat → ClassId} {adK adV : Nat → Nat} {b nL : Nat}
variable {pc n : Nat} {al : List (Nat × zi_V)} {st : List zi_V} {A : List zi_C} {nc ns : Nat} {g : zi_F}
theorem zi_Go.tr {f g h : zi_F} (hm : g.2.2.2.2.1 ≤ h.2.2.2.2.1 ∧ g.2.2.2.2.2 ≤ h.2.2.2.2.2) (h1 : zi_Go p l e R s m args below meth c B0 D dA adK adV b nL f g) (h2 : zi_Go p l e R s m args below meth c B0 D dA adK adV b nL g h) : zi_Go p l e R s m args below meth c B0 D dA adK adV b nL f h := by
  intro Q ws H locs ls sc hS hc hs kk
  refine h1 Q ws H locs ls sc hS (Nat.le_trans hm.1 hc) (Nat.le_trans hm.2 hs) ?_
  intro ws' H' locs' ls' sc' hex hS'
  refine h2 Q ws' H' locs' ls' sc' hS' hc hs ?_
  intro ws2 H2 locs2 ls2 sc2 hex2 hS2
  exact kk ws2 H2 locs2 ls2 sc2 (zi_ex_trans hex hex2) hS2
theorem zi_Go.refl (f : zi_F) : zi_Go p l e R s m args below meth c B0 D dA adK adV b nL f f := fun _ ws H locs ls sc hS _ _ kk => kk ws H locs ls sc (zi_ex_refl ws) hS
end ZG
end
section
/-! Steps that touch the stack and the locals alone. -/
section ZS
variable {p : Program} {l : Launch} {e : Env} {R : Room} {s : State} {m : MethodId} {args : Array Value} {below : List Frame} {meth : Method} {c : Code} {B0 : Nat} {D : va_G} {dA : Nat → ClassId} {adK adV : Nat → Nat} {b nL : Nat}
variable {pc n : Nat} {al : List (Nat × zi_V)} {st : List zi_V} {A : List zi_C} {nc ns : Nat} {g : zi_F}
/-- a value comes onto the stack -/
theorem zi_go_ps {v : zi_V} {w : Value} (hw : ∀ ws, zi_vr (zi_ad adK adV b ws) v w) (row : ∀ (Q : State → Prop) (H : Heap) (locs : List Loc) (ls : Array Slot) (sc : List Value), zi_W p l e R s m args below meth c Q nc ns (pc + n) H locs ls (w :: sc) → zi_W p l e R s m args below meth c Q nc ns pc H locs ls sc) (h : zi_ps pc n al st A nc ns v = some (.inl g)) : zi_Go p l e R s m args below meth c B0 D dA adK adV b nL (pc, al, st, A, nc, ns) g := by
  cases h
  intro Q ws H locs ls sc hS _ _ kk
  obtain ⟨h1, h2, h3, h4, h5, h6⟩ := hS
  exact row Q H locs ls sc (kk ws H locs ls (w :: sc) (zi_ex_refl ws) ⟨h1, h2, h3, h4, h5, ⟨hw ws, h6⟩⟩)
/-- a local's value -/
theorem zi_go_ld {i k : Nat} (row : ∀ (Q : State → Prop) (H : Heap) (locs : List Loc) (ls : Array Slot) (sc : List Value) (w : Value), ls[i]? = some (.val w) → (k = 0 → ∃ x, w = .int x) → (k = 1 → ∃ x, w = .long x) → zi_W p l e R s m args below meth c Q nc ns (pc + n) H locs ls (w :: sc) → zi_W p l e R s m args below meth c Q nc ns pc H locs ls sc) (hk : k < 2) (h : zi_ld pc n al st A nc ns i k = some (.inl g)) : zi_Go p l e R s m args below meth c B0 D dA adK adV b nL (pc, al, st, A, nc, ns) g := by
  unfold zi_ld at h
  cases hv : zi_loc al i with
  | none => rw [hv] at h; cases h
  | some v =>
    rw [hv] at h
    dsimp only at h
    cases hb : Nat.beq (zi_kd v) k with
    | false => rw [hb] at h; cases h
    | true =>
      rw [hb] at h
      cases h
      have hb := Nat.eq_of_beq_eq_true hb
      intro Q ws H locs ls sc hS _ _ kk
      obtain ⟨h1, h2, h3, h4, ⟨lv, h5, h7⟩, h6⟩ := hS
      obtain ⟨j, w, hj, hw⟩ := zi_loc_get h7 hv
      exact row Q H locs ls sc w (lv_at h5 j hj) (fun e0 => zi_vr_int hw (hb.trans e0)) (fun e0 => zi_vr_long hw (hb.trans e0)) (kk ws H locs ls (w :: sc) (zi_ex_refl ws) ⟨h1, h2, h3, h4, ⟨lv, h5, h7⟩, ⟨hw, h6⟩⟩)
theorem zi_go_lda {i : Nat} (row : ∀ (Q : State → Prop) (H : Heap) (locs : List Loc) (ls : Array Slot) (sc : List Value) (w : Value), ls[i]? = some (.val w) → (w = .null ∨ ∃ a, w = .ref a) → zi_W p l e R s m args below meth c Q nc ns (pc + n) H locs ls (w :: sc) → zi_W p l e R s m args below meth c Q nc ns pc H locs ls sc) (h : zi_lda pc n al st A nc ns i = some (.inl g)) : zi_Go p l e R s m args below meth c B0 D dA adK adV b nL (pc, al, st, A, nc, ns) g := by
  unfold zi_lda at h
  cases hv : zi_loc al i with
  | none => rw [hv] at h; cases h
  | some v =>
    rw [hv] at h
    dsimp only at h
    cases hb : Nat.ble 2 (zi_kd v) with
    | false => rw [hb] at h; cases h
    | true =>
      rw [hb] at h
      cases h
      have hb := Nat.le_of_ble_eq_true hb
      intro Q ws H locs ls sc hS _ _ kk
      obtain ⟨h1, h2, h3, h4, ⟨lv, h5, h7⟩, h6⟩ := hS
      obtain ⟨j, w, hj, hw⟩ := zi_loc_get h7 hv
      exact row Q H locs ls sc w (lv_at h5 j hj) (zi_vr_ref hw hb) (kk ws H locs ls (w :: sc) (zi_ex_refl ws) ⟨h1, h2, h3, h4, ⟨lv, h5, h7⟩, ⟨hw, h6⟩⟩)
theorem zi_go_sti {i : Nat} (row : ∀ (Q : State → Prop) (H : Heap) (locs : List Loc) (ls : Array Slot) (sc : List Value) (x : Int32) (lv : List (Nat × Value)), lv_has ls nL lv → i < nL → (∀ ls', lv_has ls' nL ((i, Value.int x) :: lv.filter (fun q => !(q.1 == i) && !(q.1 + 1 == i && q.2.category == 2))) → zi_W p l e R s m args below meth c Q nc ns (pc + n) H locs ls' sc) → zi_W p l e R s m args below meth c Q nc ns pc H locs ls (.int x :: sc)) (h : zi_sti pc n nL al st A nc ns i = some (.inl g)) : zi_Go p l e R s m args below meth c B0 D dA adK adV b nL (pc, al, st, A, nc, ns) g := by
  unfold zi_sti at h
  cases st with
  | nil => cases h
  | cons v r =>
    dsimp only at h
    cases hb : (Nat.beq (zi_kd v) 0 && Nat.ble (i + 1) nL) with
    | false => rw [hb] at h; cases h
    | true =>
      rw [hb] at h
      cases h
      rw [Bool.and_eq_true] at hb
      have hb1 := Nat.eq_of_beq_eq_true hb.1
      have hb2 := Nat.le_of_ble_eq_true hb.2
      intro Q ws H locs ls sc hS _ _ kk
      obtain ⟨h1, h2, h3, h4, ⟨lv, h5, h7⟩, h6⟩ := hS
      obtain ⟨w, sc, rfl, hw, k1⟩ := zi_F2_cons h6
      obtain ⟨x, rfl⟩ := zi_vr_int hw hb1
      exact row Q H locs ls sc x lv h5 hb2 (fun ls' hl => kk ws H locs ls' sc (zi_ex_refl ws) ⟨h1, h2, h3, h4, ⟨_, hl, ⟨⟨rfl, hw⟩, zi_del1_ok i h7⟩⟩, k1⟩)
theorem zi_go_stl {i : Nat} (row : ∀ (Q : State → Prop) (H : Heap) (locs : List Loc) (ls : Array Slot) (sc : List Value) (x : Int64) (lv : List (Nat × Value)), lv_has ls nL lv → i + 1 < nL → (∀ ls', lv_has ls' nL ((i, Value.long x) :: lv.filter (fun q => !(q.1 == i) && (!(q.1 == i + 1) && !(q.1 + 1 == i && q.2.category == 2)))) → zi_W p l e R s m args below meth c Q nc ns (pc + n) H locs ls' sc) → zi_W p l e R s m args below meth c Q nc ns pc H locs ls (.long x :: sc)) (h : zi_stl pc n nL al st A nc ns i = some (.inl g)) : zi_Go p l e R s m args below meth c B0 D dA adK adV b nL (pc, al, st, A, nc, ns) g := by
  unfold zi_stl at h
  cases st with
  | nil => cases h
  | cons v r =>
    dsimp only at h
    cases hb : (Nat.beq (zi_kd v) 1 && Nat.ble (i + 2) nL) with
    | false => rw [hb] at h; cases h
    | true =>
      rw [hb] at h
      cases h
      rw [Bool.and_eq_true] at hb
      have hb1 := Nat.eq_of_beq_eq_true hb.1
      have hb2 := Nat.le_of_ble_eq_true hb.2
      intro Q ws H locs ls sc hS _ _ kk
      obtain ⟨h1, h2, h3, h4, ⟨lv, h5, h7⟩, h6⟩ := hS
      obtain ⟨w, sc, rfl, hw, k2⟩ := zi_F2_cons h6
      obtain ⟨x, rfl⟩ := zi_vr_long hw hb1
      exact row Q H locs ls sc x lv h5 hb2 (fun ls' hl => kk ws H locs ls' sc (zi_ex_refl ws) ⟨h1, h2, h3, h4, ⟨_, hl, ⟨⟨rfl, hw⟩, zi_del2_ok i h7⟩⟩, k2⟩)
theorem zi_go_sta {i : Nat} (row : ∀ (Q : State → Prop) (H : Heap) (locs : List Loc) (ls : Array Slot) (sc : List Value) (w : Value) (lv : List (Nat × Value)), (w = .null ∨ ∃ a, w = .ref a) → lv_has ls nL lv → i < nL → (∀ ls', lv_has ls' nL ((i, w) :: lv.filter (fun q => !(q.1 == i) && !(q.1 + 1 == i && q.2.category == 2))) → zi_W p l e R s m args below meth c Q nc ns (pc + n) H locs ls' sc) → zi_W p l e R s m args below meth c Q nc ns pc H locs ls (w :: sc)) (h : zi_sta pc n nL al st A nc ns i = some (.inl g)) : zi_Go p l e R s m args below meth c B0 D dA adK adV b nL (pc, al, st, A, nc, ns) g := by
  unfold zi_sta at h
  cases st with
  | nil => cases h
  | cons v r =>
    dsimp only at h
    cases hb : (Nat.ble 2 (zi_kd v) && Nat.ble (i + 1) nL) with
    | false => rw [hb] at h; cases h
    | true =>
      rw [hb] at h
      cases h
      rw [Bool.and_eq_true] at hb
      have hb1 := Nat.le_of_ble_eq_true hb.1
      have hb2 := Nat.le_of_ble_eq_true hb.2
      intro Q ws H locs ls sc hS _ _ kk
      obtain ⟨h1, h2, h3, h4, ⟨lv, h5, h7⟩, h6⟩ := hS
      obtain ⟨w, sc, rfl, hw, k3⟩ := zi_F2_cons h6
      exact row Q H locs ls sc w lv (zi_vr_ref hw hb1) h5 hb2 (fun ls' hl => kk ws H locs ls' sc (zi_ex_refl ws) ⟨h1, h2, h3, h4, ⟨_, hl, ⟨⟨rfl, hw⟩, zi_del1_ok i h7⟩⟩, k3⟩)
theorem zi_go_inc {i : Nat} {k : Int} (row : ∀ (Q : State → Prop) (H : Heap) (locs : List Loc) (ls : Array Slot) (sc : List Value) (x : Int32) (lv : List (Nat × Value)) (j : Nat), lv_has ls nL lv → lv[j]? = some (i, .int x) → i < nL → (∀ ls', lv_has ls' nL ((i, Value.int (x + Int32.ofInt k)) :: lv.filter (fun q => !(q.1 == i) && !(q.1 + 1 == i && q.2.category == 2))) → zi_W p l e R s m args below meth c Q nc ns (pc + n) H locs ls' sc) → zi_W p l e R s m args below meth c Q nc ns pc H locs ls sc) (h : zi_inc pc n nL al st A nc ns i k = some (.inl g)) : zi_Go p l e R s m args below meth c B0 D dA adK adV b nL (pc, al, st, A, nc, ns) g := by
  unfold zi_inc at h
  split at h
  · rename_i x hv
    cases hb : Nat.ble (i + 1) nL with
    | false => rw [hb] at h; cases h
    | true =>
      rw [hb] at h
      cases h
      have hb := Nat.le_of_ble_eq_true hb
      intro Q ws H locs ls sc hS _ _ kk
      obtain ⟨h1, h2, h3, h4, ⟨lv, h5, h7⟩, h6⟩ := hS
      obtain ⟨j, w, hj, hw⟩ := zi_loc_get h7 hv
      have hw : w = .int x := hw
      subst hw
      exact row Q H locs ls sc x lv j h5 hj hb (fun ls' hl => kk ws H locs ls' sc (zi_ex_refl ws) ⟨h1, h2, h3, h4, ⟨_, hl, ⟨⟨rfl, rfl⟩, zi_del1_ok i h7⟩⟩, h6⟩)
  · cases h
theorem zi_go_ii {op : Int32 → Int32 → Int32} (row : ∀ (Q : State → Prop) (H : Heap) (locs : List Loc) (ls : Array Slot) (sc : List Value) (x : Int32) (y : Int32), zi_W p l e R s m args below meth c Q nc ns (pc + n) H locs ls (Value.int (op x y) :: sc) → zi_W p l e R s m args below meth c Q nc ns pc H locs ls (Value.int y :: Value.int x :: sc)) (h : zi_ii op pc n al st A nc ns = some (.inl g)) : zi_Go p l e R s m args below meth c B0 D dA adK adV b nL (pc, al, st, A, nc, ns) g := by
  unfold zi_ii at h
  split at h
  · rename_i y x r
    cases h
    intro Q ws H locs ls sc hS _ _ kk
    obtain ⟨h1, h2, h3, h4, h5, h6⟩ := hS
    obtain ⟨w1, sc, rfl, hw1, k4⟩ := zi_F2_cons h6
    obtain ⟨w2, sc, rfl, hw2, k5⟩ := zi_F2_cons k4
    have hw1 : w1 = Value.int y := hw1
    have hw2 : w2 = Value.int x := hw2
    subst hw1 hw2
    exact row Q H locs ls sc x y (kk ws H locs ls _ (zi_ex_refl ws) ⟨h1, h2, h3, h4, h5, ⟨rfl, k5⟩⟩)
  · cases h
theorem zi_go_iz {op : Int32 → Int32 → Int32} (row : ∀ (Q : State → Prop) (H : Heap) (locs : List Loc) (ls : Array Slot) (sc : List Value) (x : Int32) (y : Int32), ¬ y = 0 → zi_W p l e R s m args below meth c Q nc ns (pc + n) H locs ls (Value.int (op x y) :: sc) → zi_W p l e R s m args below meth c Q nc ns pc H locs ls (Value.int y :: Value.int x :: sc)) (h : zi_iz op pc n al st A nc ns = some (.inl g)) : zi_Go p l e R s m args below meth c B0 D dA adK adV b nL (pc, al, st, A, nc, ns) g := by
  unfold zi_iz at h
  split at h
  · rename_i y x r
    cases hz : decide (y = 0) with
    | true => rw [hz] at h; cases h
    | false =>
    rw [hz] at h
    cases h
    have hz : ¬ y = 0 := of_decide_eq_false hz
    intro Q ws H locs ls sc hS _ _ kk
    obtain ⟨h1, h2, h3, h4, h5, h6⟩ := hS
    obtain ⟨w1, sc, rfl, hw1, k6⟩ := zi_F2_cons h6
    obtain ⟨w2, sc, rfl, hw2, k7⟩ := zi_F2_cons k6
    have hw1 : w1 = Value.int y := hw1
    have hw2 : w2 = Value.int x := hw2
    subst hw1 hw2
    exact row Q H locs ls sc x y hz (kk ws H locs ls _ (zi_ex_refl ws) ⟨h1, h2, h3, h4, h5, ⟨rfl, k7⟩⟩)
  · cases h
theorem zi_go_ll {op : Int64 → Int64 → Int64} (row : ∀ (Q : State → Prop) (H : Heap) (locs : List Loc) (ls : Array Slot) (sc : List Value) (x : Int64) (y : Int64), zi_W p l e R s m args below meth c Q nc ns (pc + n) H locs ls (Value.long (op x y) :: sc) → zi_W p l e R s m args below meth c Q nc ns pc H locs ls (Value.long y :: Value.long x :: sc)) (h : zi_ll op pc n al st A nc ns = some (.inl g)) : zi_Go p l e R s m args below meth c B0 D dA adK adV b nL (pc, al, st, A, nc, ns) g := by
  unfold zi_ll at h
  split at h
  · rename_i y x r
    cases h
    intro Q ws H locs ls sc hS _ _ kk
    obtain ⟨h1, h2, h3, h4, h5, h6⟩ := hS
    obtain ⟨w1, sc, rfl, hw1, k8⟩ := zi_F2_cons h6
    obtain ⟨w2, sc, rfl, hw2, k9⟩ := zi_F2_cons k8
    have hw1 : w1 = Value.long y := hw1
    have hw2 : w2 = Value.long x := hw2
    subst hw1 hw2
    exact row Q H locs ls sc x y (kk ws H locs ls _ (zi_ex_refl ws) ⟨h1, h2, h3, h4, h5, ⟨rfl, k9⟩⟩)
  · cases h
theorem zi_go_lw {op : Int64 → Int32 → Int64} (row : ∀ (Q : State → Prop) (H : Heap) (locs : List Loc) (ls : Array Slot) (sc : List Value) (x : Int64) (y : Int32), zi_W p l e R s m args below meth c Q nc ns (pc + n) H locs ls (Value.long (op x y) :: sc) → zi_W p l e R s m args below meth c Q nc ns pc H locs ls (Value.int y :: Value.long x :: sc)) (h : zi_lw op pc n al st A nc ns = some (.inl g)) : zi_Go p l e R s m args below meth c B0 D dA adK adV b nL (pc, al, st, A, nc, ns) g := by
  unfold zi_lw at h
  split at h
  · rename_i y x r
    cases h
    intro Q ws H locs ls sc hS _ _ kk
    obtain ⟨h1, h2, h3, h4, h5, h6⟩ := hS
    obtain ⟨w1, sc, rfl, hw1, k10⟩ := zi_F2_cons h6
    obtain ⟨w2, sc, rfl, hw2, k11⟩ := zi_F2_cons k10
    have hw1 : w1 = Value.int y := hw1
    have hw2 : w2 = Value.long x := hw2
    subst hw1 hw2
    exact row Q H locs ls sc x y (kk ws H locs ls _ (zi_ex_refl ws) ⟨h1, h2, h3, h4, h5, ⟨rfl, k11⟩⟩)
  · cases h
theorem zi_go_lc (row : ∀ (Q : State → Prop) (H : Heap) (locs : List Loc) (ls : Array Slot) (sc : List Value) (x : Int64) (y : Int64), zi_W p l e R s m args below meth c Q nc ns (pc + n) H locs ls (Value.int (lg_cmp x y) :: sc) → zi_W p l e R s m args below meth c Q nc ns pc H locs ls (Value.long y :: Value.long x :: sc)) (h : zi_lc pc n al st A nc ns = some (.inl g)) : zi_Go p l e R s m args below meth c B0 D dA adK adV b nL (pc, al, st, A, nc, ns) g := by
  unfold zi_lc at h
  split at h
  · rename_i y x r
    cases h
    intro Q ws H locs ls sc hS _ _ kk
    obtain ⟨h1, h2, h3, h4, h5, h6⟩ := hS
    obtain ⟨w1, sc, rfl, hw1, k12⟩ := zi_F2_cons h6
    obtain ⟨w2, sc, rfl, hw2, k13⟩ := zi_F2_cons k12
    have hw1 : w1 = Value.long y := hw1
    have hw2 : w2 = Value.long x := hw2
    subst hw1 hw2
    exact row Q H locs ls sc x y (kk ws H locs ls _ (zi_ex_refl ws) ⟨h1, h2, h3, h4, h5, ⟨rfl, k13⟩⟩)
  · cases h
theorem zi_go_i1 {op : Int32 → Value} (hop : ∀ x ad, zi_vr ad (.inl (op x)) (op x)) (row : ∀ (Q : State → Prop) (H : Heap) (locs : List Loc) (ls : Array Slot) (sc : List Value) (x : Int32), zi_W p l e R s m args below meth c Q nc ns (pc + n) H locs ls (op x :: sc) → zi_W p l e R s m args below meth c Q nc ns pc H locs ls (Value.int x :: sc)) (h : zi_i1 op pc n al st A nc ns = some (.inl g)) : zi_Go p l e R s m args below meth c B0 D dA adK adV b nL (pc, al, st, A, nc, ns) g := by
  unfold zi_i1 at h
  split at h
  · rename_i x r
    cases h
    intro Q ws H locs ls sc hS _ _ kk
    obtain ⟨h1, h2, h3, h4, h5, h6⟩ := hS
    obtain ⟨w1, sc, rfl, hw1, k14⟩ := zi_F2_cons h6
    have hw1 : w1 = Value.int x := hw1
    subst hw1
    exact row Q H locs ls sc x (kk ws H locs ls _ (zi_ex_refl ws) ⟨h1, h2, h3, h4, h5, ⟨hop x _, k14⟩⟩)
  · cases h
theorem zi_go_l1 {op : Int64 → Value} (hop : ∀ x ad, zi_vr ad (.inl (op x)) (op x)) (row : ∀ (Q : State → Prop) (H : Heap) (locs : List Loc) (ls : Array Slot) (sc : List Value) (x : Int64), zi_W p l e R s m args below meth c Q nc ns (pc + n) H locs ls (op x :: sc) → zi_W p l e R s m args below meth c Q nc ns pc H locs ls (Value.long x :: sc)) (h : zi_l1 op pc n al st A nc ns = some (.inl g)) : zi_Go p l e R s m args below meth c B0 D dA adK adV b nL (pc, al, st, A, nc, ns) g := by
  unfold zi_l1 at h
  split at h
  · rename_i x r
    cases h
    intro Q ws H locs ls sc hS _ _ kk
    obtain ⟨h1, h2, h3, h4, h5, h6⟩ := hS
    obtain ⟨w1, sc, rfl, hw1, k15⟩ := zi_F2_cons h6
    have hw1 : w1 = Value.long x := hw1
    subst hw1
    exact row Q H locs ls sc x (kk ws H locs ls _ (zi_ex_refl ws) ⟨h1, h2, h3, h4, h5, ⟨hop x _, k15⟩⟩)
  · cases h
theorem zi_go_dup (row : ∀ (Q : State → Prop) (H : Heap) (locs : List Loc) (ls : Array Slot) (sc : List Value) (w : Value), w.category = 1 → zi_W p l e R s m args below meth c Q nc ns (pc + n) H locs ls (w :: w :: sc) → zi_W p l e R s m args below meth c Q nc ns pc H locs ls (w :: sc)) (h : zi_dup pc n al st A nc ns = some (.inl g)) : zi_Go p l e R s m args below meth c B0 D dA adK adV b nL (pc, al, st, A, nc, ns) g := by
  unfold zi_dup at h
  cases st with
  | nil => cases h
  | cons v r =>
    dsimp only at h
    cases hb : Nat.beq (zi_cat v) 1 with
    | false => rw [hb] at h; cases h
    | true =>
      rw [hb] at h
      cases h
      have hb := Nat.eq_of_beq_eq_true hb
      intro Q ws H locs ls sc hS _ _ kk
      obtain ⟨h1, h2, h3, h4, h5, h6⟩ := hS
      obtain ⟨w1, sc, rfl, hw1, k16⟩ := zi_F2_cons h6
      exact row Q H locs ls sc w1 ((zi_vr_cat hw1).trans hb) (kk ws H locs ls _ (zi_ex_refl ws) ⟨h1, h2, h3, h4, h5, ⟨hw1, hw1, k16⟩⟩)
theorem zi_go_pop (row : ∀ (Q : State → Prop) (H : Heap) (locs : List Loc) (ls : Array Slot) (sc : List Value) (w : Value), w.category = 1 → zi_W p l e R s m args below meth c Q nc ns (pc + n) H locs ls sc → zi_W p l e R s m args below meth c Q nc ns pc H locs ls (w :: sc)) (h : zi_pop pc n al st A nc ns = some (.inl g)) : zi_Go p l e R s m args below meth c B0 D dA adK adV b nL (pc, al, st, A, nc, ns) g := by
  unfold zi_pop at h
  cases st with
  | nil => cases h
  | cons v r =>
    dsimp only at h
    cases hb : Nat.beq (zi_cat v) 1 with
    | false => rw [hb] at h; cases h
    | true =>
      rw [hb] at h
      cases h
      have hb := Nat.eq_of_beq_eq_true hb
      intro Q ws H locs ls sc hS _ _ kk
      obtain ⟨h1, h2, h3, h4, h5, h6⟩ := hS
      obtain ⟨w1, sc, rfl, hw1, k17⟩ := zi_F2_cons h6
      exact row Q H locs ls sc w1 ((zi_vr_cat hw1).trans hb) (kk ws H locs ls _ (zi_ex_refl ws) ⟨h1, h2, h3, h4, h5, k17⟩)
theorem zi_cat12 (v : zi_V) (h : Nat.beq (zi_cat v) 2 = false) : zi_cat v = 1 := by
  unfold zi_cat at h ⊢
  split at h
  · cases h
  · rfl
theorem zi_go_dup2 (row2 : ∀ (Q : State → Prop) (H : Heap) (locs : List Loc) (ls : Array Slot) (sc : List Value) (w : Value), w.category = 2 → zi_W p l e R s m args below meth c Q nc ns (pc + n) H locs ls (w :: w :: sc) → zi_W p l e R s m args below meth c Q nc ns pc H locs ls (w :: sc)) (row1 : ∀ (Q : State → Prop) (H : Heap) (locs : List Loc) (ls : Array Slot) (sc : List Value) (v w : Value), v.category = 1 → w.category = 1 → zi_W p l e R s m args below meth c Q nc ns (pc + n) H locs ls (v :: w :: v :: w :: sc) → zi_W p l e R s m args below meth c Q nc ns pc H locs ls (v :: w :: sc)) (h : zi_dup2 pc n al st A nc ns = some (.inl g)) : zi_Go p l e R s m args below meth c B0 D dA adK adV b nL (pc, al, st, A, nc, ns) g := by
  unfold zi_dup2 at h
  split at h
  · rename_i v w r
    cases hb : Nat.beq (zi_cat v) 2 with
    | true =>
      rw [hb] at h
      cases h
      have hb := Nat.eq_of_beq_eq_true hb
      intro Q ws H locs ls sc hS _ _ kk
      obtain ⟨h1, h2, h3, h4, h5, h6⟩ := hS
      obtain ⟨w1, sc, rfl, hw1, k18⟩ := zi_F2_cons h6
      exact row2 Q H locs ls sc w1 ((zi_vr_cat hw1).trans hb) (kk ws H locs ls _ (zi_ex_refl ws) ⟨h1, h2, h3, h4, h5, ⟨hw1, hw1, k18⟩⟩)
    | false =>
      rw [hb] at h
      have hv := zi_cat12 v hb
      cases hb2 : Nat.beq (zi_cat w) 1 with
      | false => rw [hb2] at h; cases h
      | true =>
        rw [hb2] at h
        cases h
        have hb2 := Nat.eq_of_beq_eq_true hb2
        intro Q ws H locs ls sc hS _ _ kk
        obtain ⟨h1, h2, h3, h4, h5, h6⟩ := hS
        obtain ⟨w1, sc, rfl, hw1, k19⟩ := zi_F2_cons h6
        obtain ⟨w2, sc, rfl, hw2, k20⟩ := zi_F2_cons k19
        exact row1 Q H locs ls sc w1 w2 ((zi_vr_cat hw1).trans hv) ((zi_vr_cat hw2).trans hb2) (kk ws H locs ls _ (zi_ex_refl ws) ⟨h1, h2, h3, h4, h5, ⟨hw1, hw2, hw1, hw2, k20⟩⟩)
  · cases h
/-- what a condition says of two ints -/
def zi_says (k : ClassFile.Cond) (x y : Int32) : Prop := match k with
  | .eq => x = y
  | .ne => ¬ x = y
  | .lt => x < y
  | .ge => y ≤ x
  | .gt => y < x
  | .le => x ≤ y
theorem zi_test_ok {k : ClassFile.Cond} {v w : zi_V} {a' b' : Value} {ad : Nat → Option Nat} (hv : zi_vr ad v a') (hw : zi_vr ad w b') {r : Bool} (h : zi_test k v w = some r) : ∃ x y, a' = .int x ∧ b' = .int y ∧ (zi_says k x y ↔ r = true) := by
  unfold zi_test at h
  split at h
  · rename_i qa qb e1 e2
    obtain ⟨x, rfl, hx⟩ := zi_vr_iv hv e1
    obtain ⟨y, rfl, hy⟩ := zi_vr_iv hw e2
    refine ⟨x, y, rfl, rfl, ?_⟩
    cases k with
    | eq => exact zi_test_eq hx hy h
    | ne =>
      have h : (zi_eq qa qb).map (fun q => !q) = some r := h
      cases he : zi_eq qa qb with
      | none => rw [he] at h; cases h
      | some r0 =>
        rw [he] at h
        have e3 : (!r0) = r := Option.some.inj h
        have h0 := zi_test_eq hx hy he
        show (¬ x = y) ↔ _
        rw [h0, ← e3]
        cases r0 <;> simp
    | lt => exact zi_test_lt hx hy h
    | ge => exact zi_test_le hy hx h
    | gt => exact zi_test_lt hy hx h
    | le => exact zi_test_le hx hy h
  · cases h
theorem zi_go_if1 {k : ClassFile.Cond} {tgt : Nat} (rowt : ∀ (Q : State → Prop) (H : Heap) (locs : List Loc) (ls : Array Slot) (sc : List Value) (x : Int32), (zi_says k x 0 → zi_W p l e R s m args below meth c Q nc ns tgt H locs ls sc) → (¬ zi_says k x 0 → zi_W p l e R s m args below meth c Q nc ns (pc + n) H locs ls sc) → zi_W p l e R s m args below meth c Q nc ns pc H locs ls (.int x :: sc)) (h : zi_if1 k pc n al st A nc ns tgt = some (.inl g)) : zi_Go p l e R s m args below meth c B0 D dA adK adV b nL (pc, al, st, A, nc, ns) g := by
  unfold zi_if1 at h
  split at h
  · rename_i v r
    unfold zi_br at h
    split at h
    · rename_i ht
      cases h
      intro Q ws H locs ls sc hS _ _ kk
      obtain ⟨h1, h2, h3, h4, h5, h6⟩ := hS
      obtain ⟨w1, sc, rfl, hw1, k21⟩ := zi_F2_cons h6
      obtain ⟨x, y, rfl, ey, hxy⟩ := zi_test_ok (w := .inl (.int 0)) (b' := .int 0) hw1 rfl ht
      cases ey
      exact rowt Q H locs ls sc x (fun _ => kk ws H locs ls _ (zi_ex_refl ws) ⟨h1, h2, h3, h4, h5, k21⟩) (fun z => absurd (hxy.mpr rfl) z)
    · rename_i ht
      cases h
      intro Q ws H locs ls sc hS _ _ kk
      obtain ⟨h1, h2, h3, h4, h5, h6⟩ := hS
      obtain ⟨w1, sc, rfl, hw1, k22⟩ := zi_F2_cons h6
      obtain ⟨x, y, rfl, ey, hxy⟩ := zi_test_ok (w := .inl (.int 0)) (b' := .int 0) hw1 rfl ht
      cases ey
      exact rowt Q H locs ls sc x (fun z => absurd (hxy.mp z) (by decide)) (fun _ => kk ws H locs ls _ (zi_ex_refl ws) ⟨h1, h2, h3, h4, h5, k22⟩)
    · cases h
  · cases h
theorem zi_go_if2 {k : ClassFile.Cond} {tgt : Nat} (rowt : ∀ (Q : State → Prop) (H : Heap) (locs : List Loc) (ls : Array Slot) (sc : List Value) (x y : Int32), (zi_says k x y → zi_W p l e R s m args below meth c Q nc ns tgt H locs ls sc) → (¬ zi_says k x y → zi_W p l e R s m args below meth c Q nc ns (pc + n) H locs ls sc) → zi_W p l e R s m args below meth c Q nc ns pc H locs ls (.int y :: .int x :: sc)) (h : zi_if2 k pc n al st A nc ns tgt = some (.inl g)) : zi_Go p l e R s m args below meth c B0 D dA adK adV b nL (pc, al, st, A, nc, ns) g := by
  unfold zi_if2 at h
  split at h
  · rename_i w v r
    unfold zi_br at h
    split at h
    · rename_i ht
      cases h
      intro Q ws H locs ls sc hS _ _ kk
      obtain ⟨h1, h2, h3, h4, h5, h6⟩ := hS
      obtain ⟨w1, sc, rfl, hw1, k23⟩ := zi_F2_cons h6
      obtain ⟨w2, sc, rfl, hw2, k24⟩ := zi_F2_cons k23
      obtain ⟨x, y, rfl, rfl, hxy⟩ := zi_test_ok hw2 hw1 ht
      exact rowt Q H locs ls sc x y (fun _ => kk ws H locs ls _ (zi_ex_refl ws) ⟨h1, h2, h3, h4, h5, k24⟩) (fun z => absurd (hxy.mpr rfl) z)
    · rename_i ht
      cases h
      intro Q ws H locs ls sc hS _ _ kk
      obtain ⟨h1, h2, h3, h4, h5, h6⟩ := hS
      obtain ⟨w1, sc, rfl, hw1, k25⟩ := zi_F2_cons h6
      obtain ⟨w2, sc, rfl, hw2, k26⟩ := zi_F2_cons k25
      obtain ⟨x, y, rfl, rfl, hxy⟩ := zi_test_ok hw2 hw1 ht
      exact rowt Q H locs ls sc x y (fun z => absurd (hxy.mp z) (by decide)) (fun _ => kk ws H locs ls _ (zi_ex_refl ws) ⟨h1, h2, h3, h4, h5, k26⟩)
    · cases h
  · cases h
theorem zi_go_nul {k : Bool} {tgt : Nat} (rown : ∀ (Q : State → Prop) (H : Heap) (locs : List Loc) (ls : Array Slot) (sc : List Value), zi_W p l e R s m args below meth c Q nc ns (bif k then tgt else pc + n) H locs ls sc → zi_W p l e R s m args below meth c Q nc ns pc H locs ls (.null :: sc)) (rowr : ∀ (Q : State → Prop) (H : Heap) (locs : List Loc) (ls : Array Slot) (sc : List Value) (a : Nat), zi_W p l e R s m args below meth c Q nc ns (bif k then pc + n else tgt) H locs ls sc → zi_W p l e R s m args below meth c Q nc ns pc H locs ls (.ref a :: sc)) (h : zi_nul k pc n al st A nc ns tgt = some (.inl g)) : zi_Go p l e R s m args below meth c B0 D dA adK adV b nL (pc, al, st, A, nc, ns) g := by
  unfold zi_nul at h
  split at h
  · rename_i r
    cases k with
    | true =>
      cases h
      intro Q ws H locs ls sc hS _ _ kk
      obtain ⟨h1, h2, h3, h4, h5, h6⟩ := hS
      obtain ⟨w1, sc, rfl, hw1, k27⟩ := zi_F2_cons h6
      have hw1 : w1 = .null := hw1
      subst hw1
      exact rown Q H locs ls sc (kk ws H locs ls _ (zi_ex_refl ws) ⟨h1, h2, h3, h4, h5, k27⟩)
    | false =>
      cases h
      intro Q ws H locs ls sc hS _ _ kk
      obtain ⟨h1, h2, h3, h4, h5, h6⟩ := hS
      obtain ⟨w1, sc, rfl, hw1, k28⟩ := zi_F2_cons h6
      have hw1 : w1 = .null := hw1
      subst hw1
      exact rown Q H locs ls sc (kk ws H locs ls _ (zi_ex_refl ws) ⟨h1, h2, h3, h4, h5, k28⟩)
  · rename_i i r
    cases k with
    | true =>
      cases h
      intro Q ws H locs ls sc hS _ _ kk
      obtain ⟨h1, h2, h3, h4, h5, h6⟩ := hS
      obtain ⟨w1, sc, rfl, ⟨a, -, rfl⟩, k29⟩ := zi_F2_cons h6
      exact rowr Q H locs ls sc a (kk ws H locs ls _ (zi_ex_refl ws) ⟨h1, h2, h3, h4, h5, k29⟩)
    | false =>
      cases h
      intro Q ws H locs ls sc hS _ _ kk
      obtain ⟨h1, h2, h3, h4, h5, h6⟩ := hS
      obtain ⟨w1, sc, rfl, ⟨a, -, rfl⟩, k30⟩ := zi_F2_cons h6
      exact rowr Q H locs ls sc a (kk ws H locs ls _ (zi_ex_refl ws) ⟨h1, h2, h3, h4, h5, k30⟩)
  · cases h
theorem zi_go_tsw {lo hi : Int} {o : List Nat} (rowo : ∀ (Q : State → Prop) (H : Heap) (locs : List Loc) (ls : Array Slot) (sc : List Value) (x : Int32) (t : Nat) (ts : List Nat), o = t :: ts → (x.toInt < lo ∨ hi < x.toInt) → zi_W p l e R s m args below meth c Q nc ns t H locs ls sc → zi_W p l e R s m args below meth c Q nc ns pc H locs ls (.int x :: sc)) (rowi : ∀ (Q : State → Prop) (H : Heap) (locs : List Loc) (ls : Array Slot) (sc : List Value) (x : Int32) (t0 t : Nat) (ts : List Nat), o = t0 :: ts → ¬ x.toInt < lo → ¬ hi < x.toInt → ts[(x.toInt - lo).toNat]? = some t → zi_W p l e R s m args below meth c Q nc ns t H locs ls sc → zi_W p l e R s m args below meth c Q nc ns pc H locs ls (.int x :: sc)) (h : zi_tsw lo hi al st A nc ns o = some (.inl g)) : zi_Go p l e R s m args below meth c B0 D dA adK adV b nL (pc, al, st, A, nc, ns) g := by
  unfold zi_tsw at h
  split at h
  · rename_i v r t0 ts
    split at h
    · rename_i q hq
      cases hb : (decide (q.2.toInt < lo) || decide (hi < q.1.toInt)) with
      | true =>
        rw [hb] at h
        cases h
        intro Q ws H locs ls sc hS _ _ kk
        obtain ⟨h1, h2, h3, h4, h5, h6⟩ := hS
        obtain ⟨w1, sc, rfl, hw1, k31⟩ := zi_F2_cons h6
        obtain ⟨x, rfl, hx1, hx2⟩ := zi_vr_iv hw1 hq
        rw [zi_ile] at hx1 hx2
        simp only [Bool.or_eq_true, decide_eq_true_eq] at hb
        exact rowo Q H locs ls sc x t0 ts rfl (by omega) (kk ws H locs ls _ (zi_ex_refl ws) ⟨h1, h2, h3, h4, h5, k31⟩)
      | false =>
        rw [hb] at h
        cases hb2 : (decide (q.1 = q.2) && !decide (q.1.toInt < lo) && !decide (hi < q.1.toInt)) with
        | false => rw [hb2] at h; cases h
        | true =>
          rw [hb2] at h
          simp only [Bool.and_eq_true, decide_eq_true_eq, Bool.not_eq_true', decide_eq_false_iff_not, cond_true, cond_false] at hb2 h
          split at h
          · rename_i t ht
            cases h
            intro Q ws H locs ls sc hS _ _ kk
            obtain ⟨h1, h2, h3, h4, h5, h6⟩ := hS
            obtain ⟨w1, sc, rfl, hw1, k32⟩ := zi_F2_cons h6
            obtain ⟨x, rfl, hx1, hx2⟩ := zi_vr_iv hw1 hq
            have ex : x = q.1 := by
              rw [zi_ieq]
              rw [zi_ile] at hx1 hx2
              rw [← hb2.1.1] at hx2
              omega
            subst ex
            exact rowi Q H locs ls sc q.1 t0 t ts rfl hb2.1.2 hb2.2 ht (kk ws H locs ls _ (zi_ex_refl ws) ⟨h1, h2, h3, h4, h5, k32⟩)
          · cases h
    · cases h
  · cases h
end ZS
end
section
/-! Steps that read and write cells. -/
def zi_ckc (q : String × List ((String × String × String × Bool) × FieldType)) : Bool := (List.range q.2.length).all (fun k => decide (u_lay q.1 (fun k => (q.2.getD k (("", "", "", false), .int)).1) k ∈ lw_tbl) && goodWord (u_lay q.1 (fun k => (q.2.getD k (("", "", "", false), .int)).1) k) && decide (parseFieldDescriptor (q.2.getD k (("", "", "", false), .int)).1.2.2.1 = some (q.2.getD k (("", "", "", false), .int)).2) && !decide ((q.2.getD k (("", "", "", false), .int)).2 = .float) && !decide ((q.2.getD k (("", "", "", false), .int)).2 = .double) && (List.range q.2.length).all (fun j => decide (j = k) || !decide ((q.2.getD j (("", "", "", false), .int)).1.2.1 = (q.2.getD k (("", "", "", false), .int)).1.2.1)))
theorem zi_ckc_all : zi_Fs.all zi_ckc = true := by decide +kernel
end
section
def zi_Tf (q : String × List ((String × String × String × Bool) × FieldType)) : u_T := fun k => (q.2.getD k (("", "", "", false), .int)).1
theorem zi_cl_at {ci : Nat} {q : String × List ((String × String × String × Bool) × FieldType)} (h : zi_Fs[ci]? = some q) : zi_cl[ci]? = some (q.1, zi_Tf q, q.2.length) := by
  unfold zi_cl
  rw [List.getElem?_map, h]
  rfl
theorem zi_ty_at {ci : Nat} {q : String × List ((String × String × String × Bool) × FieldType)} (h : zi_Fs[ci]? = some q) (k : Nat) : zi_ty ci k = (q.2.getD k (("", "", "", false), .int)).2 := by
  have e1 : zi_Fs.getD ci ("", []) = q := by rw [List.getD_eq_getElem?_getD, h]; rfl
  unfold zi_ty
  rw [e1]
theorem zi_cl_ok {ci : Nat} {q : String × List ((String × String × String × Bool) × FieldType)} (h : zi_Fs[ci]? = some q) : (∀ w ∈ u_ws q.1 (zi_Tf q) q.2.length, w ∈ zi_gd) ∧ (∀ k, k < q.2.length → parseFieldDescriptor (zi_Tf q k).2.2.1 = some (zi_ty ci k)) ∧ (∀ a, a < q.2.length → ∀ b, b < q.2.length → a ≠ b → (zi_Tf q a).2.1 ≠ (zi_Tf q b).2.1) ∧ ∀ k, k < q.2.length → zi_ty ci k ≠ .float ∧ zi_ty ci k ≠ .double := by
  have hq := List.all_eq_true.mp zi_ckc_all q (List.mem_of_getElem? h)
  have key : ∀ k, k < q.2.length → _ := fun k hk => List.all_eq_true.mp hq k (List.mem_range.mpr hk)
  simp only [Bool.and_eq_true, decide_eq_true_eq, Bool.not_eq_true', decide_eq_false_iff_not] at key
  refine ⟨?_, ?_, ?_, ?_⟩
  · intro w hw
    obtain ⟨k, hk, rfl⟩ := List.mem_map.mp hw
    have := key k (List.mem_range.mp hk)
    exact List.mem_filter.mpr ⟨this.1.1.1.1.1, this.1.1.1.1.2⟩
  · intro k hk
    rw [zi_ty_at h]
    exact (key k hk).1.1.1.2
  · intro a ha b hb hab e
    have h1 := List.all_eq_true.mp (key b hb).2 a (List.mem_range.mpr ha)
    simp only [Bool.or_eq_true, decide_eq_true_eq, Bool.not_eq_true', decide_eq_false_iff_not] at h1
    rcases h1 with h1 | h1
    · exact hab h1
    · exact h1 e
  · intro k hk
    rw [zi_ty_at h]
    exact ⟨(key k hk).1.1.2, (key k hk).1.2⟩
theorem zi_cl_none : zi_cl[100]? = none := List.getElem?_eq_none_iff.mpr (by decide +kernel)
theorem zi_fit_ok {ad : Nat → Option Nat} {ty : FieldType} {v : zi_V} {w : Value} (h : zi_vr ad v w) (hf : zi_fit ty v = true) : narrow ty w = w ∧ fits ty w = true := by
  unfold zi_vr at h
  split at h
  · subst h
    unfold zi_fit at hf
    simpa using hf
  · subst h
    unfold zi_fit at hf
    simpa using hf
  · subst h
    unfold zi_fit at hf
    simpa using hf
  · obtain ⟨a, -, rfl⟩ := h
    unfold zi_fit at hf
    cases ty <;> first | exact ⟨rfl, rfl⟩ | (simp [fits] at hf)
  · unfold zi_fit at hf
    cases ty <;> simp [fits] at hf
  · exact h.elim
  · exact h.elim
  · obtain ⟨x, rfl, -, -⟩ := h
    unfold zi_fit at hf
    have hf : ty = .int := by simpa using hf
    subst hf
    exact ⟨rfl, rfl⟩
theorem zi_in_ok {x : Int32} {n : Nat} (h : zi_in x n = true) : vp_in x n := by
  unfold zi_in at h
  rw [Bool.and_eq_true, Bool.not_eq_true', decide_eq_false_iff_not] at h
  have h2 := Nat.le_of_ble_eq_true h.2
  intro z
  rcases z with z | z
  · exact h.1 z
  · omega
section ZH
variable {p : Program} {l : Launch} {e : Env} {R : Room} {s : State} {m : MethodId} {args : Array Value} {below : List Frame} {meth : Method} {c : Code} {B0 : Nat} {D : va_G} {dA : Nat → ClassId} {adK adV : Nat → Nat} {b : Nat} {M : zi_M} {d : Nat} {sl : List zi_V}
variable {pc : Nat} {al : List (Nat × zi_V)} {st : List zi_V} {A : List zi_C} {nc ns : Nat} {g : zi_F}
theorem zi_cell_obj {ws : va_W} {r a : Nat} {q : Nat × List zi_V} (h4 : zi_F2 (zi_cr (zi_ad adK adV b ws) dA) A ws) (hr : 10 ≤ r) (had : zi_ad adK adV b ws r = some a) (hA : A[r - 10]? = some (.inl q)) : ∃ vs, ws[r - 10]? = some (a, .inr (q.1, vs)) ∧ zi_F2 (zi_vr (zi_ad adK adV b ws)) q.2 vs := by
  obtain ⟨e0, h1⟩ := zi_ad_own hr had
  obtain ⟨x, h2, vs, h3, h5⟩ := zi_F2_get h4 hA
  rw [h1] at h2
  cases h2
  exact ⟨vs, by rw [h1]; have h3 : e0 = _ := h3; rw [h3], h5⟩
theorem zi_cell_arr {ws : va_W} {r a : Nat} {q : Nat × Nat × zi_V × List (Nat × zi_V)} (h4 : zi_F2 (zi_cr (zi_ad adK adV b ws) dA) A ws) (hr : 10 ≤ r) (had : zi_ad adK adV b ws r = some a) (hA : A[r - 10]? = some (.inr q)) : ∃ e0, ws[r - 10]? = some (a, e0) ∧ zi_ar (zi_ad adK adV b ws) dA q.1 q.2.1 q.2.2.1 q.2.2.2 e0 := by
  obtain ⟨e0, h1⟩ := zi_ad_own hr had
  obtain ⟨x, h2, h3⟩ := zi_F2_get h4 hA
  rw [h1] at h2
  cases h2
  exact ⟨e0, h1, h3⟩
theorem zi_go_get (C : zi_Cx p R s m args meth c B0 D dA adK adV b M d sl) {ci k i : Nat} (hd : decode M.2.1 pc = .ok (.getfield i, 3)) (ho : ci ≠ 100 → ∃ q, zi_Fs[ci]? = some q ∧ k < q.2.length ∧ Cond.fieldLink M.1.cls i (zi_Tf q k).1 (zi_Tf q k).2.1 (zi_Tf q k).2.2.1 ∈ zi_gd) (hs : ci = 100 → (k = 0 → Cond.fieldLink M.1.cls i "java/lang/String" "value" "[B" ∈ zi_gd) ∧ (k = 1 → Cond.fieldLink M.1.cls i "java/lang/String" "coder" "B" ∈ zi_gd)) (h : zi_get pc 3 al st A nc ns ci k = some (.inl g)) : zi_Go p l e R s m args below meth c B0 D dA adK adV b M.2.2.1 (pc, al, st, A, nc, ns) g := by
  obtain ⟨⟨hx, hb, hml, hret, hown, hts, hlk, hnm⟩, hX, -, -⟩ := C
  unfold zi_get at h
  split at h
  · rename_i r rest
    cases hb1 : Nat.ble 10 r with
    | true =>
      rw [hb1] at h
      have hr := Nat.le_of_ble_eq_true hb1
      simp only [cond_true] at h
      split at h
      · rename_i q hA
        cases hb2 : Nat.beq q.1 ci with
        | false => rw [hb2] at h; cases h
        | true =>
          rw [hb2] at h
          have e1 := Nat.eq_of_beq_eq_true hb2
          simp only [cond_true] at h
          split at h
          · rename_i v hv
            cases h
            intro Q ws H locs ls sc hS _ _ kk
            obtain ⟨h1, h2, h3, h4, h5, h6⟩ := hS
            obtain ⟨w1, sc, rfl, ⟨a, had, rfl⟩, k6⟩ := zi_F2_cons h6
            obtain ⟨vs, hvs, hF⟩ := zi_cell_obj h4 hr had hA
            obtain ⟨w, hw, hvr⟩ := zi_F2_get hF hv
            have hci : ci ≠ 100 := by
              intro z
              have hc1 := zi_F2_get h4 hA
              have hP1 := h1 (r - 10) _ hvs
              obtain ⟨rr, hrr, -⟩ := hP1
              rw [show q.1 = 100 from e1.trans z] at hrr
              rw [zi_cl_none] at hrr
              cases hrr
            obtain ⟨qq, hq1, hq2, hq3⟩ := ho hci
            rw [e1] at hvs
            exact va_get hx hb hts (zi_cl_ok hq1).1 hown hX.1 h1 (r - 10) hvs (zi_cl_at hq1) k hq2 (hts _ hq3) (fun x hx => hx) hw hd (kk ws H locs ls _ (zi_ex_refl ws) ⟨h1, h2, h3, h4, h5, ⟨hvr, k6⟩⟩)
          · cases h
      · cases h
    | false =>
      rw [hb1] at h
      simp only [cond_false] at h
      cases hb2 : (Nat.ble (r + 1) 4 && Nat.beq ci 100) with
      | false => rw [hb2] at h; cases h
      | true =>
        rw [hb2] at h
        rw [Bool.and_eq_true] at hb2
        have hr := Nat.le_of_ble_eq_true hb2.1
        obtain ⟨hs0, hs1⟩ := hs (Nat.eq_of_beq_eq_true hb2.2)
        simp only [cond_true] at h
        cases hb3 : Nat.beq k 0 with
        | true =>
          rw [hb3] at h
          cases h
          intro Q ws H locs ls sc hS _ _ kk
          obtain ⟨h1, h2, h3, h4, h5, h6⟩ := hS
          obtain ⟨w1, sc, rfl, ⟨a, had, rfl⟩, k6⟩ := zi_F2_cons h6
          have ha := zi_ad_str (by omega) had
          subst ha
          exact vk_getf hx hb (hX.2.1.1 r (by omega)).2.2.1 h3 hown (hts _ (hs0 (Nat.eq_of_beq_eq_true hb3))) (fun x hx => hx) hd (kk ws H locs ls _ (zi_ex_refl ws) ⟨h1, h2, h3, h4, h5, ⟨⟨adV r, by
            unfold zi_ad
            rw [if_neg (by omega), if_pos (by omega), Nat.add_sub_cancel_left], rfl⟩, k6⟩⟩)
        | false =>
          rw [hb3] at h
          simp only [cond_false] at h
          cases hb4 : Nat.beq k 1 with
          | false => rw [hb4] at h; cases h
          | true =>
            rw [hb4] at h
            cases h
            intro Q ws H locs ls sc hS _ _ kk
            obtain ⟨h1, h2, h3, h4, h5, h6⟩ := hS
            obtain ⟨w1, sc, rfl, ⟨a, had, rfl⟩, k6⟩ := zi_F2_cons h6
            have ha := zi_ad_str (by omega) had
            subst ha
            exact vk_getf hx hb (hX.2.1.1 r (by omega)).2.1 h3 hown (hts _ (hs1 (Nat.eq_of_beq_eq_true hb4))) (fun x hx => hx) hd (kk ws H locs ls _ (zi_ex_refl ws) ⟨h1, h2, h3, h4, h5, ⟨rfl, k6⟩⟩)
  · cases h
end ZH
end
section
section ZH
variable {p : Program} {l : Launch} {e : Env} {R : Room} {s : State} {m : MethodId} {args : Array Value} {below : List Frame} {meth : Method} {c : Code} {B0 : Nat} {D : va_G} {dA : Nat → ClassId} {adK adV : Nat → Nat} {b : Nat} {M : zi_M} {d : Nat} {sl : List zi_V}
variable {pc : Nat} {al : List (Nat × zi_V)} {st : List zi_V} {A : List zi_C} {nc ns : Nat} {g : zi_F}
/-- behind a write: the same addresses -/
theorem zi_st_set {nL : Nat} {ws : va_W} {H1 : Heap} {locs1 : List Loc} {ls : Array Slot} {sc : List Value} {pc' : Nat} {j a : Nat} {e0 e1 : va_E} {cell : zi_C} {lv : List (Nat × Value)} (hj : ws[j]? = some (a, e0)) (h4 : zi_F2 (zi_cr (zi_ad adK adV b ws) dA) A ws) (h5 : lv_has ls nL lv) (h7 : zi_F2 (zi_lr (zi_ad adK adV b ws)) al lv) (h6 : zi_F2 (zi_vr (zi_ad adK adV b ws)) st sc) (hc : zi_cr (zi_ad adK adV b ws) dA cell (a, e1)) (hP : va_P D zi_cl (ws.set j (a, e1)) H1) (hD : va_D (fun q => B0 ≤ q) (ws.set j (a, e1))) (hS : va_S (fun q => B0 ≤ q) s.heap H1 locs1) : zi_St B0 D dA adK adV b nL s (pc', al, st, A.set j cell, nc, ns) (ws.set j (a, e1)) H1 locs1 ls sc := by
  have hm : zi_mo (zi_ad adK adV b ws) (zi_ad adK adV b (ws.set j (a, e1))) := zi_ex_mo (zi_ex_set hj)
  exact ⟨hP, hD, hS, zi_F2_set (zi_cr_mo hm hc) (zi_F2_mono (fun _ _ => zi_cr_mo hm) h4) j, ⟨lv, h5, zi_F2_mono (fun _ _ h => ⟨h.1, zi_vr_mo hm h.2⟩) h7⟩, zi_F2_mono (fun _ _ => zi_vr_mo hm) h6⟩
/-- behind a making: one address more -/
theorem zi_st_new {nL : Nat} {ws : va_W} {H1 : Heap} {locs1 : List Loc} {ls : Array Slot} {sc : List Value} {pc' nc' ns' : Nat} {a : Nat} {e1 : va_E} {cell : zi_C} {lv : List (Nat × Value)} (h4 : zi_F2 (zi_cr (zi_ad adK adV b ws) dA) A ws) (h5 : lv_has ls nL lv) (h7 : zi_F2 (zi_lr (zi_ad adK adV b ws)) al lv) (h6 : zi_F2 (zi_vr (zi_ad adK adV b ws)) st sc) (hc : ∀ ad, zi_cr ad dA cell (a, e1)) (hP : va_P D zi_cl (ws ++ [(a, e1)]) H1) (hD : va_D (fun q => B0 ≤ q) (ws ++ [(a, e1)])) (hS : va_S (fun q => B0 ≤ q) s.heap H1 locs1) : zi_St B0 D dA adK adV b nL s (pc', al, .inl (.ref (10 + A.length)) :: st, A ++ [cell], nc', ns') (ws ++ [(a, e1)]) H1 locs1 ls (.ref a :: sc) := by
  have hm : zi_mo (zi_ad adK adV b ws) (zi_ad adK adV b (ws ++ [(a, e1)])) := zi_ex_mo zi_ex_app
  have hl := zi_F2_len h4
  refine ⟨hP, hD, hS, zi_F2_app (zi_F2_mono (fun _ _ => zi_cr_mo hm) h4) ⟨hc _, trivial⟩, ⟨lv, h5, zi_F2_mono (fun _ _ h => ⟨h.1, zi_vr_mo hm h.2⟩) h7⟩, ⟨⟨a, ?_, rfl⟩, zi_F2_mono (fun _ _ => zi_vr_mo hm) h6⟩⟩
  unfold zi_ad
  rw [if_neg (by omega), if_neg (by omega), if_neg (by omega), if_neg (by omega), Nat.add_sub_cancel_left, hl]
  simp
theorem zi_go_put (C : zi_Cx p R s m args meth c B0 D dA adK adV b M d sl) {ci k i : Nat} (hd : decode M.2.1 pc = .ok (.putfield i, 3)) (ho : ∃ q, zi_Fs[ci]? = some q ∧ k < q.2.length ∧ Cond.fieldLink M.1.cls i (zi_Tf q k).1 (zi_Tf q k).2.1 (zi_Tf q k).2.2.1 ∈ zi_gd ∧ ((zi_Tf q k).2.2.2 = true → M.1.name = "<init>" ∧ (zi_Tf q k).1 = M.1.cls)) (h : zi_put pc 3 al st A nc ns ci k = some (.inl g)) : zi_Go p l e R s m args below meth c B0 D dA adK adV b M.2.2.1 (pc, al, st, A, nc, ns) g := by
  obtain ⟨⟨hx, hb, hml, hret, hown, hts, hlk, hnm⟩, hX, hR, hscr⟩ := C
  obtain ⟨qq, hq1, hq2, hq3, hq4⟩ := ho
  unfold zi_put at h
  split at h
  · rename_i v r rest
    cases hb1 : Nat.ble 10 r with
    | false => rw [hb1] at h; cases h
    | true =>
      rw [hb1] at h
      have hr := Nat.le_of_ble_eq_true hb1
      simp only [cond_true] at h
      split at h
      · rename_i q hA
        cases hb2 : (Nat.beq q.1 ci && Nat.ble (k + 1) q.2.length && zi_fit (zi_ty ci k) v) with
        | false => rw [hb2] at h; cases h
        | true =>
          rw [hb2] at h
          rw [Bool.and_eq_true, Bool.and_eq_true] at hb2
          have e1 := Nat.eq_of_beq_eq_true hb2.1.1
          have e2 := Nat.le_of_ble_eq_true hb2.1.2
          cases h
          intro Q ws H locs ls sc hS _ _ kk
          obtain ⟨h1, h2, h3, h4, ⟨lv, h5, h7⟩, h6⟩ := hS
          obtain ⟨w, sc, rfl, hw, k5⟩ := zi_F2_cons h6
          obtain ⟨w1, sc, rfl, ⟨a, had, rfl⟩, k6⟩ := zi_F2_cons k5
          obtain ⟨vs, hvs, hF⟩ := zi_cell_obj h4 hr had hA
          obtain ⟨hn, hfit⟩ := zi_fit_ok hw hb2.2
          obtain ⟨c1, c2, c3, c4⟩ := zi_cl_ok hq1
          rw [e1] at hvs
          have hl : k < vs.length := by rw [← zi_F2_len hF]; omega
          have post : ∀ (H1 : Heap) (locs1 : List Loc), va_P D zi_cl (ws.set (r - 10) (a, .inr (ci, vs.set k w))) H1 → va_D (fun q => B0 ≤ q) (ws.set (r - 10) (a, .inr (ci, vs.set k w))) → va_S (fun q => B0 ≤ q) s.heap H1 locs1 → zi_W p l e R s m args below meth c Q nc ns (pc + 3) H1 locs1 ls sc := fun H1 locs1 p1 p2 p3 =>
            kk _ H1 locs1 ls sc (zi_ex_set hvs) (zi_st_set hvs h4 h5 h7 k6 ⟨_, rfl, zi_F2_set hw hF k⟩ p1 p2 p3)
          cases hfi : (zi_Tf qq k).2.2.2 with
          | false => exact va_put hx hb hts c1 (zi_ty ci) c2 c3 hown hX.1 h1 h2 h3 (r - 10) hvs (zi_cl_at hq1) k hq2 (hts _ hq3) (fun x hx => hx) hfi (c2 k hq2) hn hfit hl hd post
          | true => exact va_putF hx hb hts c1 (zi_ty ci) c2 c3 hown hX.1 h1 h2 h3 (r - 10) hvs (zi_cl_at hq1) k hq2 (hts _ hq3) (fun x hx => hx) hfi (hnm.trans (hq4 hfi).1) (hq4 hfi).2 (c2 k hq2) hn hfit hl hd post
      · cases h
  · cases h
theorem zi_go_gts (C : zi_Cx p R s m args meth c B0 D dA adK adV b M d sl) {k i : Nat} (hd : decode M.2.1 pc = .ok (.getstatic i, 3)) (h0 : k = 0 → Cond.fieldLink M.1.cls i "java/lang/String" "COMPACT_STRINGS" "Z" ∈ zi_gd) (h1 : k ≠ 0 → Cond.fieldLink M.1.cls i "jdk/internal/util/Preconditions" "SIOOBE_FORMATTER" "Ljava/util/function/BiFunction;" ∈ zi_gd) (h : zi_gts pc 3 al st A nc ns k = some (.inl g)) : zi_Go p l e R s m args below meth c B0 D dA adK adV b M.2.2.1 (pc, al, st, A, nc, ns) g := by
  obtain ⟨⟨hx, hb, hml, hret, hown, hts, hlk, hnm⟩, hX, hR, hscr⟩ := C
  unfold zi_gts at h
  split at h
  · cases h
    intro Q ws H locs ls sc hS _ _ kk
    obtain ⟨g1, g2, g3, g4, g5, g6⟩ := hS
    exact va_gets hx hb hX.2.2.2.1 g3 hown (hts _ (h0 rfl)) (fun x hx => hx) hd (kk ws H locs ls _ (zi_ex_refl ws) ⟨g1, g2, g3, g4, g5, ⟨rfl, g6⟩⟩)
  · rename_i hk
    cases h
    intro Q ws H locs ls sc hS _ _ kk
    obtain ⟨g1, g2, g3, g4, g5, g6⟩ := hS
    rcases hX.2.2.2.2.1 with z | ⟨t, z⟩
    · exact va_gets hx hb z g3 hown (hts _ (h1 hk)) (fun x hx => hx) hd (kk ws H locs ls _ (zi_ex_refl ws) ⟨g1, g2, g3, g4, g5, ⟨Or.inl rfl, g6⟩⟩)
    · exact va_gets hx hb z g3 hown (hts _ (h1 hk)) (fun x hx => hx) hd (kk ws H locs ls _ (zi_ex_refl ws) ⟨g1, g2, g3, g4, g5, ⟨Or.inr ⟨t, rfl⟩, g6⟩⟩)
theorem zi_ar_len {ad : Nat → Option Nat} {t n : Nat} {dv : zi_V} {us : List (Nat × zi_V)} {e0 : va_E} (h : zi_ar ad dA t n dv us e0) : ∃ x : vp_A, e0 = .inl (dA t, x) ∧ x.1 = n := by
  unfold zi_ar at h
  split at h <;> (obtain ⟨f, rfl, -⟩ := h; exact ⟨_, rfl, rfl⟩)
theorem zi_go_len (C : zi_Cx p R s m args meth c B0 D dA adK adV b M d sl) (hd : decode M.2.1 pc = .ok (.arraylength, 1)) (h : zi_len sl pc 1 al st A nc ns = some (.inl g)) : zi_Go p l e R s m args below meth c B0 D dA adK adV b M.2.2.1 (pc, al, st, A, nc, ns) g := by
  obtain ⟨⟨hx, hb, hml, hret, hown, hts, hlk, hnm⟩, hX, hR, hscr⟩ := C
  unfold zi_len at h
  split at h
  · rename_i r rest
    cases hb1 : Nat.ble 10 r with
    | true =>
      rw [hb1] at h
      have hr := Nat.le_of_ble_eq_true hb1
      simp only [cond_true] at h
      split at h
      · rename_i q hA
        cases hb5 : Nat.ble q.1 6 with
        | false => rw [hb5] at h; cases h
        | true =>
        rw [hb5] at h
        have hb5 := Nat.le_of_ble_eq_true hb5
        cases h
        intro Q ws H locs ls sc hS _ _ kk
        obtain ⟨h1, h2, h3, h4, h5, h6⟩ := hS
        obtain ⟨w1, sc, rfl, ⟨a, had, rfl⟩, k6⟩ := zi_F2_cons h6
        obtain ⟨e0, he0, har⟩ := zi_cell_arr h4 hr had hA
        obtain ⟨x, rfl, hxn⟩ := zi_ar_len har
        exact va_alen hx hb hX.1 h1 (r - 10) q.1 he0 (zi_tys_at dA (Nat.lt_succ_of_le hb5)) (by rw [hxn]) hd (kk ws H locs ls _ (zi_ex_refl ws) ⟨h1, h2, h3, h4, h5, ⟨rfl, k6⟩⟩)
      · cases h
    | false =>
      rw [hb1] at h
      simp only [cond_false] at h
      cases hb2 : Nat.beq r 8 with
      | true =>
        rw [hb2] at h
        simp only [cond_true] at h
        have e8 := Nat.eq_of_beq_eq_true hb2
        split at h
        · cases h
        · rename_i v vs
          cases h
          intro Q ws H locs ls sc hS _ _ kk
          obtain ⟨h1, h2, h3, h4, h5, h6⟩ := hS
          obtain ⟨w1, sc, rfl, ⟨a, had, rfl⟩, k6⟩ := zi_F2_cons h6
          rw [e8] at had
          have ha := zi_ad_scr had
          subst ha
          rcases hscr with hz | ⟨xs, s1, s2, s3, s4⟩
          · cases hz
          · exact va_slen hx hb s1 s2 (Nat.not_le.mpr s3) h3 hd (kk ws H locs ls _ (zi_ex_refl ws) ⟨h1, h2, h3, h4, h5, ⟨rfl, k6⟩⟩)
      | false =>
        rw [hb2] at h
        simp only [cond_false] at h
        cases hb3 : (Nat.ble 4 r && Nat.ble (r + 1) 8) with
        | false => rw [hb3] at h; cases h
        | true =>
          rw [hb3] at h
          rw [Bool.and_eq_true] at hb3
          have r4 := Nat.le_of_ble_eq_true hb3.1
          have r8 := Nat.le_of_ble_eq_true hb3.2
          cases h
          intro Q ws H locs ls sc hS _ _ kk
          obtain ⟨h1, h2, h3, h4, h5, h6⟩ := hS
          obtain ⟨w1, sc, rfl, ⟨a, had, rfl⟩, k6⟩ := zi_F2_cons h6
          have ha := zi_ad_byt r4 r8 had
          subst ha
          exact va_tlen hx hb (hX.2.1.1 (r - 4) (by omega)).2.2.2 h3 rfl hd (kk ws H locs ls _ (zi_ex_refl ws) ⟨h1, h2, h3, h4, h5, ⟨rfl, k6⟩⟩)
  · cases h
theorem zi_go_iald (C : zi_Cx p R s m args meth c B0 D dA adK adV b M d sl) (hd : decode M.2.1 pc = .ok (.iaload, 1)) (h : zi_ald 0 sl pc 1 al st A nc ns = some (.inl g)) : zi_Go p l e R s m args below meth c B0 D dA adK adV b M.2.2.1 (pc, al, st, A, nc, ns) g := by
  obtain ⟨⟨hx, hb, hml, hret, hown, hts, hlk, hnm⟩, hX, hR, hscr⟩ := C
  unfold zi_ald at h
  split at h
  · rename_i x r rest
    cases hb1 : Nat.ble 10 r with
    | true =>
      rw [hb1] at h
      have hr := Nat.le_of_ble_eq_true hb1
      simp only [cond_true] at h
      split at h
      · rename_i q hA
        cases hb2 : (((Nat.beq q.1 0 && Nat.ble q.1 6) || (Nat.beq 0 7 && Nat.ble 4 q.1 && Nat.ble q.1 6)) && zi_in x q.2.1) with
        | false => rw [hb2] at h; cases h
        | true =>
          rw [hb2] at h
          rw [Bool.and_eq_true] at hb2
          have hin := zi_in_ok hb2.2
          cases h
          intro Q ws H locs ls sc hS _ _ kk
          obtain ⟨h1, h2, h3, h4, h5, h6⟩ := hS
          obtain ⟨w0, sc, rfl, hw0, k5⟩ := zi_F2_cons h6
          have hw0 : w0 = .int x := hw0
          subst hw0
          obtain ⟨w1, sc, rfl, ⟨a, had, rfl⟩, k6⟩ := zi_F2_cons k5
          obtain ⟨e0, he0, har⟩ := zi_cell_arr h4 hr had hA
          have e1 : q.1 = 0 := by
            have z := hb2.1
            simp only [Bool.or_eq_true, Bool.and_eq_true] at z
            rcases z with z | z
            · exact Nat.eq_of_beq_eq_true z.1
            · exact absurd z.1.1 (by decide)
          rw [e1] at har
          obtain ⟨f, rfl, hf⟩ := har
          have hlt : x.toNatClampNeg < q.2.1 := Nat.lt_of_not_le (fun z => hin (Or.inr z))
          exact va_iald hx hb hX.1 h1 (r - 10) 0 he0 (zi_tys_at dA (by decide)) hin hd (kk ws H locs ls _ (zi_ex_refl ws) ⟨h1, h2, h3, h4, h5, ⟨hf _ hlt, k6⟩⟩)
      · cases h
    | false =>
      rw [hb1] at h
      simp only [cond_false] at h
      cases hb2 : (Nat.beq r 8 && Nat.beq 0 0 && zi_in x sl.length) with
      | true =>
        rw [hb2] at h
        rw [Bool.and_eq_true, Bool.and_eq_true] at hb2
        have e8 := Nat.eq_of_beq_eq_true hb2.1.1
        have hin := zi_in_ok hb2.2
        simp only [cond_true] at h
        split at h
        · rename_i v hv
          cases h
          intro Q ws H locs ls sc hS _ _ kk
          obtain ⟨h1, h2, h3, h4, h5, h6⟩ := hS
          obtain ⟨w0, sc, rfl, hw0, k5⟩ := zi_F2_cons h6
          have hw0 : w0 = .int x := hw0
          subst hw0
          obtain ⟨w1, sc, rfl, ⟨a, had, rfl⟩, k6⟩ := zi_F2_cons k5
          rw [e8] at had
          have ha := zi_ad_scr had
          subst ha
          rcases hscr with hz | ⟨xs, s1, s2, s3, s4⟩
          · rw [hz] at hv; simp at hv
          · exact va_sld hx hb s1 s2 (Nat.not_le.mpr s3) h3 hin hd (kk ws H locs ls _ (zi_ex_refl ws) ⟨h1, h2, h3, h4, h5, ⟨s4 _ _ _ hv, k6⟩⟩)
        · cases h
      | false =>
        rw [hb2] at h
        simp only [cond_false] at h
        cases hb3 : (Nat.ble 4 r && Nat.ble (r + 1) 8 && Nat.beq 0 2 && zi_in x (zi_sn.getD (r - 4) 0)) with
        | false => rw [hb3] at h; cases h
        | true =>
          rw [Bool.and_eq_true, Bool.and_eq_true] at hb3
          exact absurd hb3.1.2 (by decide)
  · cases h
theorem zi_go_lald (C : zi_Cx p R s m args meth c B0 D dA adK adV b M d sl) (hd : decode M.2.1 pc = .ok (.laload, 1)) (h : zi_ald 1 sl pc 1 al st A nc ns = some (.inl g)) : zi_Go p l e R s m args below meth c B0 D dA adK adV b M.2.2.1 (pc, al, st, A, nc, ns) g := by
  obtain ⟨⟨hx, hb, hml, hret, hown, hts, hlk, hnm⟩, hX, hR, hscr⟩ := C
  unfold zi_ald at h
  split at h
  · rename_i x r rest
    cases hb1 : Nat.ble 10 r with
    | true =>
      rw [hb1] at h
      have hr := Nat.le_of_ble_eq_true hb1
      simp only [cond_true] at h
      split at h
      · rename_i q hA
        cases hb2 : (((Nat.beq q.1 1 && Nat.ble q.1 6) || (Nat.beq 1 7 && Nat.ble 4 q.1 && Nat.ble q.1 6)) && zi_in x q.2.1) with
        | false => rw [hb2] at h; cases h
        | true =>
          rw [hb2] at h
          rw [Bool.and_eq_true] at hb2
          have hin := zi_in_ok hb2.2
          cases h
          intro Q ws H locs ls sc hS _ _ kk
          obtain ⟨h1, h2, h3, h4, h5, h6⟩ := hS
          obtain ⟨w0, sc, rfl, hw0, k5⟩ := zi_F2_cons h6
          have hw0 : w0 = .int x := hw0
          subst hw0
          obtain ⟨w1, sc, rfl, ⟨a, had, rfl⟩, k6⟩ := zi_F2_cons k5
          obtain ⟨e0, he0, har⟩ := zi_cell_arr h4 hr had hA
          have e1 : q.1 = 1 := by
            have z := hb2.1
            simp only [Bool.or_eq_true, Bool.and_eq_true] at z
            rcases z with z | z
            · exact Nat.eq_of_beq_eq_true z.1
            · exact absurd z.1.1 (by decide)
          rw [e1] at har
          obtain ⟨f, rfl, hf⟩ := har
          have hlt : x.toNatClampNeg < q.2.1 := Nat.lt_of_not_le (fun z => hin (Or.inr z))
          exact va_lald hx hb hX.1 h1 (r - 10) 1 he0 (zi_tys_at dA (by decide)) hin hd (kk ws H locs ls _ (zi_ex_refl ws) ⟨h1, h2, h3, h4, h5, ⟨hf _ hlt, k6⟩⟩)
      · cases h
    | false =>
      rw [hb1] at h
      simp only [cond_false] at h
      cases hb2 : (Nat.beq r 8 && Nat.beq 1 0 && zi_in x sl.length) with
      | true =>
        rw [Bool.and_eq_true, Bool.and_eq_true] at hb2
        exact absurd hb2.1.2 (by decide)
      | false =>
        rw [hb2] at h
        simp only [cond_false] at h
        cases hb3 : (Nat.ble 4 r && Nat.ble (r + 1) 8 && Nat.beq 1 2 && zi_in x (zi_sn.getD (r - 4) 0)) with
        | false => rw [hb3] at h; cases h
        | true =>
          rw [Bool.and_eq_true, Bool.and_eq_true] at hb3
          exact absurd hb3.1.2 (by decide)
  · cases h
theorem zi_go_bald (C : zi_Cx p R s m args meth c B0 D dA adK adV b M d sl) (hd : decode M.2.1 pc = .ok (.baload, 1)) (h : zi_ald 2 sl pc 1 al st A nc ns = some (.inl g)) : zi_Go p l e R s m args below meth c B0 D dA adK adV b M.2.2.1 (pc, al, st, A, nc, ns) g := by
  obtain ⟨⟨hx, hb, hml, hret, hown, hts, hlk, hnm⟩, hX, hR, hscr⟩ := C
  unfold zi_ald at h
  split at h
  · rename_i x r rest
    cases hb1 : Nat.ble 10 r with
    | true =>
      rw [hb1] at h
      have hr := Nat.le_of_ble_eq_true hb1
      simp only [cond_true] at h
      split at h
      · rename_i q hA
        cases hb2 : (((Nat.beq q.1 2 && Nat.ble q.1 6) || (Nat.beq 2 7 && Nat.ble 4 q.1 && Nat.ble q.1 6)) && zi_in x q.2.1) with
        | false => rw [hb2] at h; cases h
        | true =>
          rw [hb2] at h
          rw [Bool.and_eq_true] at hb2
          have hin := zi_in_ok hb2.2
          cases h
          intro Q ws H locs ls sc hS _ _ kk
          obtain ⟨h1, h2, h3, h4, h5, h6⟩ := hS
          obtain ⟨w0, sc, rfl, hw0, k5⟩ := zi_F2_cons h6
          have hw0 : w0 = .int x := hw0
          subst hw0
          obtain ⟨w1, sc, rfl, ⟨a, had, rfl⟩, k6⟩ := zi_F2_cons k5
          obtain ⟨e0, he0, har⟩ := zi_cell_arr h4 hr had hA
          have e1 : q.1 = 2 := by
            have z := hb2.1
            simp only [Bool.or_eq_true, Bool.and_eq_true] at z
            rcases z with z | z
            · exact Nat.eq_of_beq_eq_true z.1
            · exact absurd z.1.1 (by decide)
          rw [e1] at har
          obtain ⟨f, rfl, hf⟩ := har
          have hlt : x.toNatClampNeg < q.2.1 := Nat.lt_of_not_le (fun z => hin (Or.inr z))
          exact va_zald hx hb hX.1 h1 (r - 10) 2 he0 (zi_tys_at dA (by decide)) hin hd (kk ws H locs ls _ (zi_ex_refl ws) ⟨h1, h2, h3, h4, h5, ⟨hf _ hlt, k6⟩⟩)
      · cases h
    | false =>
      rw [hb1] at h
      simp only [cond_false] at h
      cases hb2 : (Nat.beq r 8 && Nat.beq 2 0 && zi_in x sl.length) with
      | true =>
        rw [Bool.and_eq_true, Bool.and_eq_true] at hb2
        exact absurd hb2.1.2 (by decide)
      | false =>
        rw [hb2] at h
        simp only [cond_false] at h
        cases hb3 : (Nat.ble 4 r && Nat.ble (r + 1) 8 && Nat.beq 2 2 && zi_in x (zi_sn.getD (r - 4) 0)) with
        | false => rw [hb3] at h; cases h
        | true =>
          rw [hb3] at h
          rw [Bool.and_eq_true, Bool.and_eq_true, Bool.and_eq_true] at hb3
          have r4 := Nat.le_of_ble_eq_true hb3.1.1.1
          have r8 := Nat.le_of_ble_eq_true hb3.1.1.2
          have hin := zi_in_ok hb3.2
          cases h
          intro Q ws H locs ls sc hS _ _ kk
          obtain ⟨h1, h2, h3, h4, h5, h6⟩ := hS
          obtain ⟨w0, sc, rfl, hw0, k5⟩ := zi_F2_cons h6
          have hw0 : w0 = .int x := hw0
          subst hw0
          obtain ⟨w1, sc, rfl, ⟨a, had, rfl⟩, k6⟩ := zi_F2_cons k5
          have ha := zi_ad_byt r4 r8 had
          subst ha
          exact va_tb hx hb (hX.2.1.1 (r - 4) (by omega)).2.2.2 h3 hin rfl hd (kk ws H locs ls _ (zi_ex_refl ws) ⟨h1, h2, h3, h4, h5, ⟨rfl, k6⟩⟩)
  · cases h
theorem zi_go_cald (C : zi_Cx p R s m args meth c B0 D dA adK adV b M d sl) (hd : decode M.2.1 pc = .ok (.caload, 1)) (h : zi_ald 3 sl pc 1 al st A nc ns = some (.inl g)) : zi_Go p l e R s m args below meth c B0 D dA adK adV b M.2.2.1 (pc, al, st, A, nc, ns) g := by
  obtain ⟨⟨hx, hb, hml, hret, hown, hts, hlk, hnm⟩, hX, hR, hscr⟩ := C
  unfold zi_ald at h
  split at h
  · rename_i x r rest
    cases hb1 : Nat.ble 10 r with
    | true =>
      rw [hb1] at h
      have hr := Nat.le_of_ble_eq_true hb1
      simp only [cond_true] at h
      split at h
      · rename_i q hA
        cases hb2 : (((Nat.beq q.1 3 && Nat.ble q.1 6) || (Nat.beq 3 7 && Nat.ble 4 q.1 && Nat.ble q.1 6)) && zi_in x q.2.1) with
        | false => rw [hb2] at h; cases h
        | true =>
          rw [hb2] at h
          rw [Bool.and_eq_true] at hb2
          have hin := zi_in_ok hb2.2
          cases h
          intro Q ws H locs ls sc hS _ _ kk
          obtain ⟨h1, h2, h3, h4, h5, h6⟩ := hS
          obtain ⟨w0, sc, rfl, hw0, k5⟩ := zi_F2_cons h6
          have hw0 : w0 = .int x := hw0
          subst hw0
          obtain ⟨w1, sc, rfl, ⟨a, had, rfl⟩, k6⟩ := zi_F2_cons k5
          obtain ⟨e0, he0, har⟩ := zi_cell_arr h4 hr had hA
          have e1 : q.1 = 3 := by
            have z := hb2.1
            simp only [Bool.or_eq_true, Bool.and_eq_true] at z
            rcases z with z | z
            · exact Nat.eq_of_beq_eq_true z.1
            · exact absurd z.1.1 (by decide)
          rw [e1] at har
          obtain ⟨f, rfl, hf⟩ := har
          have hlt : x.toNatClampNeg < q.2.1 := Nat.lt_of_not_le (fun z => hin (Or.inr z))
          exact va_cald hx hb hX.1 h1 (r - 10) 3 he0 (zi_tys_at dA (by decide)) hin hd (kk ws H locs ls _ (zi_ex_refl ws) ⟨h1, h2, h3, h4, h5, ⟨hf _ hlt, k6⟩⟩)
      · cases h
    | false =>
      rw [hb1] at h
      simp only [cond_false] at h
      cases hb2 : (Nat.beq r 8 && Nat.beq 3 0 && zi_in x sl.length) with
      | true =>
        rw [Bool.and_eq_true, Bool.and_eq_true] at hb2
        exact absurd hb2.1.2 (by decide)
      | false =>
        rw [hb2] at h
        simp only [cond_false] at h
        cases hb3 : (Nat.ble 4 r && Nat.ble (r + 1) 8 && Nat.beq 3 2 && zi_in x (zi_sn.getD (r - 4) 0)) with
        | false => rw [hb3] at h; cases h
        | true =>
          rw [Bool.and_eq_true, Bool.and_eq_true] at hb3
          exact absurd hb3.1.2 (by decide)
  · cases h
theorem zi_go_aald (C : zi_Cx p R s m args meth c B0 D dA adK adV b M d sl) (hd : decode M.2.1 pc = .ok (.aaload, 1)) (h : zi_ald 7 sl pc 1 al st A nc ns = some (.inl g)) : zi_Go p l e R s m args below meth c B0 D dA adK adV b M.2.2.1 (pc, al, st, A, nc, ns) g := by
  obtain ⟨⟨hx, hb, hml, hret, hown, hts, hlk, hnm⟩, hX, hR, hscr⟩ := C
  unfold zi_ald at h
  split at h
  · rename_i x r rest
    cases hb1 : Nat.ble 10 r with
    | true =>
      rw [hb1] at h
      have hr := Nat.le_of_ble_eq_true hb1
      simp only [cond_true] at h
      split at h
      · rename_i q hA
        cases hb2 : (((Nat.beq q.1 7 && Nat.ble q.1 6) || (Nat.beq 7 7 && Nat.ble 4 q.1 && Nat.ble q.1 6)) && zi_in x q.2.1) with
        | false => rw [hb2] at h; cases h
        | true =>
          rw [hb2] at h
          rw [Bool.and_eq_true] at hb2
          have hin := zi_in_ok hb2.2
          cases h
          intro Q ws H locs ls sc hS _ _ kk
          obtain ⟨h1, h2, h3, h4, h5, h6⟩ := hS
          obtain ⟨w0, sc, rfl, hw0, k5⟩ := zi_F2_cons h6
          have hw0 : w0 = .int x := hw0
          subst hw0
          obtain ⟨w1, sc, rfl, ⟨a, had, rfl⟩, k6⟩ := zi_F2_cons k5
          obtain ⟨e0, he0, har⟩ := zi_cell_arr h4 hr had hA
          have e1 : 4 ≤ q.1 ∧ q.1 ≤ 6 := by
            have z := hb2.1
            simp only [Bool.or_eq_true, Bool.and_eq_true] at z
            rcases z with z | z
            · exact absurd (Nat.eq_of_beq_eq_true z.1) (by
                have := Nat.le_of_ble_eq_true z.2
                omega)
            · exact ⟨Nat.le_of_ble_eq_true z.1.2, Nat.le_of_ble_eq_true z.2⟩
          have ek : zi_tk q.1 = 2 ∧ ∃ Cn, zi_ft q.1 = .object Cn := by
            rcases (show q.1 = 4 ∨ q.1 = 5 ∨ q.1 = 6 by omega) with z | z | z <;> (rw [z]; exact ⟨rfl, _, rfl⟩)
          obtain ⟨ek, Cn, hCn⟩ := ek
          unfold zi_ar at har
          rw [ek] at har
          obtain ⟨f, rfl, hf⟩ := har
          have hlt : x.toNatClampNeg < q.2.1 := Nat.lt_of_not_le (fun z => hin (Or.inr z))
          exact va_aldq hx hb hX.1 h1 (r - 10) q.1 he0 (by rw [zi_tys_at dA (by omega), hCn]) hin hd (kk ws H locs ls _ (zi_ex_refl ws) ⟨h1, h2, h3, h4, h5, ⟨hf _ hlt, k6⟩⟩)
      · cases h
    | false =>
      rw [hb1] at h
      simp only [cond_false] at h
      cases hb2 : (Nat.beq r 8 && Nat.beq 7 0 && zi_in x sl.length) with
      | true =>
        rw [Bool.and_eq_true, Bool.and_eq_true] at hb2
        exact absurd hb2.1.2 (by decide)
      | false =>
        rw [hb2] at h
        simp only [cond_false] at h
        cases hb3 : (Nat.ble 4 r && Nat.ble (r + 1) 8 && Nat.beq 7 2 && zi_in x (zi_sn.getD (r - 4) 0)) with
        | false => rw [hb3] at h; cases h
        | true =>
          rw [Bool.and_eq_true, Bool.and_eq_true] at hb3
          exact absurd hb3.1.2 (by decide)
  · cases h
end ZH
end
section
section ZH
variable {p : Program} {l : Launch} {e : Env} {R : Room} {s : State} {m : MethodId} {args : Array Value} {below : List Frame} {meth : Method} {c : Code} {B0 : Nat} {D : va_G} {dA : Nat → ClassId} {adK adV : Nat → Nat} {b : Nat} {M : zi_M} {d : Nat} {sl : List zi_V}
variable {pc : Nat} {al : List (Nat × zi_V)} {st : List zi_V} {A : List zi_C} {nc ns : Nat} {g : zi_F}
theorem zi_look_cons (dv v : zi_V) (us : List (Nat × zi_V)) (i j : Nat) : zi_look dv ((i, v) :: us) j = bif Nat.beq i j then v else zi_look dv us j := rfl
theorem zi_look_up {P : Nat → zi_V → Prop} {dv v : zi_V} {us : List (Nat × zi_V)} {i j : Nat} (h1 : j = i → P j v) (h2 : j ≠ i → P j (zi_look dv us j)) : P j (zi_look dv ((i, v) :: us) j) := by
  rw [zi_look_cons]
  cases hb : Nat.beq i j with
  | true => exact h1 (Nat.eq_of_beq_eq_true hb).symm
  | false => exact h2 (fun z => Nat.ne_of_beq_eq_false hb z.symm)
theorem zi_sok_boolean {v : zi_V} (h : zi_sok 2 v = true) : ∃ y, v = .inl (.int y) ∧ narrow .boolean (.int y) = .int y := by
  cases v with
  | inr q => exact Bool.noConfusion (show false = true from h)
  | inl w => cases w with
    | int x => exact ⟨x, rfl, of_decide_eq_true h⟩
    | _ => exact Bool.noConfusion (show false = true from h)
theorem zi_sok_char {v : zi_V} (h : zi_sok 3 v = true) : ∃ y, v = .inl (.int y) ∧ narrow .char (.int y) = .int y := by
  cases v with
  | inr q => exact Bool.noConfusion (show false = true from h)
  | inl w => cases w with
    | int x => exact ⟨x, rfl, of_decide_eq_true h⟩
    | _ => exact Bool.noConfusion (show false = true from h)
theorem zi_nar {ty : FieldType} {x : Int32} (h : narrow ty (.int x) = .int x) : vp_nar ty x = x := by
  unfold vp_nar
  rw [h]
theorem zi_go_iast (C : zi_Cx p R s m args meth c B0 D dA adK adV b M d sl) (hd : decode M.2.1 pc = .ok (.iastore, 1)) (h : zi_ast 0 pc 1 al st A nc ns = some (.inl g)) : zi_Go p l e R s m args below meth c B0 D dA adK adV b M.2.2.1 (pc, al, st, A, nc, ns) g := by
  obtain ⟨⟨hx, hb, hml, hret, hown, hts, hlk, hnm⟩, hX, hR, hscr⟩ := C
  unfold zi_ast at h
  split at h
  · rename_i v x r rest
    cases hb1 : Nat.ble 10 r with
    | false => rw [hb1] at h; cases h
    | true =>
      rw [hb1] at h
      have hr := Nat.le_of_ble_eq_true hb1
      simp only [cond_true] at h
      split at h
      · rename_i q hA
        cases hb2 : (Nat.beq q.1 0 && zi_in x q.2.1 && zi_sok 0 v) with
        | false => rw [hb2] at h; cases h
        | true =>
          rw [hb2] at h
          rw [Bool.and_eq_true, Bool.and_eq_true] at hb2
          have e1 := Nat.eq_of_beq_eq_true hb2.1.1
          have hin := zi_in_ok hb2.1.2
          have hsok := hb2.2
          cases h
          intro Q ws H locs ls sc hS _ _ kk
          obtain ⟨h1, h2, h3, h4, ⟨lv, h5, h7⟩, h6⟩ := hS
          obtain ⟨w, sc, rfl, hw, k4⟩ := zi_F2_cons h6
          obtain ⟨w0, sc, rfl, hw0, k5⟩ := zi_F2_cons k4
          have hw0 : w0 = .int x := hw0
          subst hw0
          obtain ⟨w1, sc, rfl, ⟨a, had, rfl⟩, k6⟩ := zi_F2_cons k5
          obtain ⟨e0, he0, har⟩ := zi_cell_arr h4 hr had hA
          rw [e1] at har
          obtain ⟨f, rfl, hf⟩ := har
          obtain ⟨y, rfl⟩ := zi_vr_int hw (Nat.eq_of_beq_eq_true hsok)
          refine va_iast hx hb hX.1 h1 h2 h3 (r - 10) 0 he0 (zi_tys_at dA (by decide)) hin hd (fun H1 locs1 p1 p2 p3 => ?_)
          refine kk _ H1 locs1 ls sc (zi_ex_set he0) (zi_st_set he0 h4 h5 h7 k6 (?_ : zi_ar _ _ q.1 _ _ _ _) p1 p2 p3)
          rw [e1]
          refine ⟨_, rfl, fun j hj => ?_⟩
          refine zi_look_up (P := fun j z => zi_vr (zi_ad adK adV b ws) z (Value.int (upd f x.toNatClampNeg y j))) (fun ej => ?_) (fun ej => ?_)
          · have e2 : upd f x.toNatClampNeg y j = y := by unfold upd; rw [if_pos ej]
            try dsimp only
            rw [e2]
            first | exact hw | rfl
          · have e2 : upd f x.toNatClampNeg y j = f j := by unfold upd; rw [if_neg ej]
            try dsimp only
            rw [e2]
            exact hf j hj
      · cases h
  · cases h
theorem zi_go_last (C : zi_Cx p R s m args meth c B0 D dA adK adV b M d sl) (hd : decode M.2.1 pc = .ok (.lastore, 1)) (h : zi_ast 1 pc 1 al st A nc ns = some (.inl g)) : zi_Go p l e R s m args below meth c B0 D dA adK adV b M.2.2.1 (pc, al, st, A, nc, ns) g := by
  obtain ⟨⟨hx, hb, hml, hret, hown, hts, hlk, hnm⟩, hX, hR, hscr⟩ := C
  unfold zi_ast at h
  split at h
  · rename_i v x r rest
    cases hb1 : Nat.ble 10 r with
    | false => rw [hb1] at h; cases h
    | true =>
      rw [hb1] at h
      have hr := Nat.le_of_ble_eq_true hb1
      simp only [cond_true] at h
      split at h
      · rename_i q hA
        cases hb2 : (Nat.beq q.1 1 && zi_in x q.2.1 && zi_sok 1 v) with
        | false => rw [hb2] at h; cases h
        | true =>
          rw [hb2] at h
          rw [Bool.and_eq_true, Bool.and_eq_true] at hb2
          have e1 := Nat.eq_of_beq_eq_true hb2.1.1
          have hin := zi_in_ok hb2.1.2
          have hsok := hb2.2
          cases h
          intro Q ws H locs ls sc hS _ _ kk
          obtain ⟨h1, h2, h3, h4, ⟨lv, h5, h7⟩, h6⟩ := hS
          obtain ⟨w, sc, rfl, hw, k4⟩ := zi_F2_cons h6
          obtain ⟨w0, sc, rfl, hw0, k5⟩ := zi_F2_cons k4
          have hw0 : w0 = .int x := hw0
          subst hw0
          obtain ⟨w1, sc, rfl, ⟨a, had, rfl⟩, k6⟩ := zi_F2_cons k5
          obtain ⟨e0, he0, har⟩ := zi_cell_arr h4 hr had hA
          rw [e1] at har
          obtain ⟨f, rfl, hf⟩ := har
          obtain ⟨y, rfl⟩ := zi_vr_long hw (Nat.eq_of_beq_eq_true hsok)
          refine va_last hx hb hX.1 h1 h2 h3 (r - 10) 1 he0 (zi_tys_at dA (by decide)) hin hd (fun H1 locs1 p1 p2 p3 => ?_)
          refine kk _ H1 locs1 ls sc (zi_ex_set he0) (zi_st_set he0 h4 h5 h7 k6 (?_ : zi_ar _ _ q.1 _ _ _ _) p1 p2 p3)
          rw [e1]
          refine ⟨_, rfl, fun j hj => ?_⟩
          refine zi_look_up (P := fun j z => zi_vr (zi_ad adK adV b ws) z (Value.long (vp_updL f x.toNatClampNeg y j))) (fun ej => ?_) (fun ej => ?_)
          · have e2 : vp_updL f x.toNatClampNeg y j = y := by unfold vp_updL; rw [if_pos ej]
            try dsimp only
            rw [e2]
            first | exact hw | rfl
          · have e2 : vp_updL f x.toNatClampNeg y j = f j := by unfold vp_updL; rw [if_neg ej]
            try dsimp only
            rw [e2]
            exact hf j hj
      · cases h
  · cases h
theorem zi_go_zast (C : zi_Cx p R s m args meth c B0 D dA adK adV b M d sl) (hd : decode M.2.1 pc = .ok (.bastore, 1)) (h : zi_ast 2 pc 1 al st A nc ns = some (.inl g)) : zi_Go p l e R s m args below meth c B0 D dA adK adV b M.2.2.1 (pc, al, st, A, nc, ns) g := by
  obtain ⟨⟨hx, hb, hml, hret, hown, hts, hlk, hnm⟩, hX, hR, hscr⟩ := C
  unfold zi_ast at h
  split at h
  · rename_i v x r rest
    cases hb1 : Nat.ble 10 r with
    | false => rw [hb1] at h; cases h
    | true =>
      rw [hb1] at h
      have hr := Nat.le_of_ble_eq_true hb1
      simp only [cond_true] at h
      split at h
      · rename_i q hA
        cases hb2 : (Nat.beq q.1 2 && zi_in x q.2.1 && zi_sok 2 v) with
        | false => rw [hb2] at h; cases h
        | true =>
          rw [hb2] at h
          rw [Bool.and_eq_true, Bool.and_eq_true] at hb2
          have e1 := Nat.eq_of_beq_eq_true hb2.1.1
          have hin := zi_in_ok hb2.1.2
          have hsok := hb2.2
          cases h
          intro Q ws H locs ls sc hS _ _ kk
          obtain ⟨h1, h2, h3, h4, ⟨lv, h5, h7⟩, h6⟩ := hS
          obtain ⟨w, sc, rfl, hw, k4⟩ := zi_F2_cons h6
          obtain ⟨w0, sc, rfl, hw0, k5⟩ := zi_F2_cons k4
          have hw0 : w0 = .int x := hw0
          subst hw0
          obtain ⟨w1, sc, rfl, ⟨a, had, rfl⟩, k6⟩ := zi_F2_cons k5
          obtain ⟨e0, he0, har⟩ := zi_cell_arr h4 hr had hA
          rw [e1] at har
          obtain ⟨f, rfl, hf⟩ := har
          obtain ⟨y, ev, hny⟩ := zi_sok_boolean hsok
          subst ev
          have hw : w = .int y := hw
          subst hw
          refine va_zast hx hb hX.1 h1 h2 h3 (r - 10) 2 he0 (zi_tys_at dA (by decide)) hin hd (fun H1 locs1 p1 p2 p3 => ?_)
          rw [zi_nar hny] at p1 p2
          refine kk _ H1 locs1 ls sc (zi_ex_set he0) (zi_st_set he0 h4 h5 h7 k6 (?_ : zi_ar _ _ q.1 _ _ _ _) p1 p2 p3)
          rw [e1]
          refine ⟨_, rfl, fun j hj => ?_⟩
          refine zi_look_up (P := fun j z => zi_vr (zi_ad adK adV b ws) z (Value.int (upd f x.toNatClampNeg y j))) (fun ej => ?_) (fun ej => ?_)
          · have e2 : upd f x.toNatClampNeg y j = y := by unfold upd; rw [if_pos ej]
            try dsimp only
            rw [e2]
            first | exact hw | rfl
          · have e2 : upd f x.toNatClampNeg y j = f j := by unfold upd; rw [if_neg ej]
            try dsimp only
            rw [e2]
            exact hf j hj
      · cases h
  · cases h
theorem zi_go_cast (C : zi_Cx p R s m args meth c B0 D dA adK adV b M d sl) (hd : decode M.2.1 pc = .ok (.castore, 1)) (h : zi_ast 3 pc 1 al st A nc ns = some (.inl g)) : zi_Go p l e R s m args below meth c B0 D dA adK adV b M.2.2.1 (pc, al, st, A, nc, ns) g := by
  obtain ⟨⟨hx, hb, hml, hret, hown, hts, hlk, hnm⟩, hX, hR, hscr⟩ := C
  unfold zi_ast at h
  split at h
  · rename_i v x r rest
    cases hb1 : Nat.ble 10 r with
    | false => rw [hb1] at h; cases h
    | true =>
      rw [hb1] at h
      have hr := Nat.le_of_ble_eq_true hb1
      simp only [cond_true] at h
      split at h
      · rename_i q hA
        cases hb2 : (Nat.beq q.1 3 && zi_in x q.2.1 && zi_sok 3 v) with
        | false => rw [hb2] at h; cases h
        | true =>
          rw [hb2] at h
          rw [Bool.and_eq_true, Bool.and_eq_true] at hb2
          have e1 := Nat.eq_of_beq_eq_true hb2.1.1
          have hin := zi_in_ok hb2.1.2
          have hsok := hb2.2
          cases h
          intro Q ws H locs ls sc hS _ _ kk
          obtain ⟨h1, h2, h3, h4, ⟨lv, h5, h7⟩, h6⟩ := hS
          obtain ⟨w, sc, rfl, hw, k4⟩ := zi_F2_cons h6
          obtain ⟨w0, sc, rfl, hw0, k5⟩ := zi_F2_cons k4
          have hw0 : w0 = .int x := hw0
          subst hw0
          obtain ⟨w1, sc, rfl, ⟨a, had, rfl⟩, k6⟩ := zi_F2_cons k5
          obtain ⟨e0, he0, har⟩ := zi_cell_arr h4 hr had hA
          rw [e1] at har
          obtain ⟨f, rfl, hf⟩ := har
          obtain ⟨y, ev, hny⟩ := zi_sok_char hsok
          subst ev
          have hw : w = .int y := hw
          subst hw
          refine va_cast hx hb hX.1 h1 h2 h3 (r - 10) 3 he0 (zi_tys_at dA (by decide)) hin hd (fun H1 locs1 p1 p2 p3 => ?_)
          rw [zi_nar hny] at p1 p2
          refine kk _ H1 locs1 ls sc (zi_ex_set he0) (zi_st_set he0 h4 h5 h7 k6 (?_ : zi_ar _ _ q.1 _ _ _ _) p1 p2 p3)
          rw [e1]
          refine ⟨_, rfl, fun j hj => ?_⟩
          refine zi_look_up (P := fun j z => zi_vr (zi_ad adK adV b ws) z (Value.int (upd f x.toNatClampNeg y j))) (fun ej => ?_) (fun ej => ?_)
          · have e2 : upd f x.toNatClampNeg y j = y := by unfold upd; rw [if_pos ej]
            try dsimp only
            rw [e2]
            first | exact hw | rfl
          · have e2 : upd f x.toNatClampNeg y j = f j := by unfold upd; rw [if_neg ej]
            try dsimp only
            rw [e2]
            exact hf j hj
      · cases h
  · cases h
theorem zi_dfv_ok (ty : FieldType) (h1 : ty ≠ .float) (h2 : ty ≠ .double) (ad : Nat → Option Nat) : zi_vr ad (zi_dfv ty) (defaultValue ty) := by
  cases ty <;> first | rfl | exact absurd rfl h1 | exact absurd rfl h2
theorem zi_new_ok (ad : Nat → Option Nat) : ∀ (l : List ((String × String × String × Bool) × FieldType)), (∀ x ∈ l, x.2 ≠ .float ∧ x.2 ≠ .double) → zi_F2 (zi_vr ad) (l.map (fun q => zi_dfv q.2)) (l.map (fun q => defaultValue q.2))
  | [], _ => trivial
  | x :: l, h => ⟨zi_dfv_ok _ (h x List.mem_cons_self).1 (h x List.mem_cons_self).2 ad, zi_new_ok ad l (fun y hy => h y (List.mem_cons_of_mem _ hy))⟩
theorem zi_go_nw (C : zi_Cx p R s m args meth c B0 D dA adK adV b M d sl) {ci i : Nat} (hd : decode M.2.1 pc = .ok (.new i, 3)) (ho : ∃ q, zi_Fs[ci]? = some q ∧ Cond.classLink M.1.cls i q.1 ∈ zi_gd ∧ Cond.instantiable q.1 q.2.length ∈ zi_gd ∧ Cond.initialized q.1 ∈ zi_gd) (h : zi_nw pc 3 al st A nc ns ci = some (.inl g)) : zi_Go p l e R s m args below meth c B0 D dA adK adV b M.2.2.1 (pc, al, st, A, nc, ns) g := by
  obtain ⟨⟨hx, hb, hml, hret, hown, hts, hlk, hnm⟩, hX, hR, hscr⟩ := C
  obtain ⟨q, hq1, hq2, hq3, hq4⟩ := ho
  have eq : zi_Fs.getD ci ("", []) = q := by rw [List.getD_eq_getElem?_getD, hq1]; rfl
  unfold zi_nw zi_new at h
  rw [eq] at h
  cases h
  intro Q ws H locs ls sc hS hc1 hc2 kk
  obtain ⟨h1, h2, h3, h4, ⟨lv, h5, h7⟩, h6⟩ := hS
  obtain ⟨c1, c2, c3, c4⟩ := zi_cl_ok hq1
  have hty : ∀ x ∈ q.2, x.2 ≠ .float ∧ x.2 ≠ .double := by
    intro x hx'
    obtain ⟨k, hk⟩ := List.getElem?_of_mem hx'
    have hl := (List.getElem?_eq_some_iff.mp hk).1
    have := c4 k hl
    rw [zi_ty_at hq1, List.getD_eq_getElem?_getD, hk] at this
    exact this
  refine va_new (fs := q.2.map (fun z => defaultValue z.2)) hx hb hts c1 (zi_ty ci) c2 hown (hts _ hq2) (hts _ hq3) (hts _ hq4) hX.1 h1 h2 h3 (fun z hz => Nat.le_trans hX.2.2.2.2.2.2.2 hz) (zi_cl_at hq1) (fun j hj => ?_) hc1 hc2 hd (fun a H1 p1 p2 p3 => ?_)
  · rw [zi_ty_at hq1]
    unfold vp_V
    rw [List.getD_eq_getElem?_getD, List.getD_eq_getElem?_getD, List.getElem?_map]
    rw [List.getElem?_eq_getElem hj]
    rfl
  · exact kk _ H1 locs ls _ zi_ex_app (zi_st_new h4 h5 h7 h6 (fun ad => ⟨_, rfl, zi_new_ok ad q.2 hty⟩) p1 p2 p3)
theorem zi_cA {t : Nat} {cA : ClassId} (ht : t < 7) (h1 : va_K D zi_cl (zi_tys dA) s) (h2 : va_K D zi_cl (zi_tys dA ++ [(cA, zi_ft t)]) s) : cA = dA t := by
  have g1 := (h1.2 t _ (zi_tys_at dA ht)).2
  have g2 := (h2.2 7 (cA, zi_ft t) (by rw [List.getElem?_append_right (by simp [zi_tys])]; simp [zi_tys])).2
  rcases (show t = 0 ∨ t = 1 ∨ t = 2 ∨ t = 3 ∨ t = 4 ∨ t = 5 ∨ t = 6 by omega) with z | z | z | z | z | z | z <;> subst z
  · exact Option.some.inj ((show s.vm.findClass _ = some cA from g2).symm.trans (show s.vm.findClass _ = some (dA 0) from g1))
  · exact Option.some.inj ((show s.vm.findClass _ = some cA from g2).symm.trans (show s.vm.findClass _ = some (dA 1) from g1))
  · exact Option.some.inj ((show s.vm.findClass _ = some cA from g2).symm.trans (show s.vm.findClass _ = some (dA 2) from g1))
  · exact Option.some.inj ((show s.vm.findClass _ = some cA from g2).symm.trans (show s.vm.findClass _ = some (dA 3) from g1))
  all_goals (
    obtain ⟨k1, c1, -, -, -, e1⟩ := g1
    obtain ⟨k2, c2, -, -, -, e2⟩ := g2
    exact Option.some.inj (e2.symm.trans e1))
theorem zi_cb (t : Nat) (h : t < 4) {n : Nat} (hn : n ≤ 1000000) : n * componentBytes (zi_ft t) ≤ 536870912 := by
  rcases (show t = 0 ∨ t = 1 ∨ t = 2 ∨ t = 3 by omega) with z | z | z | z <;> subst z
  · rw [show componentBytes (zi_ft 0) = 4 from rfl]; omega
  · rw [show componentBytes (zi_ft 1) = 8 from rfl]; omega
  · rw [show componentBytes (zi_ft 2) = 1 from rfl]; omega
  · rw [show componentBytes (zi_ft 3) = 2 from rfl]; omega
theorem zi_go_nwa (C : zi_Cx p R s m args meth c B0 D dA adK adV b M d sl) {t : Nat} {at0 : ArrayType} (hd : decode M.2.1 pc = .ok (.newarray at0, 2)) (hty : newarray.typeOf at0 = zi_ft t) (h4t : t < 4) (harr : Cond.arrayClass (newarray.typeOf at0) ∈ zi_gd) (h : zi_nwa pc 2 al st A nc ns t = some (.inl g)) : zi_Go p l e R s m args below meth c B0 D dA adK adV b M.2.2.1 (pc, al, st, A, nc, ns) g := by
  obtain ⟨⟨hx, hb, hml, hret, hown, hts, hlk, hnm⟩, hX, hR, hscr⟩ := C
  unfold zi_nwa at h
  split at h
  · rename_i x r
    cases hb1 : (!decide (x < 0) && Nat.ble x.toNatClampNeg 1000000 && Nat.ble t 6) with
    | false => rw [hb1] at h; cases h
    | true =>
      rw [hb1] at h
      simp only [Bool.and_eq_true, Bool.not_eq_true', decide_eq_false_iff_not] at hb1
      have hN := Nat.le_of_ble_eq_true hb1.1.2
      cases h
      intro Q ws H locs ls sc hS hc1 hc2 kk
      obtain ⟨h1, h2, h3, h4, ⟨lv, h5, h7⟩, h6⟩ := hS
      obtain ⟨w, sc, rfl, hw, k6⟩ := zi_F2_cons h6
      have hw : w = .int x := hw
      subst hw
      rcases (show t = 0 ∨ t = 1 ∨ t = 2 ∨ t = 3 by omega) with z | z | z | z <;> subst z
      · refine va_newa (atype := at0) (ty := .int) (N' := x.toNatClampNeg) (a0 := (x.toNatClampNeg, .inl (fun _ => 0))) hx hb (hts _ harr) hty hX.1 h1 h2 h3 (fun z hz => Nat.le_trans hX.2.2.2.2.2.2.2 hz) (fun _ => rfl) hb1.1.1 rfl (zi_cb 0 (by decide) hN) hc1 hc2 hd (fun a cA H1 p0 p1 p2 p3 => ?_)
        have e1 := zi_cA (t := 0) (by decide) hX.1 p0
        subst e1
        exact kk _ H1 locs ls _ zi_ex_app (zi_st_new h4 h5 h7 k6 (fun ad => ⟨_, rfl, fun _ _ => rfl⟩) p1 p2 p3)
      · refine va_newa (atype := at0) (ty := .long) (N' := x.toNatClampNeg) (a0 := (x.toNatClampNeg, .inr (.inl (fun _ => 0)))) hx hb (hts _ harr) hty hX.1 h1 h2 h3 (fun z hz => Nat.le_trans hX.2.2.2.2.2.2.2 hz) (fun _ => rfl) hb1.1.1 rfl (zi_cb 1 (by decide) hN) hc1 hc2 hd (fun a cA H1 p0 p1 p2 p3 => ?_)
        have e1 := zi_cA (t := 1) (by decide) hX.1 p0
        subst e1
        exact kk _ H1 locs ls _ zi_ex_app (zi_st_new h4 h5 h7 k6 (fun ad => ⟨_, rfl, fun _ _ => rfl⟩) p1 p2 p3)
      · refine va_newa (atype := at0) (ty := .boolean) (N' := x.toNatClampNeg) (a0 := (x.toNatClampNeg, .inl (fun _ => 0))) hx hb (hts _ harr) hty hX.1 h1 h2 h3 (fun z hz => Nat.le_trans hX.2.2.2.2.2.2.2 hz) (fun _ => rfl) hb1.1.1 rfl (zi_cb 2 (by decide) hN) hc1 hc2 hd (fun a cA H1 p0 p1 p2 p3 => ?_)
        have e1 := zi_cA (t := 2) (by decide) hX.1 p0
        subst e1
        exact kk _ H1 locs ls _ zi_ex_app (zi_st_new h4 h5 h7 k6 (fun ad => ⟨_, rfl, fun _ _ => rfl⟩) p1 p2 p3)
      · refine va_newa (atype := at0) (ty := .char) (N' := x.toNatClampNeg) (a0 := (x.toNatClampNeg, .inl (fun _ => 0))) hx hb (hts _ harr) hty hX.1 h1 h2 h3 (fun z hz => Nat.le_trans hX.2.2.2.2.2.2.2 hz) (fun _ => rfl) hb1.1.1 rfl (zi_cb 3 (by decide) hN) hc1 hc2 hd (fun a cA H1 p0 p1 p2 p3 => ?_)
        have e1 := zi_cA (t := 3) (by decide) hX.1 p0
        subst e1
        exact kk _ H1 locs ls _ zi_ex_app (zi_st_new h4 h5 h7 k6 (fun ad => ⟨_, rfl, fun _ _ => rfl⟩) p1 p2 p3)
  · cases h
theorem zi_go_nwq (C : zi_Cx p R s m args meth c B0 D dA adK adV b M d sl) {t i : Nat} {Cn : String} (hd : decode M.2.1 pc = .ok (.anewarray i, 3)) (hty : zi_ft t = .object Cn) (h4t : 4 ≤ t) (h6t : t < 7) (hcl : Cond.classLink M.1.cls i Cn ∈ zi_gd) (h : zi_nwa pc 3 al st A nc ns t = some (.inl g)) : zi_Go p l e R s m args below meth c B0 D dA adK adV b M.2.2.1 (pc, al, st, A, nc, ns) g := by
  obtain ⟨⟨hx, hb, hml, hret, hown, hts, hlk, hnm⟩, hX, hR, hscr⟩ := C
  unfold zi_nwa at h
  split at h
  · rename_i x r
    cases hb1 : (!decide (x < 0) && Nat.ble x.toNatClampNeg 1000000 && Nat.ble t 6) with
    | false => rw [hb1] at h; cases h
    | true =>
      rw [hb1] at h
      simp only [Bool.and_eq_true, Bool.not_eq_true', decide_eq_false_iff_not] at hb1
      have hN := Nat.le_of_ble_eq_true hb1.1.2
      cases h
      intro Q ws H locs ls sc hS hc1 hc2 kk
      obtain ⟨h1, h2, h3, h4, ⟨lv, h5, h7⟩, h6⟩ := hS
      obtain ⟨w, sc, rfl, hw, k6⟩ := zi_F2_cons h6
      have hw : w = .int x := hw
      subst hw
      have hao : va_AO Cn s := by
        rcases (show t = 4 ∨ t = 5 ∨ t = 6 by omega) with z | z | z <;> (subst z; cases hty)
        · exact hX.2.2.2.2.2.2.1.1
        · exact hX.2.2.2.2.2.2.1.2.1
        · exact hX.2.2.2.2.2.2.1.2.2
      refine va_newq (N' := x.toNatClampNeg) hx hb hown (hts _ hcl) hao hX.1 h1 h2 h3 (fun z hz => Nat.le_trans hX.2.2.2.2.2.2.2 hz) hb1.1.1 rfl (by omega) hc1 hc2 hd (fun a cA H1 p0 p1 p2 p3 => ?_)
      rw [← hty] at p0
      have e1 := zi_cA h6t hX.1 p0
      subst e1
      refine kk _ H1 locs ls _ zi_ex_app (zi_st_new h4 h5 h7 k6 (fun ad => (?_ : zi_ar _ _ _ _ _ _ _)) p1 p2 p3)
      rcases (show t = 4 ∨ t = 5 ∨ t = 6 by omega) with z | z | z <;> (subst z; exact ⟨_, rfl, fun _ _ => rfl⟩)
  · cases h
end ZH
end
section
section ZH
variable {p : Program} {l : Launch} {e : Env} {R : Room} {s : State} {m : MethodId} {args : Array Value} {below : List Frame} {meth : Method} {c : Code} {B0 : Nat} {D : va_G} {dA : Nat → ClassId} {adK adV : Nat → Nat} {b : Nat} {M : zi_M} {d : Nat} {sl : List zi_V}
variable {pc : Nat} {al : List (Nat × zi_V)} {st : List zi_V} {A : List zi_C} {nc ns : Nat} {g : zi_F}
theorem zi_go_aast (C : zi_Cx p R s m args meth c B0 D dA adK adV b M d sl) (hd : decode M.2.1 pc = .ok (.aastore, 1)) (h : zi_aas pc 1 al st A nc ns = some (.inl g)) : zi_Go p l e R s m args below meth c B0 D dA adK adV b M.2.2.1 (pc, al, st, A, nc, ns) g := by
  obtain ⟨⟨hx, hb, hml, hret, hown, hts, hlk, hnm⟩, hX, hR, hscr⟩ := C
  unfold zi_aas at h
  split at h
  · rename_i v x r rest
    cases hb1 : Nat.ble 10 r with
    | false => rw [hb1] at h; cases h
    | true =>
      rw [hb1] at h
      have hr := Nat.le_of_ble_eq_true hb1
      simp only [cond_true] at h
      split at h
      · rename_i q hA
        cases hb2 : (Nat.ble 4 q.1 && Nat.ble q.1 6 && zi_in x q.2.1 && zi_aso A q.1 v) with
        | false => rw [hb2] at h; cases h
        | true =>
          rw [hb2] at h
          rw [Bool.and_eq_true, Bool.and_eq_true, Bool.and_eq_true] at hb2
          have g4 := Nat.le_of_ble_eq_true hb2.1.1.1
          have g6 := Nat.le_of_ble_eq_true hb2.1.1.2
          have hin := zi_in_ok hb2.1.2
          have hso := hb2.2
          cases h
          intro Q ws H locs ls sc hS hc1 hc2 kk
          obtain ⟨h1, h2, h3, h4, ⟨lv, h5, h7⟩, h6⟩ := hS
          obtain ⟨w, sc, rfl, hw, k4⟩ := zi_F2_cons h6
          obtain ⟨w0, sc, rfl, hw0, k5⟩ := zi_F2_cons k4
          have hw0 : w0 = .int x := hw0
          subst hw0
          obtain ⟨w1, sc, rfl, ⟨a, had, rfl⟩, k6⟩ := zi_F2_cons k5
          obtain ⟨e0, he0, har⟩ := zi_cell_arr h4 hr had hA
          have ek : zi_tk q.1 = 2 ∧ ∃ Cn, zi_ft q.1 = .object Cn := by
            rcases (show q.1 = 4 ∨ q.1 = 5 ∨ q.1 = 6 by omega) with z | z | z <;> (rw [z]; exact ⟨rfl, _, rfl⟩)
          obtain ⟨ek, Cn, hCn⟩ := ek
          unfold zi_ar at har
          rw [ek] at har
          obtain ⟨f, rfl, hf⟩ := har
          have fin : ∀ (y : Option Nat), zi_vr (zi_ad adK adV b ws) v (va_rf y) → ∀ (H1 : Heap) (locs1 : List Loc), va_P D zi_cl (ws.set (r - 10) (a, .inl (dA q.1, q.2.1, .inr (.inr (.inr (.inr (va_up f x.toNatClampNeg y))))))) H1 → va_D (fun q => B0 ≤ q) (ws.set (r - 10) (a, .inl (dA q.1, q.2.1, .inr (.inr (.inr (.inr (va_up f x.toNatClampNeg y))))))) → va_S (fun q => B0 ≤ q) s.heap H1 locs1 → zi_W p l e R s m args below meth c Q nc ns (pc + 1) H1 locs1 ls sc := by
            intro y hy H1 locs1 p1 p2 p3
            refine kk _ H1 locs1 ls sc (zi_ex_set he0) (zi_st_set he0 h4 h5 h7 k6 (?_ : zi_ar _ _ _ _ _ _ _) p1 p2 p3)
            unfold zi_ar
            rw [ek]
            refine ⟨_, rfl, fun j hj => ?_⟩
            refine zi_look_up (P := fun j z => zi_vr (zi_ad adK adV b ws) z (va_rf (va_up f x.toNatClampNeg y j))) (fun ej => ?_) (fun ej => ?_)
            · have e2 : va_up f x.toNatClampNeg y j = y := by unfold va_up; rw [if_pos ej]
              try dsimp only
              rw [e2]
              exact hy
            · have e2 : va_up f x.toNatClampNeg y j = f j := by unfold va_up; rw [if_neg ej]
              try dsimp only
              rw [e2]
              exact hf j hj
          unfold zi_aso at hso
          split at hso
          · have hw : w = .null := hw
            subst hw
            have hty : (zi_tys dA)[q.1]? = some (dA q.1, .object Cn) := by rw [zi_tys_at dA (by omega), hCn]
            have hz : zi_vr (zi_ad adK adV b ws) (.inl .null) (va_rf none) := rfl
            have fin2 := fin none hz
            refine va_astqN (C := Cn) (f := f) hx hb hX.1 h1 h2 h3 (r - 10) q.1 he0 hty hin hd ?_
            exact fin2
          · rename_i r2
            rw [Bool.and_eq_true] at hso
            have hr2 := Nat.le_of_ble_eq_true hso.1
            have hso2 := hso.2
            split at hso2
            · rename_i q2 hA2
              have hz := of_decide_eq_true hso2
              have hw' := hw
              obtain ⟨a2, had2, rfl⟩ := hw
              obtain ⟨vs, hvs, -⟩ := zi_cell_obj h4 hr2 had2 hA2
              cases hq3 : zi_Fs[q2.1]? with
              | none => rw [hq3] at hz; cases hz
              | some q3 =>
                rw [hq3] at hz
                have hz : zi_ft q.1 = .object q3.1 := Option.some.inj hz
                obtain ⟨q4, hq4, e4⟩ : ∃ q4 : vw_C, zi_cl[q2.1]? = some q4 ∧ q4.1 = q3.1 := ⟨_, zi_cl_at hq3, rfl⟩
                have hty : (zi_tys dA)[q.1]? = some (dA q.1, .object q4.1) := by rw [zi_tys_at dA (by omega), hz, e4]
                have fin2 := fin (some a2) hw'
                exact va_astq (f := f) (v := a2) (vs := vs) hx hb hX.1 h1 h2 h3 (r - 10) q.1 (r2 - 10) q2.1 (r := q4) he0 hty hvs hq4 hin hd fin2
            · cases hso2
          · cases hso
      · cases h
  · cases h
end ZH
end
section
/-! Calls: the contract that a run gives, and its use. -/
def zi_ws (N : zi_M) : List Cond := Cond.code N.1 N.2.1 N.2.2.1 N.2.2.2.1 :: zi_gd
def zi_room (d nc ns : Nat) : Room := { frames := d, cells := nc, slots := ns, locals := 60 * d }
def zi_Pc (B0 : Nat) (D : va_G) (dA : Nat → ClassId) (adK adV : Nat → Nat) (ws : va_W) (vs : List Value) : Array Value → State → Prop := va_Pc vs (fun U => zi_X B0 D dA adK adV U ∧ va_P D zi_cl ws U.heap ∧ va_D (fun q => B0 ≤ q) ws)
def zi_ro (ad : Nat → Option Nat) (r : Option zi_V) (v : Option Value) : Prop := match r, v with
  | none, none => True
  | some x, some w => zi_vr ad x w
  | _, _ => False
def zi_Q (B0 : Nat) (D : va_G) (dA : Nat → ClassId) (adK adV : Nat → Nat) (b : Nat) (ws : va_W) (rv : Option zi_V) (A' : List zi_C) : Array Value → State → Outcome → State → Prop := fun _ st oc t =>
  (∃ (v : Option Value) (ws' : va_W), oc = .returned v ∧ zi_ex ws ws' ∧ zi_ro (zi_ad adK adV b ws') rv v ∧ zi_F2 (zi_cr (zi_ad adK adV b ws') dA) A' ws' ∧ va_P D zi_cl ws' t.heap ∧ va_D (fun q => B0 ≤ q) ws') ∧ va_F (fun q => B0 ≤ q) st t
def zi_Met (l : Launch) (N : zi_M) (d : Nat) (avs : List zi_V) (A : List zi_C) (rv : Option zi_V) (A' : List zi_C) (nc ns : Nat) : Prop := ∀ (B0 : Nat) (D : va_G) (dA : Nat → ClassId) (adK adV : Nat → Nat) (b : Nat) (ws : va_W) (vs : List Value), zi_F2 (zi_vr (zi_ad adK adV b ws)) avs vs → zi_F2 (zi_cr (zi_ad adK adV b ws) dA) A ws →
  Met l N.1 (zi_ws N) (zi_room d nc ns) (zi_Pc B0 D dA adK adV ws vs) (zi_Q B0 D dA adK adV b ws rv A') nc ns (fun q => B0 ≤ q)
def zi_Ct (l : Launch) (Ms : List zi_M) (d : Nat) (call : zi_K) : Prop := ∀ (mi : Nat) (avs : List zi_V) (A : List zi_C) (r : zi_R), call mi avs A = some r → ∃ N, Ms[mi]? = some N ∧ zi_Met l N d avs A r.1 r.2.1 r.2.2.1 r.2.2.2
def zi_okM (N : zi_M) : Prop := Cond.code N.1 N.2.1 N.2.2.1 N.2.2.2.1 ∈ zi_gd ∧ Cond.initialized N.1.cls ∈ zi_gd ∧ (N.1.cls ≠ "java/lang/invoke/MethodHandle" ∧ N.1.cls ≠ "java/lang/invoke/VarHandle") ∧ plainName N.1.cls = true ∧ N.2.2.1 ≤ 41
theorem zi_good {N : zi_M} (h : zi_okM N) : GoodIn zi_gd (zi_ws N) := by
  intro w hw
  have hm : w ∈ zi_gd := by
    rcases List.mem_cons.mp hw with e | e
    · rw [e]; exact h.1
    · exact e
  exact ⟨hm, good_of_word (List.mem_filter.mp hm).2⟩
theorem zi_goodL {ws : List Cond} (h : ∀ w ∈ ws, w ∈ zi_gd) : GoodIn zi_gd ws := fun w hw => ⟨h w hw, good_of_word (List.mem_filter.mp (h w hw)).2⟩
section ZC
variable {p : Program} {l : Launch} {e : Env} {R : Room} {s : State} {m : MethodId} {args : Array Value} {below : List Frame} {meth : Method} {c : Code} {B0 : Nat} {D : va_G} {dA : Nat → ClassId} {adK adV : Nat → Nat} {b : Nat} {M : zi_M} {d : Nat} {sl : List zi_V}
variable {pc : Nat} {al : List (Nat × zi_V)} {st : List zi_V} {A : List zi_C} {nc ns : Nat} {g : zi_F} {Ms : List zi_M} {call : zi_K}
theorem zi_callW {H : Heap} {locs : List Loc} {ls : Array Slot} {st0 rest : List Value} {Q : State → Prop} {mc ms : Nat} {ws : va_W} {rv : Option zi_V} {A' : List zi_C} {a : Array Value} (hr : va_Run p l e R s m args below meth c H locs nc ns mc ms (F0 m pc ls st0) rest (zi_Q B0 D dA adK adV b ws rv A' a) (fun q => B0 ≤ q)) (hS : va_S (fun q => B0 ≤ q) s.heap H locs)
    (kk : ∀ (v : Option Value) (ws' : va_W) (H1 : Heap) (locs1 : List Loc), zi_ex ws ws' → zi_ro (zi_ad adK adV b ws') rv v → zi_F2 (zi_cr (zi_ad adK adV b ws') dA) A' ws' → va_P D zi_cl ws' H1 → va_D (fun q => B0 ≤ q) ws' → va_S (fun q => B0 ≤ q) s.heap H1 locs1 → zi_W p l e R s m args below meth c Q (nc + mc) (ns + ms) (pc + 3) H1 locs1 ls (v.toList ++ rest)) : zi_W p l e R s m args below meth c Q nc ns pc H locs ls st0 := by
  intro T hT X
  obtain ⟨v, st₀, t, T', L, h0, X', hL, e1, e2, ⟨⟨v', ws', hv, hex, hro, hF, hP, hD⟩, hz, hk⟩, stp⟩ := hr T hT X
  cases hv
  rw [h0] at hz hk
  obtain ⟨t2, a1, b1⟩ := kk v ws' T'.heap (locs ++ L) hex hro hF (by rw [e1]; exact hP) hD
    ⟨Nat.le_trans hS.1 (by rw [e1]; exact hz), fun q h1 h2 => by rw [e1, hk q (Nat.lt_of_lt_of_le h1 hS.1) h2]; exact hS.2.1 q h1 h2, fun q hq => by
      rcases List.mem_append.mp hq with h | h
      · exact hS.2.2 q h
      · exact hL q h⟩ T' rfl X'
  exact ⟨t2, stp t2 a1, b1⟩
theorem zi_go_inv (hct : zi_Ct l Ms d call) {mi k : Nat}
    (hrun : ∀ (N : zi_M), Ms[mi]? = some N → ∀ (rv : Option zi_V) (A' : List zi_C) (mc ms : Nat) (ws : va_W) (H : Heap) (locs : List Loc) (ls : Array Slot) (vs rest : List Value), Met l N.1 (zi_ws N) (zi_room d mc ms) (zi_Pc B0 D dA adK adV ws vs) (zi_Q B0 D dA adK adV b ws rv A') mc ms (fun q => B0 ≤ q) → va_P D zi_cl ws H → va_D (fun q => B0 ≤ q) ws → va_S (fun q => B0 ≤ q) s.heap H locs → zi_F2 (zi_cr (zi_ad adK adV b ws) dA) A ws → zi_F2 (zi_vr (zi_ad adK adV b ws)) (st.take k).reverse vs → vs.length = k → ls.size = M.2.2.1 → (rest.map fun v => v.category).sum ≤ 8 → nc + mc ≤ R.cells → ns + ms ≤ R.slots →
      va_Run p l e R s m args below meth c H locs nc ns mc ms (F0 m pc ls (vs.reverse ++ rest)) rest (zi_Q B0 D dA adK adV b ws rv A' vs.toArray) (fun q => B0 ≤ q))
    (h : zi_inv call pc 3 al st A nc ns mi k = some (.inl g)) : zi_Go p l e R s m args below meth c B0 D dA adK adV b M.2.2.1 (pc, al, st, A, nc, ns) g := by
  unfold zi_inv at h
  cases hb1 : (Nat.ble k st.length && Nat.ble (zi_cats (st.drop k)) 8) with
  | false => rw [hb1] at h; cases h
  | true =>
    rw [hb1] at h
    rw [Bool.and_eq_true] at hb1
    have hk := Nat.le_of_ble_eq_true hb1.1
    have h8 := Nat.le_of_ble_eq_true hb1.2
    simp only [cond_true] at h
    split at h
    · rename_i r hr
      obtain ⟨N, hN, hM⟩ := hct mi _ _ r hr
      have main : ∀ (Q : State → Prop) (ws : va_W) (H : Heap) (locs : List Loc) (ls : Array Slot) (sc : List Value), zi_St B0 D dA adK adV b M.2.2.1 s (pc, al, st, A, nc, ns) ws H locs ls sc → nc + r.2.2.1 ≤ R.cells → ns + r.2.2.2 ≤ R.slots → (∀ (v : Option Value) (ws' : va_W) (H' : Heap) (locs' : List Loc) (ls' : Array Slot) (sc' : List Value), zi_ex ws ws' → zi_ro (zi_ad adK adV b ws') r.1 v → zi_F2 (zi_cr (zi_ad adK adV b ws') dA) r.2.1 ws' → va_P D zi_cl ws' H' → va_D (fun q => B0 ≤ q) ws' → va_S (fun q => B0 ≤ q) s.heap H' locs' → (∃ lv, lv_has ls' M.2.2.1 lv ∧ zi_F2 (zi_lr (zi_ad adK adV b ws')) al lv) → zi_F2 (zi_vr (zi_ad adK adV b ws')) (st.drop k) sc' → zi_W p l e R s m args below meth c Q (nc + r.2.2.1) (ns + r.2.2.2) (pc + 3) H' locs' ls' (v.toList ++ sc')) → zi_W p l e R s m args below meth c Q nc ns pc H locs ls sc := by
        intro Q ws H locs ls sc hS hc1 hc2 kk
        obtain ⟨h1, h2, h3, h4, ⟨lv, h5, h7⟩, h6⟩ := hS
        have hlen := zi_F2_len h6
        have hlen : st.length = sc.length := hlen
        have hav := zi_F2_rev (zi_F2_take h6 k)
        have hdr := zi_F2_drop h6 k
        have hcat := zi_cats_ok hdr
        have run := hrun N hN r.1 r.2.1 r.2.2.1 r.2.2.2 ws H locs ls (sc.take k).reverse (sc.drop k) (hM B0 D dA adK adV b ws _ hav h4) h1 h2 h3 h4 hav (by rw [List.length_reverse, List.length_take]; omega) h5.1 (by
          rw [hcat]
          exact h8) hc1 hc2
        rw [List.reverse_reverse, List.take_append_drop] at run
        refine zi_callW run h3 (fun v ws' H1 locs1 hex hro hF hP hD hS => ?_)
        have hm := zi_ex_mo (adK := adK) (adV := adV) (b := b) hex
        exact kk v ws' H1 locs1 ls _ hex hro hF hP hD hS ⟨lv, h5, zi_F2_mono (fun _ _ h => ⟨h.1, zi_vr_mo hm h.2⟩) h7⟩ (zi_F2_mono (fun _ _ => zi_vr_mo hm) hdr)
      split at h
      · rename_i v hv
        cases h
        intro Q ws H locs ls sc hS hc1 hc2 kk
        refine main Q ws H locs ls sc hS hc1 hc2 (fun w ws' H1 locs1 ls1 sc1 hex hro hF hP hD hS hl hst => ?_)
        rw [hv] at hro
        cases w with
        | none => exact hro.elim
        | some w => exact kk ws' H1 locs1 ls1 _ hex ⟨hP, hD, hS, hF, hl, ⟨hro, hst⟩⟩
      · rename_i hv
        cases h
        intro Q ws H locs ls sc hS hc1 hc2 kk
        refine main Q ws H locs ls sc hS hc1 hc2 (fun w ws' H1 locs1 ls1 sc1 hex hro hF hP hD hS hl hst => ?_)
        rw [hv] at hro
        cases w with
        | some w => exact hro.elim
        | none => exact kk ws' H1 locs1 ls1 _ hex ⟨hP, hD, hS, hF, hl, hst⟩
    · cases h
theorem zi_pre {ws : va_W} {H : Heap} {locs : List Loc} {vs : List Value} (hX : zi_X B0 D dA adK adV s) (h1 : va_P D zi_cl ws H) (h2 : va_D (fun q => B0 ≤ q) ws) (h3 : va_S (fun q => B0 ≤ q) s.heap H locs) : FrameBlind (zi_Pc B0 D dA adK adV ws vs) ∧ ∀ U : State, U.heap = H → s.WarmedH U.vm → zi_Pc B0 D dA adK adV ws vs vs.toArray U :=
  ⟨fun a U g mk q => ⟨q.1, zi_X_cl q.2.1, q.2.2⟩, fun U hU hW => ⟨rfl, zi_X_mv hX hW hU h3, by rw [hU]; exact h1, h2⟩⟩
theorem zi_rm {N : zi_M} {mc ms : Nat} (hN : zi_okM N) (hR : d + 1 ≤ R.frames ∧ 60 * (d + 1) ≤ R.locals) : (zi_room d mc ms).frames + 1 ≤ R.frames ∧ 8 + (N.2.2.1 + 11) + (zi_room d mc ms).locals ≤ R.locals := by
  have h := hN.2.2.2.2
  exact ⟨hR.1, by show 8 + (N.2.2.1 + 11) + 60 * d ≤ R.locals; omega⟩
end ZC
end
section
/-! The kinds of calls. -/
section ZK
variable {p : Program} {l : Launch} {e : Env} {R : Room} {s : State} {m : MethodId} {args : Array Value} {below : List Frame} {meth : Method} {c : Code} {B0 : Nat} {D : va_G} {dA : Nat → ClassId} {adK adV : Nat → Nat} {b : Nat} {M : zi_M} {d : Nat} {sl : List zi_V}
variable {pc : Nat} {al : List (Nat × zi_V)} {st : List zi_V} {A : List zi_C} {nc ns : Nat} {g : zi_F} {Ms : List zi_M} {call : zi_K}
theorem zi_go_invS (C : zi_Cx p R s m args meth c B0 D dA adK adV b M d sl) (hct : zi_Ct l Ms d call) {mi k i : Nat} (hd : decode M.2.1 pc = .ok (.invokestatic i, 3)) (ho : ∀ N, Ms[mi]? = some N → zi_okM N ∧ (Cond.methodLink M.1.cls i N.1 ∈ zi_gd ∨ (M.1.cls, i, N.1, "AgreeTold") ∈ zi_nest) ∧ Cond.static N.1 ∈ zi_gd ∧ (parseMethodDescriptor N.1.desc).map (fun d => d.parameters.length) = some k) (h : zi_inv call pc 3 al st A nc ns mi k = some (.inl g)) : zi_Go p l e R s m args below meth c B0 D dA adK adV b M.2.2.1 (pc, al, st, A, nc, ns) g := by
  obtain ⟨⟨hx, hb, hml, hret, hown, hts, hlk, hnm⟩, hX, hR, hscr⟩ := C
  refine zi_go_inv hct (fun N hN rv A' mc ms ws H locs ls vs rest hM h1 h2 h3 h4 hF hlen hsz hcat hc1 hc2 => ?_) h
  obtain ⟨o1, o2, o3, o4⟩ := ho N hN
  rcases o2 with o2 | o2
  · refine va_runS (Ts := zi_gd) ⟨hx, hb, hml, hown, hts⟩ hM (va_cwS k hts (zi_goodL ?_) rfl rfl rfl ⟨o1.2.2.1.1, o1.2.2.1.2, o4⟩ (zi_rm o1 hR)) (zi_pre hX h1 h2 h3) rfl hlen hsz rfl (lv_room hcat) hd ⟨hc1, hc2⟩
    intro w hw
    rcases List.mem_append.mp hw with z | z
    · rcases List.mem_cons.mp z with z | z
      · rw [z]; exact o2
      · rcases List.mem_cons.mp z with z | z
        · rw [z]; exact o3
        · rcases List.mem_cons.mp z with z | z
          · rw [z]; exact o1.2.1
          · cases z
    · exact (zi_good o1 w z).1
  · exact va_runSN (Ts := zi_gd) ⟨hx, hb, hml, hown, hts⟩ hM ⟨va_cnB k hts (zi_good o1) rfl rfl rfl (hX.2.2.2.2.2.1 _ o2) (hts _ o1.2.1) ⟨o1.2.2.1.1, o1.2.2.1.2, o4⟩ (zi_rm o1 hR), hts _ o3, trivial⟩ (zi_pre hX h1 h2 h3) rfl hlen hsz rfl (lv_room hcat) hd ⟨hc1, hc2⟩
theorem zi_take_last {k r : Nat} (hk : 1 ≤ k) (hs : k ≤ st.length) (h : st[k - 1]? = some (.inl (.ref r))) : ∃ as : List zi_V, (st.take k).reverse = .inl (.ref r) :: as := by
  obtain ⟨k, rfl⟩ : ∃ j, k = j + 1 := ⟨k - 1, by omega⟩
  have hl : k < st.length := by omega
  refine ⟨(st.take k).reverse, ?_⟩
  have h : st[k]? = some (.inl (.ref r)) := h
  rw [List.take_add_one, h]
  simp
theorem zi_go_invI (C : zi_Cx p R s m args meth c B0 D dA adK adV b M d sl) (hct : zi_Ct l Ms d call) {mi k i r : Nat} (hd : decode M.2.1 pc = .ok (.invokespecial i, 3)) (ho : ∀ N, Ms[mi]? = some N → zi_okM N ∧ (Cond.methodLink M.1.cls i N.1 ∈ zi_gd ∨ (M.1.cls, i, N.1, "AgreeTold") ∈ zi_nest) ∧ Cond.instanceMethod N.1 ∈ zi_gd ∧ N.1.name = "<init>" ∧ N.2.2.2.1 = none ∧ (parseMethodDescriptor N.1.desc).map (fun d => d.parameters.length + 1) = some k) (hk : 1 ≤ k) (hrec : st[k - 1]? = some (.inl (.ref r))) (h : zi_inv call pc 3 al st A nc ns mi k = some (.inl g)) : zi_Go p l e R s m args below meth c B0 D dA adK adV b M.2.2.1 (pc, al, st, A, nc, ns) g := by
  obtain ⟨⟨hx, hb, hml, hret, hown, hts, hlk, hnm⟩, hX, hR, hscr⟩ := C
  have hst : k ≤ st.length := by
    have := (List.getElem?_eq_some_iff.mp hrec).1
    omega
  obtain ⟨as, has⟩ := zi_take_last hk hst hrec
  refine zi_go_inv hct (fun N hN rv A' mc ms ws H locs ls vs rest hM h1 h2 h3 h4 hF hlen hsz hcat hc1 hc2 => ?_) h
  obtain ⟨o1, o2, o3, o4, o5, o6⟩ := ho N hN
  rw [has] at hF
  obtain ⟨w, vs, rfl, ⟨a, -, rfl⟩, -⟩ := zi_F2_cons hF
  have hlen : vs.length + 1 = k := hlen
  have o6' : (parseMethodDescriptor N.1.desc).map (fun d => d.parameters.length) = some (k - 1) := by
    cases hp : parseMethodDescriptor N.1.desc with
    | none => rw [hp] at o6; cases o6
    | some sg =>
      rw [hp] at o6
      have : sg.parameters.length + 1 = k := Option.some.inj o6
      show some sg.parameters.length = some (k - 1)
      rw [← this]
      rfl
  have hst2 : (Value.ref a :: vs).reverse ++ rest = vs.reverse ++ .ref a :: rest := by simp
  rw [hst2]
  obtain ⟨ny, nb, nL, nr, nt⟩ := N
  have o5 : nr = none := o5
  subst o5
  rcases o2 with o2 | o2
  · exact va_runI (Ts := zi_gd) ⟨hx, hb, hml, hown, hts⟩ hM (cwI (k - 1) hts (zi_good o1) rfl rfl rfl (hts _ o1.2.1) (hts _ o2) (hts _ o3) o4 ⟨o1.2.2.1.1, o1.2.2.1.2, o6'⟩ (zi_rm o1 hR)) (zi_pre hX h1 h2 h3) rfl (by omega) hsz rfl (lv_room hcat) hd ⟨hc1, hc2⟩
  · exact va_runIN (Ts := zi_gd) ⟨hx, hb, hml, hown, hts⟩ hM ⟨va_cnB (k - 1) hts (zi_good o1) rfl rfl rfl (hX.2.2.2.2.2.1 _ o2) (hts _ o1.2.1) ⟨o1.2.2.1.1, o1.2.2.1.2, o6'⟩ (zi_rm o1 hR), o4, hts _ o3⟩ (zi_pre hX h1 h2 h3) rfl (by omega) hsz rfl (lv_room hcat) hd ⟨hc1, hc2⟩
theorem zi_go_invV (C : zi_Cx p R s m args meth c B0 D dA adK adV b M d sl) (hct : zi_Ct l Ms d call) {mi k i ci : Nat} (hd : decode M.2.1 pc = .ok (.invokevirtual i, 3)) (ho : ∀ N, Ms[mi]? = some N → zi_okM N ∧ Cond.methodLink M.1.cls i N.1 ∈ zi_gd ∧ Cond.instanceMethod N.1 ∈ zi_gd ∧ Cond.selects N.1.cls N.1 N.1 ∈ zi_gd ∧ ((ci = 100 ∧ N.1.cls = "java/lang/String") ∨ (ci ≠ 100 ∧ ∃ q, zi_Fs[ci]? = some q ∧ q.1 = N.1.cls)) ∧ (parseMethodDescriptor N.1.desc).map (fun d => d.parameters.length + 1) = some k) (hk : 1 ≤ k) (hrec : zi_rcv A ci st[k - 1]? = true) (h : zi_inv call pc 3 al st A nc ns mi k = some (.inl g)) : zi_Go p l e R s m args below meth c B0 D dA adK adV b M.2.2.1 (pc, al, st, A, nc, ns) g := by
  obtain ⟨⟨hx, hb, hml, hret, hown, hts, hlk, hnm⟩, hX, hR, hscr⟩ := C
  unfold zi_rcv at hrec
  split at hrec
  · rename_i r hr
    have hst : k ≤ st.length := by
      have := (List.getElem?_eq_some_iff.mp hr).1
      omega
    obtain ⟨as, has⟩ := zi_take_last hk hst hr
    refine zi_go_inv hct (fun N hN rv A' mc ms ws H locs ls vs rest hM h1 h2 h3 h4 hF hlen hsz hcat hc1 hc2 => ?_) h
    obtain ⟨o1, o2, o3, o4, o5, o6⟩ := ho N hN
    rw [has] at hF
    obtain ⟨w, vs, rfl, ⟨a, had, rfl⟩, -⟩ := zi_F2_cons hF
    have hlen : vs.length + 1 = k := hlen
    have o6' : (parseMethodDescriptor N.1.desc).map (fun d => d.parameters.length) = some (k - 1) := by
      cases hp : parseMethodDescriptor N.1.desc with
      | none => rw [hp] at o6; cases o6
      | some sg =>
        rw [hp] at o6
        have : sg.parameters.length + 1 = k := Option.some.inj o6
        show some sg.parameters.length = some (k - 1)
        rw [← this]
        rfl
    have hst2 : (Value.ref a :: vs).reverse ++ rest = vs.reverse ++ .ref a :: rest := by simp
    rw [hst2]
    have hrcv : ∃ cellB : Cell, H[a]? = some cellB ∧ cellB.vm.isStatics = false ∧ s.vm.findClass N.1.cls = some cellB.cls := by
      cases hb1 : Nat.ble 10 r with
      | true =>
        rw [hb1] at hrec
        have hr10 := Nat.le_of_ble_eq_true hb1
        simp only [cond_true] at hrec
        split at hrec
        · rename_i q hA
          have e1 := Nat.eq_of_beq_eq_true hrec
          obtain ⟨vv, hvv, -⟩ := zi_cell_obj h4 hr10 had hA
          rw [e1] at hvv
          rcases o5 with ⟨z, -⟩ | ⟨-, qq, z1, z2⟩
          · have hP1 := h1 _ _ hvv
            obtain ⟨rr, hrr, -⟩ := hP1
            rw [z, zi_cl_none] at hrr
            cases hrr
          · have := va_recv hX.1 h1 (zi_cl_at z1) hvv
            rw [← z2]
            exact this
        · cases hrec
      | false =>
        rw [hb1] at hrec
        simp only [cond_false, Bool.and_eq_true] at hrec
        have hr4 := Nat.le_of_ble_eq_true hrec.1
        have e1 := Nat.eq_of_beq_eq_true hrec.2
        rcases o5 with ⟨-, z⟩ | ⟨z, -⟩
        · have ha := zi_ad_str (by omega) had
          subst ha
          rw [z]
          exact vk_recv hX.2.1 (by omega) h3
        · exact absurd e1 z
    refine va_runV (Ts := zi_gd) (C := N.1.cls) ⟨hx, hb, hml, hown, hts⟩ hM (cwV (k - 1) hts (zi_goodL ?_) rfl rfl rfl ⟨rfl, o1.2.2.1.1, o1.2.2.1.2, o6'⟩ (zi_rm o1 hR)) ⟨(zi_pre hX h1 h2 h3).1, hrcv, (zi_pre hX h1 h2 h3).2⟩ rfl (by omega) hsz rfl (lv_room hcat) hd ⟨hc1, hc2⟩
    intro w hw
    rcases List.mem_append.mp hw with z | z
    · rcases List.mem_cons.mp z with z | z
      · rw [z]; exact o2
      · rcases List.mem_cons.mp z with z | z
        · rw [z]; exact o3
        · rcases List.mem_cons.mp z with z | z
          · rw [z]; exact o4
          · rcases List.mem_cons.mp z with z | z
            · rw [z]; exact o1.2.1
            · cases z
    · exact (zi_good o1 w z).1
  · cases hrec
theorem zi_go_obj (C : zi_Cx p R s m args meth c B0 D dA adK adV b M d sl) {i : Nat} (hd : decode M.2.1 pc = .ok (.invokespecial i, 3)) (o1 : Cond.methodLink M.1.cls i objectInit ∈ zi_gd) (o2 : Cond.instanceMethod objectInit ∈ zi_gd) (o3 : Cond.code objectInit ⟨#[0xb1]⟩ 1 none ∈ zi_gd) (h : zi_obj pc 3 al st A nc ns = some (.inl g)) : zi_Go p l e R s m args below meth c B0 D dA adK adV b M.2.2.1 (pc, al, st, A, nc, ns) g := by
  obtain ⟨⟨hx, hb, hml, hret, hown, hts, hlk, hnm⟩, hX, hR, hscr⟩ := C
  unfold zi_obj at h
  split at h
  · rename_i i0 r
    cases hb1 : Nat.ble (zi_cats r) 8 with
    | false => rw [hb1] at h; cases h
    | true =>
      rw [hb1] at h
      have h8 := Nat.le_of_ble_eq_true hb1
      cases h
      intro Q ws H locs ls sc hS _ _ kk
      obtain ⟨h1, h2, h3, h4, ⟨lv, h5, h7⟩, h6⟩ := hS
      obtain ⟨w, sc, rfl, ⟨a, -, rfl⟩, k6⟩ := zi_F2_cons h6
      have hcat := zi_cats_ok k6
      refine W.objInit (rest := sc) hx hb hown (hts _ o1) (hts _ o2) (hts _ o3) rfl (by rw [hml]; exact h5.1) rfl hd (by omega) ?_ (kk ws H locs ls sc (zi_ex_refl ws) ⟨h1, h2, h3, h4, ⟨lv, h5, h7⟩, k6⟩)
      show 2 * 0 + _ + 12 ≤ _
      rw [hcat]
      omega
  · cases h
end ZK
end
section
/-! The check of an entry, and the step. -/
def zi_ln (i : Instr) : Nat := match i with
  | .bipush _ => 2
  | .ldc _ => 2
  | .iload _ => 2
  | .lload _ => 2
  | .aload _ => 2
  | .istore _ => 2
  | .lstore _ => 2
  | .astore _ => 2
  | .newarray _ => 2
  | .sipush _ => 3
  | .ldc_w _ => 3
  | .ldc2_w _ => 3
  | .iinc _ _ => 3
  | .ifCond _ _ => 3
  | .if_icmp _ _ => 3
  | .goto _ => 3
  | .ifnull _ => 3
  | .ifnonnull _ => 3
  | .getfield _ => 3
  | .putfield _ => 3
  | .getstatic _ => 3
  | .new _ => 3
  | .anewarray _ => 3
  | .invokestatic _ => 3
  | .invokespecial _ => 3
  | .invokevirtual _ => 3
  | _ => 1
def zi_tg (pc : Nat) (off : Int) (o : List Nat) : Bool := match o with
  | t :: _ => decide ((pc : Int) + off = (t : Int))
  | [] => false
def zi_mem (w : Cond) : Bool := decide (w ∈ lw_tbl) && goodWord w
theorem zi_mem_ok {w : Cond} (h : zi_mem w = true) : w ∈ zi_gd := by
  unfold zi_mem at h
  rw [Bool.and_eq_true, decide_eq_true_eq] at h
  exact List.mem_filter.mpr h
def zi_kl (M : zi_M) (pc : Nat) (Ms : List zi_M) (i : Instr) (o : List Nat) : Bool := match i with
  | .ldc i => (match o with
      | 0 :: v :: q :: _ => zi_at q (.constant M.1.cls i (Int32.ofNat v))
      | 1 :: r :: _ => Nat.ble (r + 1) 4 && (match zi_sr[r]? with | some z => decide (z.1 = M.1.cls) && decide (z.2.1 = i) | none => false)
      | _ => false)
  | .ldc_w i => (match o with
      | 0 :: v :: q :: _ => zi_at q (.constant M.1.cls i (Int32.ofNat v))
      | _ => false)
  | .ldc2_w i => (match o with
      | v :: q :: _ => zi_at q (.constantLong M.1.cls i (Int64.ofNat v))
      | _ => false)
  | .ifCond _ off => zi_tg pc off o
  | .if_icmp _ off => zi_tg pc off o
  | .goto off => zi_tg pc off o
  | .ifnull off => zi_tg pc off o
  | .ifnonnull off => zi_tg pc off o
  | .tableswitch d _ _ offs => zi_tg pc d o && decide (offs.toList.map (fun x => (pc : Int) + x) = o.tail.map (fun (t : Nat) => (t : Int)))
  | .getfield i => (match o with
      | ci :: k :: q :: _ => bif Nat.beq ci 100 then (bif Nat.beq k 0 then zi_at q (.fieldLink M.1.cls i "java/lang/String" "value" "[B") else Nat.beq k 1 && zi_at q (.fieldLink M.1.cls i "java/lang/String" "coder" "B"))
          else (match zi_Fs[ci]? with | some z => Nat.ble (k + 1) z.2.length && zi_at q (.fieldLink M.1.cls i (zi_Tf z k).1 (zi_Tf z k).2.1 (zi_Tf z k).2.2.1) | none => false)
      | _ => false)
  | .putfield i => (match o with
      | ci :: k :: q :: _ => (match zi_Fs[ci]? with | some z => Nat.ble (k + 1) z.2.length && zi_at q (.fieldLink M.1.cls i (zi_Tf z k).1 (zi_Tf z k).2.1 (zi_Tf z k).2.2.1) && (!(zi_Tf z k).2.2.2 || (decide (M.1.name = "<init>") && decide ((zi_Tf z k).1 = M.1.cls))) | none => false)
      | _ => false)
  | .getstatic i => (match o with
      | k :: q :: _ => bif Nat.beq k 0 then zi_at q (.fieldLink M.1.cls i "java/lang/String" "COMPACT_STRINGS" "Z") else zi_at q (.fieldLink M.1.cls i "jdk/internal/util/Preconditions" "SIOOBE_FORMATTER" "Ljava/util/function/BiFunction;")
      | _ => false)
  | .new i => (match o with
      | ci :: q1 :: q2 :: q3 :: _ => (match zi_Fs[ci]? with | some z => zi_at q1 (.classLink M.1.cls i z.1) && zi_at q2 (.instantiable z.1 z.2.length) && zi_at q3 (.initialized z.1) | none => false)
      | _ => false)
  | .newarray a => (match o with
      | t :: q :: _ => decide (newarray.typeOf a = zi_ft t) && Nat.ble (t + 1) 4 && zi_at q (.arrayClass (newarray.typeOf a))
      | _ => false)
  | .anewarray i => (match o with
      | t :: q :: _ => Nat.ble 4 t && Nat.ble t 6 && (match zi_ft t with | .object C => zi_at q (.classLink M.1.cls i C) | _ => false)
      | _ => false)
  | .invokestatic i => (match o with
      | [z] => bif Nat.beq z 0 then zi_mem (.methodLink M.1.cls i Lib.Math.max.name) else zi_mem (.methodLink M.1.cls i Lib.Math.min.name)
      | mi :: k :: z :: q1 :: q2 :: _ => (match Ms[mi]? with | some N => (bif Nat.beq z 0 then zi_at q1 (.methodLink M.1.cls i N.1) else decide ((M.1.cls, i, N.1, "AgreeTold") ∈ zi_nest)) && zi_at q2 (.static N.1) && decide ((parseMethodDescriptor N.1.desc).map (fun d => d.parameters.length) = some k) | none => false)
      | _ => false)
  | .invokespecial i => (match o with
      | [] => zi_mem (.methodLink M.1.cls i objectInit)
      | mi :: k :: z :: q1 :: q2 :: _ => (match Ms[mi]? with | some N => (bif Nat.beq z 0 then zi_at q1 (.methodLink M.1.cls i N.1) else decide ((M.1.cls, i, N.1, "AgreeTold") ∈ zi_nest)) && zi_at q2 (.instanceMethod N.1) && decide (N.1.name = "<init>") && decide (N.2.2.2.1 = none) && decide ((parseMethodDescriptor N.1.desc).map (fun d => d.parameters.length + 1) = some k) | none => false)
      | _ => false)
  | .invokevirtual i => (match o with
      | mi :: k :: ci :: q1 :: q2 :: q3 :: _ => (match Ms[mi]? with | some N => zi_at q1 (.methodLink M.1.cls i N.1) && zi_at q2 (.instanceMethod N.1) && zi_at q3 (.selects N.1.cls N.1 N.1) && (bif Nat.beq ci 100 then decide (N.1.cls = "java/lang/String") else (match zi_Fs[ci]? with | some z => decide (z.1 = N.1.cls) | none => false)) && decide ((parseMethodDescriptor N.1.desc).map (fun d => d.parameters.length + 1) = some k) | none => false)
      | _ => false)
  | _ => true
def zi_sw (i : Instr) : Bool := match i with
  | .tableswitch _ _ _ _ => true
  | _ => false
def zi_ok (Ms : List zi_M) (M : zi_M) (pc : Nat) (e : zi_E) : Bool := decide (decode M.2.1 pc = .ok (e.1, e.2.1)) && (zi_sw e.1 || Nat.beq e.2.1 (zi_ln e.1)) && zi_kl M pc Ms e.1 e.2.2
theorem zi_tg_ok {pc : Nat} {off : Int} {t : Nat} {ts : List Nat} (h : zi_tg pc off (t :: ts) = true) : (pc : Int) + off = (t : Int) := of_decide_eq_true h
/-- the words of Object's constructor -/
theorem zi_objw : Cond.instanceMethod objectInit ∈ zi_gd ∧ Cond.code objectInit ⟨#[0xb1]⟩ 1 none ∈ zi_gd := ⟨zi_mem_ok (by decide +kernel), zi_mem_ok (by decide +kernel)⟩
theorem zi_ret_no {k : Nat} {g : zi_F} : ∀ (r : Option FieldType) (st : List zi_V), ¬ zi_ret k r st = some (.inl g)
  | none, _, h => by cases h
  | some _, [], h => by cases h
  | some _, _ :: _ :: _, h => by cases h
  | some ty, [v], h => by
    have h : (bif zi_rok ty v && zi_rk k v then some (.inr (some v)) else none) = (some (.inl g) : zi_O) := h
    cases hz : (zi_rok ty v && zi_rk k v) with
    | true => rw [hz] at h; cases h
    | false => rw [hz] at h; cases h
theorem zi_rtv_no {g : zi_F} : ∀ (r : Option FieldType) (st : List zi_V), ¬ zi_rtv r st = some (.inl g)
  | none, [], h => by cases h
  | none, _ :: _, h => by cases h
  | some _, _, h => by cases h
/-- the words of Math's two -/
theorem zi_mxw : Cond.static Lib.Math.max.name ∈ zi_gd ∧ Cond.initialized "java/lang/Math" ∈ zi_gd ∧ Cond.code Lib.Math.max.name Lib.Math.max.code 2 (some .int) ∈ zi_gd ∧ Cond.static Lib.Math.min.name ∈ zi_gd ∧ Cond.code Lib.Math.min.name Lib.Math.min.code 2 (some .int) ∈ zi_gd := ⟨zi_mem_ok (by decide +kernel), zi_mem_ok (by decide +kernel), zi_mem_ok (by decide +kernel), zi_mem_ok (by decide +kernel), zi_mem_ok (by decide +kernel)⟩
section ZT
variable {p : Program} {l : Launch} {e : Env} {R : Room} {s : State} {m : MethodId} {args : Array Value} {below : List Frame} {meth : Method} {c : Code} {B0 : Nat} {D : va_G} {dA : Nat → ClassId} {adK adV : Nat → Nat} {b : Nat} {M : zi_M} {d : Nat} {sl : List zi_V}
variable {pc : Nat} {al : List (Nat × zi_V)} {st : List zi_V} {A : List zi_C} {nc ns : Nat} {g : zi_F} {Ms : List zi_M} {call : zi_K}
theorem zi_go_mm (C : zi_Cx p R s m args meth c B0 D dA adK adV b M d sl) {i z : Nat} (hd : decode M.2.1 pc = .ok (.invokestatic i, 3)) (h0 : z = 0 → Cond.methodLink M.1.cls i Lib.Math.max.name ∈ zi_gd) (h1 : z ≠ 0 → Cond.methodLink M.1.cls i Lib.Math.min.name ∈ zi_gd) (hcat : zi_cats st ≤ 10) (h : zi_mm z pc 3 al st A nc ns = some (.inl g)) : zi_Go p l e R s m args below meth c B0 D dA adK adV b M.2.2.1 (pc, al, st, A, nc, ns) g := by
  obtain ⟨⟨hx, hb, hml, hret, hown, hts, hlk, hnm⟩, hX, hR, hscr⟩ := C
  unfold zi_mm at h
  split at h
  · rename_i y x r
    cases h
    intro Q ws H locs ls sc hS hc1 hc2 kk
    obtain ⟨g1, g2, g3, g4, ⟨lv, g5, g7⟩, g6⟩ := hS
    have hsum := zi_cats_ok g6
    obtain ⟨w1, s1, e1, v1, k1⟩ := zi_F2_cons g6
    obtain ⟨w2, s2, e2, v2, k2⟩ := zi_F2_cons k1
    have v1 : w1 = .int y := v1
    have v2 : w2 = .int x := v2
    subst e1 e2 v1 v2
    have hl : (s2.map fun v => v.category).sum + 13 ≤ R.locals := by
      have hs2 := zi_cats_ok k2
      have e3 : zi_cats (.inl (.int y) :: .inl (.int x) :: r) = 1 + (1 + zi_cats r) := rfl
      rw [e3] at hcat
      rw [hs2]
      omega
    cases z with
    | zero => exact va_mmax hx hb (hml.trans g5.1.symm) hown (hts _ (h0 rfl)) (hts _ zi_mxw.1) (hts _ zi_mxw.2.1) (hts _ zi_mxw.2.2.1) (by omega) hl hc1 hc2 hd (kk ws H locs ls _ (zi_ex_refl ws) ⟨g1, g2, g3, g4, ⟨lv, g5, g7⟩, ⟨rfl, k2⟩⟩)
    | succ z => exact va_mmin hx hb (hml.trans g5.1.symm) hown (hts _ (h1 (Nat.succ_ne_zero z))) (hts _ zi_mxw.2.2.2.1) (hts _ zi_mxw.2.1) (hts _ zi_mxw.2.2.2.2) (by omega) hl hc1 hc2 hd (kk ws H locs ls _ (zi_ex_refl ws) ⟨g1, g2, g3, g4, ⟨lv, g5, g7⟩, ⟨rfl, k2⟩⟩)
  · cases h
set_option maxHeartbeats 4000000 in
theorem zi_step (C : zi_Cx p R s m args meth c B0 D dA adK adV b M d sl) (hct : zi_Ct l Ms d call) (hMs : ∀ (mi : Nat) (N : zi_M), Ms[mi]? = some N → zi_okM N) {i : Instr} {n : Nat} {o : List Nat} (hok : zi_ok Ms M pc (i, n, o) = true) (h : zi_do call sl M.2.2.1 M.2.2.2.1 pc al st A nc ns i n o = some (.inl g)) : zi_Go p l e R s m args below meth c B0 D dA adK adV b M.2.2.1 (pc, al, st, A, nc, ns) g := by
  have C0 := C
  obtain ⟨⟨hx, hb, hml, hret, hown, hts, hlk, hnm⟩, hX, hR, hscr⟩ := C
  unfold zi_ok at hok
  rw [Bool.and_eq_true, Bool.and_eq_true] at hok
  obtain ⟨⟨hd0, hn0⟩, hkl0⟩ := hok
  have hd : decode M.2.1 pc = .ok (i, n) := of_decide_eq_true hd0
  rw [Bool.or_eq_true] at hn0
  have hn : zi_sw i = true ∨ n = zi_ln i := hn0.imp id (fun z => Nat.eq_of_beq_eq_true z)
  have hkl : zi_kl M pc Ms i o = true := hkl0
  clear hd0 hn0 hkl0
  cases i with
  | iconst k =>
    have hn : n = 1 := hn.elim (fun z => Bool.noConfusion (show false = true from z)) id
    subst hn
    exact zi_go_ps (v := .inl (.int (Int32.ofInt k))) (w := .int (Int32.ofInt k)) (fun _ => rfl) (fun Q H locs ls sc kk => lv_iconst hx hb hd rfl kk) h
  | bipush k =>
    have hn : n = 2 := hn.elim (fun z => Bool.noConfusion (show false = true from z)) id
    subst hn
    exact zi_go_ps (v := .inl (.int (Int8.ofInt k).toInt32)) (w := .int (Int8.ofInt k).toInt32) (fun _ => rfl) (fun Q H locs ls sc kk => lv_bipush hx hb hd rfl kk) h
  | sipush k =>
    have hn : n = 3 := hn.elim (fun z => Bool.noConfusion (show false = true from z)) id
    subst hn
    exact zi_go_ps (v := .inl (.int (Int16.ofInt k).toInt32)) (w := .int (Int16.ofInt k).toInt32) (fun _ => rfl) (fun Q H locs ls sc kk => lv_sipush hx hb hd rfl kk) h
  | lconst k =>
    have hn : n = 1 := hn.elim (fun z => Bool.noConfusion (show false = true from z)) id
    subst hn
    exact zi_go_ps (v := .inl (.long (Int64.ofNat k.val))) (w := .long (Int64.ofNat k.val)) (fun _ => rfl) (fun Q H locs ls sc kk => lv_lconst hx hb hd rfl kk) h
  | aconst_null =>
    have hn : n = 1 := hn.elim (fun z => Bool.noConfusion (show false = true from z)) id
    subst hn
    exact zi_go_ps (v := .inl (.null)) (w := .null) (fun _ => rfl) (fun Q H locs ls sc kk => lv_null hx hb hd kk) h
  | ldc k =>
    have hn : n = 2 := hn.elim (fun z => Bool.noConfusion (show false = true from z)) id
    subst hn
    match o, h, hkl with
    | 0 :: v :: q :: _, h, hkl => exact zi_go_ps (v := .inl (.int (Int32.ofNat v))) (w := .int (Int32.ofNat v)) (fun _ => rfl) (fun Q H locs ls sc kk => lv_ldc hx hb hown (hts _ (zi_at_mem hkl)) hd kk) h
    | 1 :: r :: _, h, hkl =>
      have hkl : (Nat.ble (r + 1) 4 && (match zi_sr[r]? with | some z => decide (z.1 = M.1.cls) && decide (z.2.1 = k) | none => false)) = true := hkl
      rw [Bool.and_eq_true] at hkl
      have hr := Nat.le_of_ble_eq_true hkl.1
      have hkl := hkl.2
      cases hz : zi_sr[r]? with
      | none => rw [hz] at hkl; cases hkl
      | some z =>
        rw [hz] at hkl
        simp only [Bool.and_eq_true, decide_eq_true_eq] at hkl
        have hR0 := hX.2.2.1 r z hz
        rw [hkl.1, hkl.2] at hR0
        exact zi_go_ps (v := .inl (.ref r)) (w := .ref (adK r)) (fun _ => ⟨adK r, by unfold zi_ad; rw [if_pos (by omega)], rfl⟩) (fun Q H locs ls sc kk => va_ldcS hx hb hown hR0 hd kk) h
    | [], h, _ => cases h
    | [_], h, hkl => simp [zi_kl] at hkl
    | 0 :: _ :: [], _, hkl => simp [zi_kl] at hkl
    | (_ + 2) :: _ :: _, _, hkl => simp [zi_kl] at hkl
  | ldc_w k =>
    have hn : n = 3 := hn.elim (fun z => Bool.noConfusion (show false = true from z)) id
    subst hn
    match o, h, hkl with
    | 0 :: v :: q :: _, h, hkl => exact zi_go_ps (v := .inl (.int (Int32.ofNat v))) (w := .int (Int32.ofNat v)) (fun _ => rfl) (fun Q H locs ls sc kk => lv_ldcw hx hb hown (hts _ (zi_at_mem hkl)) hd kk) h
    | [], h, _ => cases h
    | [_], h, hkl => simp [zi_kl] at hkl
    | 0 :: _ :: [], _, hkl => simp [zi_kl] at hkl
    | (_ + 1) :: _ :: _, _, hkl => simp [zi_kl] at hkl
  | ldc2_w k =>
    have hn : n = 3 := hn.elim (fun z => Bool.noConfusion (show false = true from z)) id
    subst hn
    match o, h, hkl with
    | v :: q :: _, h, hkl => exact zi_go_ps (v := .inl (.long (Int64.ofNat v))) (w := .long (Int64.ofNat v)) (fun _ => rfl) (fun Q H locs ls sc kk => lv_ldc2 hx hb hown (hts _ (zi_at_mem hkl)) hd kk) h
    | [], h, _ => cases h
    | [_], h, hkl => simp [zi_kl] at hkl
  | iload k =>
    have hn : n = 2 := hn.elim (fun z => Bool.noConfusion (show false = true from z)) id
    subst hn
    exact zi_go_ld (k := 0) (fun Q H locs ls sc w hw h0 h1 kk => by
      obtain ⟨x, rfl⟩ := h0 rfl
      exact lv_iload hx hb hd hw kk) (by decide) h
  | iload_n k =>
    have hn : n = 1 := hn.elim (fun z => Bool.noConfusion (show false = true from z)) id
    subst hn
    exact zi_go_ld (k := 0) (fun Q H locs ls sc w hw h0 h1 kk => by
      obtain ⟨x, rfl⟩ := h0 rfl
      exact lv_iload_n hx hb hd rfl hw kk) (by decide) h
  | lload k =>
    have hn : n = 2 := hn.elim (fun z => Bool.noConfusion (show false = true from z)) id
    subst hn
    exact zi_go_ld (k := 1) (fun Q H locs ls sc w hw h0 h1 kk => by
      obtain ⟨x, rfl⟩ := h1 rfl
      exact lv_lload hx hb hd hw kk) (by decide) h
  | lload_n k =>
    have hn : n = 1 := hn.elim (fun z => Bool.noConfusion (show false = true from z)) id
    subst hn
    exact zi_go_ld (k := 1) (fun Q H locs ls sc w hw h0 h1 kk => by
      obtain ⟨x, rfl⟩ := h1 rfl
      exact lv_lload_n hx hb hd rfl hw kk) (by decide) h
  | aload k =>
    have hn : n = 2 := hn.elim (fun z => Bool.noConfusion (show false = true from z)) id
    subst hn
    exact zi_go_lda (fun Q H locs ls sc w hw hk kk => by
      rcases hk with rfl | ⟨a, rfl⟩
      · exact lv_aloadN hx hb hd hw kk
      · exact lv_aload hx hb hd hw kk) h
  | aload_n k =>
    have hn : n = 1 := hn.elim (fun z => Bool.noConfusion (show false = true from z)) id
    subst hn
    exact zi_go_lda (fun Q H locs ls sc w hw hk kk => by
      rcases hk with rfl | ⟨a, rfl⟩
      · exact lv_aload_nN hx hb hd rfl hw kk
      · exact lv_aload_n hx hb hd rfl hw kk) h
  | istore k =>
    have hn : n = 2 := hn.elim (fun z => Bool.noConfusion (show false = true from z)) id
    subst hn
    exact zi_go_sti (fun Q H locs ls sc x lv hl hi kk => lv_istore hx hb hd hl hi rfl kk) h
  | istore_n k =>
    have hn : n = 1 := hn.elim (fun z => Bool.noConfusion (show false = true from z)) id
    subst hn
    exact zi_go_sti (fun Q H locs ls sc x lv hl hi kk => lv_istore_n hx hb hd rfl hl hi rfl kk) h
  | lstore k =>
    have hn : n = 2 := hn.elim (fun z => Bool.noConfusion (show false = true from z)) id
    subst hn
    exact zi_go_stl (fun Q H locs ls sc x lv hl hi kk => lv_lstore hx hb hd hl hi rfl kk) h
  | lstore_n k =>
    have hn : n = 1 := hn.elim (fun z => Bool.noConfusion (show false = true from z)) id
    subst hn
    exact zi_go_stl (fun Q H locs ls sc x lv hl hi kk => lv_lstore_n hx hb hd rfl hl hi rfl kk) h
  | astore k =>
    have hn : n = 2 := hn.elim (fun z => Bool.noConfusion (show false = true from z)) id
    subst hn
    exact zi_go_sta (fun Q H locs ls sc w lv hk hl hi kk => by
      rcases hk with rfl | ⟨a, rfl⟩
      · exact lv_astoreN hx hb hd hl hi rfl kk
      · exact lv_astore hx hb hd hl hi rfl kk) h
  | astore_n k =>
    have hn : n = 1 := hn.elim (fun z => Bool.noConfusion (show false = true from z)) id
    subst hn
    exact zi_go_sta (fun Q H locs ls sc w lv hk hl hi kk => by
      rcases hk with rfl | ⟨a, rfl⟩
      · exact lv_astore_nN hx hb hd rfl hl hi rfl kk
      · exact lv_astore_n hx hb hd rfl hl hi rfl kk) h
  | iinc k z =>
    have hn : n = 3 := hn.elim (fun z => Bool.noConfusion (show false = true from z)) id
    subst hn
    exact zi_go_inc (fun Q H locs ls sc x lv j hl hj hi kk => lv_iinc hx hb hd hl hj rfl hi rfl kk) h
  | iadd =>
    have hn : n = 1 := hn.elim (fun z => Bool.noConfusion (show false = true from z)) id
    subst hn
    exact zi_go_ii (fun Q H locs ls sc x y kk => lv_iadd hx hb hd kk) h
  | isub =>
    have hn : n = 1 := hn.elim (fun z => Bool.noConfusion (show false = true from z)) id
    subst hn
    exact zi_go_ii (fun Q H locs ls sc x y kk => lv_isub hx hb hd kk) h
  | imul =>
    have hn : n = 1 := hn.elim (fun z => Bool.noConfusion (show false = true from z)) id
    subst hn
    exact zi_go_ii (fun Q H locs ls sc x y kk => lv_imul hx hb hd kk) h
  | iand =>
    have hn : n = 1 := hn.elim (fun z => Bool.noConfusion (show false = true from z)) id
    subst hn
    exact zi_go_ii (fun Q H locs ls sc x y kk => lv_iand hx hb hd kk) h
  | ior =>
    have hn : n = 1 := hn.elim (fun z => Bool.noConfusion (show false = true from z)) id
    subst hn
    exact zi_go_ii (fun Q H locs ls sc x y kk => lv_ior hx hb hd kk) h
  | ixor =>
    have hn : n = 1 := hn.elim (fun z => Bool.noConfusion (show false = true from z)) id
    subst hn
    exact zi_go_ii (fun Q H locs ls sc x y kk => lv_ixor hx hb hd kk) h
  | ishl =>
    have hn : n = 1 := hn.elim (fun z => Bool.noConfusion (show false = true from z)) id
    subst hn
    exact zi_go_ii (fun Q H locs ls sc x y kk => lv_ishl hx hb hd kk) h
  | ishr =>
    have hn : n = 1 := hn.elim (fun z => Bool.noConfusion (show false = true from z)) id
    subst hn
    exact zi_go_ii (fun Q H locs ls sc x y kk => lv_ishr hx hb hd kk) h
  | iushr =>
    have hn : n = 1 := hn.elim (fun z => Bool.noConfusion (show false = true from z)) id
    subst hn
    exact zi_go_ii (fun Q H locs ls sc x y kk => lv_iushr hx hb hd rfl kk) h
  | idiv =>
    have hn : n = 1 := hn.elim (fun z => Bool.noConfusion (show false = true from z)) id
    subst hn
    exact zi_go_iz (fun Q H locs ls sc x y hz kk => lv_idiv hx hb hd hz kk) h
  | irem =>
    have hn : n = 1 := hn.elim (fun z => Bool.noConfusion (show false = true from z)) id
    subst hn
    exact zi_go_iz (fun Q H locs ls sc x y hz kk => lv_irem hx hb hd hz kk) h
  | ladd =>
    have hn : n = 1 := hn.elim (fun z => Bool.noConfusion (show false = true from z)) id
    subst hn
    exact zi_go_ll (fun Q H locs ls sc x y kk => lv_ladd hx hb hd kk) h
  | lsub =>
    have hn : n = 1 := hn.elim (fun z => Bool.noConfusion (show false = true from z)) id
    subst hn
    exact zi_go_ll (fun Q H locs ls sc x y kk => lv_lsub hx hb hd kk) h
  | lmul =>
    have hn : n = 1 := hn.elim (fun z => Bool.noConfusion (show false = true from z)) id
    subst hn
    exact zi_go_ll (fun Q H locs ls sc x y kk => lv_lmul hx hb hd kk) h
  | land =>
    have hn : n = 1 := hn.elim (fun z => Bool.noConfusion (show false = true from z)) id
    subst hn
    exact zi_go_ll (fun Q H locs ls sc x y kk => lv_land hx hb hd kk) h
  | lor =>
    have hn : n = 1 := hn.elim (fun z => Bool.noConfusion (show false = true from z)) id
    subst hn
    exact zi_go_ll (fun Q H locs ls sc x y kk => lv_lor hx hb hd kk) h
  | lxor =>
    have hn : n = 1 := hn.elim (fun z => Bool.noConfusion (show false = true from z)) id
    subst hn
    exact zi_go_ll (fun Q H locs ls sc x y kk => lv_lxor hx hb hd kk) h
  | lcmp =>
    have hn : n = 1 := hn.elim (fun z => Bool.noConfusion (show false = true from z)) id
    subst hn
    exact zi_go_lc (fun Q H locs ls sc x y kk => W.lcmp hx hb hd kk) h
  | lshl =>
    have hn : n = 1 := hn.elim (fun z => Bool.noConfusion (show false = true from z)) id
    subst hn
    exact zi_go_lw (fun Q H locs ls sc x y kk => lv_lshl hx hb hd rfl kk) h
  | lshr =>
    have hn : n = 1 := hn.elim (fun z => Bool.noConfusion (show false = true from z)) id
    subst hn
    exact zi_go_lw (fun Q H locs ls sc x y kk => lv_lshr hx hb hd rfl kk) h
  | lushr =>
    have hn : n = 1 := hn.elim (fun z => Bool.noConfusion (show false = true from z)) id
    subst hn
    exact zi_go_lw (fun Q H locs ls sc x y kk => lv_lushr hx hb hd rfl kk) h
  | ineg =>
    have hn : n = 1 := hn.elim (fun z => Bool.noConfusion (show false = true from z)) id
    subst hn
    exact zi_go_i1 (op := fun x => .int (-x)) (fun _ _ => rfl) (fun Q H locs ls sc x kk => lv_ineg hx hb hd kk) h
  | i2l =>
    have hn : n = 1 := hn.elim (fun z => Bool.noConfusion (show false = true from z)) id
    subst hn
    exact zi_go_i1 (op := fun x => .long x.toInt64) (fun _ _ => rfl) (fun Q H locs ls sc x kk => lv_i2l hx hb hd rfl kk) h
  | i2c =>
    have hn : n = 1 := hn.elim (fun z => Bool.noConfusion (show false = true from z)) id
    subst hn
    exact zi_go_i1 (op := fun x => .int (x.toUInt32 % 65536).toInt32) (fun _ _ => rfl) (fun Q H locs ls sc x kk => lv_i2c hx hb hd rfl kk) h
  | i2b =>
    have hn : n = 1 := hn.elim (fun z => Bool.noConfusion (show false = true from z)) id
    subst hn
    exact zi_go_i1 (op := fun x => .int x.toInt8.toInt32) (fun _ _ => rfl) (fun Q H locs ls sc x kk => lv_i2b hx hb hd rfl kk) h
  | l2i =>
    have hn : n = 1 := hn.elim (fun z => Bool.noConfusion (show false = true from z)) id
    subst hn
    exact zi_go_l1 (op := fun x => .int x.toInt32) (fun _ _ => rfl) (fun Q H locs ls sc x kk => lv_l2i hx hb hd rfl kk) h
  | lneg =>
    have hn : n = 1 := hn.elim (fun z => Bool.noConfusion (show false = true from z)) id
    subst hn
    exact zi_go_l1 (op := fun x => .long (-x)) (fun _ _ => rfl) (fun Q H locs ls sc x kk => lv_lneg hx hb hd kk) h
  | dup =>
    have hn : n = 1 := hn.elim (fun z => Bool.noConfusion (show false = true from z)) id
    subst hn
    exact zi_go_dup (fun Q H locs ls sc w hw kk => lv_dup hx hb hd hw kk) h
  | pop =>
    have hn : n = 1 := hn.elim (fun z => Bool.noConfusion (show false = true from z)) id
    subst hn
    exact zi_go_pop (fun Q H locs ls sc w hw kk => lv_pop hx hb hd hw kk) h
  | dup2 =>
    have hn : n = 1 := hn.elim (fun z => Bool.noConfusion (show false = true from z)) id
    subst hn
    exact zi_go_dup2 (fun Q H locs ls sc w hw kk => lv_dup2_2 hx hb hd hw kk) (fun Q H locs ls sc v w hv hw kk => lv_dup2_11 hx hb hd hv hw kk) h
  | ifCond k off =>
    have hn : n = 3 := hn.elim (fun z => Bool.noConfusion (show false = true from z)) id
    subst hn
    match o, h, hkl with
    | [], h, _ => cases h
    | t :: ts, h, hkl =>
      have ht := zi_tg_ok (ts := ts) hkl
      refine zi_go_if1 (fun Q H locs ls sc x kt kf => ?_) h
      cases k with
      | eq => exact lv_if_eq hx hb hd ht kt kf
      | ne => exact lv_if_ne hx hb hd ht kt (fun z => kf (fun w => w z))
      | lt => exact lv_if_lt hx hb hd ht kt kf
      | ge => exact lv_if_ge hx hb hd ht kt kf
      | gt => exact lv_if_gt hx hb hd ht kt kf
      | le => exact lv_if_le hx hb hd ht kt kf
  | if_icmp k off =>
    have hn : n = 3 := hn.elim (fun z => Bool.noConfusion (show false = true from z)) id
    subst hn
    match o, h, hkl with
    | [], h, _ => cases h
    | t :: ts, h, hkl =>
      have ht := zi_tg_ok (ts := ts) hkl
      refine zi_go_if2 (fun Q H locs ls sc x y kt kf => ?_) h
      cases k with
      | eq => exact lv_icmp_eq hx hb hd ht kt kf
      | ne => exact lv_icmp_ne hx hb hd ht kt (fun z => kf (fun w => w z))
      | lt => exact lv_icmp_lt hx hb hd ht kt kf
      | ge => exact lv_icmp_ge hx hb hd ht kt kf
      | gt => exact lv_icmp_gt hx hb hd ht kt kf
      | le => exact lv_icmp_le hx hb hd ht kt kf
  | goto off =>
    have hn : n = 3 := hn.elim (fun z => Bool.noConfusion (show false = true from z)) id
    subst hn
    match o, h, hkl with
    | [], h, _ => cases h
    | t :: ts, h, hkl =>
      have ht := zi_tg_ok (ts := ts) hkl
      cases h
      intro Q ws H locs ls sc hS _ _ kk
      exact lv_goto hx hb hd ht (kk ws H locs ls sc (zi_ex_refl ws) hS)
  | ifnull off =>
    have hn : n = 3 := hn.elim (fun z => Bool.noConfusion (show false = true from z)) id
    subst hn
    match o, h, hkl with
    | [], h, _ => cases h
    | t :: ts, h, hkl =>
      have ht := zi_tg_ok (ts := ts) hkl
      exact zi_go_nul (k := true) (tgt := t) (n := 3) (fun Q H locs ls sc kk => lv_ifnullN hx hb hd ht kk) (fun Q H locs ls sc a kk => lv_ifnull hx hb hd kk) h
  | ifnonnull off =>
    have hn : n = 3 := hn.elim (fun z => Bool.noConfusion (show false = true from z)) id
    subst hn
    match o, h, hkl with
    | [], h, _ => cases h
    | t :: ts, h, hkl =>
      have ht := zi_tg_ok (ts := ts) hkl
      exact zi_go_nul (k := false) (tgt := t) (n := 3) (fun Q H locs ls sc kk => lv_ifnonnullN hx hb hd kk) (fun Q H locs ls sc a kk => lv_ifnonnull hx hb hd ht kk) h
  | tableswitch dd lo hi offs =>
    have hkl : (zi_tg pc dd o && decide (offs.toList.map (fun x => (pc : Int) + x) = o.tail.map (fun (t : Nat) => (t : Int)))) = true := hkl
    rw [Bool.and_eq_true, decide_eq_true_eq] at hkl
    refine zi_go_tsw (fun Q H locs ls sc x t ts eo hlo kk => ?_) (fun Q H locs ls sc x t0 t ts eo h1 h2 ht kk => ?_) h
    · subst eo
      exact lv_tableOut hx hb hd hlo (zi_tg_ok hkl.1) kk
    · subst eo
      have e1 : (offs.toList.map (fun x => (pc : Int) + x))[(x.toInt - lo).toNat]? = some (t : Int) := by
        rw [hkl.2]
        show (ts.map (fun (t : Nat) => (t : Int)))[(x.toInt - lo).toNat]? = _
        rw [List.getElem?_map, ht]
        rfl
      rw [List.getElem?_map] at e1
      cases ho : offs.toList[(x.toInt - lo).toNat]? with
      | none => rw [ho] at e1; cases e1
      | some off =>
        rw [ho] at e1
        exact lv_tableIn hx hb hd h1 h2 (by rw [← Array.getElem?_toList]; exact ho) (Option.some.inj e1) kk
  | getfield k0 =>
    have hn : n = 3 := hn.elim (fun z => Bool.noConfusion (show false = true from z)) id
    subst hn
    match o, h, hkl with
    | [], h, _ => cases h
    | [_], h, _ => cases h
    | [_, _], _, hkl => cases hkl
    | ci :: k :: q :: _, h, hkl =>
      have hkl : (bif Nat.beq ci 100 then (bif Nat.beq k 0 then zi_at q (.fieldLink M.1.cls k0 "java/lang/String" "value" "[B") else Nat.beq k 1 && zi_at q (.fieldLink M.1.cls k0 "java/lang/String" "coder" "B")) else (match zi_Fs[ci]? with | some z => Nat.ble (k + 1) z.2.length && zi_at q (.fieldLink M.1.cls k0 (zi_Tf z k).1 (zi_Tf z k).2.1 (zi_Tf z k).2.2.1) | none => false)) = true := hkl
      refine zi_go_get C0 hd (fun hci => ?_) (fun hci => ?_) h
      · rw [show Nat.beq ci 100 = false from by
          cases hz : Nat.beq ci 100 with
          | false => rfl
          | true => exact absurd (Nat.eq_of_beq_eq_true hz) hci] at hkl
        simp only [cond_false] at hkl
        cases hz : zi_Fs[ci]? with
        | none => rw [hz] at hkl; cases hkl
        | some z =>
          rw [hz] at hkl
          simp only [Bool.and_eq_true] at hkl
          exact ⟨z, rfl, Nat.le_of_ble_eq_true hkl.1, zi_at_mem hkl.2⟩
      · subst hci
        refine ⟨fun hk => ?_, fun hk => ?_⟩
        · subst hk
          exact zi_at_mem (show zi_at q _ = true from hkl)
        · subst hk
          exact zi_at_mem (show zi_at q _ = true from hkl)
  | putfield k0 =>
    have hn : n = 3 := hn.elim (fun z => Bool.noConfusion (show false = true from z)) id
    subst hn
    match o, h, hkl with
    | [], h, _ => cases h
    | [_], h, _ => cases h
    | [_, _], _, hkl => cases hkl
    | ci :: k :: q :: _, h, hkl =>
      have hkl : (match zi_Fs[ci]? with | some z => Nat.ble (k + 1) z.2.length && zi_at q (.fieldLink M.1.cls k0 (zi_Tf z k).1 (zi_Tf z k).2.1 (zi_Tf z k).2.2.1) && (!(zi_Tf z k).2.2.2 || (decide (M.1.name = "<init>") && decide ((zi_Tf z k).1 = M.1.cls))) | none => false) = true := hkl
      cases hz : zi_Fs[ci]? with
      | none => rw [hz] at hkl; cases hkl
      | some z =>
        rw [hz] at hkl
        simp only [Bool.and_eq_true, Bool.or_eq_true, Bool.not_eq_true', decide_eq_true_eq] at hkl
        refine zi_go_put C0 hd ⟨z, hz, Nat.le_of_ble_eq_true hkl.1.1, zi_at_mem hkl.1.2, fun hf => ?_⟩ h
        rcases hkl.2 with w | w
        · rw [hf] at w; cases w
        · exact w
  | getstatic k0 =>
    have hn : n = 3 := hn.elim (fun z => Bool.noConfusion (show false = true from z)) id
    subst hn
    match o, h, hkl with
    | [], h, _ => cases h
    | [_], _, hkl => cases hkl
    | k :: q :: _, h, hkl =>
      have hkl : (bif Nat.beq k 0 then zi_at q (.fieldLink M.1.cls k0 "java/lang/String" "COMPACT_STRINGS" "Z") else zi_at q (.fieldLink M.1.cls k0 "jdk/internal/util/Preconditions" "SIOOBE_FORMATTER" "Ljava/util/function/BiFunction;")) = true := hkl
      refine zi_go_gts C0 hd (fun hk => ?_) (fun hk => ?_) h
      · subst hk
        exact zi_at_mem (show zi_at q _ = true from hkl)
      · rw [show Nat.beq k 0 = false from by
          cases hz : Nat.beq k 0 with
          | false => rfl
          | true => exact absurd (Nat.eq_of_beq_eq_true hz) hk] at hkl
        exact zi_at_mem (show zi_at q _ = true from hkl)
  | arraylength =>
    have hn : n = 1 := hn.elim (fun z => Bool.noConfusion (show false = true from z)) id
    subst hn
    exact zi_go_len C0 hd h
  | iaload =>
    have hn : n = 1 := hn.elim (fun z => Bool.noConfusion (show false = true from z)) id
    subst hn
    exact zi_go_iald C0 hd h
  | laload =>
    have hn : n = 1 := hn.elim (fun z => Bool.noConfusion (show false = true from z)) id
    subst hn
    exact zi_go_lald C0 hd h
  | baload =>
    have hn : n = 1 := hn.elim (fun z => Bool.noConfusion (show false = true from z)) id
    subst hn
    exact zi_go_bald C0 hd h
  | caload =>
    have hn : n = 1 := hn.elim (fun z => Bool.noConfusion (show false = true from z)) id
    subst hn
    exact zi_go_cald C0 hd h
  | aaload =>
    have hn : n = 1 := hn.elim (fun z => Bool.noConfusion (show false = true from z)) id
    subst hn
    exact zi_go_aald C0 hd h
  | iastore =>
    have hn : n = 1 := hn.elim (fun z => Bool.noConfusion (show false = true from z)) id
    subst hn
    exact zi_go_iast C0 hd h
  | lastore =>
    have hn : n = 1 := hn.elim (fun z => Bool.noConfusion (show false = true from z)) id
    subst hn
    exact zi_go_last C0 hd h
  | bastore =>
    have hn : n = 1 := hn.elim (fun z => Bool.noConfusion (show false = true from z)) id
    subst hn
    exact zi_go_zast C0 hd h
  | castore =>
    have hn : n = 1 := hn.elim (fun z => Bool.noConfusion (show false = true from z)) id
    subst hn
    exact zi_go_cast C0 hd h
  | aastore =>
    have hn : n = 1 := hn.elim (fun z => Bool.noConfusion (show false = true from z)) id
    subst hn
    exact zi_go_aast C0 hd h
  | new k0 =>
    have hn : n = 3 := hn.elim (fun z => Bool.noConfusion (show false = true from z)) id
    subst hn
    match o, h, hkl with
    | [], h, _ => cases h
    | [_], _, hkl => cases hkl
    | [_, _], _, hkl => cases hkl
    | [_, _, _], _, hkl => cases hkl
    | ci :: q1 :: q2 :: q3 :: _, h, hkl =>
      have hkl : (match zi_Fs[ci]? with | some z => zi_at q1 (.classLink M.1.cls k0 z.1) && zi_at q2 (.instantiable z.1 z.2.length) && zi_at q3 (.initialized z.1) | none => false) = true := hkl
      cases hz : zi_Fs[ci]? with
      | none => rw [hz] at hkl; cases hkl
      | some z =>
        rw [hz] at hkl
        simp only [Bool.and_eq_true] at hkl
        exact zi_go_nw C0 hd ⟨z, hz, zi_at_mem hkl.1.1, zi_at_mem hkl.1.2, zi_at_mem hkl.2⟩ h
  | newarray a0 =>
    have hn : n = 2 := hn.elim (fun z => Bool.noConfusion (show false = true from z)) id
    subst hn
    match o, h, hkl with
    | [], h, _ => cases h
    | [_], _, hkl => cases hkl
    | t :: q :: _, h, hkl =>
      have hkl : (decide (newarray.typeOf a0 = zi_ft t) && Nat.ble (t + 1) 4 && zi_at q (.arrayClass (newarray.typeOf a0))) = true := hkl
      simp only [Bool.and_eq_true, decide_eq_true_eq] at hkl
      exact zi_go_nwa C0 hd hkl.1.1 (Nat.le_of_ble_eq_true hkl.1.2) (zi_at_mem hkl.2) h
  | anewarray k0 =>
    have hn : n = 3 := hn.elim (fun z => Bool.noConfusion (show false = true from z)) id
    subst hn
    match o, h, hkl with
    | [], h, _ => cases h
    | [_], _, hkl => cases hkl
    | t :: q :: _, h, hkl =>
      have hkl : (Nat.ble 4 t && Nat.ble t 6 && (match zi_ft t with | .object Cn => zi_at q (.classLink M.1.cls k0 Cn) | _ => false)) = true := hkl
      simp only [Bool.and_eq_true] at hkl
      have h4 := Nat.le_of_ble_eq_true hkl.1.1
      have h6 := Nat.le_of_ble_eq_true hkl.1.2
      obtain ⟨Cn, hCn⟩ : ∃ Cn, zi_ft t = .object Cn := by
        rcases (show t = 4 ∨ t = 5 ∨ t = 6 by omega) with z | z | z <;> (rw [z]; exact ⟨_, rfl⟩)
      have hq := hkl.2
      rw [hCn] at hq
      exact zi_go_nwq C0 hd hCn h4 (by omega) (zi_at_mem hq) h
  | invokestatic k0 =>
    have hn : n = 3 := hn.elim (fun z => Bool.noConfusion (show false = true from z)) id
    subst hn
    match o, h, hkl with
    | [], h, _ => cases h
    | [z], h, hkl =>
      have h : (bif Nat.ble (zi_cats st) 10 then zi_mm z pc 3 al st A nc ns else none) = some (.inl g) := h
      have hkl : (bif Nat.beq z 0 then zi_mem (.methodLink M.1.cls k0 Lib.Math.max.name) else zi_mem (.methodLink M.1.cls k0 Lib.Math.min.name)) = true := hkl
      cases hb1 : Nat.ble (zi_cats st) 10 with
      | false => rw [hb1] at h; cases h
      | true =>
        rw [hb1] at h
        refine zi_go_mm C0 hd (fun hz => ?_) (fun hz => ?_) (Nat.le_of_ble_eq_true hb1) h
        · subst hz
          exact zi_mem_ok hkl
        · rw [show Nat.beq z 0 = false from by
            cases hq : Nat.beq z 0 with
            | false => rfl
            | true => exact absurd (Nat.eq_of_beq_eq_true hq) hz] at hkl
          exact zi_mem_ok hkl
    | [_, _], _, hkl => cases hkl
    | [_, _, _], _, hkl => cases hkl
    | [_, _, _, _], _, hkl => cases hkl
    | mi :: k :: z :: q1 :: q2 :: _, h, hkl =>
      refine zi_go_invS C0 hct hd (fun N hN => ?_) h
      have hkl : (match Ms[mi]? with | some N => (bif Nat.beq z 0 then zi_at q1 (.methodLink M.1.cls k0 N.1) else decide ((M.1.cls, k0, N.1, "AgreeTold") ∈ zi_nest)) && zi_at q2 (.static N.1) && decide ((parseMethodDescriptor N.1.desc).map (fun d => d.parameters.length) = some k) | none => false) = true := hkl
      rw [hN] at hkl
      simp only [Bool.and_eq_true, decide_eq_true_eq] at hkl
      refine ⟨hMs mi N hN, ?_, zi_at_mem hkl.1.2, hkl.2⟩
      have h1 := hkl.1.1
      cases hz : Nat.beq z 0 with
      | true => rw [hz] at h1; exact Or.inl (zi_at_mem h1)
      | false => rw [hz] at h1; exact Or.inr (of_decide_eq_true h1)
  | invokespecial k0 =>
    have hn : n = 3 := hn.elim (fun z => Bool.noConfusion (show false = true from z)) id
    subst hn
    match o, h, hkl with
    | [], h, hkl => exact zi_go_obj C0 hd (zi_mem_ok hkl) zi_objw.1 zi_objw.2 h
    | [_], h, _ => cases h
    | [_, _], _, hkl => cases hkl
    | [_, _, _], _, hkl => cases hkl
    | [_, _, _, _], _, hkl => cases hkl
    | mi :: k :: z :: q1 :: q2 :: _, h, hkl =>
      have h : (match st[k - 1]? with | some (.inl (.ref _)) => bif Nat.ble 1 k then zi_inv call pc 3 al st A nc ns mi k else none | _ => none) = some (.inl g) := h
      split at h
      · rename_i r hr
        cases hb1 : Nat.ble 1 k with
        | false => rw [hb1] at h; cases h
        | true =>
          rw [hb1] at h
          refine zi_go_invI C0 hct hd (fun N hN => ?_) (Nat.le_of_ble_eq_true hb1) hr h
          have hkl : (match Ms[mi]? with | some N => (bif Nat.beq z 0 then zi_at q1 (.methodLink M.1.cls k0 N.1) else decide ((M.1.cls, k0, N.1, "AgreeTold") ∈ zi_nest)) && zi_at q2 (.instanceMethod N.1) && decide (N.1.name = "<init>") && decide (N.2.2.2.1 = none) && decide ((parseMethodDescriptor N.1.desc).map (fun d => d.parameters.length + 1) = some k) | none => false) = true := hkl
          rw [hN] at hkl
          simp only [Bool.and_eq_true, decide_eq_true_eq] at hkl
          refine ⟨hMs mi N hN, ?_, zi_at_mem hkl.1.1.1.2, hkl.1.1.2, hkl.1.2, hkl.2⟩
          have h1 := hkl.1.1.1.1
          cases hz : Nat.beq z 0 with
          | true => rw [hz] at h1; exact Or.inl (zi_at_mem h1)
          | false => rw [hz] at h1; exact Or.inr (of_decide_eq_true h1)
      · cases h
  | invokevirtual k0 =>
    have hn : n = 3 := hn.elim (fun z => Bool.noConfusion (show false = true from z)) id
    subst hn
    match o, h, hkl with
    | [], h, _ => cases h
    | [_], h, _ => cases h
    | [_, _], h, _ => cases h
    | [_, _, _], _, hkl => cases hkl
    | [_, _, _, _], _, hkl => cases hkl
    | [_, _, _, _, _], _, hkl => cases hkl
    | mi :: k :: ci :: q1 :: q2 :: q3 :: _, h, hkl =>
      have h : (bif Nat.ble 1 k && zi_rcv A ci st[k - 1]? then zi_inv call pc 3 al st A nc ns mi k else none) = some (.inl g) := h
      cases hb1 : (Nat.ble 1 k && zi_rcv A ci st[k - 1]?) with
      | false => rw [hb1] at h; cases h
      | true =>
        rw [hb1] at h
        rw [Bool.and_eq_true] at hb1
        refine zi_go_invV C0 hct hd (fun N hN => ?_) (Nat.le_of_ble_eq_true hb1.1) hb1.2 h
        have hkl : (match Ms[mi]? with | some N => zi_at q1 (.methodLink M.1.cls k0 N.1) && zi_at q2 (.instanceMethod N.1) && zi_at q3 (.selects N.1.cls N.1 N.1) && (bif Nat.beq ci 100 then decide (N.1.cls = "java/lang/String") else (match zi_Fs[ci]? with | some z => decide (z.1 = N.1.cls) | none => false)) && decide ((parseMethodDescriptor N.1.desc).map (fun d => d.parameters.length + 1) = some k) | none => false) = true := hkl
        rw [hN] at hkl
        simp only [Bool.and_eq_true, decide_eq_true_eq] at hkl
        refine ⟨hMs mi N hN, zi_at_mem hkl.1.1.1.1, zi_at_mem hkl.1.1.1.2, zi_at_mem hkl.1.1.2, ?_, hkl.2⟩
        have h1 := hkl.1.2
        cases hz : Nat.beq ci 100 with
        | true =>
          rw [hz] at h1
          exact Or.inl ⟨Nat.eq_of_beq_eq_true hz, of_decide_eq_true h1⟩
        | false =>
          rw [hz] at h1
          simp only [cond_false] at h1
          cases hq : zi_Fs[ci]? with
          | none => rw [hq] at h1; cases h1
          | some q =>
            rw [hq] at h1
            exact Or.inr ⟨Nat.ne_of_beq_eq_false hz, q, rfl, of_decide_eq_true h1⟩
  | ireturn =>
    exact absurd h (zi_ret_no _ _)
  | lreturn =>
    exact absurd h (zi_ret_no _ _)
  | areturn =>
    exact absurd h (zi_ret_no _ _)
  | return_ =>
    exact absurd h (zi_rtv_no _ _)
  | _ => cases h
end ZT
end
section
/-! Runs: a frame to its return is a contract; so many steps of a frame. -/
section ZR
variable {p : Program} {l : Launch} {e : Env} {R : Room} {s : State} {m : MethodId} {args : Array Value} {below : List Frame} {meth : Method} {c : Code} {B0 : Nat} {D : va_G} {dA : Nat → ClassId} {adK adV : Nat → Nat} {b : Nat} {M : zi_M} {d : Nat} {sl : List zi_V} {Ms : List zi_M} {call : zi_K}
def zi_okT (Ms : List zi_M) (M : zi_M) : Prop := ∀ (pc : Nat) (e : zi_E), zi_lk2 pc M.2.2.2.2.1 = some e → zi_ok Ms M pc e = true
theorem zi_stp_go (C : zi_Cx p R s m args meth c B0 D dA adK adV b M d sl) (hct : zi_Ct l Ms d call) (hMs : ∀ (mi : Nat) (N : zi_M), Ms[mi]? = some N → zi_okM N) (hT : zi_okT Ms M) {f g : zi_F} (h : zi_stp call sl M f = some (.inl g)) : zi_Go p l e R s m args below meth c B0 D dA adK adV b M.2.2.1 f g := by
  unfold zi_stp at h
  split at h
  · rename_i en hen
    obtain ⟨i, n, o⟩ := en
    obtain ⟨pc, al, st, A, nc, ns⟩ := f
    split at h
    · rename_i g' hg
      cases h
      exact zi_step C hct hMs (hT pc _ hen) hg
    · cases hi : zi_isr i with
      | true => rw [hi] at h; cases h
      | false => rw [hi] at h; cases h
    · cases h
  · cases h
theorem zi_ret_inv {k : Nat} {v : Option zi_V} : ∀ (r : Option FieldType) (st : List zi_V), zi_ret k r st = some (.inr v) → ∃ ty x, r = some ty ∧ st = [x] ∧ v = some x ∧ zi_rok ty x = true ∧ zi_rk k x = true
  | none, _, h => by cases h
  | some _, [], h => by cases h
  | some _, _ :: _ :: _, h => by cases h
  | some ty, [x], h => by
    have h : (bif zi_rok ty x && zi_rk k x then some (.inr (some x)) else none) = (some (.inr v) : zi_O) := h
    cases hz : (zi_rok ty x && zi_rk k x) with
    | true =>
      rw [hz] at h
      cases h
      rw [Bool.and_eq_true] at hz
      exact ⟨ty, x, rfl, rfl, rfl, hz.1, hz.2⟩
    | false => rw [hz] at h; cases h
theorem zi_rtv_inv {v : Option zi_V} : ∀ (r : Option FieldType) (st : List zi_V), zi_rtv r st = some (.inr v) → r = none ∧ st = [] ∧ v = none
  | none, [], h => by cases h; exact ⟨rfl, rfl, rfl⟩
  | none, _ :: _, h => by cases h
  | some _, _, h => by cases h
theorem zi_run_go (C : zi_Cx p R s m args meth c B0 D dA adK adV b M d sl) (hct : zi_Ct l Ms d call) (hMs : ∀ (mi : Nat) (N : zi_M), Ms[mi]? = some N → zi_okM N) (hT : zi_okT Ms M) : ∀ (n : Nat) {f g : zi_F}, zi_run call sl M n f = some g → zi_Go p l e R s m args below meth c B0 D dA adK adV b M.2.2.1 f g ∧ f.2.2.2.2.1 ≤ g.2.2.2.2.1 ∧ f.2.2.2.2.2 ≤ g.2.2.2.2.2
  | 0, f, g, h => by
    have h : some f = some g := h
    cases h
    exact ⟨zi_Go.refl f, Nat.le_refl _, Nat.le_refl _⟩
  | n + 1, f, g, h => by
    have h : (match zi_stp call sl M f with | some (.inl g) => bif zi_up f g then zi_run call sl M n g else none | _ => none) = some g := h
    split at h
    · rename_i x hx
      cases hu : zi_up f x with
      | false => rw [hu] at h; cases h
      | true =>
        rw [hu] at h
        obtain ⟨h1, h2, h3⟩ := zi_run_go C hct hMs hT n h
        unfold zi_up at hu
        rw [Bool.and_eq_true] at hu
        have u1 := Nat.le_of_ble_eq_true hu.1
        have u2 := Nat.le_of_ble_eq_true hu.2
        exact ⟨zi_Go.tr ⟨h2, h3⟩ (zi_stp_go C hct hMs hT hx) h1, Nat.le_trans u1 h2, Nat.le_trans u2 h3⟩
    · cases h
theorem zi_rok_int {ty : FieldType} {v : zi_V} {ad : Nat → Option Nat} {x : Int32} (h : zi_rok ty v = true) (hv : zi_vr ad v (.int x)) : narrow ty (.int x) = .int x := by
  unfold zi_vr at hv
  split at hv
  · cases hv; exact of_decide_eq_true h
  · cases hv
  · cases hv
  · obtain ⟨a, -, z⟩ := hv; cases z
  · rcases hv with z | ⟨a, z⟩ <;> cases z
  · exact hv.elim
  · exact hv.elim
  · have : ty = .int := of_decide_eq_true h
    rw [this]; rfl
theorem zi_rok_long {ty : FieldType} {v : zi_V} (h : zi_rok ty v = true) (hv : zi_kd v = 1) : ty = .long := by
  cases v with
  | inr q => cases hv
  | inl w => cases w with
    | long x => exact of_decide_eq_true h
    | _ => cases hv
theorem zi_rok_ref {ty : FieldType} {v : zi_V} (h : zi_rok ty v = true) (hv : 2 ≤ zi_kd v) : (∃ n, ty = .object n) ∨ ∃ t, ty = .array t := by
  cases v with
  | inr q => exact absurd hv (by simp [zi_kd])
  | inl w => cases w with
    | ref x =>
      cases ty with
      | object n => exact Or.inl ⟨n, rfl⟩
      | array t => exact Or.inr ⟨t, rfl⟩
      | _ => cases h
    | null =>
      cases ty with
      | object n => exact Or.inl ⟨n, rfl⟩
      | array t => exact Or.inr ⟨t, rfl⟩
      | _ => cases h
    | int x => exact absurd hv (by simp [zi_kd])
    | long x => exact absurd hv (by simp [zi_kd])
    | _ => cases h
theorem zi_stp_ret (C : zi_Cx p R s m args meth c B0 D dA adK adV b M d []) (hT : zi_okT Ms M) {f : zi_F} {v : Option zi_V} (h : zi_stp call [] M f = some (.inr v)) {ws0 ws : va_W} {H : Heap} {locs : List Loc} {ls : Array Slot} {sc : List Value} (hex : zi_ex ws0 ws) (hS : zi_St B0 D dA adK adV b M.2.2.1 s f ws H locs ls sc) :
    zi_W p l e R s m args below meth c (MQ below (zi_Q B0 D dA adK adV b ws0 v f.2.2.2.1) args s f.2.2.2.2.1 f.2.2.2.2.2 (fun q => B0 ≤ q)) f.2.2.2.2.1 f.2.2.2.2.2 f.1 H locs ls sc := by
  obtain ⟨⟨hx, hb, hml, hret, hown, hts, hlk, hnm⟩, hX, hR, hscr⟩ := C
  obtain ⟨pc, al, st, A, nc, ns⟩ := f
  obtain ⟨h1, h2, h3, h4, h5, h6⟩ := hS
  unfold zi_stp at h
  split at h
  · rename_i en hen
    obtain ⟨i, n, o⟩ := en
    have hok := hT pc _ hen
    unfold zi_ok at hok
    rw [Bool.and_eq_true, Bool.and_eq_true] at hok
    have hd : decode M.2.1 pc = .ok (i, n) := of_decide_eq_true hok.1.1
    have hn0 := hok.1.2
    rw [Bool.or_eq_true] at hn0
    have hn : zi_sw i = true ∨ n = zi_ln i := hn0.imp id (fun z => Nat.eq_of_beq_eq_true z)
    have post : ∀ (w : Option Value), zi_ro (zi_ad adK adV b ws) v w → ∀ t : State, t.heap = H → s.WarmedH t.vm → zi_Q B0 D dA adK adV b ws0 v A args s (.returned w) t := by
      intro w hw t ht _
      exact ⟨⟨w, ws, rfl, hex, hw, h4, by rw [ht]; exact h1, h2⟩, h3.F ht⟩
    have hf : ∀ q ∈ locs, B0 ≤ q.base := h3.2.2
    have hh : zi_do call [] M.2.2.1 M.2.2.2.1 pc al st A nc ns i n o = some (.inr v) ∧ zi_isr i = true := by
      split at h
      · cases h
      · rename_i v' hv
        cases hi : zi_isr i with
        | true => rw [hi] at h; cases h; exact ⟨hv, rfl⟩
        | false => rw [hi] at h; cases h
      · cases h
    clear h
    obtain ⟨h, hisr⟩ := hh
    have rets : ∀ k : Nat, zi_ret k M.2.2.2.1 st = some (.inr v) → ∃ ty x w, M.2.2.2.1 = some ty ∧ v = some x ∧ sc = [w] ∧ zi_rok ty x = true ∧ zi_rk k x = true ∧ zi_vr (zi_ad adK adV b ws) x w := by
      intro k hk
      obtain ⟨ty, x, e1, e2, e3, e4, e5⟩ := zi_ret_inv _ _ hk
      have h6 : zi_F2 (zi_vr (zi_ad adK adV b ws)) st sc := h6
      rw [e2] at h6
      obtain ⟨w, sc1, e6, hw, h7⟩ := zi_F2_cons h6
      have e7 := zi_F2_nil h7
      exact ⟨ty, x, w, e1, e3, by rw [e6, e7], e4, e5, hw⟩
    cases i with
    | ireturn =>
      have hn : n = 1 := hn.elim (fun z => Bool.noConfusion (show false = true from z)) id
      subst hn
      obtain ⟨ty, x, w, e1, rfl, rfl, hr1, hr2, hw⟩ := rets 0 h
      obtain ⟨y, rfl⟩ := zi_vr_int hw (Nat.eq_of_beq_eq_true hr2)
      exact W.zret hx hb (hret.trans e1) (zi_rok_int hr1 hw) (post (some (.int y)) hw) hf hd hlk
    | lreturn =>
      have hn : n = 1 := hn.elim (fun z => Bool.noConfusion (show false = true from z)) id
      subst hn
      obtain ⟨ty, x, w, e1, rfl, rfl, hr1, hr2, hw⟩ := rets 1 h
      have hk := Nat.eq_of_beq_eq_true hr2
      obtain ⟨y, rfl⟩ := zi_vr_long hw hk
      have := zi_rok_long hr1 hk
      subst this
      exact W.lret hx hb (hret.trans e1) (post (some (.long y)) hw) hf hd hlk
    | areturn =>
      have hn : n = 1 := hn.elim (fun z => Bool.noConfusion (show false = true from z)) id
      subst hn
      obtain ⟨ty, x, w, e1, rfl, rfl, hr1, hr2, hw⟩ := rets 2 h
      have hk := Nat.le_of_ble_eq_true hr2
      exact W.aret hx hb (hret.trans e1) (zi_rok_ref hr1 hk) (zi_vr_ref hw hk) (post (some w) hw) hf hd hlk
    | return_ =>
      have hn : n = 1 := hn.elim (fun z => Bool.noConfusion (show false = true from z)) id
      subst hn
      obtain ⟨e1, e2, e3⟩ := zi_rtv_inv _ _ h
      subst e3
      have h6 : zi_F2 (zi_vr (zi_ad adK adV b ws)) st sc := h6
      rw [e2] at h6
      have := zi_F2_nil h6
      subst this
      exact W.vret hx hb (hret.trans e1) (post none trivial) hf hd hlk
    | _ => cases hisr
  · cases h
theorem zi_loop_ok (C : zi_Cx p R s m args meth c B0 D dA adK adV b M d []) (hct : zi_Ct l Ms d call) (hMs : ∀ (mi : Nat) (N : zi_M), Ms[mi]? = some N → zi_okM N) (hT : zi_okT Ms M) {ws0 : va_W} : ∀ (n : Nat) {f : zi_F} {r : zi_R}, zi_loop call M n f = some r → r.2.2.1 ≤ R.cells → r.2.2.2 ≤ R.slots → (f.2.2.2.2.1 ≤ r.2.2.1 ∧ f.2.2.2.2.2 ≤ r.2.2.2) ∧ ∀ (ws : va_W) (H : Heap) (locs : List Loc) (ls : Array Slot) (sc : List Value), zi_ex ws0 ws → zi_St B0 D dA adK adV b M.2.2.1 s f ws H locs ls sc →
    zi_W p l e R s m args below meth c (MQ below (zi_Q B0 D dA adK adV b ws0 r.1 r.2.1) args s r.2.2.1 r.2.2.2 (fun q => B0 ≤ q)) f.2.2.2.2.1 f.2.2.2.2.2 f.1 H locs ls sc
  | 0, f, r, h, _, _ => by cases h
  | n + 1, f, r, h, hc, hs => by
    have h : (match zi_stp call [] M f with | some (.inl g) => bif zi_up f g then zi_loop call M n g else none | some (.inr v) => some (v, f.2.2.2.1, f.2.2.2.2.1, f.2.2.2.2.2) | none => none) = some r := h
    split at h
    · rename_i x hx
      cases hu : zi_up f x with
      | false => rw [hu] at h; cases h
      | true =>
        rw [hu] at h
        obtain ⟨h1, h2⟩ := zi_loop_ok C hct hMs hT n h hc hs
        unfold zi_up at hu
        rw [Bool.and_eq_true] at hu
        have u1 := Nat.le_of_ble_eq_true hu.1
        have u2 := Nat.le_of_ble_eq_true hu.2
        refine ⟨⟨Nat.le_trans u1 h1.1, Nat.le_trans u2 h1.2⟩, fun ws H locs ls sc hex hS => ?_⟩
        exact zi_stp_go C hct hMs hT hx _ ws H locs ls sc hS (Nat.le_trans h1.1 hc) (Nat.le_trans h1.2 hs) (fun ws' H' locs' ls' sc' hex' hS' => h2 ws' H' locs' ls' sc' (zi_ex_trans hex hex') hS')
    · rename_i v hv
      cases h
      exact ⟨⟨Nat.le_refl _, Nat.le_refl _⟩, fun ws H locs ls sc hex hS => zi_stp_ret C hT hv hex hS⟩
    · cases h
end ZR
theorem zi_sl_len : ∀ vs : List Value, (lg_sl vs).length = (vs.map fun v => v.category).sum
  | [] => rfl
  | v :: vs => by
    have e1 : lg_sl (v :: vs) = (if v.category = 2 then [Slot.val v, Slot.second] else [Slot.val v]) ++ lg_sl vs := rfl
    rw [e1, List.length_append, zi_sl_len vs, List.map_cons, List.sum_cons]
    rcases lv_cat v with h | h
    · rw [h, if_neg (by decide)]; rfl
    · rw [h, if_pos rfl]; rfl
theorem zi_ev_ok {l : Launch} {Ms : List zi_M} (hMs : ∀ (mi : Nat) (N : zi_M), Ms[mi]? = some N → zi_okM N ∧ zi_okT Ms N) (n : Nat) : ∀ d : Nat, zi_Ct l Ms d (zi_ev Ms n d)
  | 0 => fun mi avs A r h => by cases h
  | d + 1 => fun mi avs A r h => by
    have ih := zi_ev_ok (l := l) hMs n d
    have h : (match Ms[mi]? with | some M => bif Nat.ble (zi_cats avs) M.2.2.1 then zi_loop (zi_ev Ms n d) M n (0, zi_ent 0 avs, [], A, 0, 0) else none | none => none) = some r := h
    cases hM : Ms[mi]? with
    | none => rw [hM] at h; cases h
    | some M =>
      rw [hM] at h
      dsimp only at h
      cases hb : Nat.ble (zi_cats avs) M.2.2.1 with
      | false => rw [hb] at h; cases h
      | true =>
        rw [hb] at h
        have hb := Nat.le_of_ble_eq_true hb
        have h : zi_loop (zi_ev Ms n d) M n (0, zi_ent 0 avs, [], A, 0, 0) = some r := h
        obtain ⟨hok, hT⟩ := hMs mi M hM
        refine ⟨M, rfl, ?_⟩
        intro B0 D dA adK adV b ws vs hvs hA
        refine Met.ofW (cc := M.2.1) (maxL := M.2.2.1) (ret := M.2.2.2.1) hok.2.2.2.1 rfl ?_
        intro p e s m args below meth c s₁ B hml hv
        obtain ⟨rfl, hX, hP, hD⟩ := hv
        have hts := atoms_spec (ws := zi_ws M) B.pre
        have hcat := zi_cats_ok hvs
        have hl := lv_entry vs (n := M.2.2.1) (by rw [zi_sl_len, hcat]; exact hb)
        rw [lg_entry_eq]
        have C : zi_Cx p (headSpec (zi_ws M) (zi_room (d + 1) r.2.2.1 r.2.2.2)).room s m vs.toArray meth c B0 D dA adK adV b M d [] :=
          ⟨⟨B.exec, B.bytes, hml, B.returns, findClass_of_methodNamed B.named, fun w hw => hts w (List.mem_cons_of_mem _ hw), B.notSynchronized, (name_of_methodNamed B.named B.method).1⟩, hX, ⟨Nat.le_refl _, Nat.le_refl _⟩, Or.inl rfl⟩
        exact (zi_loop_ok C ih (fun mi N hN => (hMs mi N hN).1) hT n h (Nat.le_refl _) (Nat.le_refl _)).2 ws s.heap [] _ [] (zi_ex_refl ws) ⟨hP, hD, va_S.rf, hA, ⟨_, hl, zi_ent_ok hvs 0⟩, trivial⟩
end
section
/-! What the Statement gives of the start. -/
theorem zi_inst_all : zi_Fs.all (fun q => zi_mem (.instantiable q.1 q.2.length)) = true := by decide +kernel
theorem zi_ex_int : zi_mem (.arrayClass .int) = true := by decide +kernel
theorem zi_ex_long : zi_mem (.arrayClass .long) = true := by decide +kernel
theorem zi_ex_boolean : zi_mem (.arrayClass .boolean) = true := by decide +kernel
theorem zi_ex_char : zi_mem (.arrayClass .char) = true := by decide +kernel
theorem zi_ao4 : Cond.arrayOver (.object "AgreeTold$FutureSet") ∈ lw_tbl := by decide +kernel
theorem zi_ao5 : Cond.arrayOver (.object "AgreeTold$Story") ∈ lw_tbl := by decide +kernel
theorem zi_ao6 : Cond.arrayOver (.object "AgreeTold$Saying") ∈ lw_tbl := by decide +kernel
theorem zi_prim {args : Array Value} {s : State} {ty : FieldType} (h : (Cond.arrayClass ty).before args s = true) : ∃ cA : ClassId, ArrOfT s cA ty ∧ s.vm.findClass ("[" ++ ty.toString) = some cA := by
  obtain ⟨c, k, comp, h1, h2, h3⟩ := Cond.arrayClass_spec h
  exact ⟨c, fun n z => ⟨fun k h => (by cases h), k, h2, comp, h3⟩, h1⟩
theorem zi_refs {args : Array Value} {s : State} {C : String} (h : (Cond.arrayOver (.object C)).before args s = true) : ∃ cA : ClassId, ArrOfT s cA (.object C) ∧ va_RA s cA (.object C) := by
  obtain ⟨comp, c, k, h1, h2, h3, h4, h5⟩ := Cond.arrayOver_spec h
  exact ⟨c, fun n z => ⟨fun k h => (by cases h), k, h3, comp, h4⟩, k, comp, h3, h4, h1, h5⟩
theorem zi_K_ex {args : Array Value} {s : State} (hts : ∀ w ∈ lw_tbl, w.before args s = true) : ∃ (D : va_G) (dA : Nat → ClassId), va_K D zi_cl (zi_tys dA) s := by
  have h0 : ∀ ci : Nat, ∃ q : ClassId × (Nat → Nat), ∀ z, zi_Fs[ci]? = some z → u_Kn s z.1 (zi_Tf z) z.2.length q.1 q.2 := by
    intro ci
    cases hz : zi_Fs[ci]? with
    | none => exact ⟨(0, fun _ => 0), fun z h => by cases h⟩
    | some z =>
      have h1 := List.all_eq_true.mp zi_inst_all z (List.mem_of_getElem? hz)
      obtain ⟨cC, iS, h⟩ := u_known (C := z.1) (T := zi_Tf z) (N := z.2.length) (n := z.2.length) (ws := lw_tbl) hts (fun w hw => (List.mem_filter.mp ((zi_cl_ok hz).1 w hw)).1) (hts _ (List.mem_filter.mp (zi_mem_ok h1)).1)
      exact ⟨(cC, iS), fun z' h' => by cases h'; exact h⟩
  have h1 : ∀ t : Nat, ∃ cA : ClassId, t < 7 → ArrOfT s cA (zi_ft t) ∧ va_RA s cA (zi_ft t) := by
    intro t
    by_cases ht : t < 7
    · rcases (show t = 0 ∨ t = 1 ∨ t = 2 ∨ t = 3 ∨ t = 4 ∨ t = 5 ∨ t = 6 by omega) with z | z | z | z | z | z | z <;> subst z
      · obtain ⟨cA, a1, a2⟩ := zi_prim (hts _ (List.mem_filter.mp (zi_mem_ok zi_ex_int)).1)
        exact ⟨cA, fun _ => ⟨a1, a2⟩⟩
      · obtain ⟨cA, a1, a2⟩ := zi_prim (hts _ (List.mem_filter.mp (zi_mem_ok zi_ex_long)).1)
        exact ⟨cA, fun _ => ⟨a1, a2⟩⟩
      · obtain ⟨cA, a1, a2⟩ := zi_prim (hts _ (List.mem_filter.mp (zi_mem_ok zi_ex_boolean)).1)
        exact ⟨cA, fun _ => ⟨a1, a2⟩⟩
      · obtain ⟨cA, a1, a2⟩ := zi_prim (hts _ (List.mem_filter.mp (zi_mem_ok zi_ex_char)).1)
        exact ⟨cA, fun _ => ⟨a1, a2⟩⟩
      · obtain ⟨cA, a1, a2⟩ := zi_refs (hts _ zi_ao4)
        exact ⟨cA, fun _ => ⟨a1, a2⟩⟩
      · obtain ⟨cA, a1, a2⟩ := zi_refs (hts _ zi_ao5)
        exact ⟨cA, fun _ => ⟨a1, a2⟩⟩
      · obtain ⟨cA, a1, a2⟩ := zi_refs (hts _ zi_ao6)
        exact ⟨cA, fun _ => ⟨a1, a2⟩⟩
    · exact ⟨0, fun h => absurd h ht⟩
  obtain ⟨f, hf⟩ := Classical.axiomOfChoice h0
  obtain ⟨dA, hdA⟩ := Classical.axiomOfChoice h1
  refine ⟨(fun ci => (f ci).1, fun ci => (f ci).2), dA, ⟨fun ci q hq => ?_, fun k q hk => ?_⟩⟩
  · cases hz : zi_Fs[ci]? with
    | none =>
      unfold zi_cl at hq
      rw [List.getElem?_map, hz] at hq
      cases hq
    | some z =>
      rw [zi_cl_at hz] at hq
      cases hq
      exact hf ci z hz
  · have hl : k < 7 := by
      have := (List.getElem?_eq_some_iff.mp hk).1
      simpa [zi_tys] using this
    rw [zi_tys_at dA hl] at hk
    cases hk
    exact hdA k hl
/-! the String constants -/
def zi_fl : List Cond := flatC (Jvm.Cond.and given_1 narrow_1)
def zi_tm (i : Nat) : Term := match i with
  | 0 => .string "AgreeTold$Tape" 26
  | 1 => .string "AgreeTold$Reader" 18
  | 2 => .string "AgreeTold$Tape" 77
  | _ => .string "AgreeTold" 343
theorem zi_s_all : (List.range 4).all (fun i => decide (Cond.exactly (zi_tm i) "java/lang/String" ∈ zi_fl) && decide (Cond.eq (.field (zi_tm i) "java/lang/String" "coder" "B") (.int 0) ∈ zi_fl) && decide (Cond.arrayOf (.field (zi_tm i) "java/lang/String" "value" "[B") .byte ∈ zi_fl) && decide (Cond.eq (.length (.field (zi_tm i) "java/lang/String" "value" "[B")) (.int (Int32.ofNat (zi_sn.getD i 0))) ∈ zi_fl) && Nat.ble (zi_sn.getD i 0) 1000) = true := by decide +kernel
def zi_bs (i : Nat) : Nat := match i with
  | 0 => 27
  | 1 => 185
  | 2 => 207
  | _ => 221
def zi_el (i j : Nat) : Cond := Cond.eq (.elem (.field (zi_tm i) "java/lang/String" "value" "[B") (.int (Int32.ofNat j))) (.int ((zi_sb.getD i []).getD j 0))
theorem zi_e0 : (zi_fl.drop 27).take 154 = (List.range 154).map (zi_el 0) := by decide +kernel
theorem zi_e1 : (zi_fl.drop 185).take 17 = (List.range 17).map (zi_el 1) := by decide +kernel
theorem zi_e2 : (zi_fl.drop 207).take 8 = (List.range 8).map (zi_el 2) := by decide +kernel
theorem zi_e3 : (zi_fl.drop 221).take 12 = (List.range 12).map (zi_el 3) := by decide +kernel
theorem zi_e_of {a n i : Nat} (h : (zi_fl.drop a).take n = (List.range n).map (zi_el i)) {j : Nat} (hj : j < n) : zi_el i j ∈ zi_fl := by
  have h1 : zi_el i j ∈ (List.range n).map (zi_el i) := List.mem_map.mpr ⟨j, List.mem_range.mpr hj, rfl⟩
  rw [← h] at h1
  exact List.mem_of_mem_drop (List.mem_of_mem_take h1)
theorem zi_e_all (i : Nat) (hi : i < 4) (j : Nat) (hj : j < zi_sn.getD i 0) : zi_el i j ∈ zi_fl := by
  rcases (show i = 0 ∨ i = 1 ∨ i = 2 ∨ i = 3 by omega) with z | z | z | z <;> subst z
  · exact zi_e_of zi_e0 hj
  · exact zi_e_of zi_e1 hj
  · exact zi_e_of zi_e2 hj
  · exact zi_e_of zi_e3 hj
theorem zi_n_all : (List.range 4).all (fun i => (List.range 4).all (fun j => decide (i = j) || decide (Cond.not (Cond.eq (zi_tm i) (zi_tm j)) ∈ zi_fl) || decide (Cond.not (Cond.eq (zi_tm j) (zi_tm i)) ∈ zi_fl))) = true := by decide +kernel
theorem zi_r_all : ((List.range 4).zip zi_sr).all (fun q => decide (zi_tm q.1 = .string q.2.1 q.2.2.1) && decide (Cond.stringRef q.2.1 q.2.2.1 q.2.2.2 ∈ lw_tbl)) = true := by decide +kernel
theorem zi_nest_all : zi_nest.all (fun q => decide (Cond.methodLinkNest q.1 q.2.1 q.2.2.1 q.2.2.2 ∈ lw_tbl)) = true := by decide +kernel
theorem zi_st0 : Cond.laysStatic "java/lang/String" "COMPACT_STRINGS" "Z" ∈ lw_tbl ∧ Cond.initialized "java/lang/String" ∈ lw_tbl ∧ Cond.eq (.static "java/lang/String" "COMPACT_STRINGS" "Z") (.int 1) ∈ zi_fl := ⟨by decide +kernel, by decide +kernel, by decide +kernel⟩
theorem zi_st1 : Cond.laysStatic "jdk/internal/util/Preconditions" "SIOOBE_FORMATTER" "Ljava/util/function/BiFunction;" ∈ lw_tbl ∧ Cond.initialized "jdk/internal/util/Preconditions" ∈ lw_tbl ∧ Cond.isRef (.static "jdk/internal/util/Preconditions" "SIOOBE_FORMATTER" "Ljava/util/function/BiFunction;") ∈ zi_fl := ⟨by decide +kernel, by decide +kernel, by decide +kernel⟩
theorem zi_X_ex {args : Array Value} {s : State} (hts : ∀ w ∈ lw_tbl, w.before args s = true) (hgv : (Jvm.Cond.and given_1 narrow_1).before args s = true) : ∃ (D : va_G) (dA : Nat → ClassId) (adK adV : Nat → Nat), zi_X s.heap.size D dA adK adV s := by
  have hs : ∀ w ∈ zi_fl, w.before args s = true := flat_of_before _ hgv
  have hA : ∀ a : Nat, a < s.heap.size → ¬ s.heap.size ≤ a := fun a h => Nat.not_le.mpr h
  obtain ⟨D, dA, hK⟩ := zi_K_ex hts
  have sa : ∀ i : Nat, i < 4 → _ := fun i hi => List.all_eq_true.mp zi_s_all i (List.mem_range.mpr hi)
  simp only [Bool.and_eq_true, decide_eq_true_eq] at sa
  have na : ∀ i : Nat, i < 4 → ∀ j : Nat, j < 4 → _ := fun i hi j hj => List.all_eq_true.mp (List.all_eq_true.mp zi_n_all i (List.mem_range.mpr hi)) j (List.mem_range.mpr hj)
  simp only [Bool.or_eq_true, decide_eq_true_eq] at na
  obtain ⟨adK, adV, hS, hev⟩ := vk_Sof (N := 4) (tm := zi_tm) (len := zi_sn) (byt := zi_sb) (A := fun q => s.heap.size ≤ q) (args := args) (s := s) (fun i hi => Nat.lt_of_le_of_lt (Nat.le_of_ble_eq_true (sa i hi).2) (by decide)) (fun i hi => hs _ (sa i hi).1.1.1.1) (fun i hi => hs _ (sa i hi).1.1.1.2) (fun i hi => hs _ (sa i hi).1.1.2) (fun i hi => hs _ (sa i hi).1.2) (fun i hi j hj => hs _ (zi_e_all i hi j hj)) (fun i j hi hj hij => by
    rcases na i hi j hj with (z | z) | z
    · exact absurd z hij
    · exact Or.inl (hs _ z)
    · exact Or.inr (hs _ z)) hA
  refine ⟨D, dA, adK, adV, hK, hS, fun i q hq => ?_, va_Zof (hts _ zi_st0.1) (hts _ zi_st0.2.1) (va_eqi (hs _ zi_st0.2.2)) hA, va_Zqof (hts _ zi_st1.1) (hts _ zi_st1.2.1) (hs _ zi_st1.2.2) hA, fun q hq => ?_, ⟨va_AO.of (hts _ zi_ao4), va_AO.of (hts _ zi_ao5), va_AO.of (hts _ zi_ao6)⟩, Nat.le_refl _⟩
  · have hi : i < 4 := (List.getElem?_eq_some_iff.mp hq).1
    have hm : (i, q) ∈ (List.range 4).zip zi_sr := by
      refine List.mem_of_getElem? (i := i) ?_
      rw [List.getElem?_zip_eq_some]
      exact ⟨by rw [List.getElem?_range hi], hq⟩
    have hz := List.all_eq_true.mp zi_r_all _ hm
    simp only [Bool.and_eq_true, decide_eq_true_eq] at hz
    have he := hev i hi
    rw [hz.1] at he
    refine vk_R.of (A := args) (hts _ hz.2) he
  · have hz := List.all_eq_true.mp zi_nest_all q hq
    exact va_Nw.of rfl (hts _ (of_decide_eq_true hz))
end
section
/-! The code that the runs use: pc, instruction, length, what it links. Printed by a program out of the listing and the tables. -/
def zi_t0 : zi_T := [(100000, [(0, (.aload_n 0, 1, [])),
    (1, (.getfield 9, 3, [100, 0, 2239])),
    (4, (.arraylength, 1, [])),
    (5, (.aload_n 0, 1, [])),
    (6, (.invokevirtual 335, 3, [1, 1, 100, 204, 205, 206])),
    (9, (.ishr, 1, [])),
    (10, (.ireturn, 1, []))])]
def zi_m0 : zi_M := (⟨"java/lang/String", "length", "()I"⟩, prog_24_method_54_code, 1, (some FieldType.int), zi_t0, [203, 153])
def zi_t1 : zi_T := [(100000, [(0, (.getstatic 38, 3, [0, 208])),
    (3, (.ifCond .eq 10, 3, [13])),
    (6, (.aload_n 0, 1, [])),
    (7, (.getfield 15, 3, [100, 1, 2240])),
    (10, (.goto 4, 3, [14])),
    (14, (.ireturn, 1, []))])]
def zi_m1 : zi_M := (⟨"java/lang/String", "coder", "()B"⟩, prog_24_method_152_code, 1, (some FieldType.byte), zi_t1, [207, 153])
def zi_t2 : zi_T := [(100000, [(0, (.aload_n 0, 1, [])),
    (1, (.invokevirtual 492, 3, [5, 1, 100, 214, 215, 216])),
    (4, (.ifCond .eq 12, 3, [16])),
    (7, (.aload_n 0, 1, [])),
    (8, (.getfield 9, 3, [100, 0, 2239])),
    (11, (.iload_n 1, 1, [])),
    (12, (.invokestatic 495, 3, [6, 2, 0, 218, 219])),
    (15, (.ireturn, 1, []))])]
def zi_m2 : zi_M := (⟨"java/lang/String", "charAt", "(I)C"⟩, prog_24_method_56_code, 2, (some FieldType.char), zi_t2, [213, 153])
def zi_t3 : zi_T := [(100000, [(0, (.iload_n 0, 1, [])),
    (1, (.ifCond .lt 8, 3, [9])),
    (4, (.iload_n 0, 1, [])),
    (5, (.iload_n 1, 1, [])),
    (6, (.if_icmp .lt 10, 3, [16])),
    (16, (.iload_n 0, 1, [])),
    (17, (.ireturn, 1, []))])]
def zi_m3 : zi_M := (⟨"jdk/internal/util/Preconditions", "checkIndex", "(IILjava/util/function/BiFunction;)I"⟩, prog_32_method_11_code, 3, (some FieldType.int), zi_t3, [228, 155])
def zi_t4 : zi_T := [(100000, [(0, (.iload_n 0, 1, [])),
    (1, (.iload_n 1, 1, [])),
    (2, (.getstatic 1053, 3, [1, 224])),
    (5, (.invokestatic 1059, 3, [3, 3, 0, 226, 227])),
    (8, (.pop, 1, [])),
    (9, (.return_, 1, []))])]
def zi_m4 : zi_M := (⟨"java/lang/String", "checkIndex", "(II)V"⟩, prog_24_method_155_code, 2, (none : Option FieldType), zi_t4, [223, 153])
def zi_t5 : zi_T := [(100000, [(0, (.getstatic 38, 3, [0, 208])),
    (3, (.ifCond .eq 14, 3, [17])),
    (6, (.aload_n 0, 1, [])),
    (7, (.getfield 15, 3, [100, 1, 2240])),
    (10, (.ifCond .ne 7, 3, [17])),
    (13, (.iconst 1, 1, [])),
    (14, (.goto 4, 3, [18])),
    (18, (.ireturn, 1, []))])]
def zi_m5 : zi_M := (⟨"java/lang/String", "isLatin1", "()Z"⟩, prog_24_method_154_code, 1, (some FieldType.boolean), zi_t5, [217, 153])
def zi_t6 : zi_T := [(100000, [(0, (.iload_n 1, 1, [])),
    (1, (.aload_n 0, 1, [])),
    (2, (.arraylength, 1, [])),
    (3, (.invokestatic 9, 3, [4, 2, 0, 221, 222])),
    (6, (.aload_n 0, 1, [])),
    (7, (.iload_n 1, 1, [])),
    (8, (.baload, 1, [])),
    (9, (.sipush 255, 3, [])),
    (12, (.iand, 1, [])),
    (13, (.i2c, 1, [])),
    (14, (.ireturn, 1, []))])]
def zi_m6 : zi_M := (⟨"java/lang/StringLatin1", "charAt", "([BI)C"⟩, prog_25_method_2_code, 2, (some FieldType.char), zi_t6, [220, 154])
def zi_t7 : zi_T := [(100000, [(0, (.aload_n 0, 1, [])),
    (1, (.getfield 101, 3, [11, 10, 1629])),
    (4, (.iconst 1, 1, [])),
    (5, (.iaload, 1, [])),
    (6, (.ireturn, 1, []))])]
def zi_m7 : zi_M := (⟨"AgreeToldModel", "people", "()I"⟩, prog_13_method_49_code, 1, (some FieldType.int), zi_t7, [1567, 166])
def zi_t8 : zi_T := [(100000, [(0, (.aload_n 0, 1, [])),
    (1, (.getfield 101, 3, [11, 10, 1629])),
    (4, (.iconst 0, 1, [])),
    (5, (.iaload, 1, [])),
    (6, (.ireturn, 1, []))])]
def zi_m8 : zi_M := (⟨"AgreeToldModel", "days", "()I"⟩, prog_13_method_48_code, 1, (some FieldType.int), zi_t8, [1563, 166])
def zi_t9 : zi_T := [(100000, [(0, (.iload_n 1, 1, [])),
    (1, (.iconst 4, 1, [])),
    (2, (.idiv, 1, [])),
    (3, (.iconst 4, 1, [])),
    (4, (.irem, 1, [])),
    (5, (.aload_n 0, 1, [])),
    (6, (.invokevirtual 334, 3, [7, 1, 11, 1564, 1566, 63])),
    (9, (.if_icmp .ge 17, 3, [26])),
    (26, (.iconst 0, 1, [])),
    (27, (.ireturn, 1, []))])]
def zi_m9 : zi_M := (⟨"AgreeToldModel", "isNumber", "(I)Z"⟩, prog_13_method_109_code, 2, (some FieldType.boolean), zi_t9, [2096, 166])
def zi_t10 : zi_T := [(100000, [(0, (.iload_n 0, 1, [])),
    (1, (.iload_n 1, 1, [])),
    (2, (.if_icmp .lt 12, 3, [14])),
    (5, (.iload_n 0, 1, [])),
    (6, (.iload_n 2, 1, [])),
    (7, (.if_icmp .gt 7, 3, [14])),
    (10, (.iconst 1, 1, [])),
    (11, (.goto 4, 3, [15])),
    (14, (.iconst 0, 1, [])),
    (15, (.ireturn, 1, []))])]
def zi_m10 : zi_M := (⟨"AgreeToldModel", "within", "(III)Z"⟩, prog_13_method_17_code, 3, (some FieldType.boolean), zi_t10, [1860, 166])
def zi_t11 : zi_T := [(20, [(0, (.iconst 0, 1, [])),
    (1, (.istore_n 2, 1, [])),
    (2, (.iload_n 2, 1, [])),
    (3, (.aload_n 0, 1, [])),
    (4, (.getfield 346, 3, [11, 25, 1644])),
    (7, (.if_icmp .ge 22, 3, [29])),
    (10, (.aload_n 0, 1, [])),
    (11, (.getfield 129, 3, [11, 23, 1642])),
    (14, (.sipush 512, 3, [])),
    (17, (.iload_n 1, 1, [])),
    (18, (.imul, 1, [])),
    (19, (.iload_n 2, 1, []))]),
  (100000, [(20, (.iadd, 1, [])),
    (21, (.lconst 0, 1, [])),
    (22, (.lastore, 1, [])),
    (23, (.iinc 2 1, 3, [])),
    (26, (.goto (-24), 3, [2])),
    (29, (.return_, 1, []))])]
def zi_m11 : zi_M := (⟨"AgreeToldModel", "clears", "(I)V"⟩, prog_13_method_58_code, 3, (none : Option FieldType), zi_t11, [1575, 166])
def zi_t12 : zi_T := [(100000, [(0, (.iload_n 1, 1, [])),
    (1, (.ifCond .lt 20, 3, [21])),
    (4, (.iload_n 1, 1, [])),
    (5, (.aload_n 0, 1, [])),
    (6, (.getfield 56, 3, [3, 15, 315])),
    (9, (.if_icmp .ge 12, 3, [21])),
    (21, (.iconst 0, 1, [])),
    (22, (.ireturn, 1, []))])]
def zi_m12 : zi_M := (⟨"AgreeTold$Land", "isPerson", "(I)Z"⟩, prog_5_method_11_code, 2, (some FieldType.boolean), zi_t12, [1098, 157])
def zi_t13 : zi_T := [(100000, [(0, (.iload_n 1, 1, [])),
    (1, (.ifCond .lt 15, 3, [16])),
    (4, (.iload_n 1, 1, [])),
    (5, (.aload_n 0, 1, [])),
    (6, (.invokevirtual 334, 3, [7, 1, 11, 1564, 1566, 63])),
    (9, (.if_icmp .ge 7, 3, [16])),
    (16, (.iconst 0, 1, [])),
    (17, (.ireturn, 1, []))])]
def zi_m13 : zi_M := (⟨"AgreeToldModel", "isPerson", "(I)Z"⟩, prog_13_method_51_code, 2, (some FieldType.boolean), zi_t13, [1974, 166])
def zi_t14 : zi_T := [(20, [(0, (.iload_n 1, 1, [])),
    (1, (.ifCond .lt 12, 3, [13])),
    (4, (.iload_n 1, 1, [])),
    (5, (.aload_n 0, 1, [])),
    (6, (.getfield 60, 3, [0, 8, 624])),
    (9, (.arraylength, 1, [])),
    (10, (.if_icmp .lt 5, 3, [15])),
    (13, (.iconst 0, 1, [])),
    (14, (.ireturn, 1, [])),
    (15, (.aload_n 0, 1, [])),
    (16, (.getfield 60, 3, [0, 8, 624])),
    (19, (.iload_n 1, 1, []))]),
  (58, [(20, (.aaload, 1, [])),
    (21, (.astore_n 3, 1, [])),
    (22, (.iload_n 2, 1, [])),
    (23, (.ifCond .eq 27, 3, [50])),
    (26, (.aload_n 3, 1, [])),
    (27, (.ifnonnull 5, 3, [32])),
    (30, (.iconst 0, 1, [])),
    (31, (.ireturn, 1, [])),
    (50, (.aload_n 3, 1, [])),
    (51, (.ifnonnull 18, 3, [69])),
    (54, (.new 49, 3, [9, 515, 516, 163])),
    (57, (.dup, 1, []))]),
  (78, [(58, (.invokespecial 51, 3, [48, 1, 0, 517, 518])),
    (61, (.astore_n 3, 1, [])),
    (62, (.aload_n 0, 1, [])),
    (63, (.getfield 60, 3, [0, 8, 624])),
    (66, (.iload_n 1, 1, [])),
    (67, (.aload_n 3, 1, [])),
    (68, (.aastore, 1, [])),
    (69, (.aload_n 3, 1, [])),
    (70, (.aload_n 0, 1, [])),
    (71, (.getfield 52, 3, [0, 6, 622])),
    (74, (.invokevirtual 294, 3, [49, 2, 9, 1017, 1018, 1019])),
    (77, (.iconst 1, 1, []))]),
  (100000, [(78, (.ireturn, 1, []))])]
def zi_m14 : zi_M := (⟨"AgreeTold", "mark", "(IZ)Z"⟩, prog_1_method_33_code, 4, (some FieldType.boolean), zi_t14, [1415, 150])
def zi_t15 : zi_T := [(22, [(0, (.aload_n 0, 1, [])),
    (1, (.iconst 0, 1, [])),
    (2, (.putfield 1, 3, [11, 0, 1619])),
    (5, (.iload_n 1, 1, [])),
    (6, (.iconst 0, 1, [])),
    (7, (.iconst 3, 1, [])),
    (8, (.invokestatic 241, 3, [10, 3, 0, 1858, 1859])),
    (11, (.ifCond .eq 16, 3, [27])),
    (14, (.iload_n 2, 1, [])),
    (15, (.ifCond .eq 14, 3, [29])),
    (18, (.aload_n 0, 1, [])),
    (19, (.getfield 141, 3, [11, 31, 1650]))]),
  (50, [(22, (.iload_n 1, 1, [])),
    (23, (.baload, 1, [])),
    (24, (.ifCond .ne 5, 3, [29])),
    (27, (.iconst 0, 1, [])),
    (28, (.ireturn, 1, [])),
    (29, (.iload_n 2, 1, [])),
    (30, (.ifCond .eq 9, 3, [39])),
    (39, (.iconst 0, 1, [])),
    (40, (.istore_n 3, 1, [])),
    (41, (.iload_n 2, 1, [])),
    (42, (.ifCond .eq 7, 3, [49])),
    (49, (.iconst 1, 1, []))]),
  (68, [(50, (.iload_n 1, 1, [])),
    (51, (.iadd, 1, [])),
    (52, (.istore 4, 2, [])),
    (54, (.aload_n 0, 1, [])),
    (55, (.iload_n 3, 1, [])),
    (56, (.iload 4, 2, [])),
    (58, (.invokevirtual 408, 3, [51, 3, 11, 1958, 1960, 116])),
    (61, (.aload_n 0, 1, [])),
    (62, (.bipush 33, 2, [])),
    (64, (.iload_n 3, 1, [])),
    (65, (.iadd, 1, [])),
    (66, (.bipush 33, 2, []))]),
  (88, [(68, (.iload 4, 2, [])),
    (70, (.iadd, 1, [])),
    (71, (.invokevirtual 405, 3, [16, 3, 11, 1928, 1930, 111])),
    (74, (.aload_n 0, 1, [])),
    (75, (.getfield 145, 3, [11, 32, 1651])),
    (78, (.iload 4, 2, [])),
    (80, (.aload_n 0, 1, [])),
    (81, (.getfield 145, 3, [11, 32, 1651])),
    (84, (.iload_n 3, 1, [])),
    (85, (.baload, 1, [])),
    (86, (.bastore, 1, [])),
    (87, (.aload_n 0, 1, []))]),
  (100000, [(88, (.getfield 141, 3, [11, 31, 1650])),
    (91, (.iload_n 1, 1, [])),
    (92, (.iconst 1, 1, [])),
    (93, (.bastore, 1, [])),
    (94, (.aload_n 0, 1, [])),
    (95, (.iload_n 2, 1, [])),
    (96, (.ifCond .eq 7, 3, [103])),
    (103, (.aload_n 0, 1, [])),
    (104, (.getfield 371, 3, [11, 30, 1649])),
    (107, (.putfield 371, 3, [11, 30, 1649])),
    (110, (.iconst 1, 1, [])),
    (111, (.ireturn, 1, []))])]
def zi_m15 : zi_M := (⟨"AgreeToldModel", "mark", "(IZ)Z"⟩, prog_13_method_138_code, 5, (some FieldType.boolean), zi_t15, [2217, 166])
def zi_t16 : zi_T := [(20, [(0, (.iconst 0, 1, [])),
    (1, (.istore_n 3, 1, [])),
    (2, (.iload_n 3, 1, [])),
    (3, (.aload_n 0, 1, [])),
    (4, (.getfield 346, 3, [11, 25, 1644])),
    (7, (.if_icmp .ge 33, 3, [40])),
    (10, (.aload_n 0, 1, [])),
    (11, (.getfield 129, 3, [11, 23, 1642])),
    (14, (.sipush 512, 3, [])),
    (17, (.iload_n 2, 1, [])),
    (18, (.imul, 1, [])),
    (19, (.iload_n 3, 1, []))]),
  (40, [(20, (.iadd, 1, [])),
    (21, (.aload_n 0, 1, [])),
    (22, (.getfield 129, 3, [11, 23, 1642])),
    (25, (.sipush 512, 3, [])),
    (28, (.iload_n 1, 1, [])),
    (29, (.imul, 1, [])),
    (30, (.iload_n 3, 1, [])),
    (31, (.iadd, 1, [])),
    (32, (.laload, 1, [])),
    (33, (.lastore, 1, [])),
    (34, (.iinc 3 1, 3, [])),
    (37, (.goto (-35), 3, [2]))]),
  (100000, [(40, (.return_, 1, []))])]
def zi_m16 : zi_M := (⟨"AgreeToldModel", "copiesRow", "(II)V"⟩, prog_13_method_61_code, 4, (none : Option FieldType), zi_t16, [1931, 166])
def zi_t17 : zi_T := [(20, [(0, (.iconst 0, 1, [])),
    (1, (.istore_n 2, 1, [])),
    (2, (.iconst 0, 1, [])),
    (3, (.istore_n 3, 1, [])),
    (4, (.iload_n 3, 1, [])),
    (5, (.aload_n 0, 1, [])),
    (6, (.getfield 346, 3, [11, 25, 1644])),
    (9, (.if_icmp .ge 27, 3, [36])),
    (12, (.iload_n 2, 1, [])),
    (13, (.aload_n 0, 1, [])),
    (14, (.getfield 129, 3, [11, 23, 1642])),
    (17, (.sipush 512, 3, []))]),
  (100000, [(20, (.iload_n 1, 1, [])),
    (21, (.imul, 1, [])),
    (22, (.iload_n 3, 1, [])),
    (23, (.iadd, 1, [])),
    (24, (.laload, 1, [])),
    (25, (.invokestatic 382, 3, [19, 1, 0, 1943, 1944])),
    (28, (.iadd, 1, [])),
    (29, (.istore_n 2, 1, [])),
    (30, (.iinc 3 1, 3, [])),
    (33, (.goto (-29), 3, [4])),
    (36, (.iload_n 2, 1, [])),
    (37, (.ireturn, 1, []))])]
def zi_m17 : zi_M := (⟨"AgreeToldModel", "many", "(I)I"⟩, prog_13_method_64_code, 4, (some FieldType.int), zi_t17, [1942, 166])
def zi_t18 : zi_T := [(84, [(0, (.iload_n 1, 1, [])),
    (1, (.tableswitch 164 0 11 #[63, 71, 79, 87, 95, 103, 111, 119, 127, 135, 151, 156], 63, [165, 64, 72, 80, 88, 96, 104, 112, 120, 128, 136, 152, 157])),
    (64, (.aload_n 0, 1, [])),
    (65, (.getfield 93, 3, [0, 16, 632])),
    (68, (.getfield 328, 3, [3, 14, 313])),
    (71, (.ireturn, 1, [])),
    (72, (.aload_n 0, 1, [])),
    (73, (.getfield 93, 3, [0, 16, 632])),
    (76, (.getfield 264, 3, [3, 15, 317])),
    (79, (.ireturn, 1, [])),
    (80, (.aload_n 0, 1, [])),
    (81, (.getfield 93, 3, [0, 16, 632]))]),
  (108, [(84, (.getfield 398, 3, [3, 16, 321])),
    (87, (.ireturn, 1, [])),
    (88, (.aload_n 0, 1, [])),
    (89, (.getfield 93, 3, [0, 16, 632])),
    (92, (.getfield 412, 3, [3, 17, 324])),
    (95, (.ireturn, 1, [])),
    (96, (.aload_n 0, 1, [])),
    (97, (.getfield 93, 3, [0, 16, 632])),
    (100, (.getfield 418, 3, [3, 18, 328])),
    (103, (.ireturn, 1, [])),
    (104, (.aload_n 0, 1, [])),
    (105, (.getfield 93, 3, [0, 16, 632]))]),
  (132, [(108, (.getfield 374, 3, [3, 19, 332])),
    (111, (.ireturn, 1, [])),
    (112, (.aload_n 0, 1, [])),
    (113, (.getfield 52, 3, [0, 6, 622])),
    (116, (.getfield 134, 3, [9, 6, 534])),
    (119, (.ireturn, 1, [])),
    (120, (.aload_n 0, 1, [])),
    (121, (.getfield 52, 3, [0, 6, 622])),
    (124, (.getfield 241, 3, [9, 7, 536])),
    (127, (.ireturn, 1, [])),
    (128, (.aload_n 0, 1, [])),
    (129, (.getfield 52, 3, [0, 6, 622]))]),
  (157, [(132, (.getfield 277, 3, [9, 8, 538])),
    (135, (.ireturn, 1, [])),
    (136, (.aload_n 0, 1, [])),
    (137, (.getfield 52, 3, [0, 6, 622])),
    (140, (.getfield 197, 3, [9, 5, 532])),
    (143, (.ifnonnull 7, 3, [150])),
    (146, (.iconst 0, 1, [])),
    (147, (.goto 4, 3, [151])),
    (151, (.ireturn, 1, [])),
    (152, (.aload_n 0, 1, [])),
    (153, (.getfield 283, 3, [0, 18, 634])),
    (156, (.ireturn, 1, []))]),
  (100000, [(157, (.aload_n 0, 1, [])),
    (158, (.getfield 20, 3, [0, 1, 617])),
    (161, (.getfield 106, 3, [2, 5, 256])),
    (164, (.ireturn, 1, [])),
    (165, (.iconst (-1), 1, [])),
    (166, (.ireturn, 1, []))])]
def zi_m18 : zi_M := (⟨"AgreeTold", "count", "(I)I"⟩, prog_1_method_34_code, 2, (some FieldType.int), zi_t18, [1419, 150])
def zi_t19 : zi_T := [(16, [(0, (.lload_n 0, 1, [])),
    (1, (.lload_n 0, 1, [])),
    (2, (.iconst 1, 1, [])),
    (3, (.lushr, 1, [])),
    (4, (.ldc2_w 374, 3, [6148914691236517205, 1946])),
    (7, (.land, 1, [])),
    (8, (.lsub, 1, [])),
    (9, (.lstore_n 2, 1, [])),
    (10, (.lload_n 2, 1, [])),
    (11, (.ldc2_w 376, 3, [3689348814741910323, 1947])),
    (14, (.land, 1, [])),
    (15, (.lload_n 2, 1, []))]),
  (32, [(16, (.iconst 2, 1, [])),
    (17, (.lushr, 1, [])),
    (18, (.ldc2_w 376, 3, [3689348814741910323, 1947])),
    (21, (.land, 1, [])),
    (22, (.ladd, 1, [])),
    (23, (.lstore_n 2, 1, [])),
    (24, (.lload_n 2, 1, [])),
    (25, (.lload_n 2, 1, [])),
    (26, (.iconst 4, 1, [])),
    (27, (.lushr, 1, [])),
    (28, (.ladd, 1, [])),
    (29, (.ldc2_w 378, 3, [1085102592571150095, 1948]))]),
  (100000, [(32, (.land, 1, [])),
    (33, (.lstore_n 2, 1, [])),
    (34, (.lload_n 2, 1, [])),
    (35, (.ldc2_w 380, 3, [72340172838076673, 1949])),
    (38, (.lmul, 1, [])),
    (39, (.bipush 56, 2, [])),
    (41, (.lushr, 1, [])),
    (42, (.l2i, 1, [])),
    (43, (.ireturn, 1, []))])]
def zi_m19 : zi_M := (⟨"AgreeToldModel", "ones", "(J)I"⟩, prog_13_method_63_code, 4, (some FieldType.int), zi_t19, [1945, 166])
def zi_t20 : zi_T := [(79, [(0, (.aload_n 0, 1, [])),
    (1, (.iconst 0, 1, [])),
    (2, (.putfield 1, 3, [11, 0, 1619])),
    (5, (.iload_n 1, 1, [])),
    (6, (.tableswitch 144 0 11 #[62, 67, 72, 77, 84, 91, 98, 105, 112, 119, 134, 139], 62, [150, 68, 73, 78, 83, 90, 97, 104, 111, 118, 125, 140, 145])),
    (68, (.aload_n 0, 1, [])),
    (69, (.invokevirtual 340, 3, [8, 1, 11, 1560, 1562, 62])),
    (72, (.ireturn, 1, [])),
    (73, (.aload_n 0, 1, [])),
    (74, (.invokevirtual 334, 3, [7, 1, 11, 1564, 1566, 63])),
    (77, (.ireturn, 1, [])),
    (78, (.aload_n 0, 1, []))]),
  (97, [(79, (.invokevirtual 337, 3, [56, 1, 11, 1556, 1558, 61])),
    (82, (.ireturn, 1, [])),
    (83, (.aload_n 0, 1, [])),
    (84, (.getfield 101, 3, [11, 10, 1629])),
    (87, (.iconst 3, 1, [])),
    (88, (.iaload, 1, [])),
    (89, (.ireturn, 1, [])),
    (90, (.aload_n 0, 1, [])),
    (91, (.getfield 101, 3, [11, 10, 1629])),
    (94, (.iconst 4, 1, [])),
    (95, (.iaload, 1, [])),
    (96, (.ireturn, 1, []))]),
  (115, [(97, (.aload_n 0, 1, [])),
    (98, (.getfield 101, 3, [11, 10, 1629])),
    (101, (.iconst 5, 1, [])),
    (102, (.iaload, 1, [])),
    (103, (.ireturn, 1, [])),
    (104, (.aload_n 0, 1, [])),
    (105, (.getfield 138, 3, [11, 29, 1648])),
    (108, (.iconst 0, 1, [])),
    (109, (.iaload, 1, [])),
    (110, (.ireturn, 1, [])),
    (111, (.aload_n 0, 1, [])),
    (112, (.getfield 138, 3, [11, 29, 1648]))]),
  (131, [(115, (.iconst 1, 1, [])),
    (116, (.iaload, 1, [])),
    (117, (.ireturn, 1, [])),
    (118, (.aload_n 0, 1, [])),
    (119, (.getfield 138, 3, [11, 29, 1648])),
    (122, (.iconst 2, 1, [])),
    (123, (.iaload, 1, [])),
    (124, (.ireturn, 1, [])),
    (125, (.aload_n 0, 1, [])),
    (126, (.getfield 145, 3, [11, 32, 1651])),
    (129, (.iconst 0, 1, [])),
    (130, (.baload, 1, []))]),
  (100000, [(131, (.ifCond .eq 7, 3, [138])),
    (138, (.iconst 0, 1, [])),
    (139, (.ireturn, 1, [])),
    (140, (.aload_n 0, 1, [])),
    (141, (.getfield 371, 3, [11, 30, 1649])),
    (144, (.ireturn, 1, [])),
    (145, (.aload_n 0, 1, [])),
    (146, (.getfield 11, 3, [11, 2, 1621])),
    (149, (.ireturn, 1, [])),
    (150, (.iconst (-1), 1, [])),
    (151, (.ireturn, 1, []))])]
def zi_m20 : zi_M := (⟨"AgreeToldModel", "count", "(I)I"⟩, prog_13_method_139_code, 2, (some FieldType.int), zi_t20, [2221, 166])
def zi_t21 : zi_T := [(100000, [(0, (.iconst 1, 1, [])),
    (1, (.aload_n 0, 1, [])),
    (2, (.getfield 138, 3, [11, 29, 1648])),
    (5, (.iconst 0, 1, [])),
    (6, (.iaload, 1, [])),
    (7, (.ishl, 1, [])),
    (8, (.iconst 1, 1, [])),
    (9, (.isub, 1, [])),
    (10, (.ireturn, 1, []))])]
def zi_m21 : zi_M := (⟨"AgreeToldModel", "everySaying", "()I"⟩, prog_13_method_79_code, 1, (some FieldType.int), zi_t21, [1923, 166])
def zi_t22 : zi_T := [(21, [(0, (.aload_n 0, 1, [])),
    (1, (.bipush 32, 2, [])),
    (3, (.iload_n 1, 1, [])),
    (4, (.invokevirtual 405, 3, [16, 3, 11, 1928, 1930, 111])),
    (7, (.iconst 0, 1, [])),
    (8, (.istore 4, 2, [])),
    (10, (.iload 4, 2, [])),
    (12, (.aload_n 0, 1, [])),
    (13, (.invokevirtual 340, 3, [8, 1, 11, 1560, 1562, 62])),
    (16, (.aload_n 0, 1, [])),
    (17, (.invokevirtual 334, 3, [7, 1, 11, 1564, 1566, 63])),
    (20, (.imul, 1, []))]),
  (100000, [(21, (.if_icmp .ge 49, 3, [70])),
    (70, (.iconst 0, 1, [])),
    (71, (.istore 4, 2, [])),
    (73, (.iload 4, 2, [])),
    (75, (.aload_n 0, 1, [])),
    (76, (.getfield 138, 3, [11, 29, 1648])),
    (79, (.iconst 0, 1, [])),
    (80, (.iaload, 1, [])),
    (81, (.if_icmp .ge 28, 3, [109])),
    (109, (.return_, 1, []))])]
def zi_m22 : zi_M := (⟨"AgreeToldModel", "lays", "(IIZ)V"⟩, prog_13_method_78_code, 5, (none : Option FieldType), zi_t22, [1927, 166])
def zi_t23 : zi_T := [(100000, [(0, (.aload_n 0, 1, [])),
    (1, (.bipush 39, 2, [])),
    (3, (.aload_n 0, 1, [])),
    (4, (.invokevirtual 418, 3, [21, 1, 11, 1920, 1922, 109])),
    (7, (.iconst 1, 1, [])),
    (8, (.invokevirtual 421, 3, [22, 4, 11, 1924, 1926, 110])),
    (11, (.aload_n 0, 1, [])),
    (12, (.bipush 39, 2, [])),
    (14, (.invokevirtual 425, 3, [17, 2, 11, 1939, 1941, 113])),
    (17, (.ireturn, 1, []))])]
def zi_m23 : zi_M := (⟨"AgreeToldModel", "findLeft", "()I"⟩, prog_13_method_80_code, 1, (some FieldType.int), zi_t23, [1919, 166])
def zi_t24 : zi_T := [(22, [(0, (.iload_n 1, 1, [])),
    (1, (.ifCond .lt 29, 3, [30])),
    (4, (.iload_n 1, 1, [])),
    (5, (.aload_n 0, 1, [])),
    (6, (.getfield 15, 3, [5, 1, 430])),
    (9, (.if_icmp .ge 21, 3, [30])),
    (12, (.iload_n 1, 1, [])),
    (13, (.aload_n 0, 1, [])),
    (14, (.getfield 9, 3, [5, 0, 428])),
    (17, (.arraylength, 1, [])),
    (18, (.if_icmp .ge 12, 3, [30])),
    (21, (.aload_n 0, 1, []))]),
  (100000, [(22, (.getfield 9, 3, [5, 0, 428])),
    (25, (.iload_n 1, 1, [])),
    (26, (.laload, 1, [])),
    (27, (.goto 4, 3, [31])),
    (31, (.lreturn, 1, []))])]
def zi_m24 : zi_M := (⟨"AgreeTold$FutureSet", "cellAt", "(I)J"⟩, prog_3_method_8_code, 2, (some FieldType.long), zi_t24, [607, 159])
def zi_t25 : zi_T := [(22, [(0, (.aload_n 0, 1, [])),
    (1, (.getfield 111, 3, [1, 8, 387])),
    (4, (.iconst 1, 1, [])),
    (5, (.iadd, 1, [])),
    (6, (.istore_n 1, 1, [])),
    (7, (.aload_n 0, 1, [])),
    (8, (.getfield 46, 3, [1, 11, 390])),
    (11, (.ifCond .ne 69, 3, [80])),
    (14, (.iload_n 1, 1, [])),
    (15, (.aload_n 0, 1, [])),
    (16, (.getfield 12, 3, [1, 0, 374])),
    (19, (.getfield 217, 3, [2, 6, 259]))]),
  (46, [(22, (.if_icmp .ge 58, 3, [80])),
    (25, (.iload_n 1, 1, [])),
    (26, (.aload_n 0, 1, [])),
    (27, (.getfield 12, 3, [1, 0, 374])),
    (30, (.getfield 220, 3, [2, 1, 250])),
    (33, (.arraylength, 1, [])),
    (34, (.if_icmp .ge 46, 3, [80])),
    (37, (.iload_n 1, 1, [])),
    (38, (.aload_n 0, 1, [])),
    (39, (.getfield 12, 3, [1, 0, 374])),
    (42, (.getfield 223, 3, [2, 3, 254])),
    (45, (.arraylength, 1, []))]),
  (68, [(46, (.if_icmp .ge 34, 3, [80])),
    (49, (.aload_n 0, 1, [])),
    (50, (.iload_n 1, 1, [])),
    (51, (.putfield 111, 3, [1, 8, 387])),
    (54, (.aload_n 0, 1, [])),
    (55, (.aload_n 0, 1, [])),
    (56, (.getfield 12, 3, [1, 0, 374])),
    (59, (.getfield 220, 3, [2, 1, 250])),
    (62, (.iload_n 1, 1, [])),
    (63, (.iaload, 1, [])),
    (64, (.putfield 50, 3, [1, 9, 388])),
    (67, (.aload_n 0, 1, []))]),
  (100000, [(68, (.aload_n 0, 1, [])),
    (69, (.getfield 12, 3, [1, 0, 374])),
    (72, (.getfield 223, 3, [2, 3, 254])),
    (75, (.iload_n 1, 1, [])),
    (76, (.laload, 1, [])),
    (77, (.putfield 180, 3, [1, 10, 389])),
    (80, (.return_, 1, []))])]
def zi_m25 : zi_M := (⟨"AgreeTold$Reader", "advance", "()V"⟩, prog_7_method_26_code, 2, (none : Option FieldType), zi_t25, [790, 151])
def zi_t26 : zi_T := [(18, [(0, (.iconst 0, 1, [])),
    (1, (.istore_n 2, 1, [])),
    (2, (.iconst 0, 1, [])),
    (3, (.istore_n 3, 1, [])),
    (4, (.iload_n 3, 1, [])),
    (5, (.aload_n 0, 1, [])),
    (6, (.getfield 15, 3, [5, 1, 430])),
    (9, (.if_icmp .ge 36, 3, [45])),
    (12, (.iload_n 3, 1, [])),
    (13, (.aload_n 0, 1, [])),
    (14, (.getfield 9, 3, [5, 0, 428])),
    (17, (.arraylength, 1, []))]),
  (38, [(18, (.if_icmp .ge 27, 3, [45])),
    (21, (.iload_n 2, 1, [])),
    (22, (.aload_n 0, 1, [])),
    (23, (.getfield 9, 3, [5, 0, 428])),
    (26, (.iload_n 3, 1, [])),
    (27, (.laload, 1, [])),
    (28, (.aload_n 1, 1, [])),
    (29, (.iload_n 3, 1, [])),
    (30, (.invokevirtual 42, 3, [24, 2, 5, 604, 605, 606])),
    (33, (.land, 1, [])),
    (34, (.invokestatic 54, 3, [27, 1, 0, 1004, 1005])),
    (37, (.iadd, 1, []))]),
  (100000, [(38, (.istore_n 2, 1, [])),
    (39, (.iinc 3 1, 3, [])),
    (42, (.goto (-38), 3, [4])),
    (45, (.iload_n 2, 1, [])),
    (46, (.ireturn, 1, []))])]
def zi_m26 : zi_M := (⟨"AgreeTold$FutureSet", "sizeWith", "(LAgreeTold$FutureSet;)I"⟩, prog_3_method_12_code, 4, (some FieldType.int), zi_t26, [1003, 159])
def zi_t27 : zi_T := [(16, [(0, (.lload_n 0, 1, [])),
    (1, (.lload_n 0, 1, [])),
    (2, (.iconst 1, 1, [])),
    (3, (.lushr, 1, [])),
    (4, (.ldc2_w 314, 3, [6148914691236517205, 1007])),
    (7, (.land, 1, [])),
    (8, (.lsub, 1, [])),
    (9, (.lstore_n 0, 1, [])),
    (10, (.lload_n 0, 1, [])),
    (11, (.ldc2_w 316, 3, [3689348814741910323, 1008])),
    (14, (.land, 1, [])),
    (15, (.lload_n 0, 1, []))]),
  (32, [(16, (.iconst 2, 1, [])),
    (17, (.lushr, 1, [])),
    (18, (.ldc2_w 316, 3, [3689348814741910323, 1008])),
    (21, (.land, 1, [])),
    (22, (.ladd, 1, [])),
    (23, (.lstore_n 0, 1, [])),
    (24, (.lload_n 0, 1, [])),
    (25, (.lload_n 0, 1, [])),
    (26, (.iconst 4, 1, [])),
    (27, (.lushr, 1, [])),
    (28, (.ladd, 1, [])),
    (29, (.ldc2_w 318, 3, [1085102592571150095, 1009]))]),
  (46, [(32, (.land, 1, [])),
    (33, (.lstore_n 0, 1, [])),
    (34, (.lload_n 0, 1, [])),
    (35, (.lload_n 0, 1, [])),
    (36, (.bipush 8, 2, [])),
    (38, (.lushr, 1, [])),
    (39, (.ladd, 1, [])),
    (40, (.lstore_n 0, 1, [])),
    (41, (.lload_n 0, 1, [])),
    (42, (.lload_n 0, 1, [])),
    (43, (.bipush 16, 2, [])),
    (45, (.lushr, 1, []))]),
  (60, [(46, (.ladd, 1, [])),
    (47, (.lstore_n 0, 1, [])),
    (48, (.lload_n 0, 1, [])),
    (49, (.lload_n 0, 1, [])),
    (50, (.bipush 32, 2, [])),
    (52, (.lushr, 1, [])),
    (53, (.ladd, 1, [])),
    (54, (.lstore_n 0, 1, [])),
    (55, (.lload_n 0, 1, [])),
    (56, (.l2i, 1, [])),
    (57, (.bipush 127, 2, [])),
    (59, (.iand, 1, []))]),
  (100000, [(60, (.ireturn, 1, []))])]
def zi_m27 : zi_M := (⟨"java/lang/Long", "bitCount", "(J)I"⟩, prog_20_method_50_code, 2, (some FieldType.int), zi_t27, [1006, 169])
def zi_t28 : zi_T := [(100000, [(0, (.aload_n 0, 1, [])),
    (1, (.iload_n 1, 1, [])),
    (2, (.invokevirtual 87, 3, [12, 2, 3, 1095, 1096, 1097])),
    (5, (.ifCond .eq 23, 3, [28])),
    (28, (.iconst 0, 1, [])),
    (29, (.ireturn, 1, []))])]
def zi_m28 : zi_M := (⟨"AgreeTold$Land", "isWord", "(III)Z"⟩, prog_5_method_16_code, 4, (some FieldType.boolean), zi_t28, [1148, 157])
def zi_t29 : zi_T := [(100000, [(0, (.aload_n 0, 1, [])),
    (1, (.getfield 199, 3, [11, 8, 1627])),
    (4, (.ifCond .ne 39, 3, [43])),
    (7, (.aload_n 0, 1, [])),
    (8, (.getfield 24, 3, [11, 4, 1623])),
    (11, (.aload_n 0, 1, [])),
    (12, (.getfield 196, 3, [11, 7, 1626])),
    (15, (.iaload, 1, [])),
    (16, (.iconst 1, 1, [])),
    (17, (.if_icmp .ne 26, 3, [43])),
    (43, (.iconst 0, 1, [])),
    (44, (.ireturn, 1, []))])]
def zi_m29 : zi_M := (⟨"AgreeToldModel", "isWord", "(I)Z"⟩, prog_13_method_12_code, 2, (some FieldType.boolean), zi_t29, [1789, 166])
def zi_t30 : zi_T := [(100000, [(0, (.aload_n 0, 1, [])),
    (1, (.aload_n 0, 1, [])),
    (2, (.invokevirtual 50, 3, [26, 2, 5, 1025, 1001, 1002])),
    (5, (.ireturn, 1, []))])]
def zi_m30 : zi_M := (⟨"AgreeTold$FutureSet", "size", "()I"⟩, prog_3_method_11_code, 1, (some FieldType.int), zi_t30, [1024, 159])
def zi_t31 : zi_T := [(100000, [(0, (.aload_n 0, 1, [])),
    (1, (.iload_n 1, 1, [])),
    (2, (.invokevirtual 445, 3, [13, 2, 11, 1971, 1973, 117])),
    (5, (.ifCond .eq 23, 3, [28])),
    (28, (.iconst 0, 1, [])),
    (29, (.ireturn, 1, []))])]
def zi_m31 : zi_M := (⟨"AgreeToldModel", "isWord", "(III)Z"⟩, prog_13_method_96_code, 4, (some FieldType.boolean), zi_t31, [2042, 166])
def zi_t32 : zi_T := [(26, [(0, (.aload_n 0, 1, [])),
    (1, (.getfield 46, 3, [1, 11, 390])),
    (4, (.ifCond .ne 46, 3, [50])),
    (7, (.aload_n 0, 1, [])),
    (8, (.getfield 111, 3, [1, 8, 387])),
    (11, (.ifCond .lt 39, 3, [50])),
    (14, (.aload_n 0, 1, [])),
    (15, (.getfield 111, 3, [1, 8, 387])),
    (18, (.aload_n 0, 1, [])),
    (19, (.getfield 12, 3, [1, 0, 374])),
    (22, (.getfield 214, 3, [2, 2, 252])),
    (25, (.arraylength, 1, []))]),
  (47, [(26, (.if_icmp .ge 24, 3, [50])),
    (29, (.aload_n 0, 1, [])),
    (30, (.iload_n 1, 1, [])),
    (31, (.bipush 16, 2, [])),
    (33, (.aload_n 0, 1, [])),
    (34, (.getfield 12, 3, [1, 0, 374])),
    (37, (.getfield 214, 3, [2, 2, 252])),
    (40, (.aload_n 0, 1, [])),
    (41, (.getfield 111, 3, [1, 8, 387])),
    (44, (.iaload, 1, [])),
    (45, (.imul, 1, [])),
    (46, (.iadd, 1, []))]),
  (100000, [(47, (.putfield 46, 3, [1, 11, 390])),
    (50, (.return_, 1, []))])]
def zi_m32 : zi_M := (⟨"AgreeTold$Reader", "wrong", "(I)V"⟩, prog_7_method_25_code, 2, (none : Option FieldType), zi_t32, [802, 151])
def zi_t33 : zi_T := [(23, [(0, (.aload_n 0, 1, [])),
    (1, (.iconst 0, 1, [])),
    (2, (.putfield 1, 3, [11, 0, 1619])),
    (5, (.iload_n 1, 1, [])),
    (6, (.iconst 0, 1, [])),
    (7, (.sipush 9999, 3, [])),
    (10, (.invokestatic 241, 3, [10, 3, 0, 1858, 1859])),
    (13, (.ifCond .eq 45, 3, [58])),
    (16, (.iload_n 2, 1, [])),
    (17, (.iconst 1, 1, [])),
    (18, (.bipush 60, 2, [])),
    (20, (.invokestatic 241, 3, [10, 3, 0, 1858, 1859]))]),
  (59, [(23, (.ifCond .eq 35, 3, [58])),
    (26, (.iload_n 3, 1, [])),
    (27, (.iconst 0, 1, [])),
    (28, (.iconst 2, 1, [])),
    (29, (.invokestatic 241, 3, [10, 3, 0, 1858, 1859])),
    (32, (.ifCond .eq 26, 3, [58])),
    (35, (.aload_n 0, 1, [])),
    (36, (.getfield 101, 3, [11, 10, 1629])),
    (39, (.iconst 3, 1, [])),
    (40, (.iaload, 1, [])),
    (41, (.ifCond .eq 17, 3, [58])),
    (58, (.iconst (-1), 1, []))]),
  (100000, [(59, (.ireturn, 1, []))])]
def zi_m33 : zi_M := (⟨"AgreeToldModel", "year", "(III)I"⟩, prog_13_method_137_code, 10, (some FieldType.int), zi_t33, [2205, 166])
def zi_t34 : zi_T := [(100000, [(0, (.iload_n 1, 1, [])),
    (1, (.ifCond .lt 20, 3, [21])),
    (4, (.iload_n 1, 1, [])),
    (5, (.aload_n 0, 1, [])),
    (6, (.getfield 66, 3, [3, 17, 323])),
    (9, (.if_icmp .ge 12, 3, [21])),
    (21, (.iconst 0, 1, [])),
    (22, (.ireturn, 1, []))])]
def zi_m34 : zi_M := (⟨"AgreeTold$Land", "isProphet", "(I)Z"⟩, prog_5_method_14_code, 2, (some FieldType.boolean), zi_t34, [901, 157])
def zi_t35 : zi_T := [(23, [(0, (.iload_n 1, 1, [])),
    (1, (.ifCond .lt 34, 3, [35])),
    (4, (.iload_n 1, 1, [])),
    (5, (.sipush 9999, 3, [])),
    (8, (.if_icmp .gt 27, 3, [35])),
    (11, (.iload_n 2, 1, [])),
    (12, (.iconst 1, 1, [])),
    (13, (.if_icmp .lt 22, 3, [35])),
    (16, (.iload_n 2, 1, [])),
    (17, (.bipush 60, 2, [])),
    (19, (.if_icmp .gt 16, 3, [35])),
    (22, (.iload_n 3, 1, []))]),
  (47, [(23, (.ifCond .lt 12, 3, [35])),
    (26, (.iload_n 3, 1, [])),
    (27, (.iconst 2, 1, [])),
    (28, (.if_icmp .gt 7, 3, [35])),
    (31, (.iconst 1, 1, [])),
    (32, (.goto 4, 3, [36])),
    (35, (.iconst 0, 1, [])),
    (36, (.istore 4, 2, [])),
    (38, (.iload 4, 2, [])),
    (40, (.ifCond .eq 33, 3, [73])),
    (43, (.aload_n 0, 1, [])),
    (44, (.getfield 93, 3, [0, 16, 632]))]),
  (100000, [(47, (.getfield 412, 3, [3, 17, 324])),
    (50, (.ifCond .eq 23, 3, [73])),
    (73, (.iconst (-1), 1, [])),
    (74, (.ireturn, 1, []))])]
def zi_m35 : zi_M := (⟨"AgreeTold", "year", "(III)I"⟩, prog_1_method_32_code, 8, (some FieldType.int), zi_t35, [1402, 150])
def zi_t36 : zi_T := [(100000, [(0, (.iload_n 1, 1, [])),
    (1, (.ifCond .lt 17, 3, [18])),
    (4, (.iload_n 1, 1, [])),
    (5, (.aload_n 0, 1, [])),
    (6, (.getfield 101, 3, [11, 10, 1629])),
    (9, (.iconst 3, 1, [])),
    (10, (.iaload, 1, [])),
    (11, (.if_icmp .ge 7, 3, [18])),
    (18, (.iconst 0, 1, [])),
    (19, (.ireturn, 1, []))])]
def zi_m36 : zi_M := (⟨"AgreeToldModel", "isProphet", "(I)Z"⟩, prog_13_method_54_code, 2, (some FieldType.boolean), zi_t36, [1982, 166])
def zi_t37 : zi_T := [(100000, [(0, (.aload_n 0, 1, [])),
    (1, (.getfield 50, 3, [1, 9, 388])),
    (4, (.iload_n 1, 1, [])),
    (5, (.if_icmp .eq 8, 3, [13])),
    (8, (.aload_n 0, 1, [])),
    (9, (.iconst 1, 1, [])),
    (10, (.invokevirtual 71, 3, [32, 2, 1, 799, 801, 13])),
    (13, (.aload_n 0, 1, [])),
    (14, (.invokevirtual 114, 3, [25, 1, 1, 787, 789, 10])),
    (17, (.return_, 1, []))])]
def zi_m37 : zi_M := (⟨"AgreeTold$Reader", "takeKind", "(I)V"⟩, prog_7_method_24_code, 2, (none : Option FieldType), zi_t37, [798, 151])
def zi_t38 : zi_T := [(21, [(0, (.aload_n 0, 1, [])),
    (1, (.getfield 199, 3, [11, 8, 1627])),
    (4, (.ifCond .ne 21, 3, [25])),
    (7, (.aload_n 0, 1, [])),
    (8, (.iload_n 1, 1, [])),
    (9, (.bipush 16, 2, [])),
    (11, (.aload_n 0, 1, [])),
    (12, (.getfield 27, 3, [11, 5, 1624])),
    (15, (.aload_n 0, 1, [])),
    (16, (.getfield 196, 3, [11, 7, 1626])),
    (19, (.iaload, 1, [])),
    (20, (.imul, 1, []))]),
  (100000, [(21, (.iadd, 1, [])),
    (22, (.putfield 199, 3, [11, 8, 1627])),
    (25, (.return_, 1, []))])]
def zi_m38 : zi_M := (⟨"AgreeToldModel", "wrong", "(I)V"⟩, prog_13_method_10_code, 2, (none : Option FieldType), zi_t38, [1793, 166])
def zi_t39 : zi_T := [(19, [(0, (.bipush 56, 2, [])),
    (2, (.istore_n 3, 1, [])),
    (3, (.iload_n 3, 1, [])),
    (4, (.ifCond .lt 71, 3, [75])),
    (7, (.lload_n 1, 1, [])),
    (8, (.iload_n 3, 1, [])),
    (9, (.lshr, 1, [])),
    (10, (.l2i, 1, [])),
    (11, (.sipush 255, 3, [])),
    (14, (.iand, 1, [])),
    (15, (.istore 4, 2, [])),
    (17, (.iload 4, 2, []))]),
  (48, [(19, (.bipush 10, 2, [])),
    (21, (.if_icmp .eq 17, 3, [38])),
    (24, (.iload 4, 2, [])),
    (26, (.bipush 32, 2, [])),
    (28, (.if_icmp .lt 41, 3, [69])),
    (31, (.iload 4, 2, [])),
    (33, (.bipush 126, 2, [])),
    (35, (.if_icmp .gt 34, 3, [69])),
    (38, (.aload_n 0, 1, [])),
    (39, (.getfield 11, 3, [11, 2, 1621])),
    (42, (.sipush 1000, 3, [])),
    (45, (.if_icmp .ge 24, 3, [69]))]),
  (69, [(48, (.aload_n 0, 1, [])),
    (49, (.getfield 14, 3, [11, 1, 1620])),
    (52, (.aload_n 0, 1, [])),
    (53, (.getfield 11, 3, [11, 2, 1621])),
    (56, (.iload 4, 2, [])),
    (58, (.iastore, 1, [])),
    (59, (.aload_n 0, 1, [])),
    (60, (.dup, 1, [])),
    (61, (.getfield 11, 3, [11, 2, 1621])),
    (64, (.iconst 1, 1, [])),
    (65, (.iadd, 1, [])),
    (66, (.putfield 11, 3, [11, 2, 1621]))]),
  (100000, [(69, (.iinc 3 (-8), 3, [])),
    (72, (.goto (-69), 3, [3])),
    (75, (.return_, 1, []))])]
def zi_m39 : zi_M := (⟨"AgreeToldModel", "lay", "(J)V"⟩, prog_13_method_3_code, 5, (none : Option FieldType), zi_t39, [1505, 166])
def zi_t40 : zi_T := [(19, [(0, (.bipush 56, 2, [])),
    (2, (.istore_n 3, 1, [])),
    (3, (.iload_n 3, 1, [])),
    (4, (.ifCond .lt 86, 3, [90])),
    (7, (.lload_n 1, 1, [])),
    (8, (.iload_n 3, 1, [])),
    (9, (.lushr, 1, [])),
    (10, (.ldc2_w 45, 3, [255, 682])),
    (13, (.land, 1, [])),
    (14, (.l2i, 1, [])),
    (15, (.istore 4, 2, [])),
    (17, (.iload 4, 2, []))]),
  (45, [(19, (.bipush 10, 2, [])),
    (21, (.if_icmp .eq 17, 3, [38])),
    (24, (.iload 4, 2, [])),
    (26, (.bipush 32, 2, [])),
    (28, (.if_icmp .lt 14, 3, [42])),
    (31, (.iload 4, 2, [])),
    (33, (.bipush 126, 2, [])),
    (35, (.if_icmp .gt 7, 3, [42])),
    (38, (.iconst 1, 1, [])),
    (39, (.goto 4, 3, [43])),
    (42, (.iconst 0, 1, [])),
    (43, (.istore 5, 2, []))]),
  (70, [(45, (.iload 5, 2, [])),
    (47, (.ifCond .eq 37, 3, [84])),
    (50, (.aload_n 0, 1, [])),
    (51, (.getfield 47, 3, [2, 5, 257])),
    (54, (.aload_n 0, 1, [])),
    (55, (.getfield 9, 3, [2, 0, 248])),
    (58, (.arraylength, 1, [])),
    (59, (.if_icmp .ge 25, 3, [84])),
    (62, (.aload_n 0, 1, [])),
    (63, (.getfield 9, 3, [2, 0, 248])),
    (66, (.aload_n 0, 1, [])),
    (67, (.getfield 47, 3, [2, 5, 257]))]),
  (100000, [(70, (.iload 4, 2, [])),
    (72, (.i2c, 1, [])),
    (73, (.castore, 1, [])),
    (74, (.aload_n 0, 1, [])),
    (75, (.dup, 1, [])),
    (76, (.getfield 47, 3, [2, 5, 257])),
    (79, (.iconst 1, 1, [])),
    (80, (.iadd, 1, [])),
    (81, (.putfield 47, 3, [2, 5, 257])),
    (84, (.iinc 3 (-8), 3, [])),
    (87, (.goto (-84), 3, [3])),
    (90, (.return_, 1, []))])]
def zi_m40 : zi_M := (⟨"AgreeTold$Tape", "putBytes", "(J)V"⟩, prog_10_method_3_code, 6, (none : Option FieldType), zi_t40, [681, 152])
def zi_t41 : zi_T := [(100000, [(0, (.aload_n 0, 1, [])),
    (1, (.invokespecial 3, 3, [])),
    (4, (.aload_n 0, 1, [])),
    (5, (.iconst 1, 1, [])),
    (6, (.newarray .long, 2, [1, 277])),
    (8, (.putfield 9, 3, [5, 0, 428])),
    (11, (.aload_n 0, 1, [])),
    (12, (.iconst 1, 1, [])),
    (13, (.putfield 15, 3, [5, 1, 430])),
    (16, (.return_, 1, []))])]
def zi_m41 : zi_M := (⟨"AgreeTold$FutureSet", "<init>", "()V"⟩, prog_3_method_1_code, 1, (none : Option FieldType), zi_t41, [426, 159])
def zi_t42 : zi_T := [(51, [(0, (.aload_n 0, 1, [])),
    (1, (.getfield 93, 3, [0, 16, 632])),
    (4, (.iload_n 2, 1, [])),
    (5, (.invokevirtual 271, 3, [12, 2, 3, 1167, 1096, 1097])),
    (8, (.ifCond .eq 29, 3, [37])),
    (37, (.iconst 0, 1, [])),
    (38, (.istore 4, 2, [])),
    (40, (.aload_n 0, 1, [])),
    (41, (.getfield 66, 3, [0, 9, 625])),
    (44, (.invokevirtual 165, 3, [30, 1, 5, 1021, 1022, 1023])),
    (47, (.istore 5, 2, [])),
    (49, (.iload 4, 2, []))]),
  (100000, [(51, (.ifCond .eq 18, 3, [69])),
    (69, (.iconst (-1), 1, [])),
    (70, (.ireturn, 1, []))])]
def zi_m42 : zi_M := (⟨"AgreeTold", "fair", "(III)I"⟩, prog_1_method_31_code, 8, (some FieldType.int), zi_t42, [1368, 150])
def zi_t43 : zi_T := [(23, [(0, (.aload_n 0, 1, [])),
    (1, (.iconst 0, 1, [])),
    (2, (.putfield 1, 3, [11, 0, 1619])),
    (5, (.aload_n 0, 1, [])),
    (6, (.invokevirtual 435, 3, [23, 1, 11, 1916, 1918, 108])),
    (9, (.istore 4, 2, [])),
    (11, (.iload_n 1, 1, [])),
    (12, (.iconst 0, 1, [])),
    (13, (.sipush 9999, 3, [])),
    (16, (.invokestatic 241, 3, [10, 3, 0, 1858, 1859])),
    (19, (.ifCond .eq 31, 3, [50])),
    (22, (.aload_n 0, 1, []))]),
  (100000, [(23, (.iload_n 2, 1, [])),
    (24, (.invokevirtual 445, 3, [13, 2, 11, 1971, 1973, 117])),
    (27, (.ifCond .eq 23, 3, [50])),
    (50, (.iconst (-1), 1, [])),
    (51, (.ireturn, 1, []))])]
def zi_m43 : zi_M := (⟨"AgreeToldModel", "fair", "(III)I"⟩, prog_13_method_134_code, 7, (some FieldType.int), zi_t43, [2193, 166])
def zi_t44 : zi_T := [(22, [(0, (.aload_n 0, 1, [])),
    (1, (.iconst 0, 1, [])),
    (2, (.putfield 1, 3, [11, 0, 1619])),
    (5, (.iload_n 1, 1, [])),
    (6, (.ifCond .ne 10, 3, [16])),
    (9, (.aload_n 0, 1, [])),
    (10, (.getfield 343, 3, [11, 24, 1643])),
    (13, (.goto 30, 3, [43])),
    (16, (.iload_n 1, 1, [])),
    (17, (.iconst 1, 1, [])),
    (18, (.if_icmp .ne 12, 3, [30])),
    (21, (.aload_n 0, 1, []))]),
  (100000, [(22, (.bipush 32, 2, [])),
    (24, (.invokevirtual 425, 3, [17, 2, 11, 1939, 1941, 113])),
    (27, (.goto 16, 3, [43])),
    (30, (.iload_n 1, 1, [])),
    (31, (.iconst 2, 1, [])),
    (32, (.if_icmp .ne 10, 3, [42])),
    (35, (.aload_n 0, 1, [])),
    (36, (.invokevirtual 435, 3, [23, 1, 11, 1916, 1918, 108])),
    (39, (.goto 4, 3, [43])),
    (42, (.iconst (-1), 1, [])),
    (43, (.ireturn, 1, []))])]
def zi_m44 : zi_M := (⟨"AgreeToldModel", "futures", "(I)I"⟩, prog_13_method_86_code, 2, (some FieldType.int), zi_t44, [1986, 166])
def zi_t45 : zi_T := [(14, [(0, (.iconst 0, 1, [])),
    (1, (.istore_n 2, 1, [])),
    (2, (.aload_n 0, 1, [])),
    (3, (.arraylength, 1, [])),
    (4, (.istore_n 3, 1, [])),
    (5, (.iload_n 2, 1, [])),
    (6, (.iload_n 3, 1, [])),
    (7, (.if_icmp .ge 13, 3, [20])),
    (10, (.aload_n 0, 1, [])),
    (11, (.iload_n 2, 1, [])),
    (12, (.iload_n 1, 1, [])),
    (13, (.iastore, 1, []))]),
  (100000, [(14, (.iinc 2 1, 3, [])),
    (17, (.goto (-12), 3, [5])),
    (20, (.return_, 1, []))])]
def zi_m45 : zi_M := (⟨"java/util/Arrays", "fill", "([II)V"⟩, prog_30_method_103_code, 4, (none : Option FieldType), zi_t45, [525, 164])
def zi_t46 : zi_T := [(48, [(0, (.iload_n 1, 1, [])),
    (1, (.tableswitch 54 0 2 #[27, 35, 46], 27, [55, 28, 36, 47])),
    (28, (.aload_n 0, 1, [])),
    (29, (.getfield 24, 3, [0, 2, 618])),
    (32, (.getfield 216, 3, [4, 2, 448])),
    (35, (.ireturn, 1, [])),
    (36, (.aload_n 0, 1, [])),
    (37, (.getfield 24, 3, [0, 2, 618])),
    (40, (.getfield 219, 3, [4, 0, 444])),
    (43, (.invokevirtual 165, 3, [30, 1, 5, 1021, 1022, 1023])),
    (46, (.ireturn, 1, [])),
    (47, (.aload_n 0, 1, []))]),
  (100000, [(48, (.getfield 66, 3, [0, 9, 625])),
    (51, (.invokevirtual 165, 3, [30, 1, 5, 1021, 1022, 1023])),
    (54, (.ireturn, 1, [])),
    (55, (.iconst (-1), 1, [])),
    (56, (.ireturn, 1, []))])]
def zi_m46 : zi_M := (⟨"AgreeTold", "futures", "(I)I"⟩, prog_1_method_8_code, 2, (some FieldType.int), zi_t46, [1128, 150])
def zi_t47 : zi_T := [(24, [(0, (.aload_n 0, 1, [])),
    (1, (.iload_n 1, 1, [])),
    (2, (.invokevirtual 208, 3, [29, 2, 11, 1786, 1788, 78])),
    (5, (.istore_n 2, 1, [])),
    (6, (.aload_n 0, 1, [])),
    (7, (.dup, 1, [])),
    (8, (.getfield 196, 3, [11, 7, 1626])),
    (11, (.iload_n 2, 1, [])),
    (12, (.ifCond .eq 7, 3, [19])),
    (19, (.iconst 0, 1, [])),
    (20, (.iadd, 1, [])),
    (21, (.putfield 196, 3, [11, 7, 1626]))]),
  (100000, [(24, (.iload_n 2, 1, [])),
    (25, (.ireturn, 1, []))])]
def zi_m47 : zi_M := (⟨"AgreeToldModel", "hasWord", "(I)Z"⟩, prog_13_method_15_code, 3, (some FieldType.boolean), zi_t47, [1785, 166])
def zi_t48 : zi_T := [(23, [(0, (.aload_n 0, 1, [])),
    (1, (.invokespecial 3, 3, [])),
    (4, (.aload_n 0, 1, [])),
    (5, (.bipush 12, 2, [])),
    (7, (.anewarray 9, 3, [6, 521])),
    (10, (.putfield 11, 3, [9, 0, 526])),
    (13, (.aload_n 0, 1, [])),
    (14, (.iconst 5, 1, [])),
    (15, (.newarray .int, 2, [0, 276])),
    (17, (.putfield 17, 3, [9, 1, 527])),
    (20, (.aload_n 0, 1, [])),
    (21, (.bipush 24, 2, []))]),
  (46, [(23, (.newarray .int, 2, [0, 276])),
    (25, (.putfield 21, 3, [9, 2, 528])),
    (28, (.aload_n 0, 1, [])),
    (29, (.bipush 20, 2, [])),
    (31, (.newarray .int, 2, [0, 276])),
    (33, (.putfield 24, 3, [9, 3, 529])),
    (36, (.aload_n 0, 1, [])),
    (37, (.bipush 20, 2, [])),
    (39, (.newarray .int, 2, [0, 276])),
    (41, (.putfield 27, 3, [9, 4, 530])),
    (44, (.aload_n 0, 1, [])),
    (45, (.iconst 1, 1, []))]),
  (100000, [(46, (.putfield 30, 3, [9, 7, 535])),
    (49, (.aload_n 0, 1, [])),
    (50, (.getfield 21, 3, [9, 2, 528])),
    (53, (.iconst (-1), 1, [])),
    (54, (.invokestatic 34, 3, [45, 2, 0, 523, 524])),
    (57, (.return_, 1, []))])]
def zi_m48 : zi_M := (⟨"AgreeTold$Story", "<init>", "()V"⟩, prog_9_method_1_code, 1, (none : Option FieldType), zi_t48, [519, 163])
def zi_t49 : zi_T := [(24, [(0, (.aload_n 0, 1, [])),
    (1, (.aload_n 1, 1, [])),
    (2, (.getfield 40, 3, [9, 5, 531])),
    (5, (.putfield 40, 3, [9, 5, 531])),
    (8, (.aload_n 0, 1, [])),
    (9, (.aload_n 1, 1, [])),
    (10, (.getfield 44, 3, [9, 6, 533])),
    (13, (.putfield 44, 3, [9, 6, 533])),
    (16, (.aload_n 0, 1, [])),
    (17, (.aload_n 1, 1, [])),
    (18, (.getfield 30, 3, [9, 7, 535])),
    (21, (.putfield 30, 3, [9, 7, 535]))]),
  (44, [(24, (.aload_n 0, 1, [])),
    (25, (.aload_n 1, 1, [])),
    (26, (.getfield 47, 3, [9, 8, 537])),
    (29, (.putfield 47, 3, [9, 8, 537])),
    (32, (.iconst 0, 1, [])),
    (33, (.istore_n 2, 1, [])),
    (34, (.iload_n 2, 1, [])),
    (35, (.aload_n 0, 1, [])),
    (36, (.getfield 11, 3, [9, 0, 526])),
    (39, (.arraylength, 1, [])),
    (40, (.if_icmp .ge 21, 3, [61])),
    (43, (.aload_n 0, 1, []))]),
  (64, [(44, (.getfield 11, 3, [9, 0, 526])),
    (47, (.iload_n 2, 1, [])),
    (48, (.aload_n 1, 1, [])),
    (49, (.getfield 11, 3, [9, 0, 526])),
    (52, (.iload_n 2, 1, [])),
    (53, (.aaload, 1, [])),
    (54, (.aastore, 1, [])),
    (55, (.iinc 2 1, 3, [])),
    (58, (.goto (-24), 3, [34])),
    (61, (.iconst 0, 1, [])),
    (62, (.istore_n 2, 1, [])),
    (63, (.iload_n 2, 1, []))]),
  (84, [(64, (.aload_n 0, 1, [])),
    (65, (.getfield 17, 3, [9, 1, 527])),
    (68, (.arraylength, 1, [])),
    (69, (.if_icmp .ge 21, 3, [90])),
    (72, (.aload_n 0, 1, [])),
    (73, (.getfield 17, 3, [9, 1, 527])),
    (76, (.iload_n 2, 1, [])),
    (77, (.aload_n 1, 1, [])),
    (78, (.getfield 17, 3, [9, 1, 527])),
    (81, (.iload_n 2, 1, [])),
    (82, (.iaload, 1, [])),
    (83, (.iastore, 1, []))]),
  (106, [(84, (.iinc 2 1, 3, [])),
    (87, (.goto (-24), 3, [63])),
    (90, (.iconst 0, 1, [])),
    (91, (.istore_n 2, 1, [])),
    (92, (.iload_n 2, 1, [])),
    (93, (.aload_n 0, 1, [])),
    (94, (.getfield 21, 3, [9, 2, 528])),
    (97, (.arraylength, 1, [])),
    (98, (.if_icmp .ge 21, 3, [119])),
    (101, (.aload_n 0, 1, [])),
    (102, (.getfield 21, 3, [9, 2, 528])),
    (105, (.iload_n 2, 1, []))]),
  (126, [(106, (.aload_n 1, 1, [])),
    (107, (.getfield 21, 3, [9, 2, 528])),
    (110, (.iload_n 2, 1, [])),
    (111, (.iaload, 1, [])),
    (112, (.iastore, 1, [])),
    (113, (.iinc 2 1, 3, [])),
    (116, (.goto (-24), 3, [92])),
    (119, (.iconst 0, 1, [])),
    (120, (.istore_n 2, 1, [])),
    (121, (.iload_n 2, 1, [])),
    (122, (.aload_n 0, 1, [])),
    (123, (.getfield 24, 3, [9, 3, 529]))]),
  (146, [(126, (.arraylength, 1, [])),
    (127, (.if_icmp .ge 33, 3, [160])),
    (130, (.aload_n 0, 1, [])),
    (131, (.getfield 24, 3, [9, 3, 529])),
    (134, (.iload_n 2, 1, [])),
    (135, (.aload_n 1, 1, [])),
    (136, (.getfield 24, 3, [9, 3, 529])),
    (139, (.iload_n 2, 1, [])),
    (140, (.iaload, 1, [])),
    (141, (.iastore, 1, [])),
    (142, (.aload_n 0, 1, [])),
    (143, (.getfield 27, 3, [9, 4, 530]))]),
  (100000, [(146, (.iload_n 2, 1, [])),
    (147, (.aload_n 1, 1, [])),
    (148, (.getfield 27, 3, [9, 4, 530])),
    (151, (.iload_n 2, 1, [])),
    (152, (.iaload, 1, [])),
    (153, (.iastore, 1, [])),
    (154, (.iinc 2 1, 3, [])),
    (157, (.goto (-36), 3, [121])),
    (160, (.return_, 1, []))])]
def zi_m49 : zi_M := (⟨"AgreeTold$Story", "copyFrom", "(LAgreeTold$Story;)V"⟩, prog_9_method_3_code, 3, (none : Option FieldType), zi_t49, [1020, 163])
def zi_t50 : zi_T := [(20, [(0, (.aload_n 0, 1, [])),
    (1, (.iconst 0, 1, [])),
    (2, (.putfield 1, 3, [11, 0, 1619])),
    (5, (.iload_n 1, 1, [])),
    (6, (.iconst 0, 1, [])),
    (7, (.iconst 1, 1, [])),
    (8, (.invokestatic 241, 3, [10, 3, 0, 1858, 1859])),
    (11, (.ifCond .ne 5, 3, [16])),
    (14, (.iconst (-1), 1, [])),
    (15, (.ireturn, 1, [])),
    (16, (.aload_n 0, 1, [])),
    (17, (.invokevirtual 435, 3, [23, 1, 11, 1916, 1918, 108]))]),
  (36, [(20, (.pop, 1, [])),
    (21, (.iconst 0, 1, [])),
    (22, (.istore_n 2, 1, [])),
    (23, (.iconst 0, 1, [])),
    (24, (.istore_n 3, 1, [])),
    (25, (.iconst 1, 1, [])),
    (26, (.istore 4, 2, [])),
    (28, (.iload 4, 2, [])),
    (30, (.iconst 1, 1, [])),
    (31, (.aload_n 0, 1, [])),
    (32, (.getfield 101, 3, [11, 10, 1629])),
    (35, (.iconst 5, 1, []))]),
  (100000, [(36, (.iaload, 1, [])),
    (37, (.ishl, 1, [])),
    (38, (.if_icmp .ge 104, 3, [142])),
    (142, (.iload_n 1, 1, [])),
    (143, (.ifCond .ne 7, 3, [150])),
    (146, (.iload_n 3, 1, [])),
    (147, (.goto 4, 3, [151])),
    (150, (.iload_n 2, 1, [])),
    (151, (.ireturn, 1, []))])]
def zi_m50 : zi_M := (⟨"AgreeToldModel", "auction", "(I)I"⟩, prog_13_method_124_code, 7, (some FieldType.int), zi_t50, [2153, 166])
def zi_t51 : zi_T := [(18, [(0, (.iconst 0, 1, [])),
    (1, (.istore_n 3, 1, [])),
    (2, (.iload_n 3, 1, [])),
    (3, (.bipush 110, 2, [])),
    (5, (.if_icmp .ge 31, 3, [36])),
    (8, (.aload_n 0, 1, [])),
    (9, (.getfield 138, 3, [11, 29, 1648])),
    (12, (.bipush 110, 2, [])),
    (14, (.iload_n 2, 1, [])),
    (15, (.imul, 1, [])),
    (16, (.iload_n 3, 1, [])),
    (17, (.iadd, 1, []))]),
  (37, [(18, (.aload_n 0, 1, [])),
    (19, (.getfield 138, 3, [11, 29, 1648])),
    (22, (.bipush 110, 2, [])),
    (24, (.iload_n 1, 1, [])),
    (25, (.imul, 1, [])),
    (26, (.iload_n 3, 1, [])),
    (27, (.iadd, 1, [])),
    (28, (.iaload, 1, [])),
    (29, (.iastore, 1, [])),
    (30, (.iinc 3 1, 3, [])),
    (33, (.goto (-31), 3, [2])),
    (36, (.iconst 0, 1, []))]),
  (100000, [(37, (.istore_n 3, 1, [])),
    (38, (.iload_n 3, 1, [])),
    (39, (.aload_n 0, 1, [])),
    (40, (.getfield 138, 3, [11, 29, 1648])),
    (43, (.bipush 110, 2, [])),
    (45, (.iload_n 1, 1, [])),
    (46, (.imul, 1, [])),
    (47, (.iaload, 1, [])),
    (48, (.if_icmp .ge 31, 3, [79])),
    (79, (.return_, 1, []))])]
def zi_m51 : zi_M := (⟨"AgreeToldModel", "copies", "(II)V"⟩, prog_13_method_75_code, 4, (none : Option FieldType), zi_t51, [1961, 166])
def zi_t52 : zi_T := [(100000, [(0, (.aload_n 0, 1, [])),
    (1, (.getfield 199, 3, [11, 8, 1627])),
    (4, (.ifCond .ne 35, 3, [39])),
    (7, (.aload_n 0, 1, [])),
    (8, (.getfield 24, 3, [11, 4, 1623])),
    (11, (.aload_n 0, 1, [])),
    (12, (.getfield 196, 3, [11, 7, 1626])),
    (15, (.iaload, 1, [])),
    (16, (.iconst 3, 1, [])),
    (17, (.if_icmp .ne 22, 3, [39])),
    (39, (.iconst 0, 1, [])),
    (40, (.ireturn, 1, []))])]
def zi_m52 : zi_M := (⟨"AgreeToldModel", "isSign", "(I)Z"⟩, prog_13_method_11_code, 2, (some FieldType.boolean), zi_t52, [1805, 166])
def zi_t53 : zi_T := [(100000, [(0, (.iload_n 1, 1, [])),
    (1, (.ifCond .lt 29, 3, [30])),
    (4, (.iload_n 1, 1, [])),
    (5, (.aload_n 0, 1, [])),
    (6, (.getfield 44, 3, [9, 6, 533])),
    (9, (.if_icmp .ge 21, 3, [30])),
    (30, (.aconst_null, 1, [])),
    (31, (.areturn, 1, []))])]
def zi_m53 : zi_M := (⟨"AgreeTold$Story", "sayingAt", "(I)LAgreeTold$Saying;"⟩, prog_9_method_6_code, 2, (some (FieldType.object "AgreeTold$Saying")), zi_t53, [615, 163])
def zi_t54 : zi_T := [(18, [(0, (.iload_n 1, 1, [])),
    (1, (.ifCond .lt 8, 3, [9])),
    (4, (.iload_n 1, 1, [])),
    (5, (.iconst 1, 1, [])),
    (6, (.if_icmp .le 5, 3, [11])),
    (9, (.iconst (-1), 1, [])),
    (10, (.ireturn, 1, [])),
    (11, (.aload_n 0, 1, [])),
    (12, (.invokevirtual 371, 3, [111, 1, 0, 1318, 1320, 50])),
    (15, (.iconst 0, 1, [])),
    (16, (.istore_n 2, 1, [])),
    (17, (.iconst 0, 1, []))]),
  (108, [(18, (.istore_n 3, 1, [])),
    (19, (.iconst 1, 1, [])),
    (20, (.istore 4, 2, [])),
    (22, (.iload 4, 2, [])),
    (24, (.iconst 1, 1, [])),
    (25, (.aload_n 0, 1, [])),
    (26, (.getfield 93, 3, [0, 16, 632])),
    (29, (.getfield 374, 3, [3, 19, 332])),
    (32, (.ishl, 1, [])),
    (33, (.if_icmp .ge 71, 3, [104])),
    (104, (.iload_n 1, 1, [])),
    (105, (.ifCond .ne 7, 3, [112]))]),
  (100000, [(108, (.iload_n 3, 1, [])),
    (109, (.goto 4, 3, [113])),
    (112, (.iload_n 2, 1, [])),
    (113, (.ireturn, 1, []))])]
def zi_m54 : zi_M := (⟨"AgreeTold", "auction", "(I)I"⟩, prog_1_method_27_code, 7, (some FieldType.int), zi_t54, [1317, 150])
def zi_t55 : zi_T := [(100000, [(0, (.iload_n 1, 1, [])),
    (1, (.ifCond .lt 17, 3, [18])),
    (4, (.iload_n 1, 1, [])),
    (5, (.aload_n 0, 1, [])),
    (6, (.getfield 138, 3, [11, 29, 1648])),
    (9, (.iconst 0, 1, [])),
    (10, (.iaload, 1, [])),
    (11, (.if_icmp .ge 7, 3, [18])),
    (18, (.iconst 0, 1, [])),
    (19, (.ireturn, 1, []))])]
def zi_m55 : zi_M := (⟨"AgreeToldModel", "isSaying", "(I)Z"⟩, prog_13_method_87_code, 2, (some FieldType.boolean), zi_t55, [1994, 166])
def zi_t56 : zi_T := [(100000, [(0, (.aload_n 0, 1, [])),
    (1, (.getfield 101, 3, [11, 10, 1629])),
    (4, (.iconst 2, 1, [])),
    (5, (.iaload, 1, [])),
    (6, (.ireturn, 1, []))])]
def zi_m56 : zi_M := (⟨"AgreeToldModel", "events", "()I"⟩, prog_13_method_50_code, 1, (some FieldType.int), zi_t56, [1559, 166])
def zi_t57 : zi_T := [(100000, [(0, (.aload_n 0, 1, [])),
    (1, (.iload_n 1, 1, [])),
    (2, (.invokevirtual 202, 3, [52, 2, 11, 1802, 1804, 82])),
    (5, (.ifCond .eq 16, 3, [21])),
    (21, (.aload_n 0, 1, [])),
    (22, (.iconst 1, 1, [])),
    (23, (.invokevirtual 205, 3, [38, 2, 11, 1790, 1792, 79])),
    (26, (.return_, 1, []))])]
def zi_m57 : zi_M := (⟨"AgreeToldModel", "takeSign", "(I)V"⟩, prog_13_method_13_code, 2, (none : Option FieldType), zi_t57, [1801, 166])
def zi_t58 : zi_T := [(19, [(0, (.aload_n 0, 1, [])),
    (1, (.invokevirtual 435, 3, [23, 1, 11, 1916, 1918, 108])),
    (4, (.istore_n 1, 1, [])),
    (5, (.aload_n 0, 1, [])),
    (6, (.iconst 0, 1, [])),
    (7, (.putfield 492, 3, [11, 37, 1656])),
    (10, (.iconst 0, 1, [])),
    (11, (.istore_n 2, 1, [])),
    (12, (.iload_n 2, 1, [])),
    (13, (.bipush 16, 2, [])),
    (15, (.aload_n 0, 1, [])),
    (16, (.invokevirtual 340, 3, [8, 1, 11, 1560, 1562, 62]))]),
  (100000, [(19, (.imul, 1, [])),
    (20, (.if_icmp .ge 56, 3, [76])),
    (23, (.aload_n 0, 1, [])),
    (24, (.iload_n 2, 1, [])),
    (25, (.invokevirtual 495, 3, [9, 2, 11, 2093, 2095, 132])),
    (28, (.ifCond .eq 42, 3, [70])),
    (70, (.iinc 2 1, 3, [])),
    (73, (.goto (-61), 3, [12])),
    (76, (.return_, 1, []))])]
def zi_m58 : zi_M := (⟨"AgreeToldModel", "findOpen", "()V"⟩, prog_13_method_110_code, 3, (none : Option FieldType), zi_t58, [2092, 166])
def zi_t59 : zi_T := [(18, [(0, (.aload_n 0, 1, [])),
    (1, (.iconst 0, 1, [])),
    (2, (.putfield 50, 3, [2, 6, 258])),
    (5, (.iconst 0, 1, [])),
    (6, (.istore_n 1, 1, [])),
    (7, (.iconst 0, 1, [])),
    (8, (.istore_n 2, 1, [])),
    (9, (.iload_n 2, 1, [])),
    (10, (.sipush 1000, 3, [])),
    (13, (.if_icmp .ge 23, 3, [36])),
    (16, (.iload_n 1, 1, [])),
    (17, (.aload_n 0, 1, []))]),
  (100000, [(18, (.getfield 47, 3, [2, 5, 257])),
    (21, (.if_icmp .ge 15, 3, [36])),
    (36, (.aload_n 0, 1, [])),
    (37, (.iconst 0, 1, [])),
    (38, (.aload_n 0, 1, [])),
    (39, (.getfield 47, 3, [2, 5, 257])),
    (42, (.lconst 0, 1, [])),
    (43, (.invokevirtual 57, 3, [63, 4, 2, 710, 712, 7])),
    (46, (.aload_n 0, 1, [])),
    (47, (.iconst 0, 1, [])),
    (48, (.putfield 47, 3, [2, 5, 257])),
    (51, (.return_, 1, []))])]
def zi_m59 : zi_M := (⟨"AgreeTold$Tape", "cut", "()V"⟩, prog_10_method_4_code, 3, (none : Option FieldType), zi_t59, [690, 152])
def zi_t60 : zi_T := [(18, [(0, (.aload_n 0, 1, [])),
    (1, (.iconst 0, 1, [])),
    (2, (.putfield 1, 3, [11, 0, 1619])),
    (5, (.aload_n 0, 1, [])),
    (6, (.invokevirtual 504, 3, [58, 1, 11, 2089, 2091, 131])),
    (9, (.iconst (-1), 1, [])),
    (10, (.istore_n 2, 1, [])),
    (11, (.iconst 0, 1, [])),
    (12, (.istore_n 3, 1, [])),
    (13, (.iconst 0, 1, [])),
    (14, (.istore 4, 2, [])),
    (16, (.iload 4, 2, []))]),
  (100000, [(18, (.aload_n 0, 1, [])),
    (19, (.getfield 492, 3, [11, 37, 1656])),
    (22, (.if_icmp .ge 87, 3, [109])),
    (109, (.iload_n 2, 1, [])),
    (110, (.ireturn, 1, []))])]
def zi_m60 : zi_M := (⟨"AgreeToldModel", "widest", "(Z)I"⟩, prog_13_method_114_code, 7, (some FieldType.int), zi_t60, [2113, 166])
def zi_t61 : zi_T := [(20, [(0, (.aload_n 0, 1, [])),
    (1, (.aload_n 1, 1, [])),
    (2, (.putfield 35, 3, [1, 6, 385])),
    (5, (.aload_n 0, 1, [])),
    (6, (.iconst 0, 1, [])),
    (7, (.putfield 46, 3, [1, 11, 390])),
    (10, (.aload_n 0, 1, [])),
    (11, (.iconst 0, 1, [])),
    (12, (.putfield 105, 3, [1, 3, 380])),
    (15, (.aload_n 0, 1, [])),
    (16, (.iconst 0, 1, [])),
    (17, (.putfield 108, 3, [1, 5, 384]))]),
  (100000, [(20, (.aload_n 0, 1, [])),
    (21, (.iconst 0, 1, [])),
    (22, (.putfield 92, 3, [1, 7, 386])),
    (25, (.aload_n 0, 1, [])),
    (26, (.iconst (-1), 1, [])),
    (27, (.putfield 111, 3, [1, 8, 387])),
    (30, (.aload_n 0, 1, [])),
    (31, (.invokevirtual 114, 3, [25, 1, 1, 787, 789, 10])),
    (34, (.return_, 1, []))])]
def zi_m61 : zi_M := (⟨"AgreeTold$Reader", "begin", "(LAgreeTold$Land;)V"⟩, prog_7_method_5_code, 2, (none : Option FieldType), zi_t61, [786, 151])
def zi_t62 : zi_T := [(18, [(0, (.iconst 0, 1, [])),
    (1, (.istore_n 1, 1, [])),
    (2, (.iconst 1, 1, [])),
    (3, (.istore_n 2, 1, [])),
    (4, (.iload_n 2, 1, [])),
    (5, (.aload_n 0, 1, [])),
    (6, (.getfield 93, 3, [0, 16, 632])),
    (9, (.getfield 328, 3, [3, 14, 313])),
    (12, (.if_icmp .gt 113, 3, [125])),
    (15, (.iconst 0, 1, [])),
    (16, (.istore_n 3, 1, [])),
    (17, (.iload_n 3, 1, []))]),
  (100000, [(18, (.aload_n 0, 1, [])),
    (19, (.getfield 93, 3, [0, 16, 632])),
    (22, (.getfield 264, 3, [3, 15, 317])),
    (25, (.if_icmp .ge 94, 3, [119])),
    (119, (.iinc 2 1, 3, [])),
    (122, (.goto (-118), 3, [4])),
    (125, (.iload_n 1, 1, [])),
    (126, (.ireturn, 1, []))])]
def zi_m62 : zi_M := (⟨"AgreeTold", "gatherOpen", "()I"⟩, prog_1_method_46_code, 7, (some FieldType.int), zi_t62, [1268, 150])
def zi_t63 : zi_T := [(24, [(0, (.aload_n 0, 1, [])),
    (1, (.getfield 50, 3, [2, 6, 258])),
    (4, (.aload_n 0, 1, [])),
    (5, (.getfield 15, 3, [2, 1, 249])),
    (8, (.arraylength, 1, [])),
    (9, (.if_icmp .ge 67, 3, [76])),
    (12, (.aload_n 0, 1, [])),
    (13, (.getfield 50, 3, [2, 6, 258])),
    (16, (.aload_n 0, 1, [])),
    (17, (.getfield 19, 3, [2, 2, 251])),
    (20, (.arraylength, 1, [])),
    (21, (.if_icmp .ge 55, 3, [76]))]),
  (46, [(24, (.aload_n 0, 1, [])),
    (25, (.getfield 50, 3, [2, 6, 258])),
    (28, (.aload_n 0, 1, [])),
    (29, (.getfield 22, 3, [2, 3, 253])),
    (32, (.arraylength, 1, [])),
    (33, (.if_icmp .ge 43, 3, [76])),
    (36, (.aload_n 0, 1, [])),
    (37, (.getfield 15, 3, [2, 1, 249])),
    (40, (.aload_n 0, 1, [])),
    (41, (.getfield 50, 3, [2, 6, 258])),
    (44, (.iload_n 1, 1, [])),
    (45, (.iastore, 1, []))]),
  (66, [(46, (.aload_n 0, 1, [])),
    (47, (.getfield 19, 3, [2, 2, 251])),
    (50, (.aload_n 0, 1, [])),
    (51, (.getfield 50, 3, [2, 6, 258])),
    (54, (.iload_n 2, 1, [])),
    (55, (.iastore, 1, [])),
    (56, (.aload_n 0, 1, [])),
    (57, (.getfield 22, 3, [2, 3, 253])),
    (60, (.aload_n 0, 1, [])),
    (61, (.getfield 50, 3, [2, 6, 258])),
    (64, (.lload_n 3, 1, [])),
    (65, (.lastore, 1, []))]),
  (100000, [(66, (.aload_n 0, 1, [])),
    (67, (.dup, 1, [])),
    (68, (.getfield 50, 3, [2, 6, 258])),
    (71, (.iconst 1, 1, [])),
    (72, (.iadd, 1, [])),
    (73, (.putfield 50, 3, [2, 6, 258])),
    (76, (.return_, 1, []))])]
def zi_m63 : zi_M := (⟨"AgreeTold$Tape", "addToken", "(IIJ)V"⟩, prog_10_method_9_code, 5, (none : Option FieldType), zi_t63, [713, 152])
def zi_t64 : zi_T := [(18, [(0, (.aload_n 0, 1, [])),
    (1, (.aload_n 0, 1, [])),
    (2, (.getfield 11, 3, [11, 2, 1621])),
    (5, (.putfield 177, 3, [11, 3, 1622])),
    (8, (.aload_n 0, 1, [])),
    (9, (.iconst 0, 1, [])),
    (10, (.putfield 11, 3, [11, 2, 1621])),
    (13, (.iconst 0, 1, [])),
    (14, (.istore_n 1, 1, [])),
    (15, (.iconst 0, 1, [])),
    (16, (.istore_n 2, 1, [])),
    (17, (.iload_n 2, 1, []))]),
  (292, [(18, (.aload_n 0, 1, [])),
    (19, (.getfield 177, 3, [11, 3, 1622])),
    (22, (.if_icmp .ge 257, 3, [279])),
    (279, (.aload_n 0, 1, [])),
    (280, (.getfield 24, 3, [11, 4, 1623])),
    (283, (.iload_n 1, 1, [])),
    (284, (.iconst 0, 1, [])),
    (285, (.iastore, 1, [])),
    (286, (.aload_n 0, 1, [])),
    (287, (.getfield 27, 3, [11, 5, 1624])),
    (290, (.iload_n 1, 1, [])),
    (291, (.aload_n 0, 1, []))]),
  (100000, [(292, (.getfield 177, 3, [11, 3, 1622])),
    (295, (.iastore, 1, [])),
    (296, (.aload_n 0, 1, [])),
    (297, (.iconst 0, 1, [])),
    (298, (.putfield 196, 3, [11, 7, 1626])),
    (301, (.aload_n 0, 1, [])),
    (302, (.iconst 0, 1, [])),
    (303, (.putfield 199, 3, [11, 8, 1627])),
    (306, (.return_, 1, []))])]
def zi_m64 : zi_M := (⟨"AgreeToldModel", "cutAll", "()V"⟩, prog_13_method_9_code, 7, (none : Option FieldType), zi_t64, [1762, 166])
def zi_t65 : zi_T := [(20, [(0, (.aload_n 0, 1, [])),
    (1, (.invokespecial 3, 3, [])),
    (4, (.aload_n 0, 1, [])),
    (5, (.iconst 4, 1, [])),
    (6, (.newarray .long, 2, [1, 277])),
    (8, (.putfield 9, 3, [3, 0, 287])),
    (11, (.aload_n 0, 1, [])),
    (12, (.iconst 4, 1, [])),
    (13, (.newarray .long, 2, [1, 277])),
    (15, (.putfield 15, 3, [3, 1, 289])),
    (18, (.aload_n 0, 1, [])),
    (19, (.iconst 5, 1, []))]),
  (41, [(20, (.newarray .long, 2, [1, 277])),
    (22, (.putfield 18, 3, [3, 2, 291])),
    (25, (.aload_n 0, 1, [])),
    (26, (.iconst 4, 1, [])),
    (27, (.newarray .int, 2, [0, 276])),
    (29, (.putfield 21, 3, [3, 3, 293])),
    (32, (.aload_n 0, 1, [])),
    (33, (.iconst 5, 1, [])),
    (34, (.newarray .int, 2, [0, 276])),
    (36, (.putfield 25, 3, [3, 4, 294])),
    (39, (.aload_n 0, 1, [])),
    (40, (.iconst 5, 1, []))]),
  (64, [(41, (.newarray .int, 2, [0, 276])),
    (43, (.putfield 28, 3, [3, 5, 295])),
    (46, (.aload_n 0, 1, [])),
    (47, (.bipush 6, 2, [])),
    (49, (.newarray .int, 2, [0, 276])),
    (51, (.putfield 31, 3, [3, 6, 296])),
    (54, (.aload_n 0, 1, [])),
    (55, (.bipush 6, 2, [])),
    (57, (.newarray .int, 2, [0, 276])),
    (59, (.putfield 34, 3, [3, 7, 297])),
    (62, (.aload_n 0, 1, [])),
    (63, (.iconst 4, 1, []))]),
  (87, [(64, (.newarray .int, 2, [0, 276])),
    (66, (.putfield 37, 3, [3, 8, 298])),
    (69, (.aload_n 0, 1, [])),
    (70, (.iconst 4, 1, [])),
    (71, (.newarray .int, 2, [0, 276])),
    (73, (.putfield 40, 3, [3, 9, 300])),
    (76, (.aload_n 0, 1, [])),
    (77, (.bipush 6, 2, [])),
    (79, (.newarray .int, 2, [0, 276])),
    (81, (.putfield 43, 3, [3, 10, 302])),
    (84, (.aload_n 0, 1, [])),
    (85, (.bipush 6, 2, []))]),
  (107, [(87, (.newarray .int, 2, [0, 276])),
    (89, (.putfield 46, 3, [3, 11, 304])),
    (92, (.aload_n 0, 1, [])),
    (93, (.iconst 1, 1, [])),
    (94, (.newarray .int, 2, [0, 276])),
    (96, (.dup, 1, [])),
    (97, (.iconst 0, 1, [])),
    (98, (.sipush 258, 3, [])),
    (101, (.iastore, 1, [])),
    (102, (.putfield 49, 3, [3, 12, 306])),
    (105, (.aload_n 0, 1, [])),
    (106, (.iconst 1, 1, []))]),
  (100000, [(107, (.putfield 52, 3, [3, 14, 310])),
    (110, (.return_, 1, []))])]
def zi_m65 : zi_M := (⟨"AgreeTold$Land", "<init>", "()V"⟩, prog_5_method_1_code, 1, (none : Option FieldType), zi_t65, [285, 157])
def zi_t66 : zi_T := [(96, [(0, (.aload_n 0, 1, [])),
    (1, (.invokevirtual 322, 3, [62, 1, 0, 1265, 1267, 46])),
    (4, (.istore_n 2, 1, [])),
    (5, (.iconst (-1), 1, [])),
    (6, (.istore_n 3, 1, [])),
    (7, (.iconst 0, 1, [])),
    (8, (.istore 4, 2, [])),
    (10, (.iconst 0, 1, [])),
    (11, (.istore 5, 2, [])),
    (13, (.iload 5, 2, [])),
    (15, (.iload_n 2, 1, [])),
    (16, (.if_icmp .ge 80, 3, [96]))]),
  (100000, [(96, (.iload_n 3, 1, [])),
    (97, (.ireturn, 1, []))])]
def zi_m66 : zi_M := (⟨"AgreeTold", "widest", "(Z)I"⟩, prog_1_method_21_code, 7, (some FieldType.int), zi_t66, [1277, 150])
def zi_t67 : zi_T := [(100000, [(0, (.aload_n 0, 1, [])),
    (1, (.getfield 93, 3, [0, 16, 632])),
    (4, (.iload_n 1, 1, [])),
    (5, (.invokevirtual 359, 3, [80, 2, 3, 1304, 1122, 1123])),
    (8, (.ifCond .ne 5, 3, [13])),
    (11, (.iconst (-1), 1, [])),
    (12, (.ireturn, 1, []))])]
def zi_m67 : zi_M := (⟨"AgreeTold", "wish", "(II)I"⟩, prog_1_method_26_code, 3, (some FieldType.int), zi_t67, [1303, 150])
def zi_t68 : zi_T := [(24, [(0, (.aload_n 0, 1, [])),
    (1, (.getfield 50, 3, [1, 9, 388])),
    (4, (.istore_n 2, 1, [])),
    (5, (.iload_n 2, 1, [])),
    (6, (.bipush 16, 2, [])),
    (8, (.if_icmp .eq 9, 3, [17])),
    (11, (.iload_n 2, 1, [])),
    (12, (.bipush 17, 2, [])),
    (14, (.if_icmp .ne 7, 3, [21])),
    (21, (.iconst 0, 1, [])),
    (22, (.istore_n 3, 1, [])),
    (23, (.iload_n 2, 1, []))]),
  (50, [(24, (.iconst 3, 1, [])),
    (25, (.if_icmp .eq 15, 3, [40])),
    (28, (.iload_n 2, 1, [])),
    (29, (.bipush 14, 2, [])),
    (31, (.if_icmp .eq 9, 3, [40])),
    (34, (.iload_n 2, 1, [])),
    (35, (.bipush 15, 2, [])),
    (37, (.if_icmp .ne 7, 3, [44])),
    (44, (.iconst 0, 1, [])),
    (45, (.istore 4, 2, [])),
    (47, (.iload_n 2, 1, [])),
    (48, (.bipush 30, 2, []))]),
  (124, [(50, (.if_icmp .eq 26, 3, [76])),
    (53, (.iload_n 2, 1, [])),
    (54, (.bipush 40, 2, [])),
    (56, (.if_icmp .eq 20, 3, [76])),
    (59, (.iload_n 3, 1, [])),
    (60, (.ifCond .ne 16, 3, [76])),
    (63, (.iload 4, 2, [])),
    (65, (.ifCond .ne 11, 3, [76])),
    (68, (.aload_n 0, 1, [])),
    (69, (.iconst 1, 1, [])),
    (70, (.invokevirtual 71, 3, [32, 2, 1, 799, 801, 13])),
    (73, (.goto 51, 3, [124]))]),
  (100000, [(124, (.aload_n 0, 1, [])),
    (125, (.getfield 46, 3, [1, 11, 390])),
    (128, (.ifCond .eq 4, 3, [132])),
    (131, (.return_, 1, []))])]
def zi_m68 : zi_M := (⟨"AgreeTold$Reader", "readItem", "(I)V"⟩, prog_7_method_14_code, 5, (none : Option FieldType), zi_t68, [861, 151])
def zi_t69 : zi_T := [(100000, [(0, (.aload_n 0, 1, [])),
    (1, (.iconst 0, 1, [])),
    (2, (.putfield 1, 3, [11, 0, 1619])),
    (5, (.aload_n 0, 1, [])),
    (6, (.iload_n 1, 1, [])),
    (7, (.invokevirtual 448, 3, [36, 2, 11, 1979, 1981, 118])),
    (10, (.ifCond .eq 12, 3, [22])),
    (22, (.iconst (-1), 1, [])),
    (23, (.ireturn, 1, []))])]
def zi_m69 : zi_M := (⟨"AgreeToldModel", "knew", "(II)I"⟩, prog_13_method_121_code, 6, (some FieldType.int), zi_t69, [2145, 166])
def zi_t70 : zi_T := [(25, [(0, (.aload_n 0, 1, [])),
    (1, (.getfield 20, 3, [0, 1, 617])),
    (4, (.lload_n 1, 1, [])),
    (5, (.invokevirtual 100, 3, [40, 2, 2, 678, 679, 680])),
    (8, (.aload_n 0, 1, [])),
    (9, (.getfield 20, 3, [0, 1, 617])),
    (12, (.lload_n 3, 1, [])),
    (13, (.invokevirtual 100, 3, [40, 2, 2, 678, 679, 680])),
    (16, (.aload_n 0, 1, [])),
    (17, (.getfield 20, 3, [0, 1, 617])),
    (20, (.lload 5, 2, [])),
    (22, (.invokevirtual 100, 3, [40, 2, 2, 678, 679, 680]))]),
  (100000, [(25, (.aload_n 0, 1, [])),
    (26, (.getfield 20, 3, [0, 1, 617])),
    (29, (.getfield 106, 3, [2, 5, 256])),
    (32, (.ireturn, 1, []))])]
def zi_m70 : zi_M := (⟨"AgreeTold", "feed", "(JJJ)I"⟩, prog_1_method_2_code, 7, (some FieldType.int), zi_t70, [677, 150])
def zi_t71 : zi_T := [(100000, [(0, (.aload_n 0, 1, [])),
    (1, (.getfield 93, 3, [0, 16, 632])),
    (4, (.iload_n 1, 1, [])),
    (5, (.invokevirtual 271, 3, [12, 2, 3, 1167, 1096, 1097])),
    (8, (.ifCond .eq 25, 3, [33])),
    (33, (.iconst (-1), 1, [])),
    (34, (.ireturn, 1, []))])]
def zi_m71 : zi_M := (⟨"AgreeTold", "promise", "(II)I"⟩, prog_1_method_13_code, 3, (some FieldType.int), zi_t71, [1172, 150])
def zi_t72 : zi_T := [(100000, [(0, (.aload_n 0, 1, [])),
    (1, (.iconst 0, 1, [])),
    (2, (.putfield 1, 3, [11, 0, 1619])),
    (5, (.aload_n 0, 1, [])),
    (6, (.iload_n 1, 1, [])),
    (7, (.invokevirtual 445, 3, [13, 2, 11, 1971, 1973, 117])),
    (10, (.ifCond .eq 24, 3, [34])),
    (34, (.iconst (-1), 1, [])),
    (35, (.ireturn, 1, []))])]
def zi_m72 : zi_M := (⟨"AgreeToldModel", "promise", "(II)I"⟩, prog_13_method_94_code, 3, (some FieldType.int), zi_t72, [2030, 166])
def zi_t73 : zi_T := [(100000, [(0, (.aload_n 0, 1, [])),
    (1, (.iconst 0, 1, [])),
    (2, (.putfield 1, 3, [11, 0, 1619])),
    (5, (.aload_n 0, 1, [])),
    (6, (.iload_n 1, 1, [])),
    (7, (.invokevirtual 445, 3, [13, 2, 11, 1971, 1973, 117])),
    (10, (.ifCond .eq 20, 3, [30])),
    (30, (.iconst (-1), 1, [])),
    (31, (.ireturn, 1, []))])]
def zi_m73 : zi_M := (⟨"AgreeToldModel", "span", "(III)I"⟩, prog_13_method_119_code, 7, (some FieldType.int), zi_t73, [2137, 166])
def zi_t74 : zi_T := [(57, [(0, (.aload_n 0, 1, [])),
    (1, (.iconst 0, 1, [])),
    (2, (.putfield 1, 3, [11, 0, 1619])),
    (5, (.aload_n 0, 1, [])),
    (6, (.getfield 138, 3, [11, 29, 1648])),
    (9, (.iconst 1, 1, [])),
    (10, (.iaload, 1, [])),
    (11, (.istore_n 3, 1, [])),
    (12, (.aload_n 0, 1, [])),
    (13, (.iload_n 1, 1, [])),
    (14, (.invokevirtual 445, 3, [13, 2, 11, 1971, 1973, 117])),
    (17, (.ifCond .eq 40, 3, [57]))]),
  (100000, [(57, (.iconst 0, 1, [])),
    (58, (.ireturn, 1, []))])]
def zi_m74 : zi_M := (⟨"AgreeToldModel", "come", "(II)Z"⟩, prog_13_method_92_code, 6, (some FieldType.boolean), zi_t74, [2006, 166])
def zi_t75 : zi_T := [(100000, [(0, (.aload_n 0, 1, [])),
    (1, (.getfield 52, 3, [0, 6, 622])),
    (4, (.getfield 197, 3, [9, 5, 532])),
    (7, (.astore_n 1, 1, [])),
    (8, (.aload_n 1, 1, [])),
    (9, (.ifnonnull 5, 3, [14])),
    (12, (.iconst 0, 1, [])),
    (13, (.ireturn, 1, []))])]
def zi_m75 : zi_M := (⟨"AgreeTold", "gatherAsked", "()Z"⟩, prog_1_method_43_code, 3, (some FieldType.boolean), zi_t75, [1203, 150])
def zi_t76 : zi_T := [(28, [(0, (.aload_n 0, 1, [])),
    (1, (.getfield 66, 3, [0, 9, 625])),
    (4, (.invokevirtual 165, 3, [30, 1, 5, 1021, 1022, 1023])),
    (7, (.istore 4, 2, [])),
    (9, (.aload_n 0, 1, [])),
    (10, (.getfield 93, 3, [0, 16, 632])),
    (13, (.iload_n 1, 1, [])),
    (14, (.iload_n 2, 1, [])),
    (15, (.iload_n 3, 1, [])),
    (16, (.invokevirtual 244, 3, [28, 4, 3, 1145, 1146, 1147])),
    (19, (.ifCond .eq 8, 3, [27])),
    (27, (.iconst (-1), 1, []))]),
  (100000, [(28, (.ireturn, 1, []))])]
def zi_m76 : zi_M := (⟨"AgreeTold", "word", "(III)I"⟩, prog_1_method_15_code, 5, (some FieldType.int), zi_t76, [1184, 150])
def zi_t77 : zi_T := [(100000, [(0, (.aload_n 0, 1, [])),
    (1, (.getfield 93, 3, [0, 16, 632])),
    (4, (.iload_n 1, 1, [])),
    (5, (.iload_n 2, 1, [])),
    (6, (.iload_n 3, 1, [])),
    (7, (.invokevirtual 244, 3, [28, 4, 3, 1145, 1146, 1147])),
    (10, (.ifCond .ne 5, 3, [15])),
    (13, (.iconst (-1), 1, [])),
    (14, (.ireturn, 1, []))])]
def zi_m77 : zi_M := (⟨"AgreeTold", "holds", "(III)I"⟩, prog_1_method_16_code, 4, (some FieldType.int), zi_t77, [1191, 150])
def zi_t78 : zi_T := [(100000, [(0, (.aload_n 0, 1, [])),
    (1, (.iconst 0, 1, [])),
    (2, (.putfield 1, 3, [11, 0, 1619])),
    (5, (.aload_n 0, 1, [])),
    (6, (.iload_n 1, 1, [])),
    (7, (.invokevirtual 448, 3, [36, 2, 11, 1979, 1981, 118])),
    (10, (.ifCond .eq 25, 3, [35])),
    (35, (.iconst (-1), 1, [])),
    (36, (.ireturn, 1, []))])]
def zi_m78 : zi_M := (⟨"AgreeToldModel", "duel", "(III)I"⟩, prog_13_method_126_code, 5, (some FieldType.int), zi_t78, [2161, 166])
def zi_t79 : zi_T := [(100000, [(0, (.aload_n 0, 1, [])),
    (1, (.iconst 0, 1, [])),
    (2, (.putfield 1, 3, [11, 0, 1619])),
    (5, (.aload_n 0, 1, [])),
    (6, (.iload_n 1, 1, [])),
    (7, (.iload_n 2, 1, [])),
    (8, (.iload_n 3, 1, [])),
    (9, (.invokevirtual 469, 3, [31, 4, 11, 2039, 2041, 125])),
    (12, (.ifCond .eq 13, 3, [25])),
    (25, (.iconst (-1), 1, [])),
    (26, (.ireturn, 1, []))])]
def zi_m79 : zi_M := (⟨"AgreeToldModel", "making", "(IIII)I"⟩, prog_13_method_113_code, 6, (some FieldType.int), zi_t79, [2080, 166])
def zi_t80 : zi_T := [(100000, [(0, (.iload_n 1, 1, [])),
    (1, (.ifCond .lt 21, 3, [22])),
    (4, (.iload_n 1, 1, [])),
    (5, (.aload_n 0, 1, [])),
    (6, (.getfield 80, 3, [3, 19, 330])),
    (9, (.if_icmp .ge 13, 3, [22])),
    (22, (.iconst 0, 1, [])),
    (23, (.ireturn, 1, []))])]
def zi_m80 : zi_M := (⟨"AgreeTold$Land", "isWish", "(I)Z"⟩, prog_5_method_15_code, 2, (some FieldType.boolean), zi_t80, [1124, 157])
def zi_t81 : zi_T := [(21, [(0, (.aload_n 0, 1, [])),
    (1, (.iconst 0, 1, [])),
    (2, (.putfield 1, 3, [11, 0, 1619])),
    (5, (.aload_n 0, 1, [])),
    (6, (.lload_n 1, 1, [])),
    (7, (.invokevirtual 7, 3, [39, 2, 11, 1501, 1503, 57])),
    (10, (.aload_n 0, 1, [])),
    (11, (.lload_n 3, 1, [])),
    (12, (.invokevirtual 7, 3, [39, 2, 11, 1501, 1503, 57])),
    (15, (.aload_n 0, 1, [])),
    (16, (.lload 5, 2, [])),
    (18, (.invokevirtual 7, 3, [39, 2, 11, 1501, 1503, 57]))]),
  (100000, [(21, (.aload_n 0, 1, [])),
    (22, (.getfield 11, 3, [11, 2, 1621])),
    (25, (.ireturn, 1, []))])]
def zi_m81 : zi_M := (⟨"AgreeToldModel", "feed", "(JJJ)I"⟩, prog_13_method_2_code, 7, (some FieldType.int), zi_t81, [1500, 166])
def zi_t82 : zi_T := [(18, [(0, (.aload_n 0, 1, [])),
    (1, (.iconst 0, 1, [])),
    (2, (.putfield 1, 3, [11, 0, 1619])),
    (5, (.iload_n 1, 1, [])),
    (6, (.iconst 0, 1, [])),
    (7, (.aload_n 0, 1, [])),
    (8, (.getfield 101, 3, [11, 10, 1629])),
    (11, (.iconst 5, 1, [])),
    (12, (.iaload, 1, [])),
    (13, (.iconst 1, 1, [])),
    (14, (.isub, 1, [])),
    (15, (.invokestatic 241, 3, [10, 3, 0, 1858, 1859]))]),
  (100000, [(18, (.ifCond .eq 12, 3, [30])),
    (30, (.iconst (-1), 1, [])),
    (31, (.ireturn, 1, []))])]
def zi_m82 : zi_M := (⟨"AgreeToldModel", "wish", "(II)I"⟩, prog_13_method_122_code, 3, (some FieldType.int), zi_t82, [2149, 166])
def zi_t83 : zi_T := [(26, [(0, (.aload_n 0, 1, [])),
    (1, (.aload_n 0, 1, [])),
    (2, (.iload_n 1, 1, [])),
    (3, (.iload_n 2, 1, [])),
    (4, (.iload_n 3, 1, [])),
    (5, (.invokevirtual 469, 3, [31, 4, 11, 2039, 2041, 125])),
    (8, (.ifCond .eq 7, 3, [15])),
    (15, (.iconst 1, 1, [])),
    (16, (.putfield 1, 3, [11, 0, 1619])),
    (19, (.aload_n 0, 1, [])),
    (20, (.getfield 1, 3, [11, 0, 1619])),
    (23, (.ifCond .le 5, 3, [28]))]),
  (100000, [(26, (.iconst 0, 1, [])),
    (27, (.ireturn, 1, []))])]
def zi_m83 : zi_M := (⟨"AgreeToldModel", "first", "(III)I"⟩, prog_13_method_120_code, 6, (some FieldType.int), zi_t83, [2141, 166])
def zi_t84 : zi_T := [(100000, [(0, (.aload_n 0, 1, [])),
    (1, (.getfield 52, 3, [0, 6, 622])),
    (4, (.iload_n 1, 1, [])),
    (5, (.invokevirtual 222, 3, [53, 2, 9, 612, 613, 614])),
    (8, (.astore_n 3, 1, [])),
    (9, (.aload_n 3, 1, [])),
    (10, (.ifnonnull 5, 3, [15])),
    (13, (.iconst (-1), 1, [])),
    (14, (.ireturn, 1, []))])]
def zi_m84 : zi_M := (⟨"AgreeTold", "saying", "(II)I"⟩, prog_1_method_9_code, 4, (some FieldType.int), zi_t84, [1132, 150])
def zi_t85 : zi_T := [(100000, [(0, (.aload_n 0, 1, [])),
    (1, (.getfield 93, 3, [0, 16, 632])),
    (4, (.iload_n 1, 1, [])),
    (5, (.invokevirtual 271, 3, [12, 2, 3, 1167, 1096, 1097])),
    (8, (.ifCond .eq 14, 3, [22])),
    (22, (.iconst (-1), 1, [])),
    (23, (.ireturn, 1, []))])]
def zi_m85 : zi_M := (⟨"AgreeTold", "came", "(II)I"⟩, prog_1_method_12_code, 3, (some FieldType.int), zi_t85, [1166, 150])
def zi_t86 : zi_T := [(100000, [(0, (.aload_n 0, 1, [])),
    (1, (.getfield 93, 3, [0, 16, 632])),
    (4, (.iload_n 1, 1, [])),
    (5, (.invokevirtual 203, 3, [34, 2, 3, 1103, 899, 900])),
    (8, (.ifCond .eq 12, 3, [20])),
    (20, (.iconst (-1), 1, [])),
    (21, (.ireturn, 1, []))])]
def zi_m86 : zi_M := (⟨"AgreeTold", "knew", "(II)I"⟩, prog_1_method_25_code, 6, (some FieldType.int), zi_t86, [1299, 150])
def zi_t87 : zi_T := [(100000, [(0, (.aload_n 0, 1, [])),
    (1, (.iload_n 1, 1, [])),
    (2, (.invokevirtual 87, 3, [12, 2, 3, 1095, 1096, 1097])),
    (5, (.ifCond .eq 12, 3, [17])),
    (17, (.iconst (-1), 1, [])),
    (18, (.ireturn, 1, []))])]
def zi_m87 : zi_M := (⟨"AgreeTold$Land", "tallOf", "(I)I"⟩, prog_5_method_17_code, 2, (some FieldType.int), zi_t87, [1094, 157])
def zi_t88 : zi_T := [(20, [(0, (.aload_n 0, 1, [])),
    (1, (.invokevirtual 245, 3, [64, 1, 11, 1759, 1761, 75])),
    (4, (.aload_n 0, 1, [])),
    (5, (.iconst 0, 1, [])),
    (6, (.putfield 224, 3, [11, 20, 1639])),
    (9, (.aload_n 0, 1, [])),
    (10, (.iconst 0, 1, [])),
    (11, (.putfield 248, 3, [11, 13, 1632])),
    (14, (.aload_n 0, 1, [])),
    (15, (.iload_n 1, 1, [])),
    (16, (.ifCond .eq 12, 3, [28])),
    (19, (.aload_n 0, 1, []))]),
  (40, [(20, (.iconst 2, 1, [])),
    (21, (.iconst (-1), 1, [])),
    (22, (.invokevirtual 294, 3, [143, 3, 11, 1873, 1875, 99])),
    (25, (.goto 4, 3, [29])),
    (28, (.iconst (-1), 1, [])),
    (29, (.putfield 428, 3, [11, 33, 1652])),
    (32, (.aload_n 0, 1, [])),
    (33, (.iconst 0, 1, [])),
    (34, (.invokevirtual 287, 3, [89, 2, 11, 1846, 1848, 93])),
    (37, (.aload_n 0, 1, [])),
    (38, (.iconst 0, 1, [])),
    (39, (.iconst 0, 1, []))]),
  (100000, [(40, (.invokevirtual 290, 3, [110, 3, 11, 1861, 1863, 96])),
    (43, (.aload_n 0, 1, [])),
    (44, (.bipush 59, 2, [])),
    (46, (.invokevirtual 251, 3, [57, 2, 11, 1798, 1800, 81])),
    (49, (.aload_n 0, 1, [])),
    (50, (.getfield 199, 3, [11, 8, 1627])),
    (53, (.ifCond .ne 20, 3, [73])),
    (73, (.sipush 1100, 3, [])),
    (76, (.ireturn, 1, []))])]
def zi_m88 : zi_M := (⟨"AgreeToldModel", "readAll", "(Z)I"⟩, prog_13_method_81_code, 2, (some FieldType.int), zi_t88, [1915, 166])
def zi_t89 : zi_T := [(100000, [(0, (.aload_n 0, 1, [])),
    (1, (.iload_n 1, 1, [])),
    (2, (.invokevirtual 300, 3, [98, 2, 11, 1850, 1852, 94])),
    (5, (.aload_n 0, 1, [])),
    (6, (.bipush 28, 2, [])),
    (8, (.invokevirtual 211, 3, [47, 2, 11, 1782, 1784, 77])),
    (11, (.ifCond .eq 18, 3, [29])),
    (29, (.return_, 1, []))])]
def zi_m89 : zi_M := (⟨"AgreeToldModel", "readFormula", "(I)V"⟩, prog_13_method_37_code, 2, (none : Option FieldType), zi_t89, [1849, 166])
def zi_t90 : zi_T := [(100000, [(0, (.aload_n 0, 1, [])),
    (1, (.iconst 0, 1, [])),
    (2, (.putfield 1, 3, [11, 0, 1619])),
    (5, (.aload_n 0, 1, [])),
    (6, (.iload_n 1, 1, [])),
    (7, (.iload_n 2, 1, [])),
    (8, (.iload_n 3, 1, [])),
    (9, (.invokevirtual 469, 3, [31, 4, 11, 2039, 2041, 125])),
    (12, (.ifCond .ne 5, 3, [17])),
    (15, (.iconst (-1), 1, [])),
    (16, (.ireturn, 1, []))])]
def zi_m90 : zi_M := (⟨"AgreeToldModel", "holds", "(III)I"⟩, prog_13_method_99_code, 4, (some FieldType.int), zi_t90, [2049, 166])
def zi_t91 : zi_T := [(100000, [(0, (.aload_n 0, 1, [])),
    (1, (.getfield 199, 3, [11, 8, 1627])),
    (4, (.ifCond .ne 30, 3, [34])),
    (7, (.aload_n 0, 1, [])),
    (8, (.getfield 24, 3, [11, 4, 1623])),
    (11, (.aload_n 0, 1, [])),
    (12, (.getfield 196, 3, [11, 7, 1626])),
    (15, (.iaload, 1, [])),
    (16, (.iconst 1, 1, [])),
    (17, (.if_icmp .ne 17, 3, [34])),
    (34, (.iconst 0, 1, [])),
    (35, (.ireturn, 1, []))])]
def zi_m91 : zi_M := (⟨"AgreeToldModel", "isName", "()Z"⟩, prog_13_method_22_code, 1, (some FieldType.boolean), zi_t91, [1821, 166])
def zi_t92 : zi_T := [(100000, [(0, (.aload_n 0, 1, [])),
    (1, (.getfield 93, 3, [0, 16, 632])),
    (4, (.iload_n 1, 1, [])),
    (5, (.invokevirtual 271, 3, [12, 2, 3, 1167, 1096, 1097])),
    (8, (.ifCond .eq 23, 3, [31])),
    (31, (.iconst (-1), 1, [])),
    (32, (.ireturn, 1, []))])]
def zi_m92 : zi_M := (⟨"AgreeTold", "span", "(III)I"⟩, prog_1_method_23_code, 7, (some FieldType.int), zi_t92, [1295, 150])
def zi_t93 : zi_T := [(100000, [(0, (.aload_n 0, 1, [])),
    (1, (.iconst 0, 1, [])),
    (2, (.putfield 21, 3, [7, 2, 496])),
    (5, (.return_, 1, []))])]
def zi_m93 : zi_M := (⟨"AgreeTold$Joint", "begin", "()V"⟩, prog_4_method_2_code, 1, (none : Option FieldType), zi_t93, [1207, 161])
def zi_t94 : zi_T := [(100000, [(0, (.iconst 0, 1, [])),
    (1, (.istore_n 2, 1, [])),
    (2, (.iload_n 2, 1, [])),
    (3, (.aload_n 0, 1, [])),
    (4, (.getfield 21, 3, [7, 2, 496])),
    (7, (.if_icmp .ge 72, 3, [79])),
    (79, (.return_, 1, []))])]
def zi_m94 : zi_M := (⟨"AgreeTold$Joint", "spread", "(I)V"⟩, prog_4_method_6_code, 6, (none : Option FieldType), zi_t94, [1225, 161])
def zi_t95 : zi_T := [(22, [(0, (.lload_n 1, 1, [])),
    (1, (.lstore 4, 2, [])),
    (3, (.iconst 0, 1, [])),
    (4, (.istore 6, 2, [])),
    (6, (.iload 6, 2, [])),
    (8, (.bipush 64, 2, [])),
    (10, (.if_icmp .ge 170, 3, [180])),
    (13, (.lload 4, 2, [])),
    (15, (.lconst 0, 1, [])),
    (16, (.lcmp, 1, [])),
    (17, (.ifCond .eq 163, 3, [180])),
    (20, (.lload 4, 2, []))]),
  (41, [(22, (.lload 4, 2, [])),
    (24, (.lneg, 1, [])),
    (25, (.land, 1, [])),
    (26, (.lstore 7, 2, [])),
    (28, (.lload 4, 2, [])),
    (30, (.lstore 9, 2, [])),
    (32, (.iconst 0, 1, [])),
    (33, (.istore 11, 2, [])),
    (35, (.iconst 0, 1, [])),
    (36, (.istore 12, 2, [])),
    (38, (.iload 12, 2, [])),
    (40, (.aload_n 0, 1, []))]),
  (163, [(41, (.getfield 21, 3, [7, 2, 496])),
    (44, (.if_icmp .ge 101, 3, [145])),
    (145, (.iload 11, 2, [])),
    (147, (.aload_n 0, 1, [])),
    (148, (.getfield 17, 3, [7, 1, 495])),
    (151, (.arraylength, 1, [])),
    (152, (.if_icmp .ge 11, 3, [163])),
    (155, (.aload_n 0, 1, [])),
    (156, (.getfield 17, 3, [7, 1, 495])),
    (159, (.iload 11, 2, [])),
    (161, (.iconst 1, 1, [])),
    (162, (.bastore, 1, []))]),
  (100000, [(163, (.lload 4, 2, [])),
    (165, (.lload 9, 2, [])),
    (167, (.ldc2_w 40, 3, [18446744073709551615, 1221])),
    (170, (.lxor, 1, [])),
    (171, (.land, 1, [])),
    (172, (.lstore 4, 2, [])),
    (174, (.iinc 6 1, 3, [])),
    (177, (.goto (-171), 3, [6])),
    (180, (.return_, 1, []))])]
def zi_m95 : zi_M := (⟨"AgreeTold$Joint", "gatherCell", "(JI)V"⟩, prog_4_method_5_code, 17, (none : Option FieldType), zi_t95, [1220, 161])
def zi_t96 : zi_T := [(17, [(0, (.iconst 0, 1, [])),
    (1, (.istore_n 2, 1, [])),
    (2, (.iload_n 2, 1, [])),
    (3, (.bipush 50, 2, [])),
    (5, (.if_icmp .ge 18, 3, [23])),
    (8, (.aload_n 0, 1, [])),
    (9, (.getfield 101, 3, [11, 10, 1629])),
    (12, (.iload_n 1, 1, [])),
    (13, (.iload_n 2, 1, [])),
    (14, (.iadd, 1, [])),
    (15, (.iconst 0, 1, [])),
    (16, (.iastore, 1, []))]),
  (100000, [(17, (.iinc 2 1, 3, [])),
    (20, (.goto (-18), 3, [2])),
    (23, (.aload_n 0, 1, [])),
    (24, (.getfield 101, 3, [11, 10, 1629])),
    (27, (.iload_n 1, 1, [])),
    (28, (.bipush 6, 2, [])),
    (30, (.iadd, 1, [])),
    (31, (.iconst (-1), 1, [])),
    (32, (.iastore, 1, [])),
    (33, (.return_, 1, []))])]
def zi_m96 : zi_M := (⟨"AgreeToldModel", "standsAsAlways", "(I)V"⟩, prog_13_method_18_code, 3, (none : Option FieldType), zi_t96, [1547, 166])
def zi_t97 : zi_T := [(35, [(0, (.aload_n 0, 1, [])),
    (1, (.getfield 52, 3, [0, 6, 622])),
    (4, (.getfield 241, 3, [9, 7, 536])),
    (7, (.istore_n 3, 1, [])),
    (8, (.aload_n 0, 1, [])),
    (9, (.getfield 93, 3, [0, 16, 632])),
    (12, (.iload_n 1, 1, [])),
    (13, (.iload_n 3, 1, [])),
    (14, (.iload_n 2, 1, [])),
    (15, (.invokevirtual 244, 3, [28, 4, 3, 1145, 1146, 1147])),
    (18, (.ifCond .eq 16, 3, [34])),
    (34, (.iconst 0, 1, []))]),
  (100000, [(35, (.ireturn, 1, []))])]
def zi_m97 : zi_M := (⟨"AgreeTold", "come", "(II)Z"⟩, prog_1_method_11_code, 5, (some FieldType.boolean), zi_t97, [1144, 150])
def zi_t98 : zi_T := [(100000, [(0, (.aload_n 0, 1, [])),
    (1, (.iload_n 1, 1, [])),
    (2, (.invokevirtual 303, 3, [99, 2, 11, 1854, 1856, 95])),
    (5, (.aload_n 0, 1, [])),
    (6, (.bipush 27, 2, [])),
    (8, (.invokevirtual 211, 3, [47, 2, 11, 1782, 1784, 77])),
    (11, (.ifCond .eq 18, 3, [29])),
    (29, (.return_, 1, []))])]
def zi_m98 : zi_M := (⟨"AgreeToldModel", "readTerm", "(I)V"⟩, prog_13_method_38_code, 2, (none : Option FieldType), zi_t98, [1853, 166])
def zi_t99 : zi_T := [(25, [(0, (.aload_n 0, 1, [])),
    (1, (.getfield 199, 3, [11, 8, 1627])),
    (4, (.ifCond .le 4, 3, [8])),
    (7, (.return_, 1, [])),
    (8, (.aload_n 0, 1, [])),
    (9, (.invokevirtual 233, 3, [91, 1, 11, 1818, 1820, 86])),
    (12, (.ifCond .ne 57, 3, [69])),
    (15, (.aload_n 0, 1, [])),
    (16, (.bipush 10, 2, [])),
    (18, (.invokevirtual 208, 3, [29, 2, 11, 1786, 1788, 78])),
    (21, (.ifCond .ne 48, 3, [69])),
    (24, (.aload_n 0, 1, []))]),
  (52, [(25, (.bipush 11, 2, [])),
    (27, (.invokevirtual 208, 3, [29, 2, 11, 1786, 1788, 78])),
    (30, (.ifCond .ne 39, 3, [69])),
    (33, (.aload_n 0, 1, [])),
    (34, (.bipush 12, 2, [])),
    (36, (.invokevirtual 208, 3, [29, 2, 11, 1786, 1788, 78])),
    (39, (.ifCond .ne 30, 3, [69])),
    (42, (.aload_n 0, 1, [])),
    (43, (.bipush 13, 2, [])),
    (45, (.invokevirtual 208, 3, [29, 2, 11, 1786, 1788, 78])),
    (48, (.ifCond .ne 21, 3, [69])),
    (51, (.aload_n 0, 1, []))]),
  (80, [(52, (.bipush 26, 2, [])),
    (54, (.invokevirtual 208, 3, [29, 2, 11, 1786, 1788, 78])),
    (57, (.ifCond .ne 12, 3, [69])),
    (60, (.aload_n 0, 1, [])),
    (61, (.bipush 40, 2, [])),
    (63, (.invokevirtual 202, 3, [52, 2, 11, 1802, 1804, 82])),
    (66, (.ifCond .eq 7, 3, [73])),
    (73, (.iconst 0, 1, [])),
    (74, (.istore_n 2, 1, [])),
    (75, (.iload_n 2, 1, [])),
    (76, (.ifCond .ne 11, 3, [87])),
    (79, (.aload_n 0, 1, []))]),
  (100000, [(80, (.iconst 1, 1, [])),
    (81, (.invokevirtual 205, 3, [38, 2, 11, 1790, 1792, 79])),
    (84, (.goto 40, 3, [124])),
    (124, (.aload_n 0, 1, [])),
    (125, (.getfield 199, 3, [11, 8, 1627])),
    (128, (.ifCond .le 4, 3, [132])),
    (131, (.return_, 1, []))])]
def zi_m99 : zi_M := (⟨"AgreeToldModel", "readItem", "(I)V"⟩, prog_13_method_39_code, 3, (none : Option FieldType), zi_t99, [1857, 166])
def zi_t100 : zi_T := [(100000, [(0, (.aload_n 0, 1, [])),
    (1, (.getfield 93, 3, [0, 16, 632])),
    (4, (.iload_n 1, 1, [])),
    (5, (.invokevirtual 200, 3, [87, 2, 3, 1091, 1092, 1093])),
    (8, (.ireturn, 1, []))])]
def zi_m100 : zi_M := (⟨"AgreeTold", "tall", "(I)I"⟩, prog_1_method_6_code, 2, (some FieldType.int), zi_t100, [1090, 150])
def zi_t101 : zi_T := [(100000, [(0, (.aload_n 0, 1, [])),
    (1, (.getfield 93, 3, [0, 16, 632])),
    (4, (.iload_n 1, 1, [])),
    (5, (.invokevirtual 271, 3, [12, 2, 3, 1167, 1096, 1097])),
    (8, (.ifCond .eq 23, 3, [31])),
    (31, (.iconst (-1), 1, [])),
    (32, (.ireturn, 1, []))])]
def zi_m101 : zi_M := (⟨"AgreeTold", "vague", "(III)I"⟩, prog_1_method_22_code, 10, (some FieldType.int), zi_t101, [1281, 150])
def zi_t102 : zi_T := [(100000, [(0, (.aload_n 0, 1, [])),
    (1, (.getfield 52, 3, [0, 6, 622])),
    (4, (.iload_n 1, 1, [])),
    (5, (.invokevirtual 222, 3, [53, 2, 9, 612, 613, 614])),
    (8, (.astore_n 2, 1, [])),
    (9, (.aload_n 2, 1, [])),
    (10, (.ifnull 18, 3, [28])),
    (28, (.iconst 0, 1, [])),
    (29, (.ireturn, 1, []))])]
def zi_m102 : zi_M := (⟨"AgreeTold", "strike", "(I)Z"⟩, prog_1_method_10_code, 3, (some FieldType.boolean), zi_t102, [1136, 150])
def zi_t103 : zi_T := [(20, [(0, (.iconst 0, 1, [])),
    (1, (.istore_n 2, 1, [])),
    (2, (.aload_n 0, 1, [])),
    (3, (.iload_n 1, 1, [])),
    (4, (.invokevirtual 174, 3, [68, 2, 1, 858, 860, 21])),
    (7, (.iconst 0, 1, [])),
    (8, (.istore_n 3, 1, [])),
    (9, (.iload_n 3, 1, [])),
    (10, (.sipush 1000, 3, [])),
    (13, (.if_icmp .ge 98, 3, [111])),
    (16, (.aload_n 0, 1, [])),
    (17, (.getfield 46, 3, [1, 11, 390]))]),
  (100000, [(20, (.ifCond .ne 91, 3, [111])),
    (111, (.iload_n 2, 1, [])),
    (112, (.ifCond .eq 8, 3, [120])),
    (120, (.return_, 1, []))])]
def zi_m103 : zi_M := (⟨"AgreeTold$Reader", "readFormula", "(I)V"⟩, prog_7_method_13_code, 5, (none : Option FieldType), zi_t103, [857, 151])
def zi_t104 : zi_T := [(100000, [(0, (.aload_n 0, 1, [])),
    (1, (.iconst 0, 1, [])),
    (2, (.putfield 1, 3, [11, 0, 1619])),
    (5, (.aload_n 0, 1, [])),
    (6, (.iload_n 1, 1, [])),
    (7, (.invokevirtual 451, 3, [55, 2, 11, 1991, 1993, 119])),
    (10, (.ifCond .eq 11, 3, [21])),
    (21, (.iconst 0, 1, [])),
    (22, (.ireturn, 1, []))])]
def zi_m104 : zi_M := (⟨"AgreeToldModel", "strike", "(I)Z"⟩, prog_13_method_90_code, 4, (some FieldType.boolean), zi_t104, [1998, 166])
def zi_t105 : zi_T := [(100000, [(0, (.aload_n 0, 1, [])),
    (1, (.getfield 1, 3, [11, 0, 1619])),
    (4, (.ireturn, 1, []))])]
def zi_m105 : zi_M := (⟨"AgreeToldModel", "thrown", "()I"⟩, prog_13_method_1_code, 1, (some FieldType.int), zi_t105, [1496, 166])
def zi_t106 : zi_T := [(27, [(0, (.aload_n 0, 1, [])),
    (1, (.iconst 0, 1, [])),
    (2, (.putfield 1, 3, [11, 0, 1619])),
    (5, (.aload_n 0, 1, [])),
    (6, (.iload_n 1, 1, [])),
    (7, (.iload_n 2, 1, [])),
    (8, (.iload_n 3, 1, [])),
    (9, (.invokevirtual 469, 3, [31, 4, 11, 2039, 2041, 125])),
    (12, (.ifCond .eq 10, 3, [22])),
    (22, (.iconst 0, 1, [])),
    (23, (.istore 4, 2, [])),
    (25, (.iload 4, 2, []))]),
  (100000, [(27, (.ifCond .ne 7, 3, [34])),
    (30, (.iconst (-1), 1, [])),
    (31, (.goto 21, 3, [52])),
    (52, (.ireturn, 1, []))])]
def zi_m106 : zi_M := (⟨"AgreeToldModel", "word", "(III)I"⟩, prog_13_method_98_code, 5, (some FieldType.int), zi_t106, [2038, 166])
def zi_t107 : zi_T := [(100000, [(0, (.aload_n 0, 1, [])),
    (1, (.getfield 93, 3, [0, 16, 632])),
    (4, (.iload_n 1, 1, [])),
    (5, (.invokevirtual 203, 3, [34, 2, 3, 1103, 899, 900])),
    (8, (.ifCond .ne 5, 3, [13])),
    (11, (.iconst (-1), 1, [])),
    (12, (.ireturn, 1, []))])]
def zi_m107 : zi_M := (⟨"AgreeTold", "prophet", "(II)I"⟩, prog_1_method_7_code, 3, (some FieldType.int), zi_t107, [1102, 150])
def zi_t108 : zi_T := [(18, [(0, (.iconst 1, 1, [])),
    (1, (.istore_n 1, 1, [])),
    (2, (.iconst 0, 1, [])),
    (3, (.istore_n 2, 1, [])),
    (4, (.iload_n 2, 1, [])),
    (5, (.aload_n 0, 1, [])),
    (6, (.invokevirtual 35, 3, [0, 1, 100, 200, 201, 202])),
    (9, (.if_icmp .ge 27, 3, [36])),
    (12, (.iload_n 1, 1, [])),
    (13, (.aload_n 0, 1, [])),
    (14, (.iload_n 2, 1, [])),
    (15, (.invokevirtual 41, 3, [2, 2, 100, 210, 211, 212]))]),
  (40, [(18, (.bipush 32, 2, [])),
    (20, (.if_icmp .ne 7, 3, [27])),
    (23, (.iconst 1, 1, [])),
    (24, (.goto 4, 3, [28])),
    (27, (.iconst 0, 1, [])),
    (28, (.iadd, 1, [])),
    (29, (.istore_n 1, 1, [])),
    (30, (.iinc 2 1, 3, [])),
    (33, (.goto (-29), 3, [4])),
    (36, (.iload_n 1, 1, [])),
    (37, (.newarray .long, 2, [1, 277])),
    (39, (.astore_n 2, 1, []))]),
  (60, [(40, (.iconst 0, 1, [])),
    (41, (.istore_n 3, 1, [])),
    (42, (.iconst 0, 1, [])),
    (43, (.istore 4, 2, [])),
    (45, (.iload 4, 2, [])),
    (47, (.aload_n 0, 1, [])),
    (48, (.invokevirtual 35, 3, [0, 1, 100, 200, 201, 202])),
    (51, (.if_icmp .ge 53, 3, [104])),
    (54, (.iload_n 3, 1, [])),
    (55, (.aload_n 2, 1, [])),
    (56, (.arraylength, 1, [])),
    (57, (.if_icmp .ge 47, 3, [104]))]),
  (84, [(60, (.aload_n 0, 1, [])),
    (61, (.iload 4, 2, [])),
    (63, (.invokevirtual 41, 3, [2, 2, 100, 210, 211, 212])),
    (66, (.istore 5, 2, [])),
    (68, (.iload 5, 2, [])),
    (70, (.bipush 32, 2, [])),
    (72, (.if_icmp .ne 9, 3, [81])),
    (75, (.iinc 3 1, 3, [])),
    (78, (.goto 20, 3, [98])),
    (81, (.aload_n 2, 1, [])),
    (82, (.iload_n 3, 1, [])),
    (83, (.aload_n 2, 1, []))]),
  (98, [(84, (.iload_n 3, 1, [])),
    (85, (.laload, 1, [])),
    (86, (.iconst 5, 1, [])),
    (87, (.lshl, 1, [])),
    (88, (.iload 5, 2, [])),
    (90, (.bipush 97, 2, [])),
    (92, (.isub, 1, [])),
    (93, (.iconst 1, 1, [])),
    (94, (.iadd, 1, [])),
    (95, (.i2l, 1, [])),
    (96, (.lor, 1, [])),
    (97, (.lastore, 1, []))]),
  (100000, [(98, (.iinc 4 1, 3, [])),
    (101, (.goto (-56), 3, [45])),
    (104, (.aload_n 2, 1, [])),
    (105, (.areturn, 1, []))])]
def zi_m108 : zi_M := (⟨"AgreeTold$Tape", "packedWords", "(Ljava/lang/String;)[J"⟩, prog_10_method_2_code, 6, (some (FieldType.array FieldType.long)), zi_t108, [199, 152])
def zi_t109 : zi_T := [(100000, [(0, (.aload_n 0, 1, [])),
    (1, (.iconst 0, 1, [])),
    (2, (.putfield 1, 3, [11, 0, 1619])),
    (5, (.aload_n 0, 1, [])),
    (6, (.iload_n 1, 1, [])),
    (7, (.invokevirtual 448, 3, [36, 2, 11, 1979, 1981, 118])),
    (10, (.ifCond .eq 12, 3, [22])),
    (22, (.iconst (-1), 1, [])),
    (23, (.ireturn, 1, []))])]
def zi_m109 : zi_M := (⟨"AgreeToldModel", "prophet", "(II)I"⟩, prog_13_method_85_code, 5, (some FieldType.int), zi_t109, [1978, 166])
def zi_t110 : zi_T := [(22, [(0, (.aload_n 0, 1, [])),
    (1, (.getfield 104, 3, [11, 11, 1630])),
    (4, (.sipush 1100, 3, [])),
    (7, (.aload_n 0, 1, [])),
    (8, (.getfield 248, 3, [11, 13, 1632])),
    (11, (.iadd, 1, [])),
    (12, (.iload_n 1, 1, [])),
    (13, (.iastore, 1, [])),
    (14, (.aload_n 0, 1, [])),
    (15, (.getfield 107, 3, [11, 12, 1631])),
    (18, (.sipush 1100, 3, [])),
    (21, (.aload_n 0, 1, []))]),
  (100000, [(22, (.getfield 248, 3, [11, 13, 1632])),
    (25, (.iadd, 1, [])),
    (26, (.iload_n 2, 1, [])),
    (27, (.iastore, 1, [])),
    (28, (.aload_n 0, 1, [])),
    (29, (.dup, 1, [])),
    (30, (.getfield 248, 3, [11, 13, 1632])),
    (33, (.iconst 1, 1, [])),
    (34, (.iadd, 1, [])),
    (35, (.putfield 248, 3, [11, 13, 1632])),
    (38, (.return_, 1, []))])]
def zi_m110 : zi_M := (⟨"AgreeToldModel", "emit", "(II)V"⟩, prog_13_method_35_code, 3, (none : Option FieldType), zi_t110, [1864, 166])
def zi_t111 : zi_T := [(45, [(0, (.aload_n 0, 1, [])),
    (1, (.getfield 38, 3, [0, 4, 620])),
    (4, (.invokevirtual 423, 3, [93, 1, 7, 1204, 1205, 1206])),
    (7, (.iconst 0, 1, [])),
    (8, (.istore_n 1, 1, [])),
    (9, (.iload_n 1, 1, [])),
    (10, (.aload_n 0, 1, [])),
    (11, (.getfield 93, 3, [0, 16, 632])),
    (14, (.getfield 374, 3, [3, 19, 332])),
    (17, (.if_icmp .ge 24, 3, [41])),
    (41, (.aload_n 0, 1, [])),
    (42, (.getfield 38, 3, [0, 4, 620]))]),
  (100000, [(45, (.aload_n 0, 1, [])),
    (46, (.getfield 66, 3, [0, 9, 625])),
    (49, (.invokevirtual 428, 3, [112, 2, 7, 1212, 1213, 1214])),
    (52, (.return_, 1, []))])]
def zi_m111 : zi_M := (⟨"AgreeTold", "gatherWishes", "()V"⟩, prog_1_method_44_code, 2, (none : Option FieldType), zi_t111, [1321, 150])
def zi_t112 : zi_T := [(25, [(0, (.iconst 1, 1, [])),
    (1, (.aload_n 0, 1, [])),
    (2, (.getfield 21, 3, [7, 2, 496])),
    (5, (.ishl, 1, [])),
    (6, (.istore_n 2, 1, [])),
    (7, (.aload_n 0, 1, [])),
    (8, (.getfield 17, 3, [7, 1, 495])),
    (11, (.arraylength, 1, [])),
    (12, (.iload_n 2, 1, [])),
    (13, (.if_icmp .ge 10, 3, [23])),
    (23, (.iconst 0, 1, [])),
    (24, (.istore_n 3, 1, []))]),
  (45, [(25, (.iload_n 3, 1, [])),
    (26, (.iload_n 2, 1, [])),
    (27, (.if_icmp .ge 25, 3, [52])),
    (30, (.iload_n 3, 1, [])),
    (31, (.aload_n 0, 1, [])),
    (32, (.getfield 17, 3, [7, 1, 495])),
    (35, (.arraylength, 1, [])),
    (36, (.if_icmp .ge 16, 3, [52])),
    (39, (.aload_n 0, 1, [])),
    (40, (.getfield 17, 3, [7, 1, 495])),
    (43, (.iload_n 3, 1, [])),
    (44, (.iconst 0, 1, []))]),
  (65, [(45, (.bastore, 1, [])),
    (46, (.iinc 3 1, 3, [])),
    (49, (.goto (-24), 3, [25])),
    (52, (.iconst 0, 1, [])),
    (53, (.istore_n 3, 1, [])),
    (54, (.iload_n 3, 1, [])),
    (55, (.aload_n 1, 1, [])),
    (56, (.getfield 25, 3, [5, 1, 431])),
    (59, (.if_icmp .ge 19, 3, [78])),
    (62, (.aload_n 0, 1, [])),
    (63, (.aload_n 1, 1, [])),
    (64, (.iload_n 3, 1, []))]),
  (100000, [(65, (.invokevirtual 28, 3, [24, 2, 5, 1216, 605, 606])),
    (68, (.iload_n 3, 1, [])),
    (69, (.invokevirtual 32, 3, [95, 3, 7, 1217, 1219, 42])),
    (72, (.iinc 3 1, 3, [])),
    (75, (.goto (-21), 3, [54])),
    (78, (.aload_n 0, 1, [])),
    (79, (.iload_n 2, 1, [])),
    (80, (.invokevirtual 36, 3, [94, 2, 7, 1222, 1224, 43])),
    (83, (.return_, 1, []))])]
def zi_m112 : zi_M := (⟨"AgreeTold$Joint", "gather", "(LAgreeTold$FutureSet;)V"⟩, prog_4_method_4_code, 4, (none : Option FieldType), zi_t112, [1215, 161])
def zi_t113 : zi_T := [(100000, [(0, (.aload_n 0, 1, [])),
    (1, (.getfield 93, 3, [0, 16, 632])),
    (4, (.iload_n 1, 1, [])),
    (5, (.invokevirtual 203, 3, [34, 2, 3, 1103, 899, 900])),
    (8, (.ifCond .eq 28, 3, [36])),
    (36, (.iconst (-1), 1, [])),
    (37, (.ireturn, 1, []))])]
def zi_m113 : zi_M := (⟨"AgreeTold", "duel", "(III)I"⟩, prog_1_method_28_code, 9, (some FieldType.int), zi_t113, [1329, 150])
def zi_t114 : zi_T := [(100000, [(0, (.aload_n 0, 1, [])),
    (1, (.iconst 0, 1, [])),
    (2, (.putfield 1, 3, [11, 0, 1619])),
    (5, (.aload_n 0, 1, [])),
    (6, (.iload_n 1, 1, [])),
    (7, (.invokevirtual 445, 3, [13, 2, 11, 1971, 1973, 117])),
    (10, (.ifCond .eq 15, 3, [25])),
    (25, (.iconst (-1), 1, [])),
    (26, (.ireturn, 1, []))])]
def zi_m114 : zi_M := (⟨"AgreeToldModel", "tall", "(I)I"⟩, prog_13_method_84_code, 2, (some FieldType.int), zi_t114, [1970, 166])
def zi_t115 : zi_T := [(100000, [(0, (.aload_n 0, 1, [])),
    (1, (.iconst 0, 1, [])),
    (2, (.putfield 1, 3, [11, 0, 1619])),
    (5, (.aload_n 0, 1, [])),
    (6, (.iload_n 1, 1, [])),
    (7, (.invokevirtual 451, 3, [55, 2, 11, 1991, 1993, 119])),
    (10, (.ifCond .eq 12, 3, [22])),
    (22, (.iconst (-1), 1, [])),
    (23, (.ireturn, 1, []))])]
def zi_m115 : zi_M := (⟨"AgreeToldModel", "saying", "(II)I"⟩, prog_13_method_88_code, 3, (some FieldType.int), zi_t115, [1990, 166])
def zi_t116 : zi_T := [(100000, [(0, (.aload_n 0, 1, [])),
    (1, (.iconst 0, 1, [])),
    (2, (.putfield 1, 3, [11, 0, 1619])),
    (5, (.aload_n 0, 1, [])),
    (6, (.iload_n 1, 1, [])),
    (7, (.invokevirtual 445, 3, [13, 2, 11, 1971, 1973, 117])),
    (10, (.ifCond .eq 32, 3, [42])),
    (42, (.iconst (-1), 1, [])),
    (43, (.ireturn, 1, []))])]
def zi_m116 : zi_M := (⟨"AgreeToldModel", "came", "(II)I"⟩, prog_13_method_93_code, 3, (some FieldType.int), zi_t116, [2022, 166])
def zi_t117 : zi_T := [(100000, [(0, (.aload_n 0, 1, [])),
    (1, (.getfield 93, 3, [0, 16, 632])),
    (4, (.iload_n 1, 1, [])),
    (5, (.iload_n 2, 1, [])),
    (6, (.iload_n 3, 1, [])),
    (7, (.invokevirtual 244, 3, [28, 4, 3, 1145, 1146, 1147])),
    (10, (.ifCond .eq 25, 3, [35])),
    (35, (.iconst (-1), 1, [])),
    (36, (.ireturn, 1, []))])]
def zi_m117 : zi_M := (⟨"AgreeTold", "making", "(IIII)I"⟩, prog_1_method_20_code, 7, (some FieldType.int), zi_t117, [1247, 150])
def zi_t118 : zi_T := [(100000, [(0, (.aload_n 0, 1, [])),
    (1, (.iconst 0, 1, [])),
    (2, (.putfield 1, 3, [11, 0, 1619])),
    (5, (.aload_n 0, 1, [])),
    (6, (.iload_n 1, 1, [])),
    (7, (.invokevirtual 445, 3, [13, 2, 11, 1971, 1973, 117])),
    (10, (.ifCond .eq 20, 3, [30])),
    (30, (.iconst (-1), 1, [])),
    (31, (.ireturn, 1, []))])]
def zi_m118 : zi_M := (⟨"AgreeToldModel", "vague", "(III)I"⟩, prog_13_method_118_code, 5, (some FieldType.int), zi_t118, [2117, 166])
def zi_t119 : zi_T := [(100000, [(0, (.aload_n 0, 1, [])),
    (1, (.getfield 199, 3, [11, 8, 1627])),
    (4, (.ifCond .ne 24, 3, [28])),
    (28, (.aload_n 0, 1, [])),
    (29, (.getfield 199, 3, [11, 8, 1627])),
    (32, (.ifCond .ne 38, 3, [70])),
    (70, (.aload_n 0, 1, [])),
    (71, (.getfield 199, 3, [11, 8, 1627])),
    (74, (.ifCond .le 5, 3, [79])),
    (77, (.iconst 0, 1, [])),
    (78, (.ireturn, 1, []))])]
def zi_m119 : zi_M := (⟨"AgreeToldModel", "takeNumber", "(II)I"⟩, prog_13_method_19_code, 3, (some FieldType.int), zi_t119, [1797, 166])
def zi_t120 : zi_T := [(25, [(0, (.aload_n 0, 1, [])),
    (1, (.invokespecial 3, 3, [])),
    (4, (.aload_n 0, 1, [])),
    (5, (.new 9, 3, [2, 190, 191, 152])),
    (8, (.dup, 1, [])),
    (9, (.invokespecial 11, 3, [144, 1, 1, 192, 193])),
    (12, (.putfield 12, 3, [1, 0, 374])),
    (15, (.aload_n 0, 1, [])),
    (16, (.ldc 18, 2, [1, 1])),
    (18, (.invokestatic 20, 3, [108, 1, 0, 280, 198])),
    (21, (.putfield 24, 3, [1, 1, 376])),
    (24, (.aload_n 0, 1, []))]),
  (100000, [(25, (.sipush 1002, 3, [])),
    (28, (.newarray .int, 2, [0, 276])),
    (30, (.putfield 28, 3, [1, 2, 377])),
    (33, (.aload_n 0, 1, [])),
    (34, (.new 32, 3, [3, 281, 282, 157])),
    (37, (.dup, 1, [])),
    (38, (.invokespecial 34, 3, [65, 1, 1, 283, 284])),
    (41, (.putfield 35, 3, [1, 6, 385])),
    (44, (.return_, 1, []))])]
def zi_m120 : zi_M := (⟨"AgreeTold$Reader", "<init>", "()V"⟩, prog_7_method_1_code, 1, (none : Option FieldType), zi_t120, [188, 151])
def zi_t121 : zi_T := [(16, [(0, (.aload_n 0, 1, [])),
    (1, (.iconst 0, 1, [])),
    (2, (.putfield 1, 3, [11, 0, 1619])),
    (5, (.iconst (-1), 1, [])),
    (6, (.istore_n 1, 1, [])),
    (7, (.iconst 0, 1, [])),
    (8, (.istore_n 2, 1, [])),
    (9, (.iload_n 2, 1, [])),
    (10, (.aload_n 0, 1, [])),
    (11, (.getfield 138, 3, [11, 29, 1648])),
    (14, (.iconst 2, 1, [])),
    (15, (.iaload, 1, []))]),
  (100000, [(16, (.if_icmp .ge 142, 3, [158])),
    (158, (.iload_n 1, 1, [])),
    (159, (.ireturn, 1, []))])]
def zi_m121 : zi_M := (⟨"AgreeToldModel", "shorted", "()I"⟩, prog_13_method_132_code, 7, (some FieldType.int), zi_t121, [2189, 166])
def zi_t122 : zi_T := [(100000, [(0, (.aload_n 0, 1, [])),
    (1, (.aload_n 0, 1, [])),
    (2, (.getfield 66, 3, [0, 9, 625])),
    (5, (.invokevirtual 348, 3, [136, 2, 0, 567, 569, 1])),
    (8, (.iconst 0, 1, [])),
    (9, (.istore_n 1, 1, [])),
    (10, (.iload_n 1, 1, [])),
    (11, (.aload_n 0, 1, [])),
    (12, (.getfield 52, 3, [0, 6, 622])),
    (15, (.getfield 134, 3, [9, 6, 534])),
    (18, (.if_icmp .ge 21, 3, [39])),
    (39, (.return_, 1, []))])]
def zi_m122 : zi_M := (⟨"AgreeTold", "refreshLeft", "()V"⟩, prog_1_method_39_code, 2, (none : Option FieldType), zi_t122, [566, 150])
def zi_t123 : zi_T := [(32, [(0, (.aload_n 0, 1, [])),
    (1, (.getfield 50, 3, [1, 9, 388])),
    (4, (.iconst 3, 1, [])),
    (5, (.if_icmp .ne 15, 3, [20])),
    (20, (.iconst (-1), 1, [])),
    (21, (.istore_n 3, 1, [])),
    (22, (.iload_n 3, 1, [])),
    (23, (.iconst (-1), 1, [])),
    (24, (.if_icmp .ne 20, 3, [44])),
    (27, (.aload_n 0, 1, [])),
    (28, (.aload_n 0, 1, [])),
    (29, (.getfield 50, 3, [1, 9, 388]))]),
  (100000, [(32, (.iconst 3, 1, [])),
    (33, (.if_icmp .ne 7, 3, [40])),
    (40, (.iconst 1, 1, [])),
    (41, (.invokevirtual 71, 3, [32, 2, 1, 799, 801, 13])),
    (44, (.aload_n 0, 1, [])),
    (45, (.invokevirtual 114, 3, [25, 1, 1, 787, 789, 10])),
    (48, (.iload_n 3, 1, [])),
    (49, (.ireturn, 1, []))])]
def zi_m123 : zi_M := (⟨"AgreeTold$Reader", "takeName", "([JI)I"⟩, prog_7_method_21_code, 4, (some FieldType.int), zi_t123, [874, 151])
def zi_t124 : zi_T := [(20, [(0, (.aload_n 0, 1, [])),
    (1, (.aload_n 1, 1, [])),
    (2, (.getfield 15, 3, [5, 1, 430])),
    (5, (.invokevirtual 38, 3, [159, 2, 5, 575, 576, 577])),
    (8, (.iconst 0, 1, [])),
    (9, (.istore_n 2, 1, [])),
    (10, (.iload_n 2, 1, [])),
    (11, (.aload_n 0, 1, [])),
    (12, (.getfield 15, 3, [5, 1, 430])),
    (15, (.if_icmp .ge 39, 3, [54])),
    (18, (.iload_n 2, 1, [])),
    (19, (.aload_n 0, 1, []))]),
  (42, [(20, (.getfield 9, 3, [5, 0, 428])),
    (23, (.arraylength, 1, [])),
    (24, (.if_icmp .ge 30, 3, [54])),
    (27, (.iload_n 2, 1, [])),
    (28, (.aload_n 1, 1, [])),
    (29, (.getfield 9, 3, [5, 0, 428])),
    (32, (.arraylength, 1, [])),
    (33, (.if_icmp .ge 21, 3, [54])),
    (36, (.aload_n 0, 1, [])),
    (37, (.getfield 9, 3, [5, 0, 428])),
    (40, (.iload_n 2, 1, [])),
    (41, (.aload_n 1, 1, []))]),
  (100000, [(42, (.getfield 9, 3, [5, 0, 428])),
    (45, (.iload_n 2, 1, [])),
    (46, (.laload, 1, [])),
    (47, (.lastore, 1, [])),
    (48, (.iinc 2 1, 3, [])),
    (51, (.goto (-41), 3, [10])),
    (54, (.return_, 1, []))])]
def zi_m124 : zi_M := (⟨"AgreeTold$FutureSet", "copyFrom", "(LAgreeTold$FutureSet;)V"⟩, prog_3_method_6_code, 3, (none : Option FieldType), zi_t124, [574, 159])
def zi_t125 : zi_T := [(24, [(0, (.aload_n 0, 1, [])),
    (1, (.getfield 20, 3, [0, 1, 617])),
    (4, (.invokevirtual 110, 3, [59, 1, 2, 687, 688, 689])),
    (7, (.aload_n 0, 1, [])),
    (8, (.getfield 10, 3, [0, 0, 616])),
    (11, (.aload_n 0, 1, [])),
    (12, (.getfield 93, 3, [0, 16, 632])),
    (15, (.invokevirtual 131, 3, [155, 2, 1, 994, 995, 996])),
    (18, (.istore_n 1, 1, [])),
    (19, (.iload_n 1, 1, [])),
    (20, (.ifCond .eq 5, 3, [25])),
    (23, (.iload_n 1, 1, []))]),
  (100000, [(24, (.ireturn, 1, []))])]
def zi_m125 : zi_M := (⟨"AgreeTold", "tell", "()I"⟩, prog_1_method_4_code, 5, (some FieldType.int), zi_t125, [993, 150])
def zi_t126 : zi_T := [(100000, [(0, (.aload_n 0, 1, [])),
    (1, (.iconst 0, 1, [])),
    (2, (.putfield 1, 3, [11, 0, 1619])),
    (5, (.aload_n 0, 1, [])),
    (6, (.getfield 371, 3, [11, 30, 1649])),
    (9, (.ifCond .ne 5, 3, [14])),
    (12, (.iconst 0, 1, [])),
    (13, (.ireturn, 1, []))])]
def zi_m126 : zi_M := (⟨"AgreeToldModel", "undo", "()Z"⟩, prog_13_method_95_code, 1, (some FieldType.boolean), zi_t126, [2034, 166])
def zi_t127 : zi_T := [(100000, [(0, (.aload_n 0, 1, [])),
    (1, (.iconst 0, 1, [])),
    (2, (.putfield 1, 3, [11, 0, 1619])),
    (5, (.aload_n 0, 1, [])),
    (6, (.getfield 145, 3, [11, 32, 1651])),
    (9, (.iconst 0, 1, [])),
    (10, (.baload, 1, [])),
    (11, (.ifCond .eq 12, 3, [23])),
    (23, (.iconst (-1), 1, [])),
    (24, (.ireturn, 1, []))])]
def zi_m127 : zi_M := (⟨"AgreeToldModel", "asked", "(I)I"⟩, prog_13_method_100_code, 4, (some FieldType.int), zi_t127, [2053, 166])
def zi_t128 : zi_T := [(16, [(0, (.iload_n 0, 1, [])),
    (1, (.iload_n 0, 1, [])),
    (2, (.iconst 1, 1, [])),
    (3, (.iushr, 1, [])),
    (4, (.ldc_w 265, 3, [0, 1431655765, 1233])),
    (7, (.iand, 1, [])),
    (8, (.isub, 1, [])),
    (9, (.istore_n 0, 1, [])),
    (10, (.iload_n 0, 1, [])),
    (11, (.ldc_w 266, 3, [0, 858993459, 1234])),
    (14, (.iand, 1, [])),
    (15, (.iload_n 0, 1, []))]),
  (32, [(16, (.iconst 2, 1, [])),
    (17, (.iushr, 1, [])),
    (18, (.ldc_w 266, 3, [0, 858993459, 1234])),
    (21, (.iand, 1, [])),
    (22, (.iadd, 1, [])),
    (23, (.istore_n 0, 1, [])),
    (24, (.iload_n 0, 1, [])),
    (25, (.iload_n 0, 1, [])),
    (26, (.iconst 4, 1, [])),
    (27, (.iushr, 1, [])),
    (28, (.iadd, 1, [])),
    (29, (.ldc_w 267, 3, [0, 252645135, 1235]))]),
  (46, [(32, (.iand, 1, [])),
    (33, (.istore_n 0, 1, [])),
    (34, (.iload_n 0, 1, [])),
    (35, (.iload_n 0, 1, [])),
    (36, (.bipush 8, 2, [])),
    (38, (.iushr, 1, [])),
    (39, (.iadd, 1, [])),
    (40, (.istore_n 0, 1, [])),
    (41, (.iload_n 0, 1, [])),
    (42, (.iload_n 0, 1, [])),
    (43, (.bipush 16, 2, [])),
    (45, (.iushr, 1, []))]),
  (100000, [(46, (.iadd, 1, [])),
    (47, (.istore_n 0, 1, [])),
    (48, (.iload_n 0, 1, [])),
    (49, (.bipush 63, 2, [])),
    (51, (.iand, 1, [])),
    (52, (.ireturn, 1, []))])]
def zi_m128 : zi_M := (⟨"java/lang/Integer", "bitCount", "(I)I"⟩, prog_19_method_49_code, 1, (some FieldType.int), zi_t128, [1232, 171])
def zi_t129 : zi_T := [(20, [(0, (.aload_n 0, 1, [])),
    (1, (.iconst 4, 1, [])),
    (2, (.invokevirtual 102, 3, [37, 2, 1, 795, 797, 12])),
    (5, (.aload_n 0, 1, [])),
    (6, (.iconst 1, 1, [])),
    (7, (.bipush 6, 2, [])),
    (9, (.invokevirtual 117, 3, [149, 3, 1, 803, 805, 14])),
    (12, (.istore_n 1, 1, [])),
    (13, (.aload_n 0, 1, [])),
    (14, (.bipush 59, 2, [])),
    (16, (.invokevirtual 102, 3, [37, 2, 1, 795, 797, 12])),
    (19, (.aload_n 0, 1, []))]),
  (100000, [(20, (.getfield 46, 3, [1, 11, 390])),
    (23, (.ifCond .ne 11, 3, [34])),
    (34, (.return_, 1, []))])]
def zi_m129 : zi_M := (⟨"AgreeTold$Reader", "readDays", "()V"⟩, prog_7_method_6_code, 2, (none : Option FieldType), zi_t129, [794, 151])
def zi_t130 : zi_T := [(22, [(0, (.aload_n 0, 1, [])),
    (1, (.iconst 0, 1, [])),
    (2, (.putfield 1, 3, [11, 0, 1619])),
    (5, (.aload_n 0, 1, [])),
    (6, (.iconst 1, 1, [])),
    (7, (.invokevirtual 431, 3, [88, 2, 11, 1912, 1914, 107])),
    (10, (.istore_n 1, 1, [])),
    (11, (.aload_n 0, 1, [])),
    (12, (.getfield 199, 3, [11, 8, 1627])),
    (15, (.ifCond .le 8, 3, [23])),
    (18, (.aload_n 0, 1, [])),
    (19, (.getfield 199, 3, [11, 8, 1627]))]),
  (100000, [(22, (.ireturn, 1, []))])]
def zi_m130 : zi_M := (⟨"AgreeToldModel", "tell", "()I"⟩, prog_13_method_82_code, 7, (some FieldType.int), zi_t130, [1911, 166])
def zi_t131 : zi_T := [(45, [(0, (.lconst 1, 1, [])),
    (1, (.lstore_n 3, 1, [])),
    (2, (.iconst 0, 1, [])),
    (3, (.istore 5, 2, [])),
    (5, (.iload 5, 2, [])),
    (7, (.iload_n 0, 1, [])),
    (8, (.iload_n 1, 1, [])),
    (9, (.imul, 1, [])),
    (10, (.if_icmp .ge 30, 3, [40])),
    (40, (.lload_n 3, 1, [])),
    (41, (.ldc2_w 275, 3, [32768, 1571])),
    (44, (.lcmp, 1, []))]),
  (100000, [(45, (.ifCond .le 7, 3, [52])),
    (52, (.lload_n 3, 1, [])),
    (53, (.l2i, 1, [])),
    (54, (.ireturn, 1, []))])]
def zi_m131 : zi_M := (⟨"AgreeToldModel", "futuresOf", "(III)I"⟩, prog_13_method_28_code, 6, (some FieldType.int), zi_t131, [1570, 166])
def zi_t132 : zi_T := [(100000, [(0, (.aload_n 0, 1, [])),
    (1, (.invokevirtual 301, 3, [75, 1, 0, 1200, 1202, 41])),
    (4, (.ifCond .ne 5, 3, [9])),
    (7, (.iconst (-1), 1, [])),
    (8, (.ireturn, 1, []))])]
def zi_m132 : zi_M := (⟨"AgreeTold", "struck", "()I"⟩, prog_1_method_19_code, 6, (some FieldType.int), zi_t132, [1239, 150])
def zi_t133 : zi_T := [(100000, [(0, (.aload_n 0, 1, [])),
    (1, (.iconst 0, 1, [])),
    (2, (.putfield 1, 3, [11, 0, 1619])),
    (5, (.aload_n 0, 1, [])),
    (6, (.getfield 145, 3, [11, 32, 1651])),
    (9, (.iconst 0, 1, [])),
    (10, (.baload, 1, [])),
    (11, (.ifCond .eq 11, 3, [22])),
    (22, (.iconst (-1), 1, [])),
    (23, (.ireturn, 1, []))])]
def zi_m133 : zi_M := (⟨"AgreeToldModel", "struck", "()I"⟩, prog_13_method_106_code, 1, (some FieldType.int), zi_t133, [2076, 166])
def zi_t134 : zi_T := [(100000, [(0, (.aload_n 0, 1, [])),
    (1, (.invokespecial 1, 3, [])),
    (4, (.return_, 1, []))])]
def zi_m134 : zi_M := (⟨"AgreeTold$Draws", "<init>", "()V"⟩, prog_2_method_1_code, 1, (none : Option FieldType), zi_t134, [509, 162])
def zi_t135 : zi_T := [(17, [(0, (.aload_n 0, 1, [])),
    (1, (.getfield 129, 3, [11, 23, 1642])),
    (4, (.sipush 512, 3, [])),
    (7, (.iload_n 1, 1, [])),
    (8, (.imul, 1, [])),
    (9, (.iload_n 2, 1, [])),
    (10, (.bipush 64, 2, [])),
    (12, (.idiv, 1, [])),
    (13, (.iadd, 1, [])),
    (14, (.dup2, 1, [])),
    (15, (.laload, 1, [])),
    (16, (.lconst 1, 1, []))]),
  (100000, [(17, (.iload_n 2, 1, [])),
    (18, (.bipush 64, 2, [])),
    (20, (.irem, 1, [])),
    (21, (.lshl, 1, [])),
    (22, (.lor, 1, [])),
    (23, (.lastore, 1, [])),
    (24, (.return_, 1, []))])]
def zi_m135 : zi_M := (⟨"AgreeToldModel", "sets", "(II)V"⟩, prog_13_method_59_code, 3, (none : Option FieldType), zi_t135, [1583, 166])
def zi_t136 : zi_T := [(24, [(0, (.aload_n 1, 1, [])),
    (1, (.aload_n 0, 1, [])),
    (2, (.getfield 24, 3, [0, 2, 618])),
    (5, (.getfield 219, 3, [4, 0, 444])),
    (8, (.invokevirtual 357, 3, [124, 2, 5, 571, 572, 573])),
    (11, (.iconst 1, 1, [])),
    (12, (.istore_n 2, 1, [])),
    (13, (.iload_n 2, 1, [])),
    (14, (.aload_n 0, 1, [])),
    (15, (.getfield 93, 3, [0, 16, 632])),
    (18, (.getfield 328, 3, [3, 14, 313])),
    (21, (.if_icmp .gt 69, 3, [90]))]),
  (100000, [(24, (.iconst 0, 1, [])),
    (25, (.istore_n 3, 1, [])),
    (26, (.iload_n 3, 1, [])),
    (27, (.aload_n 0, 1, [])),
    (28, (.getfield 93, 3, [0, 16, 632])),
    (31, (.getfield 264, 3, [3, 15, 317])),
    (34, (.if_icmp .ge 50, 3, [84])),
    (84, (.iinc 2 1, 3, [])),
    (87, (.goto (-74), 3, [13])),
    (90, (.return_, 1, []))])]
def zi_m136 : zi_M := (⟨"AgreeTold", "groundInto", "(LAgreeTold$FutureSet;)V"⟩, prog_1_method_38_code, 5, (none : Option FieldType), zi_t136, [570, 150])
def zi_t137 : zi_T := [(26, [(0, (.aload_n 0, 1, [])),
    (1, (.invokespecial 1, 3, [])),
    (4, (.aload_n 0, 1, [])),
    (5, (.new 7, 3, [1, 184, 185, 151])),
    (8, (.dup, 1, [])),
    (9, (.invokespecial 9, 3, [120, 1, 1, 186, 187])),
    (12, (.putfield 10, 3, [0, 0, 616])),
    (15, (.aload_n 0, 1, [])),
    (16, (.aload_n 0, 1, [])),
    (17, (.getfield 10, 3, [0, 0, 616])),
    (20, (.getfield 16, 3, [1, 0, 375])),
    (23, (.putfield 20, 3, [0, 1, 617]))]),
  (52, [(26, (.aload_n 0, 1, [])),
    (27, (.new 21, 3, [4, 416, 417, 158])),
    (30, (.dup, 1, [])),
    (31, (.invokespecial 23, 3, [158, 1, 0, 418, 419])),
    (34, (.putfield 24, 3, [0, 2, 618])),
    (37, (.aload_n 0, 1, [])),
    (38, (.new 28, 3, [6, 477, 478, 160])),
    (41, (.dup, 1, [])),
    (42, (.invokespecial 30, 3, [164, 1, 1, 479, 480])),
    (45, (.putfield 31, 3, [0, 3, 619])),
    (48, (.aload_n 0, 1, [])),
    (49, (.new 35, 3, [7, 487, 488, 161]))]),
  (78, [(52, (.dup, 1, [])),
    (53, (.invokespecial 37, 3, [141, 1, 1, 489, 490])),
    (56, (.putfield 38, 3, [0, 4, 620])),
    (59, (.aload_n 0, 1, [])),
    (60, (.new 42, 3, [8, 505, 506, 162])),
    (63, (.dup, 1, [])),
    (64, (.invokespecial 44, 3, [134, 1, 1, 507, 508])),
    (67, (.putfield 45, 3, [0, 5, 621])),
    (70, (.aload_n 0, 1, [])),
    (71, (.new 49, 3, [9, 515, 516, 163])),
    (74, (.dup, 1, [])),
    (75, (.invokespecial 51, 3, [48, 1, 0, 517, 518]))]),
  (103, [(78, (.putfield 52, 3, [0, 6, 622])),
    (81, (.aload_n 0, 1, [])),
    (82, (.bipush 16, 2, [])),
    (84, (.anewarray 49, 3, [5, 515])),
    (87, (.putfield 56, 3, [0, 7, 623])),
    (90, (.aload_n 0, 1, [])),
    (91, (.iconst 4, 1, [])),
    (92, (.anewarray 49, 3, [5, 515])),
    (95, (.putfield 60, 3, [0, 8, 624])),
    (98, (.aload_n 0, 1, [])),
    (99, (.new 63, 3, [5, 559, 423, 159])),
    (102, (.dup, 1, []))]),
  (131, [(103, (.invokespecial 65, 3, [41, 1, 1, 560, 425])),
    (106, (.putfield 66, 3, [0, 9, 625])),
    (109, (.aload_n 0, 1, [])),
    (110, (.new 63, 3, [5, 559, 423, 159])),
    (113, (.dup, 1, [])),
    (114, (.invokespecial 65, 3, [41, 1, 1, 560, 425])),
    (117, (.putfield 70, 3, [0, 10, 626])),
    (120, (.aload_n 0, 1, [])),
    (121, (.new 63, 3, [5, 559, 423, 159])),
    (124, (.dup, 1, [])),
    (125, (.invokespecial 65, 3, [41, 1, 1, 560, 425])),
    (128, (.putfield 73, 3, [0, 11, 627]))]),
  (153, [(131, (.aload_n 0, 1, [])),
    (132, (.bipush 96, 2, [])),
    (134, (.newarray .int, 2, [0, 276])),
    (136, (.putfield 76, 3, [0, 12, 628])),
    (139, (.aload_n 0, 1, [])),
    (140, (.iconst 2, 1, [])),
    (141, (.newarray .int, 2, [0, 276])),
    (143, (.putfield 80, 3, [0, 13, 629])),
    (146, (.aload_n 0, 1, [])),
    (147, (.iconst 5, 1, [])),
    (148, (.newarray .int, 2, [0, 276])),
    (150, (.putfield 83, 3, [0, 14, 630]))]),
  (100000, [(153, (.aload_n 0, 1, [])),
    (154, (.bipush 64, 2, [])),
    (156, (.newarray .boolean, 2, [2, 504])),
    (158, (.putfield 86, 3, [0, 15, 631])),
    (161, (.aload_n 0, 1, [])),
    (162, (.new 90, 3, [3, 561, 282, 157])),
    (165, (.dup, 1, [])),
    (166, (.invokespecial 92, 3, [65, 1, 1, 562, 284])),
    (169, (.putfield 93, 3, [0, 16, 632])),
    (172, (.aload_n 0, 1, [])),
    (173, (.invokevirtual 97, 3, [122, 1, 0, 563, 565, 0])),
    (176, (.return_, 1, []))])]
def zi_m137 : zi_M := (⟨"AgreeTold", "<init>", "()V"⟩, prog_1_method_1_code, 1, (none : Option FieldType), zi_t137, [180, 150])
def zi_t138 : zi_T := [(31, [(0, (.aload_n 0, 1, [])),
    (1, (.invokevirtual 337, 3, [56, 1, 11, 1556, 1558, 61])),
    (4, (.ifCond .ne 7, 3, [11])),
    (7, (.iconst 0, 1, [])),
    (8, (.goto 12, 3, [20])),
    (20, (.istore_n 1, 1, [])),
    (21, (.aload_n 0, 1, [])),
    (22, (.aload_n 0, 1, [])),
    (23, (.invokevirtual 340, 3, [8, 1, 11, 1560, 1562, 62])),
    (26, (.aload_n 0, 1, [])),
    (27, (.invokevirtual 334, 3, [7, 1, 11, 1564, 1566, 63])),
    (30, (.aload_n 0, 1, []))]),
  (55, [(31, (.invokevirtual 337, 3, [56, 1, 11, 1556, 1558, 61])),
    (34, (.invokestatic 277, 3, [131, 3, 0, 1568, 1569])),
    (37, (.putfield 343, 3, [11, 24, 1643])),
    (40, (.aload_n 0, 1, [])),
    (41, (.aload_n 0, 1, [])),
    (42, (.getfield 343, 3, [11, 24, 1643])),
    (45, (.bipush 63, 2, [])),
    (47, (.iadd, 1, [])),
    (48, (.bipush 64, 2, [])),
    (50, (.idiv, 1, [])),
    (51, (.putfield 346, 3, [11, 25, 1644])),
    (54, (.iconst 1, 1, []))]),
  (91, [(55, (.istore_n 2, 1, [])),
    (56, (.iload_n 1, 1, [])),
    (57, (.iconst 1, 1, [])),
    (58, (.isub, 1, [])),
    (59, (.istore_n 3, 1, [])),
    (60, (.iload_n 3, 1, [])),
    (61, (.ifCond .lt 23, 3, [84])),
    (84, (.aload_n 0, 1, [])),
    (85, (.iconst 0, 1, [])),
    (86, (.putfield 224, 3, [11, 20, 1639])),
    (89, (.iconst 0, 1, [])),
    (90, (.istore_n 3, 1, []))]),
  (115, [(91, (.iload_n 3, 1, [])),
    (92, (.bipush 32, 2, [])),
    (94, (.if_icmp .ge 14, 3, [108])),
    (97, (.aload_n 0, 1, [])),
    (98, (.iload_n 3, 1, [])),
    (99, (.invokevirtual 349, 3, [11, 2, 11, 1572, 1574, 64])),
    (102, (.iinc 3 1, 3, [])),
    (105, (.goto (-14), 3, [91])),
    (108, (.aload_n 0, 1, [])),
    (109, (.bipush 32, 2, [])),
    (111, (.invokevirtual 349, 3, [11, 2, 11, 1572, 1574, 64])),
    (114, (.iconst 0, 1, []))]),
  (135, [(115, (.istore_n 3, 1, [])),
    (116, (.iload_n 3, 1, [])),
    (117, (.aload_n 0, 1, [])),
    (118, (.getfield 343, 3, [11, 24, 1643])),
    (121, (.if_icmp .ge 113, 3, [234])),
    (124, (.aload_n 0, 1, [])),
    (125, (.iload_n 3, 1, [])),
    (126, (.invokevirtual 352, 3, [139, 2, 11, 1576, 1578, 65])),
    (129, (.iconst 0, 1, [])),
    (130, (.istore 4, 2, [])),
    (132, (.iload 4, 2, [])),
    (134, (.iload_n 1, 1, []))]),
  (218, [(135, (.if_icmp .ge 29, 3, [164])),
    (164, (.iconst 1, 1, [])),
    (165, (.istore 4, 2, [])),
    (167, (.iconst 0, 1, [])),
    (168, (.istore 5, 2, [])),
    (170, (.iload 5, 2, [])),
    (172, (.aload_n 0, 1, [])),
    (173, (.getfield 101, 3, [11, 10, 1629])),
    (176, (.iconst 4, 1, [])),
    (177, (.iaload, 1, [])),
    (178, (.if_icmp .ge 38, 3, [216])),
    (216, (.iload 4, 2, []))]),
  (241, [(218, (.ifCond .eq 10, 3, [228])),
    (221, (.aload_n 0, 1, [])),
    (222, (.bipush 32, 2, [])),
    (224, (.iload_n 3, 1, [])),
    (225, (.invokevirtual 355, 3, [135, 3, 11, 1580, 1582, 66])),
    (228, (.iinc 3 1, 3, [])),
    (231, (.goto (-115), 3, [116])),
    (234, (.iconst 0, 1, [])),
    (235, (.istore_n 3, 1, [])),
    (236, (.iload_n 3, 1, [])),
    (237, (.aload_n 0, 1, [])),
    (238, (.getfield 101, 3, [11, 10, 1629]))]),
  (100000, [(241, (.iconst 5, 1, [])),
    (242, (.iaload, 1, [])),
    (243, (.if_icmp .ge 49, 3, [292])),
    (292, (.return_, 1, []))])]
def zi_m138 : zi_M := (⟨"AgreeToldModel", "findsFutures", "()V"⟩, prog_13_method_55_code, 6, (none : Option FieldType), zi_t138, [1555, 166])
def zi_t139 : zi_T := [(100000, [(0, (.aload_n 0, 1, [])),
    (1, (.invokevirtual 337, 3, [56, 1, 11, 1556, 1558, 61])),
    (4, (.ifCond .ne 7, 3, [11])),
    (7, (.iconst 0, 1, [])),
    (8, (.goto 12, 3, [20])),
    (20, (.istore_n 2, 1, [])),
    (21, (.iconst 0, 1, [])),
    (22, (.istore_n 3, 1, [])),
    (23, (.iload_n 3, 1, [])),
    (24, (.iload_n 2, 1, [])),
    (25, (.if_icmp .ge 28, 3, [53])),
    (53, (.return_, 1, []))])]
def zi_m139 : zi_M := (⟨"AgreeToldModel", "laysFuture", "(I)V"⟩, prog_13_method_68_code, 4, (none : Option FieldType), zi_t139, [1579, 166])
def zi_t140 : zi_T := [(100000, [(0, (.iconst 0, 1, [])),
    (1, (.istore_n 2, 1, [])),
    (2, (.iconst 0, 1, [])),
    (3, (.istore_n 3, 1, [])),
    (4, (.iload_n 3, 1, [])),
    (5, (.aload_n 0, 1, [])),
    (6, (.getfield 52, 3, [0, 6, 622])),
    (9, (.getfield 277, 3, [9, 8, 538])),
    (12, (.if_icmp .ge 112, 3, [124])),
    (124, (.iload_n 2, 1, [])),
    (125, (.ireturn, 1, []))])]
def zi_m140 : zi_M := (⟨"AgreeTold", "promisesOutside", "(I)I"⟩, prog_1_method_53_code, 7, (some FieldType.int), zi_t140, [1341, 150])
def zi_t141 : zi_T := [(100000, [(0, (.aload_n 0, 1, [])),
    (1, (.invokespecial 3, 3, [])),
    (4, (.aload_n 0, 1, [])),
    (5, (.bipush 12, 2, [])),
    (7, (.anewarray 9, 3, [4, 493])),
    (10, (.putfield 11, 3, [7, 0, 494])),
    (13, (.aload_n 0, 1, [])),
    (14, (.iconst 1, 1, [])),
    (15, (.newarray .boolean, 2, [2, 504])),
    (17, (.putfield 17, 3, [7, 1, 495])),
    (20, (.return_, 1, []))])]
def zi_m141 : zi_M := (⟨"AgreeTold$Joint", "<init>", "()V"⟩, prog_4_method_1_code, 1, (none : Option FieldType), zi_t141, [491, 161])
def zi_t142 : zi_T := [(22, [(0, (.aload_n 0, 1, [])),
    (1, (.aload_n 1, 1, [])),
    (2, (.invokevirtual 39, 3, [61, 2, 1, 783, 785, 9])),
    (5, (.aload_n 0, 1, [])),
    (6, (.invokevirtual 43, 3, [129, 1, 1, 791, 793, 11])),
    (9, (.iconst 0, 1, [])),
    (10, (.istore_n 2, 1, [])),
    (11, (.iload_n 2, 1, [])),
    (12, (.sipush 1000, 3, [])),
    (15, (.if_icmp .ge 126, 3, [141])),
    (18, (.aload_n 0, 1, [])),
    (19, (.getfield 46, 3, [1, 11, 390]))]),
  (100000, [(22, (.ifCond .ne 119, 3, [141])),
    (141, (.aload_n 0, 1, [])),
    (142, (.getfield 46, 3, [1, 11, 390])),
    (145, (.ireturn, 1, []))])]
def zi_m142 : zi_M := (⟨"AgreeTold$Reader", "readLand", "(LAgreeTold$Land;)I"⟩, prog_7_method_2_code, 3, (some FieldType.int), zi_t142, [782, 151])
def zi_t143 : zi_T := [(26, [(0, (.aload_n 0, 1, [])),
    (1, (.getfield 199, 3, [11, 8, 1627])),
    (4, (.ifCond .ne 15, 3, [19])),
    (7, (.aload_n 0, 1, [])),
    (8, (.invokevirtual 233, 3, [91, 1, 11, 1818, 1820, 86])),
    (11, (.ifCond .ne 8, 3, [19])),
    (14, (.aload_n 0, 1, [])),
    (15, (.iconst 1, 1, [])),
    (16, (.invokevirtual 205, 3, [38, 2, 11, 1790, 1792, 79])),
    (19, (.aload_n 0, 1, [])),
    (20, (.getfield 199, 3, [11, 8, 1627])),
    (23, (.ifCond .le 5, 3, [28]))]),
  (100000, [(26, (.iconst 0, 1, [])),
    (27, (.ireturn, 1, []))])]
def zi_m143 : zi_M := (⟨"AgreeToldModel", "takeTold", "(II)I"⟩, prog_13_method_24_code, 6, (some FieldType.int), zi_t143, [1876, 166])
def zi_t144 : zi_T := [(26, [(0, (.aload_n 0, 1, [])),
    (1, (.invokespecial 3, 3, [])),
    (4, (.aload_n 0, 1, [])),
    (5, (.sipush 1000, 3, [])),
    (8, (.newarray .char, 2, [3, 275])),
    (10, (.putfield 9, 3, [2, 0, 248])),
    (13, (.aload_n 0, 1, [])),
    (14, (.sipush 1001, 3, [])),
    (17, (.newarray .int, 2, [0, 276])),
    (19, (.putfield 15, 3, [2, 1, 249])),
    (22, (.aload_n 0, 1, [])),
    (23, (.sipush 1001, 3, []))]),
  (100000, [(26, (.newarray .int, 2, [0, 276])),
    (28, (.putfield 19, 3, [2, 2, 251])),
    (31, (.aload_n 0, 1, [])),
    (32, (.sipush 1001, 3, [])),
    (35, (.newarray .long, 2, [1, 277])),
    (37, (.putfield 22, 3, [2, 3, 253])),
    (40, (.aload_n 0, 1, [])),
    (41, (.ldc 26, 2, [1, 0])),
    (43, (.invokestatic 28, 3, [108, 1, 0, 197, 198])),
    (46, (.putfield 32, 3, [2, 4, 255])),
    (49, (.return_, 1, []))])]
def zi_m144 : zi_M := (⟨"AgreeTold$Tape", "<init>", "()V"⟩, prog_10_method_1_code, 1, (none : Option FieldType), zi_t144, [194, 152])
def zi_t145 : zi_T := [(20, [(0, (.aload_n 0, 1, [])),
    (1, (.getfield 93, 3, [0, 16, 632])),
    (4, (.getfield 328, 3, [3, 14, 313])),
    (7, (.aload_n 0, 1, [])),
    (8, (.getfield 52, 3, [0, 6, 622])),
    (11, (.getfield 241, 3, [9, 7, 536])),
    (14, (.isub, 1, [])),
    (15, (.iconst 1, 1, [])),
    (16, (.iadd, 1, [])),
    (17, (.istore_n 1, 1, [])),
    (18, (.iconst (-1), 1, [])),
    (19, (.istore_n 2, 1, []))]),
  (100000, [(20, (.iconst 0, 1, [])),
    (21, (.istore_n 3, 1, [])),
    (22, (.iload_n 3, 1, [])),
    (23, (.aload_n 0, 1, [])),
    (24, (.getfield 52, 3, [0, 6, 622])),
    (27, (.getfield 277, 3, [9, 8, 538])),
    (30, (.if_icmp .ge 51, 3, [81])),
    (81, (.iload_n 2, 1, [])),
    (82, (.ireturn, 1, []))])]
def zi_m145 : zi_M := (⟨"AgreeTold", "shorted", "()I"⟩, prog_1_method_30_code, 5, (some FieldType.int), zi_t145, [1354, 150])
def zi_t146 : zi_T := [(20, [(0, (.aload_n 0, 1, [])),
    (1, (.iconst 0, 1, [])),
    (2, (.putfield 1, 3, [11, 0, 1619])),
    (5, (.aload_n 0, 1, [])),
    (6, (.invokevirtual 245, 3, [64, 1, 11, 1759, 1761, 75])),
    (9, (.aload_n 0, 1, [])),
    (10, (.iconst 0, 1, [])),
    (11, (.putfield 248, 3, [11, 13, 1632])),
    (14, (.aload_n 0, 1, [])),
    (15, (.iconst 0, 1, [])),
    (16, (.putfield 230, 3, [11, 19, 1638])),
    (19, (.aload_n 0, 1, []))]),
  (43, [(20, (.bipush 50, 2, [])),
    (22, (.putfield 224, 3, [11, 20, 1639])),
    (25, (.aload_n 0, 1, [])),
    (26, (.bipush 50, 2, [])),
    (28, (.invokevirtual 166, 3, [96, 2, 11, 1544, 1546, 58])),
    (31, (.aload_n 0, 1, [])),
    (32, (.iconst 0, 1, [])),
    (33, (.invokevirtual 214, 3, [157, 2, 11, 1778, 1780, 76])),
    (36, (.aload_n 0, 1, [])),
    (37, (.getfield 101, 3, [11, 10, 1629])),
    (40, (.bipush 50, 2, [])),
    (42, (.aload_n 0, 1, []))]),
  (92, [(43, (.iconst 1, 1, [])),
    (44, (.bipush 6, 2, [])),
    (46, (.invokevirtual 217, 3, [119, 3, 11, 1794, 1796, 80])),
    (49, (.iastore, 1, [])),
    (50, (.aload_n 0, 1, [])),
    (51, (.bipush 59, 2, [])),
    (53, (.invokevirtual 251, 3, [57, 2, 11, 1798, 1800, 81])),
    (56, (.aload_n 0, 1, [])),
    (57, (.getfield 199, 3, [11, 8, 1627])),
    (60, (.ifCond .ne 28, 3, [88])),
    (88, (.aload_n 0, 1, [])),
    (89, (.getfield 199, 3, [11, 8, 1627]))]),
  (100000, [(92, (.ifCond .le 8, 3, [100])),
    (95, (.aload_n 0, 1, [])),
    (96, (.getfield 199, 3, [11, 8, 1627])),
    (99, (.ireturn, 1, []))])]
def zi_m146 : zi_M := (⟨"AgreeToldModel", "land", "()I"⟩, prog_13_method_25_code, 2, (some FieldType.int), zi_t146, [1758, 166])
def zi_t147 : zi_T := [(100000, [(0, (.aload_n 0, 1, [])),
    (1, (.getfield 283, 3, [0, 18, 634])),
    (4, (.ifCond .gt 5, 3, [9])),
    (7, (.iconst 0, 1, [])),
    (8, (.ireturn, 1, []))])]
def zi_m147 : zi_M := (⟨"AgreeTold", "undo", "()Z"⟩, prog_1_method_14_code, 3, (some FieldType.boolean), zi_t147, [1180, 150])
def zi_t148 : zi_T := [(100000, [(0, (.aload_n 0, 1, [])),
    (1, (.getfield 52, 3, [0, 6, 622])),
    (4, (.getfield 197, 3, [9, 5, 532])),
    (7, (.astore_n 2, 1, [])),
    (8, (.aload_n 2, 1, [])),
    (9, (.ifnull 12, 3, [21])),
    (21, (.iconst (-1), 1, [])),
    (22, (.ireturn, 1, []))])]
def zi_m148 : zi_M := (⟨"AgreeTold", "asked", "(I)I"⟩, prog_1_method_17_code, 4, (some FieldType.int), zi_t148, [1195, 150])
def zi_t149 : zi_T := [(37, [(0, (.aload_n 0, 1, [])),
    (1, (.getfield 180, 3, [1, 10, 389])),
    (4, (.l2i, 1, [])),
    (5, (.istore_n 3, 1, [])),
    (6, (.aload_n 0, 1, [])),
    (7, (.getfield 50, 3, [1, 9, 388])),
    (10, (.iconst 2, 1, [])),
    (11, (.if_icmp .eq 11, 3, [22])),
    (14, (.aload_n 0, 1, [])),
    (15, (.iconst 1, 1, [])),
    (16, (.invokevirtual 71, 3, [32, 2, 1, 799, 801, 13])),
    (19, (.goto 18, 3, [37]))]),
  (100000, [(37, (.aload_n 0, 1, [])),
    (38, (.invokevirtual 114, 3, [25, 1, 1, 787, 789, 10])),
    (41, (.iload_n 3, 1, [])),
    (42, (.ireturn, 1, []))])]
def zi_m149 : zi_M := (⟨"AgreeTold$Reader", "takeNumber", "(II)I"⟩, prog_7_method_23_code, 4, (some FieldType.int), zi_t149, [806, 151])
def zi_t150 : zi_T := [(22, [(0, (.aload_n 0, 1, [])),
    (1, (.getfield 93, 3, [0, 16, 632])),
    (4, (.getfield 328, 3, [3, 14, 313])),
    (7, (.aload_n 0, 1, [])),
    (8, (.getfield 52, 3, [0, 6, 622])),
    (11, (.getfield 241, 3, [9, 7, 536])),
    (14, (.isub, 1, [])),
    (15, (.iconst 1, 1, [])),
    (16, (.iadd, 1, [])),
    (17, (.istore_n 1, 1, [])),
    (18, (.aload_n 0, 1, [])),
    (19, (.getfield 52, 3, [0, 6, 622]))]),
  (42, [(22, (.getfield 277, 3, [9, 8, 538])),
    (25, (.istore_n 2, 1, [])),
    (26, (.iconst 0, 1, [])),
    (27, (.istore_n 3, 1, [])),
    (28, (.iload_n 3, 1, [])),
    (29, (.iconst 1, 1, [])),
    (30, (.aload_n 0, 1, [])),
    (31, (.getfield 93, 3, [0, 16, 632])),
    (34, (.getfield 264, 3, [3, 15, 317])),
    (37, (.ishl, 1, [])),
    (38, (.if_icmp .ge 30, 3, [68])),
    (41, (.iload_n 3, 1, []))]),
  (62, [(42, (.invokestatic 308, 3, [128, 1, 0, 1230, 1231])),
    (45, (.iload_n 1, 1, [])),
    (46, (.imul, 1, [])),
    (47, (.aload_n 0, 1, [])),
    (48, (.iload_n 3, 1, [])),
    (49, (.invokevirtual 383, 3, [140, 2, 0, 1338, 1340, 53])),
    (52, (.iadd, 1, [])),
    (53, (.istore 4, 2, [])),
    (55, (.iload_n 2, 1, [])),
    (56, (.iload 4, 2, [])),
    (58, (.invokestatic 386, 3, [1])),
    (61, (.istore_n 2, 1, []))]),
  (100000, [(62, (.iinc 3 1, 3, [])),
    (65, (.goto (-37), 3, [28])),
    (68, (.iload_n 2, 1, [])),
    (69, (.ireturn, 1, []))])]
def zi_m150 : zi_M := (⟨"AgreeTold", "kept", "()I"⟩, prog_1_method_29_code, 5, (some FieldType.int), zi_t150, [1337, 150])
def zi_t151 : zi_T := [(20, [(0, (.aload_n 0, 1, [])),
    (1, (.invokevirtual 368, 3, [138, 1, 11, 1552, 1554, 60])),
    (4, (.iconst 0, 1, [])),
    (5, (.istore_n 1, 1, [])),
    (6, (.iload_n 1, 1, [])),
    (7, (.bipush 110, 2, [])),
    (9, (.if_icmp .ge 32, 3, [41])),
    (12, (.aload_n 0, 1, [])),
    (13, (.getfield 138, 3, [11, 29, 1648])),
    (16, (.iload_n 1, 1, [])),
    (17, (.iload_n 1, 1, [])),
    (18, (.bipush 44, 2, []))]),
  (45, [(20, (.if_icmp .lt 13, 3, [33])),
    (23, (.iload_n 1, 1, [])),
    (24, (.bipush 68, 2, [])),
    (26, (.if_icmp .ge 7, 3, [33])),
    (29, (.iconst (-1), 1, [])),
    (30, (.goto 4, 3, [34])),
    (33, (.iconst 0, 1, [])),
    (34, (.iastore, 1, [])),
    (35, (.iinc 1 1, 3, [])),
    (38, (.goto (-32), 3, [6])),
    (41, (.aload_n 0, 1, [])),
    (42, (.getfield 138, 3, [11, 29, 1648]))]),
  (61, [(45, (.iconst 1, 1, [])),
    (46, (.iconst 1, 1, [])),
    (47, (.iastore, 1, [])),
    (48, (.iconst 0, 1, [])),
    (49, (.istore_n 1, 1, [])),
    (50, (.iload_n 1, 1, [])),
    (51, (.iconst 5, 1, [])),
    (52, (.if_icmp .ge 30, 3, [82])),
    (55, (.aload_n 0, 1, [])),
    (56, (.getfield 138, 3, [11, 29, 1648])),
    (59, (.iconst 3, 1, [])),
    (60, (.iload_n 1, 1, []))]),
  (76, [(61, (.iadd, 1, [])),
    (62, (.aload_n 0, 1, [])),
    (63, (.getfield 101, 3, [11, 10, 1629])),
    (66, (.bipush 11, 2, [])),
    (68, (.iconst 2, 1, [])),
    (69, (.iload_n 1, 1, [])),
    (70, (.imul, 1, [])),
    (71, (.iadd, 1, [])),
    (72, (.iconst 1, 1, [])),
    (73, (.iadd, 1, [])),
    (74, (.iaload, 1, [])),
    (75, (.iastore, 1, []))]),
  (98, [(76, (.iinc 1 1, 3, [])),
    (79, (.goto (-29), 3, [50])),
    (82, (.aload_n 0, 1, [])),
    (83, (.iconst 0, 1, [])),
    (84, (.putfield 371, 3, [11, 30, 1649])),
    (87, (.iconst 0, 1, [])),
    (88, (.istore_n 1, 1, [])),
    (89, (.iload_n 1, 1, [])),
    (90, (.iconst 5, 1, [])),
    (91, (.if_icmp .ge 23, 3, [114])),
    (94, (.aload_n 0, 1, [])),
    (95, (.getfield 145, 3, [11, 32, 1651]))]),
  (100000, [(98, (.iload_n 1, 1, [])),
    (99, (.iconst 0, 1, [])),
    (100, (.bastore, 1, [])),
    (101, (.aload_n 0, 1, [])),
    (102, (.getfield 141, 3, [11, 31, 1650])),
    (105, (.iload_n 1, 1, [])),
    (106, (.iconst 0, 1, [])),
    (107, (.bastore, 1, [])),
    (108, (.iinc 1 1, 3, [])),
    (111, (.goto (-22), 3, [89])),
    (114, (.return_, 1, []))])]
def zi_m151 : zi_M := (⟨"AgreeToldModel", "begins", "()V"⟩, prog_13_method_56_code, 2, (none : Option FieldType), zi_t151, [1551, 166])
def zi_t152 : zi_T := [(24, [(0, (.aload_n 0, 1, [])),
    (1, (.getfield 20, 3, [0, 1, 617])),
    (4, (.invokevirtual 110, 3, [59, 1, 2, 687, 688, 689])),
    (7, (.aload_n 0, 1, [])),
    (8, (.getfield 10, 3, [0, 0, 616])),
    (11, (.aload_n 0, 1, [])),
    (12, (.getfield 93, 3, [0, 16, 632])),
    (15, (.invokevirtual 194, 3, [154, 2, 1, 1083, 1084, 1085])),
    (18, (.istore_n 1, 1, [])),
    (19, (.iload_n 1, 1, [])),
    (20, (.ifCond .eq 5, 3, [25])),
    (23, (.iload_n 1, 1, []))]),
  (100000, [(24, (.ireturn, 1, []))])]
def zi_m152 : zi_M := (⟨"AgreeTold", "ask", "()I"⟩, prog_1_method_5_code, 2, (some FieldType.int), zi_t152, [1082, 150])
def zi_t153 : zi_T := [(22, [(0, (.iload_n 1, 1, [])),
    (1, (.ifCond .lt 19, 3, [20])),
    (4, (.iload_n 1, 1, [])),
    (5, (.iload_n 2, 1, [])),
    (6, (.if_icmp .ge 14, 3, [20])),
    (9, (.iload_n 2, 1, [])),
    (10, (.aload_n 0, 1, [])),
    (11, (.getfield 15, 3, [5, 1, 430])),
    (14, (.bipush 64, 2, [])),
    (16, (.imul, 1, [])),
    (17, (.if_icmp .le 4, 3, [21])),
    (21, (.iload_n 1, 1, []))]),
  (39, [(22, (.bipush 64, 2, [])),
    (24, (.idiv, 1, [])),
    (25, (.istore_n 3, 1, [])),
    (26, (.iload_n 2, 1, [])),
    (27, (.iconst 1, 1, [])),
    (28, (.isub, 1, [])),
    (29, (.bipush 64, 2, [])),
    (31, (.idiv, 1, [])),
    (32, (.istore 4, 2, [])),
    (34, (.iload_n 3, 1, [])),
    (35, (.istore 5, 2, [])),
    (37, (.iload 5, 2, []))]),
  (65, [(39, (.iload 4, 2, [])),
    (41, (.if_icmp .gt 80, 3, [121])),
    (44, (.iload 5, 2, [])),
    (46, (.aload_n 0, 1, [])),
    (47, (.getfield 9, 3, [5, 0, 428])),
    (50, (.arraylength, 1, [])),
    (51, (.if_icmp .ge 70, 3, [121])),
    (54, (.ldc2_w 31, 3, [18446744073709551615, 442])),
    (57, (.lstore 6, 2, [])),
    (59, (.iload 5, 2, [])),
    (61, (.iload_n 3, 1, [])),
    (62, (.if_icmp .ne 16, 3, [78]))]),
  (87, [(65, (.lload 6, 2, [])),
    (67, (.ldc2_w 31, 3, [18446744073709551615, 442])),
    (70, (.iload_n 1, 1, [])),
    (71, (.bipush 64, 2, [])),
    (73, (.irem, 1, [])),
    (74, (.lshl, 1, [])),
    (75, (.land, 1, [])),
    (76, (.lstore 6, 2, [])),
    (78, (.iload 5, 2, [])),
    (80, (.iload 4, 2, [])),
    (82, (.if_icmp .ne 21, 3, [103])),
    (85, (.lload 6, 2, []))]),
  (104, [(87, (.ldc2_w 31, 3, [18446744073709551615, 442])),
    (90, (.bipush 63, 2, [])),
    (92, (.iload_n 2, 1, [])),
    (93, (.iconst 1, 1, [])),
    (94, (.isub, 1, [])),
    (95, (.bipush 64, 2, [])),
    (97, (.irem, 1, [])),
    (98, (.isub, 1, [])),
    (99, (.lushr, 1, [])),
    (100, (.land, 1, [])),
    (101, (.lstore 6, 2, [])),
    (103, (.aload_n 0, 1, []))]),
  (100000, [(104, (.getfield 9, 3, [5, 0, 428])),
    (107, (.iload 5, 2, [])),
    (109, (.dup2, 1, [])),
    (110, (.laload, 1, [])),
    (111, (.lload 6, 2, [])),
    (113, (.lor, 1, [])),
    (114, (.lastore, 1, [])),
    (115, (.iinc 5 1, 3, [])),
    (118, (.goto (-81), 3, [37])),
    (121, (.return_, 1, []))])]
def zi_m153 : zi_M := (⟨"AgreeTold$FutureSet", "addRange", "(II)V"⟩, prog_3_method_4_code, 8, (none : Option FieldType), zi_t153, [441, 159])
def zi_t154 : zi_T := [(21, [(0, (.aload_n 0, 1, [])),
    (1, (.aload_n 1, 1, [])),
    (2, (.invokevirtual 39, 3, [61, 2, 1, 783, 785, 9])),
    (5, (.aload_n 0, 1, [])),
    (6, (.iconst 0, 1, [])),
    (7, (.invokevirtual 96, 3, [103, 2, 1, 854, 856, 20])),
    (10, (.aload_n 0, 1, [])),
    (11, (.bipush 59, 2, [])),
    (13, (.invokevirtual 102, 3, [37, 2, 1, 795, 797, 12])),
    (16, (.aload_n 0, 1, [])),
    (17, (.iconst 0, 1, [])),
    (18, (.invokevirtual 102, 3, [37, 2, 1, 795, 797, 12]))]),
  (100000, [(21, (.aload_n 0, 1, [])),
    (22, (.getfield 46, 3, [1, 11, 390])),
    (25, (.ireturn, 1, []))])]
def zi_m154 : zi_M := (⟨"AgreeTold$Reader", "readAsked", "(LAgreeTold$Land;)I"⟩, prog_7_method_4_code, 2, (some FieldType.int), zi_t154, [1086, 151])
def zi_t155 : zi_T := [(22, [(0, (.aload_n 0, 1, [])),
    (1, (.aload_n 1, 1, [])),
    (2, (.invokevirtual 39, 3, [61, 2, 1, 783, 785, 9])),
    (5, (.aload_n 0, 1, [])),
    (6, (.aload_n 0, 1, [])),
    (7, (.aload_n 1, 1, [])),
    (8, (.getfield 75, 3, [3, 2, 292])),
    (11, (.aload_n 1, 1, [])),
    (12, (.getfield 78, 3, [3, 17, 322])),
    (15, (.invokevirtual 81, 3, [123, 3, 1, 871, 873, 24])),
    (18, (.putfield 85, 3, [1, 4, 381])),
    (21, (.aload_n 1, 1, []))]),
  (46, [(22, (.aload_n 0, 1, [])),
    (23, (.getfield 85, 3, [1, 4, 381])),
    (26, (.invokevirtual 88, 3, [156, 2, 3, 894, 895, 896])),
    (29, (.istore_n 2, 1, [])),
    (30, (.aload_n 0, 1, [])),
    (31, (.iload_n 2, 1, [])),
    (32, (.iconst 1, 1, [])),
    (33, (.if_icmp .ne 7, 3, [40])),
    (40, (.iconst 0, 1, [])),
    (41, (.putfield 92, 3, [1, 7, 386])),
    (44, (.aload_n 0, 1, [])),
    (45, (.iconst 0, 1, []))]),
  (74, [(46, (.invokevirtual 96, 3, [103, 2, 1, 854, 856, 20])),
    (49, (.iload_n 2, 1, [])),
    (50, (.iconst 2, 1, [])),
    (51, (.if_icmp .ne 8, 3, [59])),
    (59, (.aload_n 0, 1, [])),
    (60, (.bipush 59, 2, [])),
    (62, (.invokevirtual 102, 3, [37, 2, 1, 795, 797, 12])),
    (65, (.aload_n 0, 1, [])),
    (66, (.iconst 0, 1, [])),
    (67, (.invokevirtual 102, 3, [37, 2, 1, 795, 797, 12])),
    (70, (.aload_n 0, 1, [])),
    (71, (.getfield 46, 3, [1, 11, 390]))]),
  (100000, [(74, (.ireturn, 1, []))])]
def zi_m155 : zi_M := (⟨"AgreeTold$Reader", "readSaying", "(LAgreeTold$Land;)I"⟩, prog_7_method_3_code, 3, (some FieldType.int), zi_t155, [997, 151])
def zi_t156 : zi_T := [(100000, [(0, (.aload_n 0, 1, [])),
    (1, (.iload_n 1, 1, [])),
    (2, (.invokevirtual 97, 3, [34, 2, 3, 898, 899, 900])),
    (5, (.ifCond .eq 12, 3, [17])),
    (17, (.iconst (-1), 1, [])),
    (18, (.ireturn, 1, []))])]
def zi_m156 : zi_M := (⟨"AgreeTold$Land", "kindOf", "(I)I"⟩, prog_5_method_18_code, 2, (some FieldType.int), zi_t156, [897, 157])
def zi_t157 : zi_T := [(100000, [(0, (.aload_n 0, 1, [])),
    (1, (.iload_n 1, 1, [])),
    (2, (.invokevirtual 211, 3, [47, 2, 11, 1782, 1784, 77])),
    (5, (.ifCond .ne 8, 3, [13])),
    (8, (.aload_n 0, 1, [])),
    (9, (.iconst 1, 1, [])),
    (10, (.invokevirtual 205, 3, [38, 2, 11, 1790, 1792, 79])),
    (13, (.return_, 1, []))])]
def zi_m157 : zi_M := (⟨"AgreeToldModel", "takeWord", "(I)V"⟩, prog_13_method_16_code, 2, (none : Option FieldType), zi_t157, [1781, 166])
def zi_t158 : zi_T := [(26, [(0, (.aload_n 0, 1, [])),
    (1, (.invokespecial 3, 3, [])),
    (4, (.aload_n 0, 1, [])),
    (5, (.new 9, 3, [5, 422, 423, 159])),
    (8, (.dup, 1, [])),
    (9, (.invokespecial 11, 3, [41, 1, 1, 424, 425])),
    (12, (.putfield 12, 3, [4, 0, 443])),
    (15, (.aload_n 0, 1, [])),
    (16, (.new 9, 3, [5, 422, 423, 159])),
    (19, (.dup, 1, [])),
    (20, (.invokespecial 11, 3, [41, 1, 1, 424, 425])),
    (23, (.putfield 18, 3, [4, 1, 445]))]),
  (50, [(26, (.aload_n 0, 1, [])),
    (27, (.iconst 1, 1, [])),
    (28, (.putfield 21, 3, [4, 2, 447])),
    (31, (.aload_n 0, 1, [])),
    (32, (.bipush 96, 2, [])),
    (34, (.anewarray 9, 3, [4, 422])),
    (37, (.putfield 25, 3, [4, 3, 449])),
    (40, (.aload_n 0, 1, [])),
    (41, (.bipush 6, 2, [])),
    (43, (.anewarray 9, 3, [4, 422])),
    (46, (.putfield 29, 3, [4, 4, 450])),
    (49, (.aload_n 0, 1, []))]),
  (74, [(50, (.new 9, 3, [5, 422, 423, 159])),
    (53, (.dup, 1, [])),
    (54, (.invokespecial 11, 3, [41, 1, 1, 424, 425])),
    (57, (.putfield 32, 3, [4, 5, 451])),
    (60, (.aload_n 0, 1, [])),
    (61, (.bipush 64, 2, [])),
    (63, (.newarray .long, 2, [1, 277])),
    (65, (.putfield 35, 3, [4, 6, 452])),
    (68, (.aload_n 0, 1, [])),
    (69, (.iconst 1, 1, [])),
    (70, (.putfield 39, 3, [4, 7, 453])),
    (73, (.aload_n 0, 1, []))]),
  (100000, [(74, (.iconst 1, 1, [])),
    (75, (.putfield 42, 3, [4, 9, 455])),
    (78, (.aload_n 0, 1, [])),
    (79, (.getfield 12, 3, [4, 0, 443])),
    (82, (.iconst 0, 1, [])),
    (83, (.aload_n 0, 1, [])),
    (84, (.getfield 21, 3, [4, 2, 447])),
    (87, (.invokevirtual 45, 3, [153, 3, 5, 438, 439, 440])),
    (90, (.return_, 1, []))])]
def zi_m158 : zi_M := (⟨"AgreeTold$Worlds", "<init>", "()V"⟩, prog_11_method_1_code, 1, (none : Option FieldType), zi_t158, [420, 158])
def zi_t159 : zi_T := [(27, [(0, (.iload_n 1, 1, [])),
    (1, (.iconst 1, 1, [])),
    (2, (.invokestatic 19, 3, [0])),
    (5, (.istore_n 2, 1, [])),
    (6, (.aload_n 0, 1, [])),
    (7, (.getfield 9, 3, [5, 0, 428])),
    (10, (.arraylength, 1, [])),
    (11, (.iload_n 2, 1, [])),
    (12, (.if_icmp .ge 10, 3, [22])),
    (22, (.aload_n 0, 1, [])),
    (23, (.iload_n 2, 1, [])),
    (24, (.putfield 15, 3, [5, 1, 430]))]),
  (100000, [(27, (.return_, 1, []))])]
def zi_m159 : zi_M := (⟨"AgreeTold$FutureSet", "resize", "(I)V"⟩, prog_3_method_2_code, 3, (none : Option FieldType), zi_t159, [578, 159])
def zi_t160 : zi_T := [(26, [(0, (.aload_n 0, 1, [])),
    (1, (.invokespecial 18, 3, [])),
    (4, (.aload_n 0, 1, [])),
    (5, (.sipush 1000, 3, [])),
    (8, (.newarray .int, 2, [0, 276])),
    (10, (.putfield 14, 3, [11, 1, 1620])),
    (13, (.aload_n 0, 1, [])),
    (14, (.sipush 1002, 3, [])),
    (17, (.newarray .int, 2, [0, 276])),
    (19, (.putfield 24, 3, [11, 4, 1623])),
    (22, (.aload_n 0, 1, [])),
    (23, (.sipush 1002, 3, []))]),
  (50, [(26, (.newarray .int, 2, [0, 276])),
    (28, (.putfield 27, 3, [11, 5, 1624])),
    (31, (.aload_n 0, 1, [])),
    (32, (.sipush 1002, 3, [])),
    (35, (.newarray .long, 2, [1, 277])),
    (37, (.putfield 30, 3, [11, 6, 1625])),
    (40, (.aload_n 0, 1, [])),
    (41, (.bipush 32, 2, [])),
    (43, (.newarray .long, 2, [1, 277])),
    (45, (.dup, 1, [])),
    (46, (.iconst 0, 1, [])),
    (47, (.ldc2_w 34, 3, [204925, 1511]))]),
  (68, [(50, (.lastore, 1, [])),
    (51, (.dup, 1, [])),
    (52, (.iconst 1, 1, [])),
    (53, (.ldc2_w 36, 3, [1119812451, 1512])),
    (56, (.lastore, 1, [])),
    (57, (.dup, 1, [])),
    (58, (.iconst 2, 1, [])),
    (59, (.ldc2_w 38, 3, [1014885, 1513])),
    (62, (.lastore, 1, [])),
    (63, (.dup, 1, [])),
    (64, (.iconst 3, 1, [])),
    (65, (.ldc2_w 40, 3, [10492554, 1514]))]),
  (87, [(68, (.lastore, 1, [])),
    (69, (.dup, 1, [])),
    (70, (.iconst 4, 1, [])),
    (71, (.ldc2_w 42, 3, [42328747790, 1515])),
    (74, (.lastore, 1, [])),
    (75, (.dup, 1, [])),
    (76, (.iconst 5, 1, [])),
    (77, (.ldc2_w 44, 3, [31075639, 1516])),
    (80, (.lastore, 1, [])),
    (81, (.dup, 1, [])),
    (82, (.bipush 6, 2, [])),
    (84, (.ldc2_w 46, 3, [16488, 1517]))]),
  (108, [(87, (.lastore, 1, [])),
    (88, (.dup, 1, [])),
    (89, (.bipush 7, 2, [])),
    (91, (.ldc2_w 48, 3, [1178051, 1518])),
    (94, (.lastore, 1, [])),
    (95, (.dup, 1, [])),
    (96, (.bipush 8, 2, [])),
    (98, (.ldc2_w 50, 3, [8787, 1519])),
    (101, (.lastore, 1, [])),
    (102, (.dup, 1, [])),
    (103, (.bipush 9, 2, [])),
    (105, (.ldc2_w 52, 3, [30910767, 1520]))]),
  (129, [(108, (.lastore, 1, [])),
    (109, (.dup, 1, [])),
    (110, (.bipush 10, 2, [])),
    (112, (.ldc2_w 54, 3, [983428, 1521])),
    (115, (.lastore, 1, [])),
    (116, (.dup, 1, [])),
    (117, (.bipush 11, 2, [])),
    (119, (.ldc2_w 56, 3, [1825, 1522])),
    (122, (.lastore, 1, [])),
    (123, (.dup, 1, [])),
    (124, (.bipush 12, 2, [])),
    (126, (.ldc2_w 58, 3, [1937619241514, 1523]))]),
  (150, [(129, (.lastore, 1, [])),
    (130, (.dup, 1, [])),
    (131, (.bipush 13, 2, [])),
    (133, (.ldc2_w 60, 3, [2286271, 1524])),
    (136, (.lastore, 1, [])),
    (137, (.dup, 1, [])),
    (138, (.bipush 14, 2, [])),
    (140, (.ldc2_w 62, 3, [569, 1525])),
    (143, (.lastore, 1, [])),
    (144, (.dup, 1, [])),
    (145, (.bipush 15, 2, [])),
    (147, (.ldc2_w 64, 3, [99, 1526]))]),
  (171, [(150, (.lastore, 1, [])),
    (151, (.dup, 1, [])),
    (152, (.bipush 16, 2, [])),
    (154, (.ldc2_w 66, 3, [329128, 1527])),
    (157, (.lastore, 1, [])),
    (158, (.dup, 1, [])),
    (159, (.bipush 17, 2, [])),
    (161, (.ldc2_w 68, 3, [283586, 1528])),
    (164, (.lastore, 1, [])),
    (165, (.dup, 1, [])),
    (166, (.bipush 18, 2, [])),
    (168, (.ldc2_w 70, 3, [26521840, 1529]))]),
  (192, [(171, (.lastore, 1, [])),
    (172, (.dup, 1, [])),
    (173, (.bipush 19, 2, [])),
    (175, (.ldc2_w 72, 3, [37957098, 1530])),
    (178, (.lastore, 1, [])),
    (179, (.dup, 1, [])),
    (180, (.bipush 20, 2, [])),
    (182, (.ldc2_w 74, 3, [679747, 1531])),
    (185, (.lastore, 1, [])),
    (186, (.dup, 1, [])),
    (187, (.bipush 21, 2, [])),
    (189, (.ldc2_w 76, 3, [30596128, 1532]))]),
  (213, [(192, (.lastore, 1, [])),
    (193, (.dup, 1, [])),
    (194, (.bipush 22, 2, [])),
    (196, (.ldc2_w 78, 3, [41292560, 1533])),
    (199, (.lastore, 1, [])),
    (200, (.dup, 1, [])),
    (201, (.bipush 23, 2, [])),
    (203, (.ldc2_w 80, 3, [325020, 1534])),
    (206, (.lastore, 1, [])),
    (207, (.dup, 1, [])),
    (208, (.bipush 24, 2, [])),
    (210, (.ldc2_w 82, 3, [14032772, 1535]))]),
  (234, [(213, (.lastore, 1, [])),
    (214, (.dup, 1, [])),
    (215, (.bipush 25, 2, [])),
    (217, (.ldc2_w 84, 3, [59361325568, 1536])),
    (220, (.lastore, 1, [])),
    (221, (.dup, 1, [])),
    (222, (.bipush 26, 2, [])),
    (224, (.ldc2_w 86, 3, [19741, 1537])),
    (227, (.lastore, 1, [])),
    (228, (.dup, 1, [])),
    (229, (.bipush 27, 2, [])),
    (231, (.ldc2_w 88, 3, [1891, 1538]))]),
  (255, [(234, (.lastore, 1, [])),
    (235, (.dup, 1, [])),
    (236, (.bipush 28, 2, [])),
    (238, (.ldc2_w 90, 3, [573, 1539])),
    (241, (.lastore, 1, [])),
    (242, (.dup, 1, [])),
    (243, (.bipush 29, 2, [])),
    (245, (.ldc2_w 92, 3, [148383843, 1540])),
    (248, (.lastore, 1, [])),
    (249, (.dup, 1, [])),
    (250, (.bipush 30, 2, [])),
    (252, (.ldc2_w 94, 3, [2205662, 1541]))]),
  (278, [(255, (.lastore, 1, [])),
    (256, (.dup, 1, [])),
    (257, (.bipush 31, 2, [])),
    (259, (.ldc2_w 96, 3, [1034043, 1542])),
    (262, (.lastore, 1, [])),
    (263, (.putfield 98, 3, [11, 9, 1628])),
    (266, (.aload_n 0, 1, [])),
    (267, (.bipush 100, 2, [])),
    (269, (.newarray .int, 2, [0, 276])),
    (271, (.putfield 101, 3, [11, 10, 1629])),
    (274, (.aload_n 0, 1, [])),
    (275, (.sipush 2200, 3, []))]),
  (303, [(278, (.newarray .int, 2, [0, 276])),
    (280, (.putfield 104, 3, [11, 11, 1630])),
    (283, (.aload_n 0, 1, [])),
    (284, (.sipush 2200, 3, [])),
    (287, (.newarray .int, 2, [0, 276])),
    (289, (.putfield 107, 3, [11, 12, 1631])),
    (292, (.aload_n 0, 1, [])),
    (293, (.bipush 13, 2, [])),
    (295, (.newarray .long, 2, [1, 277])),
    (297, (.putfield 110, 3, [11, 14, 1633])),
    (300, (.aload_n 0, 1, [])),
    (301, (.bipush 13, 2, []))]),
  (326, [(303, (.newarray .long, 2, [1, 277])),
    (305, (.putfield 113, 3, [11, 15, 1634])),
    (308, (.aload_n 0, 1, [])),
    (309, (.bipush 13, 2, [])),
    (311, (.newarray .int, 2, [0, 276])),
    (313, (.putfield 116, 3, [11, 16, 1635])),
    (316, (.aload_n 0, 1, [])),
    (317, (.bipush 13, 2, [])),
    (319, (.newarray .int, 2, [0, 276])),
    (321, (.putfield 119, 3, [11, 17, 1636])),
    (324, (.aload_n 0, 1, [])),
    (325, (.iconst 3, 1, []))]),
  (351, [(326, (.newarray .int, 2, [0, 276])),
    (328, (.putfield 122, 3, [11, 21, 1640])),
    (331, (.aload_n 0, 1, [])),
    (332, (.sipush 1100, 3, [])),
    (335, (.newarray .int, 2, [0, 276])),
    (337, (.putfield 125, 3, [11, 22, 1641])),
    (340, (.aload_n 0, 1, [])),
    (341, (.ldc 128, 2, [0, 159744, 1543])),
    (343, (.newarray .long, 2, [1, 277])),
    (345, (.putfield 129, 3, [11, 23, 1642])),
    (348, (.aload_n 0, 1, [])),
    (349, (.bipush 25, 2, []))]),
  (375, [(351, (.newarray .int, 2, [0, 276])),
    (353, (.putfield 132, 3, [11, 26, 1645])),
    (356, (.aload_n 0, 1, [])),
    (357, (.bipush 24, 2, [])),
    (359, (.newarray .int, 2, [0, 276])),
    (361, (.putfield 135, 3, [11, 27, 1646])),
    (364, (.aload_n 0, 1, [])),
    (365, (.sipush 2310, 3, [])),
    (368, (.newarray .int, 2, [0, 276])),
    (370, (.putfield 138, 3, [11, 29, 1648])),
    (373, (.aload_n 0, 1, [])),
    (374, (.iconst 5, 1, []))]),
  (397, [(375, (.newarray .boolean, 2, [2, 504])),
    (377, (.putfield 141, 3, [11, 31, 1650])),
    (380, (.aload_n 0, 1, [])),
    (381, (.iconst 5, 1, [])),
    (382, (.newarray .boolean, 2, [2, 504])),
    (384, (.putfield 145, 3, [11, 32, 1651])),
    (387, (.aload_n 0, 1, [])),
    (388, (.bipush 96, 2, [])),
    (390, (.newarray .int, 2, [0, 276])),
    (392, (.putfield 148, 3, [11, 36, 1655])),
    (395, (.aload_n 0, 1, [])),
    (396, (.iconst 2, 1, []))]),
  (420, [(397, (.newarray .int, 2, [0, 276])),
    (399, (.putfield 151, 3, [11, 38, 1657])),
    (402, (.aload_n 0, 1, [])),
    (403, (.bipush 30, 2, [])),
    (405, (.newarray .int, 2, [0, 276])),
    (407, (.putfield 154, 3, [11, 39, 1658])),
    (410, (.aload_n 0, 1, [])),
    (411, (.bipush 20, 2, [])),
    (413, (.newarray .int, 2, [0, 276])),
    (415, (.putfield 157, 3, [11, 41, 1660])),
    (418, (.aload_n 0, 1, [])),
    (419, (.iconst 4, 1, []))]),
  (442, [(420, (.newarray .boolean, 2, [2, 504])),
    (422, (.putfield 160, 3, [11, 42, 1661])),
    (425, (.aload_n 0, 1, [])),
    (426, (.iconst 5, 1, [])),
    (427, (.newarray .int, 2, [0, 276])),
    (429, (.putfield 163, 3, [11, 44, 1663])),
    (432, (.aload_n 0, 1, [])),
    (433, (.iconst 0, 1, [])),
    (434, (.invokevirtual 166, 3, [96, 2, 11, 1544, 1546, 58])),
    (437, (.aload_n 0, 1, [])),
    (438, (.getfield 101, 3, [11, 10, 1629])),
    (441, (.iconst 0, 1, []))]),
  (100000, [(442, (.iconst 1, 1, [])),
    (443, (.iastore, 1, [])),
    (444, (.aload_n 0, 1, [])),
    (445, (.invokevirtual 170, 3, [151, 1, 11, 1548, 1550, 59])),
    (448, (.return_, 1, []))])]
def zi_m160 : zi_M := (⟨"AgreeToldModel", "<init>", "()V"⟩, prog_13_method_4_code, 1, (none : Option FieldType), zi_t160, [1509, 166])
def zi_t161 : zi_T := [(100000, [(0, (.aload_n 0, 1, [])),
    (1, (.invokevirtual 301, 3, [75, 1, 0, 1200, 1202, 41])),
    (4, (.ifCond .ne 5, 3, [9])),
    (7, (.iconst (-1), 1, [])),
    (8, (.ireturn, 1, []))])]
def zi_m161 : zi_M := (⟨"AgreeTold", "why", "()I"⟩, prog_1_method_18_code, 4, (some FieldType.int), zi_t161, [1199, 150])
def zi_t162 : zi_T := [(19, [(0, (.aload_n 0, 1, [])),
    (1, (.iconst 0, 1, [])),
    (2, (.putfield 1, 3, [11, 0, 1619])),
    (5, (.iconst 0, 1, [])),
    (6, (.istore_n 1, 1, [])),
    (7, (.iconst 0, 1, [])),
    (8, (.istore_n 2, 1, [])),
    (9, (.iload_n 2, 1, [])),
    (10, (.bipush 20, 2, [])),
    (12, (.if_icmp .ge 16, 3, [28])),
    (15, (.aload_n 0, 1, [])),
    (16, (.getfield 157, 3, [11, 41, 1660]))]),
  (37, [(19, (.iload_n 2, 1, [])),
    (20, (.iconst (-1), 1, [])),
    (21, (.iastore, 1, [])),
    (22, (.iinc 2 1, 3, [])),
    (25, (.goto (-16), 3, [9])),
    (28, (.iconst 0, 1, [])),
    (29, (.istore_n 2, 1, [])),
    (30, (.iload_n 2, 1, [])),
    (31, (.aload_n 0, 1, [])),
    (32, (.getfield 138, 3, [11, 29, 1648])),
    (35, (.iconst 2, 1, [])),
    (36, (.iaload, 1, []))]),
  (100000, [(37, (.if_icmp .ge 45, 3, [82])),
    (82, (.iload_n 1, 1, [])),
    (83, (.ireturn, 1, []))])]
def zi_m162 : zi_M := (⟨"AgreeToldModel", "kept", "()I"⟩, prog_13_method_131_code, 4, (some FieldType.int), zi_t162, [2169, 166])
def zi_t163 : zi_T := [(24, [(0, (.aload_n 0, 1, [])),
    (1, (.getfield 20, 3, [0, 1, 617])),
    (4, (.invokevirtual 110, 3, [59, 1, 2, 687, 688, 689])),
    (7, (.new 90, 3, [3, 561, 282, 157])),
    (10, (.dup, 1, [])),
    (11, (.invokespecial 92, 3, [65, 1, 1, 562, 284])),
    (14, (.astore_n 1, 1, [])),
    (15, (.aload_n 0, 1, [])),
    (16, (.getfield 10, 3, [0, 0, 616])),
    (19, (.aload_n 1, 1, [])),
    (20, (.invokevirtual 113, 3, [142, 2, 1, 779, 780, 781])),
    (23, (.istore_n 2, 1, []))]),
  (100000, [(24, (.iload_n 2, 1, [])),
    (25, (.ifCond .eq 5, 3, [30])),
    (28, (.iload_n 2, 1, [])),
    (29, (.ireturn, 1, []))])]
def zi_m163 : zi_M := (⟨"AgreeTold", "land", "()I"⟩, prog_1_method_3_code, 4, (some FieldType.int), zi_t163, [686, 150])
def zi_t164 : zi_T := [(100000, [(0, (.aload_n 0, 1, [])),
    (1, (.invokespecial 3, 3, [])),
    (4, (.aload_n 0, 1, [])),
    (5, (.bipush 64, 2, [])),
    (7, (.newarray .int, 2, [0, 276])),
    (9, (.putfield 9, 3, [6, 0, 483])),
    (12, (.return_, 1, []))])]
def zi_m164 : zi_M := (⟨"AgreeTold$PriceLaw", "<init>", "()V"⟩, prog_6_method_1_code, 1, (none : Option FieldType), zi_t164, [481, 160])
def zi_t165 : zi_T := [(39, [(0, (.aload_n 0, 1, [])),
    (1, (.iconst 0, 1, [])),
    (2, (.putfield 1, 3, [11, 0, 1619])),
    (5, (.aload_n 0, 1, [])),
    (6, (.invokevirtual 435, 3, [23, 1, 11, 1916, 1918, 108])),
    (9, (.pop, 1, [])),
    (10, (.aload_n 0, 1, [])),
    (11, (.getfield 145, 3, [11, 32, 1651])),
    (14, (.iconst 0, 1, [])),
    (15, (.baload, 1, [])),
    (16, (.ifCond .eq 22, 3, [38])),
    (38, (.iconst (-1), 1, []))]),
  (100000, [(39, (.ireturn, 1, []))])]
def zi_m165 : zi_M := (⟨"AgreeToldModel", "why", "()I"⟩, prog_13_method_105_code, 1, (some FieldType.int), zi_t165, [2057, 166])
def zi_t166 : zi_T := [(22, [(0, (.aload_n 0, 1, [])),
    (1, (.iconst 0, 1, [])),
    (2, (.putfield 1, 3, [11, 0, 1619])),
    (5, (.aload_n 0, 1, [])),
    (6, (.iconst 0, 1, [])),
    (7, (.invokevirtual 431, 3, [88, 2, 11, 1912, 1914, 107])),
    (10, (.istore_n 1, 1, [])),
    (11, (.aload_n 0, 1, [])),
    (12, (.getfield 199, 3, [11, 8, 1627])),
    (15, (.ifCond .le 8, 3, [23])),
    (18, (.aload_n 0, 1, [])),
    (19, (.getfield 199, 3, [11, 8, 1627]))]),
  (100000, [(22, (.ireturn, 1, []))])]
def zi_m166 : zi_M := (⟨"AgreeToldModel", "ask", "()I"⟩, prog_13_method_83_code, 2, (some FieldType.int), zi_t166, [1966, 166])
def zi_tlaw : zi_T := [(21, [(0, (.new 8, 3, [0, 176, 177, 150])),
    (3, (.dup, 1, [])),
    (4, (.invokespecial 15, 3, [137, 1, 0, 178, 179])),
    (7, (.astore_n 1, 1, [])),
    (8, (.new 16, 3, [11, 1506, 1504, 166])),
    (11, (.dup, 1, [])),
    (12, (.invokespecial 18, 3, [160, 1, 0, 1507, 1508])),
    (15, (.astore_n 2, 1, [])),
    (16, (.iconst 1, 1, [])),
    (17, (.newarray .long, 2, [1, 277])),
    (19, (.astore_n 3, 1, [])),
    (20, (.iconst 0, 1, []))]),
  (194, [(21, (.istore 4, 2, [])),
    (23, (.iload 4, 2, [])),
    (25, (.aload_n 0, 1, [])),
    (26, (.arraylength, 1, [])),
    (27, (.bipush 7, 2, [])),
    (29, (.isub, 1, [])),
    (30, (.if_icmp .gt 1402, 3, [1432])),
    (188, (.aload_n 1, 1, [])),
    (189, (.aload_n 0, 1, [])),
    (190, (.iload 4, 2, [])),
    (192, (.iconst 1, 1, [])),
    (193, (.iadd, 1, []))]),
  (210, [(194, (.iaload, 1, [])),
    (195, (.i2l, 1, [])),
    (196, (.bipush 32, 2, [])),
    (198, (.lshl, 1, [])),
    (199, (.aload_n 0, 1, [])),
    (200, (.iload 4, 2, [])),
    (202, (.iconst 2, 1, [])),
    (203, (.iadd, 1, [])),
    (204, (.iaload, 1, [])),
    (205, (.i2l, 1, [])),
    (206, (.ldc2_w 19, 3, [4294967295, 2222])),
    (209, (.land, 1, []))]),
  (225, [(210, (.lor, 1, [])),
    (211, (.aload_n 0, 1, [])),
    (212, (.iload 4, 2, [])),
    (214, (.iconst 3, 1, [])),
    (215, (.iadd, 1, [])),
    (216, (.iaload, 1, [])),
    (217, (.i2l, 1, [])),
    (218, (.bipush 32, 2, [])),
    (220, (.lshl, 1, [])),
    (221, (.aload_n 0, 1, [])),
    (222, (.iload 4, 2, [])),
    (224, (.iconst 4, 1, []))]),
  (240, [(225, (.iadd, 1, [])),
    (226, (.iaload, 1, [])),
    (227, (.i2l, 1, [])),
    (228, (.ldc2_w 19, 3, [4294967295, 2222])),
    (231, (.land, 1, [])),
    (232, (.lor, 1, [])),
    (233, (.aload_n 0, 1, [])),
    (234, (.iload 4, 2, [])),
    (236, (.iconst 5, 1, [])),
    (237, (.iadd, 1, [])),
    (238, (.iaload, 1, [])),
    (239, (.i2l, 1, []))]),
  (259, [(240, (.bipush 32, 2, [])),
    (242, (.lshl, 1, [])),
    (243, (.aload_n 0, 1, [])),
    (244, (.iload 4, 2, [])),
    (246, (.bipush 6, 2, [])),
    (248, (.iadd, 1, [])),
    (249, (.iaload, 1, [])),
    (250, (.i2l, 1, [])),
    (251, (.ldc2_w 19, 3, [4294967295, 2222])),
    (254, (.land, 1, [])),
    (255, (.lor, 1, [])),
    (256, (.invokevirtual 21, 3, [70, 4, 0, 674, 675, 676]))]),
  (274, [(259, (.aload_n 2, 1, [])),
    (260, (.aload_n 0, 1, [])),
    (261, (.iload 4, 2, [])),
    (263, (.iconst 1, 1, [])),
    (264, (.iadd, 1, [])),
    (265, (.iaload, 1, [])),
    (266, (.i2l, 1, [])),
    (267, (.bipush 32, 2, [])),
    (269, (.lshl, 1, [])),
    (270, (.aload_n 0, 1, [])),
    (271, (.iload 4, 2, [])),
    (273, (.iconst 2, 1, []))]),
  (289, [(274, (.iadd, 1, [])),
    (275, (.iaload, 1, [])),
    (276, (.i2l, 1, [])),
    (277, (.ldc2_w 19, 3, [4294967295, 2222])),
    (280, (.land, 1, [])),
    (281, (.lor, 1, [])),
    (282, (.aload_n 0, 1, [])),
    (283, (.iload 4, 2, [])),
    (285, (.iconst 3, 1, [])),
    (286, (.iadd, 1, [])),
    (287, (.iaload, 1, [])),
    (288, (.i2l, 1, []))]),
  (305, [(289, (.bipush 32, 2, [])),
    (291, (.lshl, 1, [])),
    (292, (.aload_n 0, 1, [])),
    (293, (.iload 4, 2, [])),
    (295, (.iconst 4, 1, [])),
    (296, (.iadd, 1, [])),
    (297, (.iaload, 1, [])),
    (298, (.i2l, 1, [])),
    (299, (.ldc2_w 19, 3, [4294967295, 2222])),
    (302, (.land, 1, [])),
    (303, (.lor, 1, [])),
    (304, (.aload_n 0, 1, []))]),
  (321, [(305, (.iload 4, 2, [])),
    (307, (.iconst 5, 1, [])),
    (308, (.iadd, 1, [])),
    (309, (.iaload, 1, [])),
    (310, (.i2l, 1, [])),
    (311, (.bipush 32, 2, [])),
    (313, (.lshl, 1, [])),
    (314, (.aload_n 0, 1, [])),
    (315, (.iload 4, 2, [])),
    (317, (.bipush 6, 2, [])),
    (319, (.iadd, 1, [])),
    (320, (.iaload, 1, []))]),
  (349, [(321, (.i2l, 1, [])),
    (322, (.ldc2_w 19, 3, [4294967295, 2222])),
    (325, (.land, 1, [])),
    (326, (.lor, 1, [])),
    (327, (.invokevirtual 25, 3, [81, 4, 11, 1497, 1498, 1499])),
    (330, (.if_icmp .eq 1096, 3, [1426])),
    (335, (.aload_n 1, 1, [])),
    (336, (.invokevirtual 26, 3, [163, 1, 0, 683, 684, 685])),
    (339, (.aload_n 2, 1, [])),
    (340, (.invokevirtual 30, 3, [146, 1, 11, 1755, 1756, 1757])),
    (343, (.if_icmp .eq 1083, 3, [1426])),
    (348, (.aload_n 1, 1, []))]),
  (378, [(349, (.invokevirtual 31, 3, [125, 1, 0, 990, 991, 992])),
    (352, (.aload_n 2, 1, [])),
    (353, (.invokevirtual 34, 3, [130, 1, 11, 1908, 1909, 1910])),
    (356, (.if_icmp .eq 1070, 3, [1426])),
    (361, (.aload_n 1, 1, [])),
    (362, (.invokevirtual 35, 3, [152, 1, 0, 1079, 1080, 1081])),
    (365, (.aload_n 2, 1, [])),
    (366, (.invokevirtual 38, 3, [166, 1, 11, 1963, 1964, 1965])),
    (369, (.if_icmp .eq 1057, 3, [1426])),
    (374, (.aload_n 1, 1, [])),
    (375, (.aload_n 0, 1, [])),
    (376, (.iload 4, 2, []))]),
  (399, [(378, (.iconst 1, 1, [])),
    (379, (.iadd, 1, [])),
    (380, (.iaload, 1, [])),
    (381, (.invokevirtual 39, 3, [100, 2, 0, 1087, 1088, 1089])),
    (384, (.aload_n 2, 1, [])),
    (385, (.aload_n 0, 1, [])),
    (386, (.iload 4, 2, [])),
    (388, (.iconst 1, 1, [])),
    (389, (.iadd, 1, [])),
    (390, (.iaload, 1, [])),
    (391, (.invokevirtual 43, 3, [114, 2, 11, 1967, 1968, 1969])),
    (394, (.if_icmp .eq 1032, 3, [1426]))]),
  (415, [(399, (.aload_n 1, 1, [])),
    (400, (.aload_n 0, 1, [])),
    (401, (.iload 4, 2, [])),
    (403, (.iconst 1, 1, [])),
    (404, (.iadd, 1, [])),
    (405, (.iaload, 1, [])),
    (406, (.aload_n 0, 1, [])),
    (407, (.iload 4, 2, [])),
    (409, (.iconst 2, 1, [])),
    (410, (.iadd, 1, [])),
    (411, (.iaload, 1, [])),
    (412, (.invokevirtual 44, 3, [107, 3, 0, 1099, 1100, 1101]))]),
  (431, [(415, (.aload_n 2, 1, [])),
    (416, (.aload_n 0, 1, [])),
    (417, (.iload 4, 2, [])),
    (419, (.iconst 1, 1, [])),
    (420, (.iadd, 1, [])),
    (421, (.iaload, 1, [])),
    (422, (.aload_n 0, 1, [])),
    (423, (.iload 4, 2, [])),
    (425, (.iconst 2, 1, [])),
    (426, (.iadd, 1, [])),
    (427, (.iaload, 1, [])),
    (428, (.invokevirtual 48, 3, [109, 3, 11, 1975, 1976, 1977]))]),
  (451, [(431, (.if_icmp .eq 995, 3, [1426])),
    (436, (.aload_n 1, 1, [])),
    (437, (.aload_n 0, 1, [])),
    (438, (.iload 4, 2, [])),
    (440, (.iconst 1, 1, [])),
    (441, (.iadd, 1, [])),
    (442, (.iaload, 1, [])),
    (443, (.invokevirtual 49, 3, [46, 2, 0, 1125, 1126, 1127])),
    (446, (.aload_n 2, 1, [])),
    (447, (.aload_n 0, 1, [])),
    (448, (.iload 4, 2, [])),
    (450, (.iconst 1, 1, []))]),
  (471, [(451, (.iadd, 1, [])),
    (452, (.iaload, 1, [])),
    (453, (.invokevirtual 52, 3, [44, 2, 11, 1983, 1984, 1985])),
    (456, (.if_icmp .eq 970, 3, [1426])),
    (461, (.aload_n 1, 1, [])),
    (462, (.aload_n 0, 1, [])),
    (463, (.iload 4, 2, [])),
    (465, (.iconst 1, 1, [])),
    (466, (.iadd, 1, [])),
    (467, (.iaload, 1, [])),
    (468, (.aload_n 0, 1, [])),
    (469, (.iload 4, 2, []))]),
  (487, [(471, (.iconst 2, 1, [])),
    (472, (.iadd, 1, [])),
    (473, (.iaload, 1, [])),
    (474, (.invokevirtual 53, 3, [84, 3, 0, 1129, 1130, 1131])),
    (477, (.aload_n 2, 1, [])),
    (478, (.aload_n 0, 1, [])),
    (479, (.iload 4, 2, [])),
    (481, (.iconst 1, 1, [])),
    (482, (.iadd, 1, [])),
    (483, (.iaload, 1, [])),
    (484, (.aload_n 0, 1, [])),
    (485, (.iload 4, 2, []))]),
  (508, [(487, (.iconst 2, 1, [])),
    (488, (.iadd, 1, [])),
    (489, (.iaload, 1, [])),
    (490, (.invokevirtual 56, 3, [115, 3, 11, 1987, 1988, 1989])),
    (493, (.if_icmp .eq 933, 3, [1426])),
    (498, (.aload_n 1, 1, [])),
    (499, (.aload_n 0, 1, [])),
    (500, (.iload 4, 2, [])),
    (502, (.iconst 1, 1, [])),
    (503, (.iadd, 1, [])),
    (504, (.iaload, 1, [])),
    (505, (.invokevirtual 57, 3, [102, 2, 0, 1133, 1134, 1135]))]),
  (528, [(508, (.aload_n 2, 1, [])),
    (509, (.aload_n 0, 1, [])),
    (510, (.iload 4, 2, [])),
    (512, (.iconst 1, 1, [])),
    (513, (.iadd, 1, [])),
    (514, (.iaload, 1, [])),
    (515, (.invokevirtual 61, 3, [104, 2, 11, 1995, 1996, 1997])),
    (518, (.if_icmp .eq 908, 3, [1426])),
    (523, (.aload_n 1, 1, [])),
    (524, (.aload_n 0, 1, [])),
    (525, (.iload 4, 2, [])),
    (527, (.iconst 1, 1, []))]),
  (544, [(528, (.iadd, 1, [])),
    (529, (.iaload, 1, [])),
    (530, (.aload_n 0, 1, [])),
    (531, (.iload 4, 2, [])),
    (533, (.iconst 2, 1, [])),
    (534, (.iadd, 1, [])),
    (535, (.iaload, 1, [])),
    (536, (.invokevirtual 62, 3, [97, 3, 0, 1141, 1142, 1143])),
    (539, (.aload_n 2, 1, [])),
    (540, (.aload_n 0, 1, [])),
    (541, (.iload 4, 2, [])),
    (543, (.iconst 1, 1, []))]),
  (564, [(544, (.iadd, 1, [])),
    (545, (.iaload, 1, [])),
    (546, (.aload_n 0, 1, [])),
    (547, (.iload 4, 2, [])),
    (549, (.iconst 2, 1, [])),
    (550, (.iadd, 1, [])),
    (551, (.iaload, 1, [])),
    (552, (.invokevirtual 66, 3, [74, 3, 11, 2003, 2004, 2005])),
    (555, (.if_icmp .eq 871, 3, [1426])),
    (560, (.aload_n 1, 1, [])),
    (561, (.aload_n 0, 1, [])),
    (562, (.iload 4, 2, []))]),
  (580, [(564, (.iconst 1, 1, [])),
    (565, (.iadd, 1, [])),
    (566, (.iaload, 1, [])),
    (567, (.aload_n 0, 1, [])),
    (568, (.iload 4, 2, [])),
    (570, (.iconst 2, 1, [])),
    (571, (.iadd, 1, [])),
    (572, (.iaload, 1, [])),
    (573, (.invokevirtual 67, 3, [85, 3, 0, 1163, 1164, 1165])),
    (576, (.aload_n 2, 1, [])),
    (577, (.aload_n 0, 1, [])),
    (578, (.iload 4, 2, []))]),
  (599, [(580, (.iconst 1, 1, [])),
    (581, (.iadd, 1, [])),
    (582, (.iaload, 1, [])),
    (583, (.aload_n 0, 1, [])),
    (584, (.iload 4, 2, [])),
    (586, (.iconst 2, 1, [])),
    (587, (.iadd, 1, [])),
    (588, (.iaload, 1, [])),
    (589, (.invokevirtual 70, 3, [116, 3, 11, 2019, 2020, 2021])),
    (592, (.if_icmp .eq 834, 3, [1426])),
    (597, (.aload_n 1, 1, [])),
    (598, (.aload_n 0, 1, []))]),
  (615, [(599, (.iload 4, 2, [])),
    (601, (.iconst 1, 1, [])),
    (602, (.iadd, 1, [])),
    (603, (.iaload, 1, [])),
    (604, (.aload_n 0, 1, [])),
    (605, (.iload 4, 2, [])),
    (607, (.iconst 2, 1, [])),
    (608, (.iadd, 1, [])),
    (609, (.iaload, 1, [])),
    (610, (.invokevirtual 71, 3, [71, 3, 0, 1169, 1170, 1171])),
    (613, (.aload_n 2, 1, [])),
    (614, (.aload_n 0, 1, []))]),
  (635, [(615, (.iload 4, 2, [])),
    (617, (.iconst 1, 1, [])),
    (618, (.iadd, 1, [])),
    (619, (.iaload, 1, [])),
    (620, (.aload_n 0, 1, [])),
    (621, (.iload 4, 2, [])),
    (623, (.iconst 2, 1, [])),
    (624, (.iadd, 1, [])),
    (625, (.iaload, 1, [])),
    (626, (.invokevirtual 74, 3, [72, 3, 11, 2027, 2028, 2029])),
    (629, (.if_icmp .eq 797, 3, [1426])),
    (634, (.aload_n 1, 1, []))]),
  (657, [(635, (.invokevirtual 75, 3, [147, 1, 0, 1177, 1178, 1179])),
    (638, (.aload_n 2, 1, [])),
    (639, (.invokevirtual 79, 3, [126, 1, 11, 2031, 2032, 2033])),
    (642, (.if_icmp .eq 784, 3, [1426])),
    (647, (.aload_n 1, 1, [])),
    (648, (.aload_n 0, 1, [])),
    (649, (.iload 4, 2, [])),
    (651, (.iconst 1, 1, [])),
    (652, (.iadd, 1, [])),
    (653, (.iaload, 1, [])),
    (654, (.aload_n 0, 1, [])),
    (655, (.iload 4, 2, []))]),
  (673, [(657, (.iconst 2, 1, [])),
    (658, (.iadd, 1, [])),
    (659, (.iaload, 1, [])),
    (660, (.aload_n 0, 1, [])),
    (661, (.iload 4, 2, [])),
    (663, (.iconst 3, 1, [])),
    (664, (.iadd, 1, [])),
    (665, (.iaload, 1, [])),
    (666, (.invokevirtual 80, 3, [76, 4, 0, 1181, 1182, 1183])),
    (669, (.aload_n 2, 1, [])),
    (670, (.aload_n 0, 1, [])),
    (671, (.iload 4, 2, []))]),
  (687, [(673, (.iconst 1, 1, [])),
    (674, (.iadd, 1, [])),
    (675, (.iaload, 1, [])),
    (676, (.aload_n 0, 1, [])),
    (677, (.iload 4, 2, [])),
    (679, (.iconst 2, 1, [])),
    (680, (.iadd, 1, [])),
    (681, (.iaload, 1, [])),
    (682, (.aload_n 0, 1, [])),
    (683, (.iload 4, 2, [])),
    (685, (.iconst 3, 1, [])),
    (686, (.iadd, 1, []))]),
  (707, [(687, (.iaload, 1, [])),
    (688, (.invokevirtual 83, 3, [106, 4, 11, 2035, 2036, 2037])),
    (691, (.if_icmp .eq 735, 3, [1426])),
    (696, (.aload_n 1, 1, [])),
    (697, (.aload_n 0, 1, [])),
    (698, (.iload 4, 2, [])),
    (700, (.iconst 1, 1, [])),
    (701, (.iadd, 1, [])),
    (702, (.iaload, 1, [])),
    (703, (.aload_n 0, 1, [])),
    (704, (.iload 4, 2, [])),
    (706, (.iconst 2, 1, []))]),
  (723, [(707, (.iadd, 1, [])),
    (708, (.iaload, 1, [])),
    (709, (.aload_n 0, 1, [])),
    (710, (.iload 4, 2, [])),
    (712, (.iconst 3, 1, [])),
    (713, (.iadd, 1, [])),
    (714, (.iaload, 1, [])),
    (715, (.invokevirtual 84, 3, [77, 4, 0, 1188, 1189, 1190])),
    (718, (.aload_n 2, 1, [])),
    (719, (.aload_n 0, 1, [])),
    (720, (.iload 4, 2, [])),
    (722, (.iconst 1, 1, []))]),
  (737, [(723, (.iadd, 1, [])),
    (724, (.iaload, 1, [])),
    (725, (.aload_n 0, 1, [])),
    (726, (.iload 4, 2, [])),
    (728, (.iconst 2, 1, [])),
    (729, (.iadd, 1, [])),
    (730, (.iaload, 1, [])),
    (731, (.aload_n 0, 1, [])),
    (732, (.iload 4, 2, [])),
    (734, (.iconst 3, 1, [])),
    (735, (.iadd, 1, [])),
    (736, (.iaload, 1, []))]),
  (759, [(737, (.invokevirtual 87, 3, [90, 4, 11, 2046, 2047, 2048])),
    (740, (.if_icmp .eq 686, 3, [1426])),
    (745, (.aload_n 1, 1, [])),
    (746, (.aload_n 0, 1, [])),
    (747, (.iload 4, 2, [])),
    (749, (.iconst 1, 1, [])),
    (750, (.iadd, 1, [])),
    (751, (.iaload, 1, [])),
    (752, (.invokevirtual 88, 3, [148, 2, 0, 1192, 1193, 1194])),
    (755, (.aload_n 2, 1, [])),
    (756, (.aload_n 0, 1, [])),
    (757, (.iload 4, 2, []))]),
  (787, [(759, (.iconst 1, 1, [])),
    (760, (.iadd, 1, [])),
    (761, (.iaload, 1, [])),
    (762, (.invokevirtual 91, 3, [127, 2, 11, 2050, 2051, 2052])),
    (765, (.if_icmp .eq 661, 3, [1426])),
    (770, (.aload_n 1, 1, [])),
    (771, (.invokevirtual 92, 3, [161, 1, 0, 1196, 1197, 1198])),
    (774, (.aload_n 2, 1, [])),
    (775, (.invokevirtual 95, 3, [165, 1, 11, 2054, 2055, 2056])),
    (778, (.if_icmp .eq 648, 3, [1426])),
    (783, (.aload_n 1, 1, [])),
    (784, (.invokevirtual 96, 3, [132, 1, 0, 1236, 1237, 1238]))]),
  (807, [(787, (.aload_n 2, 1, [])),
    (788, (.invokevirtual 99, 3, [133, 1, 11, 2073, 2074, 2075])),
    (791, (.if_icmp .eq 635, 3, [1426])),
    (796, (.aload_n 1, 1, [])),
    (797, (.aload_n 0, 1, [])),
    (798, (.iload 4, 2, [])),
    (800, (.iconst 1, 1, [])),
    (801, (.iadd, 1, [])),
    (802, (.iaload, 1, [])),
    (803, (.aload_n 0, 1, [])),
    (804, (.iload 4, 2, [])),
    (806, (.iconst 2, 1, []))]),
  (821, [(807, (.iadd, 1, [])),
    (808, (.iaload, 1, [])),
    (809, (.aload_n 0, 1, [])),
    (810, (.iload 4, 2, [])),
    (812, (.iconst 3, 1, [])),
    (813, (.iadd, 1, [])),
    (814, (.iaload, 1, [])),
    (815, (.aload_n 0, 1, [])),
    (816, (.iload 4, 2, [])),
    (818, (.iconst 4, 1, [])),
    (819, (.iadd, 1, [])),
    (820, (.iaload, 1, []))]),
  (837, [(821, (.invokevirtual 100, 3, [117, 5, 0, 1244, 1245, 1246])),
    (824, (.aload_n 2, 1, [])),
    (825, (.aload_n 0, 1, [])),
    (826, (.iload 4, 2, [])),
    (828, (.iconst 1, 1, [])),
    (829, (.iadd, 1, [])),
    (830, (.iaload, 1, [])),
    (831, (.aload_n 0, 1, [])),
    (832, (.iload 4, 2, [])),
    (834, (.iconst 2, 1, [])),
    (835, (.iadd, 1, [])),
    (836, (.iaload, 1, []))]),
  (857, [(837, (.aload_n 0, 1, [])),
    (838, (.iload 4, 2, [])),
    (840, (.iconst 3, 1, [])),
    (841, (.iadd, 1, [])),
    (842, (.iaload, 1, [])),
    (843, (.aload_n 0, 1, [])),
    (844, (.iload 4, 2, [])),
    (846, (.iconst 4, 1, [])),
    (847, (.iadd, 1, [])),
    (848, (.iaload, 1, [])),
    (849, (.invokevirtual 104, 3, [79, 5, 11, 2077, 2078, 2079])),
    (852, (.if_icmp .eq 574, 3, [1426]))]),
  (876, [(857, (.aload_n 1, 1, [])),
    (858, (.aload_n 0, 1, [])),
    (859, (.iload 4, 2, [])),
    (861, (.iconst 1, 1, [])),
    (862, (.iadd, 1, [])),
    (863, (.iaload, 1, [])),
    (864, (.ifCond .eq 7, 3, [871])),
    (867, (.iconst 1, 1, [])),
    (868, (.goto 4, 3, [872])),
    (871, (.iconst 0, 1, [])),
    (872, (.invokevirtual 105, 3, [66, 2, 0, 1274, 1275, 1276])),
    (875, (.aload_n 2, 1, []))]),
  (899, [(876, (.aload_n 0, 1, [])),
    (877, (.iload 4, 2, [])),
    (879, (.iconst 1, 1, [])),
    (880, (.iadd, 1, [])),
    (881, (.iaload, 1, [])),
    (882, (.ifCond .eq 7, 3, [889])),
    (885, (.iconst 1, 1, [])),
    (886, (.goto 4, 3, [890])),
    (889, (.iconst 0, 1, [])),
    (890, (.invokevirtual 109, 3, [60, 2, 11, 2110, 2111, 2112])),
    (893, (.if_icmp .eq 533, 3, [1426])),
    (898, (.aload_n 1, 1, []))]),
  (914, [(899, (.aload_n 0, 1, [])),
    (900, (.iload 4, 2, [])),
    (902, (.iconst 1, 1, [])),
    (903, (.iadd, 1, [])),
    (904, (.iaload, 1, [])),
    (905, (.aload_n 0, 1, [])),
    (906, (.iload 4, 2, [])),
    (908, (.iconst 2, 1, [])),
    (909, (.iadd, 1, [])),
    (910, (.iaload, 1, [])),
    (911, (.aload_n 0, 1, [])),
    (912, (.iload 4, 2, []))]),
  (930, [(914, (.iconst 3, 1, [])),
    (915, (.iadd, 1, [])),
    (916, (.iaload, 1, [])),
    (917, (.invokevirtual 110, 3, [101, 4, 0, 1278, 1279, 1280])),
    (920, (.aload_n 2, 1, [])),
    (921, (.aload_n 0, 1, [])),
    (922, (.iload 4, 2, [])),
    (924, (.iconst 1, 1, [])),
    (925, (.iadd, 1, [])),
    (926, (.iaload, 1, [])),
    (927, (.aload_n 0, 1, [])),
    (928, (.iload 4, 2, []))]),
  (949, [(930, (.iconst 2, 1, [])),
    (931, (.iadd, 1, [])),
    (932, (.iaload, 1, [])),
    (933, (.aload_n 0, 1, [])),
    (934, (.iload 4, 2, [])),
    (936, (.iconst 3, 1, [])),
    (937, (.iadd, 1, [])),
    (938, (.iaload, 1, [])),
    (939, (.invokevirtual 113, 3, [118, 4, 11, 2114, 2115, 2116])),
    (942, (.if_icmp .eq 484, 3, [1426])),
    (947, (.aload_n 1, 1, [])),
    (948, (.aload_n 0, 1, []))]),
  (964, [(949, (.iload 4, 2, [])),
    (951, (.iconst 1, 1, [])),
    (952, (.iadd, 1, [])),
    (953, (.iaload, 1, [])),
    (954, (.aload_n 0, 1, [])),
    (955, (.iload 4, 2, [])),
    (957, (.iconst 2, 1, [])),
    (958, (.iadd, 1, [])),
    (959, (.iaload, 1, [])),
    (960, (.aload_n 0, 1, [])),
    (961, (.iload 4, 2, [])),
    (963, (.iconst 3, 1, []))]),
  (980, [(964, (.iadd, 1, [])),
    (965, (.iaload, 1, [])),
    (966, (.invokevirtual 114, 3, [92, 4, 0, 1292, 1293, 1294])),
    (969, (.aload_n 2, 1, [])),
    (970, (.aload_n 0, 1, [])),
    (971, (.iload 4, 2, [])),
    (973, (.iconst 1, 1, [])),
    (974, (.iadd, 1, [])),
    (975, (.iaload, 1, [])),
    (976, (.aload_n 0, 1, [])),
    (977, (.iload 4, 2, [])),
    (979, (.iconst 2, 1, []))]),
  (1000, [(980, (.iadd, 1, [])),
    (981, (.iaload, 1, [])),
    (982, (.aload_n 0, 1, [])),
    (983, (.iload 4, 2, [])),
    (985, (.iconst 3, 1, [])),
    (986, (.iadd, 1, [])),
    (987, (.iaload, 1, [])),
    (988, (.invokevirtual 117, 3, [73, 4, 11, 2134, 2135, 2136])),
    (991, (.if_icmp .eq 435, 3, [1426])),
    (996, (.aload_n 1, 1, [])),
    (997, (.aload_n 0, 1, [])),
    (998, (.iload 4, 2, []))]),
  (1014, [(1000, (.iconst 1, 1, [])),
    (1001, (.iadd, 1, [])),
    (1002, (.iaload, 1, [])),
    (1003, (.aload_n 0, 1, [])),
    (1004, (.iload 4, 2, [])),
    (1006, (.iconst 2, 1, [])),
    (1007, (.iadd, 1, [])),
    (1008, (.iaload, 1, [])),
    (1009, (.aload_n 0, 1, [])),
    (1010, (.iload 4, 2, [])),
    (1012, (.iconst 3, 1, [])),
    (1013, (.iadd, 1, []))]),
  (1032, [(1014, (.iaload, 1, [])),
    (1015, (.aload_n 3, 1, [])),
    (1019, (.istore 5, 2, [])),
    (1021, (.aload_n 2, 1, [])),
    (1022, (.aload_n 0, 1, [])),
    (1023, (.iload 4, 2, [])),
    (1025, (.iconst 1, 1, [])),
    (1026, (.iadd, 1, [])),
    (1027, (.iaload, 1, [])),
    (1028, (.aload_n 0, 1, [])),
    (1029, (.iload 4, 2, [])),
    (1031, (.iconst 2, 1, []))]),
  (1051, [(1032, (.iadd, 1, [])),
    (1033, (.iaload, 1, [])),
    (1034, (.aload_n 0, 1, [])),
    (1035, (.iload 4, 2, [])),
    (1037, (.iconst 3, 1, [])),
    (1038, (.iadd, 1, [])),
    (1039, (.iaload, 1, [])),
    (1040, (.invokevirtual 123, 3, [83, 4, 11, 2138, 2139, 2140])),
    (1043, (.istore 6, 2, [])),
    (1045, (.aload_n 2, 1, [])),
    (1046, (.invokevirtual 124, 3, [105, 1, 11, 1493, 1494, 1495])),
    (1049, (.iload 5, 2, []))]),
  (1086, [(1051, (.if_icmp .eq 5, 3, [1056])),
    (1056, (.iload 5, 2, [])),
    (1058, (.ifCond .ne 15, 3, [1073])),
    (1073, (.goto 353, 3, [1426])),
    (1076, (.aload_n 1, 1, [])),
    (1077, (.aload_n 0, 1, [])),
    (1078, (.iload 4, 2, [])),
    (1080, (.iconst 1, 1, [])),
    (1081, (.iadd, 1, [])),
    (1082, (.iaload, 1, [])),
    (1083, (.aload_n 0, 1, [])),
    (1084, (.iload 4, 2, []))]),
  (1102, [(1086, (.iconst 2, 1, [])),
    (1087, (.iadd, 1, [])),
    (1088, (.iaload, 1, [])),
    (1089, (.invokevirtual 127, 3, [86, 3, 0, 1296, 1297, 1298])),
    (1092, (.aload_n 2, 1, [])),
    (1093, (.aload_n 0, 1, [])),
    (1094, (.iload 4, 2, [])),
    (1096, (.iconst 1, 1, [])),
    (1097, (.iadd, 1, [])),
    (1098, (.iaload, 1, [])),
    (1099, (.aload_n 0, 1, [])),
    (1100, (.iload 4, 2, []))]),
  (1121, [(1102, (.iconst 2, 1, [])),
    (1103, (.iadd, 1, [])),
    (1104, (.iaload, 1, [])),
    (1105, (.invokevirtual 130, 3, [69, 3, 11, 2142, 2143, 2144])),
    (1108, (.if_icmp .eq 318, 3, [1426])),
    (1113, (.aload_n 1, 1, [])),
    (1114, (.aload_n 0, 1, [])),
    (1115, (.iload 4, 2, [])),
    (1117, (.iconst 1, 1, [])),
    (1118, (.iadd, 1, [])),
    (1119, (.iaload, 1, [])),
    (1120, (.aload_n 0, 1, []))]),
  (1137, [(1121, (.iload 4, 2, [])),
    (1123, (.iconst 2, 1, [])),
    (1124, (.iadd, 1, [])),
    (1125, (.iaload, 1, [])),
    (1126, (.invokevirtual 131, 3, [67, 3, 0, 1300, 1301, 1302])),
    (1129, (.aload_n 2, 1, [])),
    (1130, (.aload_n 0, 1, [])),
    (1131, (.iload 4, 2, [])),
    (1133, (.iconst 1, 1, [])),
    (1134, (.iadd, 1, [])),
    (1135, (.iaload, 1, [])),
    (1136, (.aload_n 0, 1, []))]),
  (1157, [(1137, (.iload 4, 2, [])),
    (1139, (.iconst 2, 1, [])),
    (1140, (.iadd, 1, [])),
    (1141, (.iaload, 1, [])),
    (1142, (.invokevirtual 134, 3, [82, 3, 11, 2146, 2147, 2148])),
    (1145, (.if_icmp .eq 281, 3, [1426])),
    (1150, (.aload_n 1, 1, [])),
    (1151, (.aload_n 0, 1, [])),
    (1152, (.iload 4, 2, [])),
    (1154, (.iconst 1, 1, [])),
    (1155, (.iadd, 1, [])),
    (1156, (.iaload, 1, []))]),
  (1179, [(1157, (.invokevirtual 135, 3, [54, 2, 0, 1314, 1315, 1316])),
    (1160, (.aload_n 2, 1, [])),
    (1161, (.aload_n 0, 1, [])),
    (1162, (.iload 4, 2, [])),
    (1164, (.iconst 1, 1, [])),
    (1165, (.iadd, 1, [])),
    (1166, (.iaload, 1, [])),
    (1167, (.invokevirtual 138, 3, [50, 2, 11, 2150, 2151, 2152])),
    (1170, (.if_icmp .eq 256, 3, [1426])),
    (1175, (.aload_n 1, 1, [])),
    (1176, (.aload_n 0, 1, [])),
    (1177, (.iload 4, 2, []))]),
  (1193, [(1179, (.iconst 1, 1, [])),
    (1180, (.iadd, 1, [])),
    (1181, (.iaload, 1, [])),
    (1182, (.aload_n 0, 1, [])),
    (1183, (.iload 4, 2, [])),
    (1185, (.iconst 2, 1, [])),
    (1186, (.iadd, 1, [])),
    (1187, (.iaload, 1, [])),
    (1188, (.aload_n 0, 1, [])),
    (1189, (.iload 4, 2, [])),
    (1191, (.iconst 3, 1, [])),
    (1192, (.iadd, 1, []))]),
  (1209, [(1193, (.iaload, 1, [])),
    (1194, (.invokevirtual 139, 3, [113, 4, 0, 1326, 1327, 1328])),
    (1197, (.aload_n 2, 1, [])),
    (1198, (.aload_n 0, 1, [])),
    (1199, (.iload 4, 2, [])),
    (1201, (.iconst 1, 1, [])),
    (1202, (.iadd, 1, [])),
    (1203, (.iaload, 1, [])),
    (1204, (.aload_n 0, 1, [])),
    (1205, (.iload 4, 2, [])),
    (1207, (.iconst 2, 1, [])),
    (1208, (.iadd, 1, []))]),
  (1232, [(1209, (.iaload, 1, [])),
    (1210, (.aload_n 0, 1, [])),
    (1211, (.iload 4, 2, [])),
    (1213, (.iconst 3, 1, [])),
    (1214, (.iadd, 1, [])),
    (1215, (.iaload, 1, [])),
    (1216, (.invokevirtual 142, 3, [78, 4, 11, 2158, 2159, 2160])),
    (1219, (.if_icmp .eq 207, 3, [1426])),
    (1224, (.aload_n 1, 1, [])),
    (1225, (.invokevirtual 143, 3, [150, 1, 0, 1334, 1335, 1336])),
    (1228, (.aload_n 2, 1, [])),
    (1229, (.invokevirtual 146, 3, [162, 1, 11, 2166, 2167, 2168]))]),
  (1257, [(1232, (.if_icmp .eq 194, 3, [1426])),
    (1237, (.aload_n 1, 1, [])),
    (1238, (.invokevirtual 147, 3, [145, 1, 0, 1351, 1352, 1353])),
    (1241, (.aload_n 2, 1, [])),
    (1242, (.invokevirtual 150, 3, [121, 1, 11, 2186, 2187, 2188])),
    (1245, (.if_icmp .eq 181, 3, [1426])),
    (1250, (.aload_n 1, 1, [])),
    (1251, (.aload_n 0, 1, [])),
    (1252, (.iload 4, 2, [])),
    (1254, (.iconst 1, 1, [])),
    (1255, (.iadd, 1, [])),
    (1256, (.iaload, 1, []))]),
  (1273, [(1257, (.aload_n 0, 1, [])),
    (1258, (.iload 4, 2, [])),
    (1260, (.iconst 2, 1, [])),
    (1261, (.iadd, 1, [])),
    (1262, (.iaload, 1, [])),
    (1263, (.aload_n 0, 1, [])),
    (1264, (.iload 4, 2, [])),
    (1266, (.iconst 3, 1, [])),
    (1267, (.iadd, 1, [])),
    (1268, (.iaload, 1, [])),
    (1269, (.invokevirtual 151, 3, [42, 4, 0, 1365, 1366, 1367])),
    (1272, (.aload_n 2, 1, []))]),
  (1288, [(1273, (.aload_n 0, 1, [])),
    (1274, (.iload 4, 2, [])),
    (1276, (.iconst 1, 1, [])),
    (1277, (.iadd, 1, [])),
    (1278, (.iaload, 1, [])),
    (1279, (.aload_n 0, 1, [])),
    (1280, (.iload 4, 2, [])),
    (1282, (.iconst 2, 1, [])),
    (1283, (.iadd, 1, [])),
    (1284, (.iaload, 1, [])),
    (1285, (.aload_n 0, 1, [])),
    (1286, (.iload 4, 2, []))]),
  (1307, [(1288, (.iconst 3, 1, [])),
    (1289, (.iadd, 1, [])),
    (1290, (.iaload, 1, [])),
    (1291, (.invokevirtual 154, 3, [43, 4, 11, 2190, 2191, 2192])),
    (1294, (.if_icmp .eq 132, 3, [1426])),
    (1299, (.aload_n 1, 1, [])),
    (1300, (.aload_n 0, 1, [])),
    (1301, (.iload 4, 2, [])),
    (1303, (.iconst 1, 1, [])),
    (1304, (.iadd, 1, [])),
    (1305, (.iaload, 1, [])),
    (1306, (.aload_n 0, 1, []))]),
  (1323, [(1307, (.iload 4, 2, [])),
    (1309, (.iconst 2, 1, [])),
    (1310, (.iadd, 1, [])),
    (1311, (.iaload, 1, [])),
    (1312, (.aload_n 0, 1, [])),
    (1313, (.iload 4, 2, [])),
    (1315, (.iconst 3, 1, [])),
    (1316, (.iadd, 1, [])),
    (1317, (.iaload, 1, [])),
    (1318, (.invokevirtual 155, 3, [35, 4, 0, 1399, 1400, 1401])),
    (1321, (.aload_n 2, 1, [])),
    (1322, (.aload_n 0, 1, []))]),
  (1338, [(1323, (.iload 4, 2, [])),
    (1325, (.iconst 1, 1, [])),
    (1326, (.iadd, 1, [])),
    (1327, (.iaload, 1, [])),
    (1328, (.aload_n 0, 1, [])),
    (1329, (.iload 4, 2, [])),
    (1331, (.iconst 2, 1, [])),
    (1332, (.iadd, 1, [])),
    (1333, (.iaload, 1, [])),
    (1334, (.aload_n 0, 1, [])),
    (1335, (.iload 4, 2, [])),
    (1337, (.iconst 3, 1, []))]),
  (1358, [(1338, (.iadd, 1, [])),
    (1339, (.iaload, 1, [])),
    (1340, (.invokevirtual 158, 3, [33, 4, 11, 2202, 2203, 2204])),
    (1343, (.if_icmp .eq 83, 3, [1426])),
    (1348, (.aload_n 1, 1, [])),
    (1349, (.aload_n 0, 1, [])),
    (1350, (.iload 4, 2, [])),
    (1352, (.iconst 1, 1, [])),
    (1353, (.iadd, 1, [])),
    (1354, (.iaload, 1, [])),
    (1355, (.aload_n 0, 1, [])),
    (1356, (.iload 4, 2, []))]),
  (1377, [(1358, (.iconst 2, 1, [])),
    (1359, (.iadd, 1, [])),
    (1360, (.iaload, 1, [])),
    (1361, (.ifCond .eq 7, 3, [1368])),
    (1364, (.iconst 1, 1, [])),
    (1365, (.goto 4, 3, [1369])),
    (1368, (.iconst 0, 1, [])),
    (1369, (.invokevirtual 159, 3, [14, 3, 0, 1412, 1413, 1414])),
    (1372, (.aload_n 2, 1, [])),
    (1373, (.aload_n 0, 1, [])),
    (1374, (.iload 4, 2, [])),
    (1376, (.iconst 1, 1, []))]),
  (1396, [(1377, (.iadd, 1, [])),
    (1378, (.iaload, 1, [])),
    (1379, (.aload_n 0, 1, [])),
    (1380, (.iload 4, 2, [])),
    (1382, (.iconst 2, 1, [])),
    (1383, (.iadd, 1, [])),
    (1384, (.iaload, 1, [])),
    (1385, (.ifCond .eq 7, 3, [1392])),
    (1388, (.iconst 1, 1, [])),
    (1389, (.goto 4, 3, [1393])),
    (1392, (.iconst 0, 1, [])),
    (1393, (.invokevirtual 163, 3, [15, 3, 11, 2214, 2215, 2216]))]),
  (1416, [(1396, (.if_icmp .eq 30, 3, [1426])),
    (1401, (.aload_n 1, 1, [])),
    (1402, (.aload_n 0, 1, [])),
    (1403, (.iload 4, 2, [])),
    (1405, (.iconst 1, 1, [])),
    (1406, (.iadd, 1, [])),
    (1407, (.iaload, 1, [])),
    (1408, (.invokevirtual 164, 3, [18, 2, 0, 1416, 1417, 1418])),
    (1411, (.aload_n 2, 1, [])),
    (1412, (.aload_n 0, 1, [])),
    (1413, (.iload 4, 2, [])),
    (1415, (.iconst 1, 1, []))]),
  (100000, [(1416, (.iadd, 1, [])),
    (1417, (.iaload, 1, [])),
    (1418, (.invokevirtual 167, 3, [20, 2, 11, 2218, 2219, 2220])),
    (1421, (.if_icmp .eq 5, 3, [1426])),
    (1426, (.iinc 4 7, 3, [])),
    (1429, (.goto (-1406), 3, [23])),
    (1432, (.iconst 1, 1, []))])]
def zi_mlaw : zi_M := (⟨"AgreeToldLaw", "law", "([I)Z"⟩, code, 7, ret, zi_tlaw, [])
def zi_tlf : zi_T := [(100000, [(0, (.aload 4, 2, [])),
    (2, (.iconst 0, 1, [])),
    (3, (.aload_n 0, 1, [])),
    (4, (.iload_n 1, 1, [])),
    (5, (.iload_n 2, 1, [])),
    (6, (.iload_n 3, 1, []))])]
def zi_mlf : zi_M := (⟨"AgreeToldLaw", "first", "(LAgreeTold;III[J)I"⟩, method_3_code, 6, some .int, zi_tlf, [])
def zi_tf : zi_T := [(100000, [(0, (.aload_n 0, 1, [])),
    (1, (.getfield 93, 3, [0, 16, 632])),
    (4, (.iload_n 1, 1, [])),
    (5, (.iload_n 2, 1, [])),
    (6, (.iload_n 3, 1, [])),
    (7, (.invokevirtual 244, 3, [28, 4, 3, 1145, 1146, 1147])),
    (10, (.ifCond .ne 14, 3, [24]))])]
def zi_mf : zi_M := (⟨"AgreeTold", "first", "(III)I"⟩, prog_1_method_24_code, 6, (some FieldType.int), zi_tf, [1427, 150])
def zi_Ms : List zi_M := [zi_m0, zi_m1, zi_m2, zi_m3, zi_m4, zi_m5, zi_m6, zi_m7, zi_m8, zi_m9, zi_m10, zi_m11, zi_m12, zi_m13, zi_m14, zi_m15, zi_m16, zi_m17, zi_m18, zi_m19, zi_m20, zi_m21, zi_m22, zi_m23, zi_m24, zi_m25, zi_m26, zi_m27, zi_m28, zi_m29, zi_m30, zi_m31, zi_m32, zi_m33, zi_m34, zi_m35, zi_m36, zi_m37, zi_m38, zi_m39, zi_m40, zi_m41, zi_m42, zi_m43, zi_m44, zi_m45, zi_m46, zi_m47, zi_m48, zi_m49, zi_m50, zi_m51, zi_m52, zi_m53, zi_m54, zi_m55, zi_m56, zi_m57, zi_m58, zi_m59, zi_m60, zi_m61, zi_m62, zi_m63, zi_m64, zi_m65, zi_m66, zi_m67, zi_m68, zi_m69, zi_m70, zi_m71, zi_m72, zi_m73, zi_m74, zi_m75, zi_m76, zi_m77, zi_m78, zi_m79, zi_m80, zi_m81, zi_m82, zi_m83, zi_m84, zi_m85, zi_m86, zi_m87, zi_m88, zi_m89, zi_m90, zi_m91, zi_m92, zi_m93, zi_m94, zi_m95, zi_m96, zi_m97, zi_m98, zi_m99, zi_m100, zi_m101, zi_m102, zi_m103, zi_m104, zi_m105, zi_m106, zi_m107, zi_m108, zi_m109, zi_m110, zi_m111, zi_m112, zi_m113, zi_m114, zi_m115, zi_m116, zi_m117, zi_m118, zi_m119, zi_m120, zi_m121, zi_m122, zi_m123, zi_m124, zi_m125, zi_m126, zi_m127, zi_m128, zi_m129, zi_m130, zi_m131, zi_m132, zi_m133, zi_m134, zi_m135, zi_m136, zi_m137, zi_m138, zi_m139, zi_m140, zi_m141, zi_m142, zi_m143, zi_m144, zi_m145, zi_m146, zi_m147, zi_m148, zi_m149, zi_m150, zi_m151, zi_m152, zi_m153, zi_m154, zi_m155, zi_m156, zi_m157, zi_m158, zi_m159, zi_m160, zi_m161, zi_m162, zi_m163, zi_m164, zi_m165, zi_m166]
end
section
/-! The checks of the tables. -/
def zi_ckM (Ms : List zi_M) (N : zi_M) : Bool := (match N.2.2.2.2.2 with | [p, q] => zi_at p (.code N.1 N.2.1 N.2.2.1 N.2.2.2.1) && zi_at q (.initialized N.1.cls) | _ => false) && !decide (N.1.cls = "java/lang/invoke/MethodHandle") && !decide (N.1.cls = "java/lang/invoke/VarHandle") && plainName N.1.cls && Nat.ble N.2.2.1 41 && N.2.2.2.2.1.all (fun ch => ch.2.all (fun q => zi_ok Ms N q.1 q.2))
theorem zi_lk_mem {pc : Nat} {e : zi_E} : ∀ {l : List (Nat × zi_E)}, zi_lk pc l = some e → (pc, e) ∈ l
  | [], h => by cases h
  | q :: l, h => by
    have h : (bif Nat.beq q.1 pc then some q.2 else zi_lk pc l) = some e := h
    cases hb : Nat.beq q.1 pc with
    | true =>
      rw [hb] at h
      have e1 := Nat.eq_of_beq_eq_true hb
      have e2 : q.2 = e := Option.some.inj h
      rw [← e1, ← e2]
      exact List.mem_cons_self
    | false => rw [hb] at h; exact List.mem_cons_of_mem _ (zi_lk_mem h)
theorem zi_lk2_mem {pc : Nat} {e : zi_E} : ∀ {l : zi_T}, zi_lk2 pc l = some e → ∃ ch ∈ l, (pc, e) ∈ ch.2
  | [], h => by cases h
  | q :: l, h => by
    have h : (bif Nat.ble q.1 pc then zi_lk2 pc l else zi_lk pc q.2) = some e := h
    cases hb : Nat.ble q.1 pc with
    | true =>
      rw [hb] at h
      obtain ⟨ch, h1, h2⟩ := zi_lk2_mem h
      exact ⟨ch, List.mem_cons_of_mem _ h1, h2⟩
    | false => rw [hb] at h; exact ⟨q, List.mem_cons_self, zi_lk_mem h⟩
theorem zi_okT_of {Ms : List zi_M} {N : zi_M} (h : N.2.2.2.2.1.all (fun ch => ch.2.all (fun q => zi_ok Ms N q.1 q.2)) = true) : zi_okT Ms N := by
  intro pc e he
  obtain ⟨ch, h1, h2⟩ := zi_lk2_mem he
  exact List.all_eq_true.mp (List.all_eq_true.mp h ch h1) (pc, e) h2
theorem zi_ckM_ok {Ms : List zi_M} {N : zi_M} (h : zi_ckM Ms N = true) : zi_okM N ∧ zi_okT Ms N := by
  unfold zi_ckM at h
  simp only [Bool.and_eq_true, Bool.not_eq_true', decide_eq_false_iff_not] at h
  obtain ⟨⟨⟨⟨⟨h1, h2⟩, h3⟩, h4⟩, h5⟩, h6⟩ := h
  refine ⟨?_, zi_okT_of h6⟩
  split at h1
  · rw [Bool.and_eq_true] at h1
    exact ⟨zi_at_mem h1.1, zi_at_mem h1.2, ⟨h2, h3⟩, h4, Nat.le_of_ble_eq_true h5⟩
  · cases h1
end
section
/-! The state behind the two constructors. -/
def zi_A0 : List zi_C := [
  .inl (0, [.inl (.ref 11), .inl (.ref 12), .inl (.ref 34), .inl (.ref 44), .inl (.ref 46), .inl (.ref 49), .inl (.ref 50), .inl (.ref 56), .inl (.ref 57), .inl (.ref 58), .inl (.ref 60), .inl (.ref 62), .inl (.ref 64), .inl (.ref 65), .inl (.ref 66), .inl (.ref 67), .inl (.ref 68), .inl (.int 0), .inl (.int 0)]),
  .inl (1, [.inl (.ref 12), .inl (.ref 18), .inl (.ref 19), .inl (.int 0), .inl (.int 0), .inl (.int 0), .inl (.ref 20), .inl (.int 0), .inl (.int 0), .inl (.int 0), .inl (.long 0), .inl (.int 0)]),
  .inl (2, [.inl (.ref 13), .inl (.ref 14), .inl (.ref 15), .inl (.ref 16), .inl (.ref 17), .inl (.int 0), .inl (.int 0)]),
  .inr (3, 1000, .inl (.int 0), []),
  .inr (0, 1001, .inl (.int 0), []),
  .inr (0, 1001, .inl (.int 0), []),
  .inr (1, 1001, .inl (.long 0), []),
  .inr (1, 29, .inl (.long 0), [(28, .inl (.long 498)), (28, .inl (.long 15)), (27, .inl (.long 1476)), (27, .inl (.long 46)), (27, .inl (.long 1)), (26, .inl (.long 14836)), (26, .inl (.long 463)), (26, .inl (.long 14)), (25, .inl (.long 24865546418)), (25, .inl (.long 777048325)), (25, .inl (.long 24282760)), (25, .inl (.long 758836)), (25, .inl (.long 23713)), (25, .inl (.long 741)), (25, .inl (.long 23)), (24, .inl (.long 7931332)), (24, .inl (.long 247854)), (24, .inl (.long 7745)), (24, .inl (.long 242)), (24, .inl (.long 7)), (23, .inl (.long 212460)), (23, .inl (.long 6639)), (23, .inl (.long 207)), (23, .inl (.long 6)), (22, .inl (.long 23109285)), (22, .inl (.long 722165)), (22, .inl (.long 22567)), (22, .inl (.long 705)), (22, .inl (.long 22)), (21, .inl (.long 17171758)), (21, .inl (.long 536617)), (21, .inl (.long 16769)), (21, .inl (.long 524)), (21, .inl (.long 16)), (20, .inl (.long 441972)), (20, .inl (.long 13811)), (20, .inl (.long 431)), (20, .inl (.long 13)), (19, .inl (.long 21279923)), (19, .inl (.long 664997)), (19, .inl (.long 20781)), (19, .inl (.long 649)), (19, .inl (.long 20)), (18, .inl (.long 14866610)), (18, .inl (.long 464581)), (18, .inl (.long 14518)), (18, .inl (.long 453)), (18, .inl (.long 14)), (17, .inl (.long 186546)), (17, .inl (.long 5829)), (17, .inl (.long 182)), (17, .inl (.long 5)), (16, .inl (.long 215533)), (16, .inl (.long 6735)), (16, .inl (.long 210)), (16, .inl (.long 6)), (15, .inl (.long 89)), (15, .inl (.long 2)), (14, .inl (.long 494)), (14, .inl (.long 15)), (13, .inl (.long 1315876)), (13, .inl (.long 41121)), (13, .inl (.long 1285)), (13, .inl (.long 40)), (13, .inl (.long 1)), (12, .inl (.long 703541682354)), (12, .inl (.long 21985677573)), (12, .inl (.long 687052424)), (12, .inl (.long 21470388)), (12, .inl (.long 670949)), (12, .inl (.long 20967)), (12, .inl (.long 655)), (12, .inl (.long 20)), (11, .inl (.long 1420)), (11, .inl (.long 44)), (11, .inl (.long 1)), (10, .inl (.long 638373)), (10, .inl (.long 19949)), (10, .inl (.long 623)), (10, .inl (.long 19)), (9, .inl (.long 17376357)), (9, .inl (.long 543011)), (9, .inl (.long 16969)), (9, .inl (.long 530)), (9, .inl (.long 16)), (8, .inl (.long 6642)), (8, .inl (.long 207)), (8, .inl (.long 6)), (7, .inl (.long 763496)), (7, .inl (.long 23859)), (7, .inl (.long 745)), (7, .inl (.long 23)), (6, .inl (.long 12343)), (6, .inl (.long 385)), (6, .inl (.long 12)), (5, .inl (.long 17484389)), (5, .inl (.long 546387)), (5, .inl (.long 17074)), (5, .inl (.long 533)), (5, .inl (.long 16)), (4, .inl (.long 17800110260)), (4, .inl (.long 556253445)), (4, .inl (.long 17382920)), (4, .inl (.long 543216)), (4, .inl (.long 16975)), (4, .inl (.long 530)), (4, .inl (.long 16)), (3, .inl (.long 5969364)), (3, .inl (.long 186542)), (3, .inl (.long 5829)), (3, .inl (.long 182)), (3, .inl (.long 5)), (2, .inl (.long 656780)), (2, .inl (.long 20524)), (2, .inl (.long 641)), (2, .inl (.long 20)), (1, .inl (.long 542723566)), (1, .inl (.long 16960111)), (1, .inl (.long 530003)), (1, .inl (.long 16562)), (1, .inl (.long 517)), (1, .inl (.long 16)), (0, .inl (.long 132915)), (0, .inl (.long 4153)), (0, .inl (.long 129)), (0, .inl (.long 4))]),
  .inr (1, 3, .inl (.long 0), [(2, .inl (.long 671108)), (2, .inl (.long 20972)), (2, .inl (.long 655)), (2, .inl (.long 20)), (1, .inl (.long 1265842)), (1, .inl (.long 39557)), (1, .inl (.long 1236)), (1, .inl (.long 38)), (1, .inl (.long 1)), (0, .inl (.long 72564293)), (0, .inl (.long 2267634)), (0, .inl (.long 70863)), (0, .inl (.long 2214)), (0, .inl (.long 69)), (0, .inl (.long 2))]),
  .inr (0, 1002, .inl (.int 0), []),
  .inl (3, [.inl (.ref 21), .inl (.ref 22), .inl (.ref 23), .inl (.ref 24), .inl (.ref 25), .inl (.ref 26), .inl (.ref 27), .inl (.ref 28), .inl (.ref 29), .inl (.ref 30), .inl (.ref 31), .inl (.ref 32), .inl (.ref 33), .inl (.int 0), .inl (.int 1), .inl (.int 0), .inl (.int 0), .inl (.int 0), .inl (.int 0), .inl (.int 0)]),
  .inr (1, 4, .inl (.long 0), []),
  .inr (1, 4, .inl (.long 0), []),
  .inr (1, 5, .inl (.long 0), []),
  .inr (0, 4, .inl (.int 0), []),
  .inr (0, 5, .inl (.int 0), []),
  .inr (0, 5, .inl (.int 0), []),
  .inr (0, 6, .inl (.int 0), []),
  .inr (0, 6, .inl (.int 0), []),
  .inr (0, 4, .inl (.int 0), []),
  .inr (0, 4, .inl (.int 0), []),
  .inr (0, 6, .inl (.int 0), []),
  .inr (0, 6, .inl (.int 0), []),
  .inr (0, 1, .inl (.int 0), [(0, .inl (.int 258))]),
  .inl (4, [.inl (.ref 35), .inl (.ref 37), .inl (.int 1), .inl (.ref 39), .inl (.ref 40), .inl (.ref 41), .inl (.ref 43), .inl (.int 1), .inl (.int 0), .inl (.int 1)]),
  .inl (5, [.inl (.ref 36), .inl (.int 1)]),
  .inr (1, 1, .inl (.long 0), [(0, .inl (.long 1))]),
  .inl (5, [.inl (.ref 38), .inl (.int 1)]),
  .inr (1, 1, .inl (.long 0), []),
  .inr (4, 96, .inl .null, []),
  .inr (4, 6, .inl .null, []),
  .inl (5, [.inl (.ref 42), .inl (.int 1)]),
  .inr (1, 1, .inl (.long 0), []),
  .inr (1, 64, .inl (.long 0), []),
  .inl (6, [.inl (.ref 45)]),
  .inr (0, 64, .inl (.int 0), []),
  .inl (7, [.inl (.ref 47), .inl (.ref 48), .inl (.int 0)]),
  .inr (4, 12, .inl .null, []),
  .inr (2, 1, .inl (.int 0), []),
  .inl (8, [.inl (.long 0)]),
  .inl (9, [.inl (.ref 51), .inl (.ref 52), .inl (.ref 53), .inl (.ref 54), .inl (.ref 55), .inl .null, .inl (.int 0), .inl (.int 1), .inl (.int 0)]),
  .inr (6, 12, .inl .null, []),
  .inr (0, 5, .inl (.int 0), []),
  .inr (0, 24, .inl (.int 0), [(23, .inl (.int (-1))), (22, .inl (.int (-1))), (21, .inl (.int (-1))), (20, .inl (.int (-1))), (19, .inl (.int (-1))), (18, .inl (.int (-1))), (17, .inl (.int (-1))), (16, .inl (.int (-1))), (15, .inl (.int (-1))), (14, .inl (.int (-1))), (13, .inl (.int (-1))), (12, .inl (.int (-1))), (11, .inl (.int (-1))), (10, .inl (.int (-1))), (9, .inl (.int (-1))), (8, .inl (.int (-1))), (7, .inl (.int (-1))), (6, .inl (.int (-1))), (5, .inl (.int (-1))), (4, .inl (.int (-1))), (3, .inl (.int (-1))), (2, .inl (.int (-1))), (1, .inl (.int (-1))), (0, .inl (.int (-1)))]),
  .inr (0, 20, .inl (.int 0), []),
  .inr (0, 20, .inl (.int 0), []),
  .inr (5, 16, .inl .null, []),
  .inr (5, 4, .inl .null, []),
  .inl (5, [.inl (.ref 59), .inl (.int 1)]),
  .inr (1, 1, .inl (.long 0), [(0, .inl (.long 1))]),
  .inl (5, [.inl (.ref 61), .inl (.int 1)]),
  .inr (1, 1, .inl (.long 0), []),
  .inl (5, [.inl (.ref 63), .inl (.int 1)]),
  .inr (1, 1, .inl (.long 0), []),
  .inr (0, 96, .inl (.int 0), []),
  .inr (0, 2, .inl (.int 0), []),
  .inr (0, 5, .inl (.int 0), []),
  .inr (2, 64, .inl (.int 0), []),
  .inl (3, [.inl (.ref 69), .inl (.ref 70), .inl (.ref 71), .inl (.ref 72), .inl (.ref 73), .inl (.ref 74), .inl (.ref 75), .inl (.ref 76), .inl (.ref 77), .inl (.ref 78), .inl (.ref 79), .inl (.ref 80), .inl (.ref 81), .inl (.int 0), .inl (.int 1), .inl (.int 0), .inl (.int 0), .inl (.int 0), .inl (.int 0), .inl (.int 0)]),
  .inr (1, 4, .inl (.long 0), []),
  .inr (1, 4, .inl (.long 0), []),
  .inr (1, 5, .inl (.long 0), []),
  .inr (0, 4, .inl (.int 0), []),
  .inr (0, 5, .inl (.int 0), []),
  .inr (0, 5, .inl (.int 0), []),
  .inr (0, 6, .inl (.int 0), []),
  .inr (0, 6, .inl (.int 0), []),
  .inr (0, 4, .inl (.int 0), []),
  .inr (0, 4, .inl (.int 0), []),
  .inr (0, 6, .inl (.int 0), []),
  .inr (0, 6, .inl (.int 0), []),
  .inr (0, 1, .inl (.int 0), [(0, .inl (.int 258))]),
  .inl (11, [.inl (.int 0), .inl (.ref 83), .inl (.int 0), .inl (.int 0), .inl (.ref 84), .inl (.ref 85), .inl (.ref 86), .inl (.int 0), .inl (.int 0), .inl (.ref 87), .inl (.ref 88), .inl (.ref 89), .inl (.ref 90), .inl (.int 0), .inl (.ref 91), .inl (.ref 92), .inl (.ref 93), .inl (.ref 94), .inl (.int 0), .inl (.int 0), .inl (.int 0), .inl (.ref 95), .inl (.ref 96), .inl (.ref 97), .inl (.int 1), .inl (.int 1), .inl (.ref 98), .inl (.ref 99), .inl (.int 0), .inl (.ref 100), .inl (.int 0), .inl (.ref 101), .inl (.ref 102), .inl (.int 0), .inl (.int 0), .inl (.int 0), .inl (.ref 103), .inl (.int 0), .inl (.ref 104), .inl (.ref 105), .inl (.int 0), .inl (.ref 106), .inl (.ref 107), .inl (.long 0), .inl (.ref 108)]),
  .inr (0, 1000, .inl (.int 0), []),
  .inr (0, 1002, .inl (.int 0), []),
  .inr (0, 1002, .inl (.int 0), []),
  .inr (1, 1002, .inl (.long 0), []),
  .inr (1, 32, .inl (.long 0), [(31, .inl (.long 1034043)), (30, .inl (.long 2205662)), (29, .inl (.long 148383843)), (28, .inl (.long 573)), (27, .inl (.long 1891)), (26, .inl (.long 19741)), (25, .inl (.long 59361325568)), (24, .inl (.long 14032772)), (23, .inl (.long 325020)), (22, .inl (.long 41292560)), (21, .inl (.long 30596128)), (20, .inl (.long 679747)), (19, .inl (.long 37957098)), (18, .inl (.long 26521840)), (17, .inl (.long 283586)), (16, .inl (.long 329128)), (15, .inl (.long 99)), (14, .inl (.long 569)), (13, .inl (.long 2286271)), (12, .inl (.long 1937619241514)), (11, .inl (.long 1825)), (10, .inl (.long 983428)), (9, .inl (.long 30910767)), (8, .inl (.long 8787)), (7, .inl (.long 1178051)), (6, .inl (.long 16488)), (5, .inl (.long 31075639)), (4, .inl (.long 42328747790)), (3, .inl (.long 10492554)), (2, .inl (.long 1014885)), (1, .inl (.long 1119812451)), (0, .inl (.long 204925))]),
  .inr (0, 100, .inl (.int 0), [(0, .inl (.int 1)), (6, .inl (.int (-1))), (49, .inl (.int 0)), (48, .inl (.int 0)), (47, .inl (.int 0)), (46, .inl (.int 0)), (45, .inl (.int 0)), (44, .inl (.int 0)), (43, .inl (.int 0)), (42, .inl (.int 0)), (41, .inl (.int 0)), (40, .inl (.int 0)), (39, .inl (.int 0)), (38, .inl (.int 0)), (37, .inl (.int 0)), (36, .inl (.int 0)), (35, .inl (.int 0)), (34, .inl (.int 0)), (33, .inl (.int 0)), (32, .inl (.int 0)), (31, .inl (.int 0)), (30, .inl (.int 0)), (29, .inl (.int 0)), (28, .inl (.int 0)), (27, .inl (.int 0)), (26, .inl (.int 0)), (25, .inl (.int 0)), (24, .inl (.int 0)), (23, .inl (.int 0)), (22, .inl (.int 0)), (21, .inl (.int 0)), (20, .inl (.int 0)), (19, .inl (.int 0)), (18, .inl (.int 0)), (17, .inl (.int 0)), (16, .inl (.int 0)), (15, .inl (.int 0)), (14, .inl (.int 0)), (13, .inl (.int 0)), (12, .inl (.int 0)), (11, .inl (.int 0)), (10, .inl (.int 0)), (9, .inl (.int 0)), (8, .inl (.int 0)), (7, .inl (.int 0)), (6, .inl (.int 0)), (5, .inl (.int 0)), (4, .inl (.int 0)), (3, .inl (.int 0)), (2, .inl (.int 0)), (1, .inl (.int 0)), (0, .inl (.int 0))]),
  .inr (0, 2200, .inl (.int 0), []),
  .inr (0, 2200, .inl (.int 0), []),
  .inr (1, 13, .inl (.long 0), []),
  .inr (1, 13, .inl (.long 0), []),
  .inr (0, 13, .inl (.int 0), []),
  .inr (0, 13, .inl (.int 0), []),
  .inr (0, 3, .inl (.int 0), []),
  .inr (0, 1100, .inl (.int 0), []),
  .inr (1, 159744, .inl (.long 0), [(16384, .inl (.long 1)), (16384, .inl (.long 0)), (15872, .inl (.long 0)), (15360, .inl (.long 0)), (14848, .inl (.long 0)), (14336, .inl (.long 0)), (13824, .inl (.long 0)), (13312, .inl (.long 0)), (12800, .inl (.long 0)), (12288, .inl (.long 0)), (11776, .inl (.long 0)), (11264, .inl (.long 0)), (10752, .inl (.long 0)), (10240, .inl (.long 0)), (9728, .inl (.long 0)), (9216, .inl (.long 0)), (8704, .inl (.long 0)), (8192, .inl (.long 0)), (7680, .inl (.long 0)), (7168, .inl (.long 0)), (6656, .inl (.long 0)), (6144, .inl (.long 0)), (5632, .inl (.long 0)), (5120, .inl (.long 0)), (4608, .inl (.long 0)), (4096, .inl (.long 0)), (3584, .inl (.long 0)), (3072, .inl (.long 0)), (2560, .inl (.long 0)), (2048, .inl (.long 0)), (1536, .inl (.long 0)), (1024, .inl (.long 0)), (512, .inl (.long 0)), (0, .inl (.long 0))]),
  .inr (0, 25, .inl (.int 0), []),
  .inr (0, 24, .inl (.int 0), []),
  .inr (0, 2310, .inl (.int 0), [(7, .inl (.int 0)), (6, .inl (.int 0)), (5, .inl (.int 0)), (4, .inl (.int 0)), (3, .inl (.int 0)), (1, .inl (.int 1)), (109, .inl (.int 0)), (108, .inl (.int 0)), (107, .inl (.int 0)), (106, .inl (.int 0)), (105, .inl (.int 0)), (104, .inl (.int 0)), (103, .inl (.int 0)), (102, .inl (.int 0)), (101, .inl (.int 0)), (100, .inl (.int 0)), (99, .inl (.int 0)), (98, .inl (.int 0)), (97, .inl (.int 0)), (96, .inl (.int 0)), (95, .inl (.int 0)), (94, .inl (.int 0)), (93, .inl (.int 0)), (92, .inl (.int 0)), (91, .inl (.int 0)), (90, .inl (.int 0)), (89, .inl (.int 0)), (88, .inl (.int 0)), (87, .inl (.int 0)), (86, .inl (.int 0)), (85, .inl (.int 0)), (84, .inl (.int 0)), (83, .inl (.int 0)), (82, .inl (.int 0)), (81, .inl (.int 0)), (80, .inl (.int 0)), (79, .inl (.int 0)), (78, .inl (.int 0)), (77, .inl (.int 0)), (76, .inl (.int 0)), (75, .inl (.int 0)), (74, .inl (.int 0)), (73, .inl (.int 0)), (72, .inl (.int 0)), (71, .inl (.int 0)), (70, .inl (.int 0)), (69, .inl (.int 0)), (68, .inl (.int 0)), (67, .inl (.int (-1))), (66, .inl (.int (-1))), (65, .inl (.int (-1))), (64, .inl (.int (-1))), (63, .inl (.int (-1))), (62, .inl (.int (-1))), (61, .inl (.int (-1))), (60, .inl (.int (-1))), (59, .inl (.int (-1))), (58, .inl (.int (-1))), (57, .inl (.int (-1))), (56, .inl (.int (-1))), (55, .inl (.int (-1))), (54, .inl (.int (-1))), (53, .inl (.int (-1))), (52, .inl (.int (-1))), (51, .inl (.int (-1))), (50, .inl (.int (-1))), (49, .inl (.int (-1))), (48, .inl (.int (-1))), (47, .inl (.int (-1))), (46, .inl (.int (-1))), (45, .inl (.int (-1))), (44, .inl (.int (-1))), (43, .inl (.int 0)), (42, .inl (.int 0)), (41, .inl (.int 0)), (40, .inl (.int 0)), (39, .inl (.int 0)), (38, .inl (.int 0)), (37, .inl (.int 0)), (36, .inl (.int 0)), (35, .inl (.int 0)), (34, .inl (.int 0)), (33, .inl (.int 0)), (32, .inl (.int 0)), (31, .inl (.int 0)), (30, .inl (.int 0)), (29, .inl (.int 0)), (28, .inl (.int 0)), (27, .inl (.int 0)), (26, .inl (.int 0)), (25, .inl (.int 0)), (24, .inl (.int 0)), (23, .inl (.int 0)), (22, .inl (.int 0)), (21, .inl (.int 0)), (20, .inl (.int 0)), (19, .inl (.int 0)), (18, .inl (.int 0)), (17, .inl (.int 0)), (16, .inl (.int 0)), (15, .inl (.int 0)), (14, .inl (.int 0)), (13, .inl (.int 0)), (12, .inl (.int 0)), (11, .inl (.int 0)), (10, .inl (.int 0)), (9, .inl (.int 0)), (8, .inl (.int 0)), (7, .inl (.int 0)), (6, .inl (.int 0)), (5, .inl (.int 0)), (4, .inl (.int 0)), (3, .inl (.int 0)), (2, .inl (.int 0)), (1, .inl (.int 0)), (0, .inl (.int 0))]),
  .inr (2, 5, .inl (.int 0), [(4, .inl (.int 0)), (3, .inl (.int 0)), (2, .inl (.int 0)), (1, .inl (.int 0)), (0, .inl (.int 0))]),
  .inr (2, 5, .inl (.int 0), [(4, .inl (.int 0)), (3, .inl (.int 0)), (2, .inl (.int 0)), (1, .inl (.int 0)), (0, .inl (.int 0))]),
  .inr (0, 96, .inl (.int 0), []),
  .inr (0, 2, .inl (.int 0), []),
  .inr (0, 30, .inl (.int 0), []),
  .inr (0, 20, .inl (.int 0), []),
  .inr (2, 4, .inl (.int 0), []),
  .inr (0, 5, .inl (.int 0), []),
  .inr (1, 1, .inl (.long 0), [])]
def zi_al0 : List (Nat × zi_V) := [(4, .inl (.int 0)), (3, .inl (.ref 109)), (2, .inl (.ref 82)), (1, .inl (.ref 10)), (0, .inl (.ref 8))]
def zi_f0 : zi_F := (23, zi_al0, [], zi_A0, 100, 177797)
noncomputable def zi_call : zi_K := zi_ev zi_Ms 100000 40
def zi_vb (v w : zi_V) : Bool := match v, w with
  | .inl a, .inl b => decide (a = b)
  | .inr a, .inr b => decide (a = b)
  | _, _ => false
theorem zi_vb_ok {v w : zi_V} (h : zi_vb v w = true) : v = w := by
  cases v with
  | inl a => cases w with
    | inl b => rw [show a = b from of_decide_eq_true h]
    | inr b => exact Bool.noConfusion (show false = true from h)
  | inr a => cases w with
    | inl b => exact Bool.noConfusion (show false = true from h)
    | inr b => rw [show a = b from of_decide_eq_true h]
noncomputable def zi_lb {α : Type} (r : α → α → Bool) (l : List α) : List α → Bool := List.rec (motive := fun _ => List α → Bool) (fun m => match m with | [] => true | _ :: _ => false) (fun a _ ih m => match m with | [] => false | b :: bs => r a b && ih bs) l
theorem zi_lb_ok {α : Type} {r : α → α → Bool} (hr : ∀ a b, r a b = true → a = b) : ∀ {l m : List α}, zi_lb r l m = true → l = m
  | [], [], _ => rfl
  | [], _ :: _, h => Bool.noConfusion (show false = true from h)
  | _ :: _, [], h => Bool.noConfusion (show false = true from h)
  | a :: as, b :: bs, h => by
    have h : (r a b && zi_lb r as bs) = true := h
    rw [Bool.and_eq_true] at h
    rw [hr a b h.1, zi_lb_ok hr h.2]
def zi_pb (p q : Nat × zi_V) : Bool := Nat.beq p.1 q.1 && zi_vb p.2 q.2
theorem zi_pb_ok (p q : Nat × zi_V) (h : zi_pb p q = true) : p = q := by
  unfold zi_pb at h
  rw [Bool.and_eq_true] at h
  exact Prod.ext (Nat.eq_of_beq_eq_true h.1) (zi_vb_ok h.2)
noncomputable def zi_ceq (c e : zi_C) : Bool := match c, e with
  | .inl p, .inl q => Nat.beq p.1 q.1 && zi_lb zi_vb p.2 q.2
  | .inr p, .inr q => Nat.beq p.1 q.1 && Nat.beq p.2.1 q.2.1 && zi_vb p.2.2.1 q.2.2.1 && zi_lb zi_pb p.2.2.2 q.2.2.2
  | _, _ => false
theorem zi_ceq_ok (c e : zi_C) (h : zi_ceq c e = true) : c = e := by
  cases c with
  | inl p => cases e with
    | inl q =>
      have h : (Nat.beq p.1 q.1 && zi_lb zi_vb p.2 q.2) = true := h
      rw [Bool.and_eq_true] at h
      rw [show p = q from Prod.ext (Nat.eq_of_beq_eq_true h.1) (zi_lb_ok (fun _ _ => zi_vb_ok) h.2)]
    | inr q => exact Bool.noConfusion (show false = true from h)
  | inr p => cases e with
    | inl q => exact Bool.noConfusion (show false = true from h)
    | inr q =>
      have h : (Nat.beq p.1 q.1 && Nat.beq p.2.1 q.2.1 && zi_vb p.2.2.1 q.2.2.1 && zi_lb zi_pb p.2.2.2 q.2.2.2) = true := h
      simp only [Bool.and_eq_true] at h
      rw [show p = q from Prod.ext (Nat.eq_of_beq_eq_true h.1.1.1) (Prod.ext (Nat.eq_of_beq_eq_true h.1.1.2) (Prod.ext (zi_vb_ok h.1.2) (zi_lb_ok zi_pb_ok h.2)))]
noncomputable def zi_feq (f : Option zi_F) (g : zi_F) : Bool := match f with
  | some f => Nat.beq f.1 g.1 && zi_lb zi_pb f.2.1 g.2.1 && zi_lb zi_vb f.2.2.1 g.2.2.1 && zi_lb zi_ceq f.2.2.2.1 g.2.2.2.1 && Nat.beq f.2.2.2.2.1 g.2.2.2.2.1 && Nat.beq f.2.2.2.2.2 g.2.2.2.2.2
  | none => false
theorem zi_feq_ok {f : Option zi_F} {g : zi_F} (h : zi_feq f g = true) : f = some g := by
  cases f with
  | none => exact Bool.noConfusion (show false = true from h)
  | some f =>
    have h : (Nat.beq f.1 g.1 && zi_lb zi_pb f.2.1 g.2.1 && zi_lb zi_vb f.2.2.1 g.2.2.1 && zi_lb zi_ceq f.2.2.2.1 g.2.2.2.1 && Nat.beq f.2.2.2.2.1 g.2.2.2.2.1 && Nat.beq f.2.2.2.2.2 g.2.2.2.2.2) = true := h
    simp only [Bool.and_eq_true] at h
    rw [show f = g from Prod.ext (Nat.eq_of_beq_eq_true h.1.1.1.1.1) (Prod.ext (zi_lb_ok zi_pb_ok h.1.1.1.1.2) (Prod.ext (zi_lb_ok (fun _ _ => zi_vb_ok) h.1.1.1.2) (Prod.ext (zi_lb_ok zi_ceq_ok h.1.1.2) (Prod.ext (Nat.eq_of_beq_eq_true h.1.2) (Nat.eq_of_beq_eq_true h.2)))))]
end
section
theorem zi_run0 : zi_run zi_call [] zi_mlaw 13 (0, [(0, .inl (.ref 8))], [], [], 0, 0) = some zi_f0 := zi_feq_ok (by decide +kernel)
end
section
theorem zi_k0 : zi_ckM zi_Ms zi_m0 = true := by decide +kernel
theorem zi_k1 : zi_ckM zi_Ms zi_m1 = true := by decide +kernel
theorem zi_k2 : zi_ckM zi_Ms zi_m2 = true := by decide +kernel
theorem zi_k3 : zi_ckM zi_Ms zi_m3 = true := by decide +kernel
theorem zi_k4 : zi_ckM zi_Ms zi_m4 = true := by decide +kernel
theorem zi_k5 : zi_ckM zi_Ms zi_m5 = true := by decide +kernel
theorem zi_k6 : zi_ckM zi_Ms zi_m6 = true := by decide +kernel
theorem zi_k7 : zi_ckM zi_Ms zi_m7 = true := by decide +kernel
theorem zi_k8 : zi_ckM zi_Ms zi_m8 = true := by decide +kernel
theorem zi_k9 : zi_ckM zi_Ms zi_m9 = true := by decide +kernel
theorem zi_k10 : zi_ckM zi_Ms zi_m10 = true := by decide +kernel
theorem zi_k11 : zi_ckM zi_Ms zi_m11 = true := by decide +kernel
theorem zi_k12 : zi_ckM zi_Ms zi_m12 = true := by decide +kernel
theorem zi_k13 : zi_ckM zi_Ms zi_m13 = true := by decide +kernel
theorem zi_k14 : zi_ckM zi_Ms zi_m14 = true := by decide +kernel
theorem zi_k15 : zi_ckM zi_Ms zi_m15 = true := by decide +kernel
theorem zi_k16 : zi_ckM zi_Ms zi_m16 = true := by decide +kernel
end
section
theorem zi_k17 : zi_ckM zi_Ms zi_m17 = true := by decide +kernel
theorem zi_k18 : zi_ckM zi_Ms zi_m18 = true := by decide +kernel
theorem zi_k19 : zi_ckM zi_Ms zi_m19 = true := by decide +kernel
theorem zi_k20 : zi_ckM zi_Ms zi_m20 = true := by decide +kernel
theorem zi_k21 : zi_ckM zi_Ms zi_m21 = true := by decide +kernel
theorem zi_k22 : zi_ckM zi_Ms zi_m22 = true := by decide +kernel
theorem zi_k23 : zi_ckM zi_Ms zi_m23 = true := by decide +kernel
theorem zi_k24 : zi_ckM zi_Ms zi_m24 = true := by decide +kernel
theorem zi_k25 : zi_ckM zi_Ms zi_m25 = true := by decide +kernel
theorem zi_k26 : zi_ckM zi_Ms zi_m26 = true := by decide +kernel
theorem zi_k27 : zi_ckM zi_Ms zi_m27 = true := by decide +kernel
theorem zi_k28 : zi_ckM zi_Ms zi_m28 = true := by decide +kernel
theorem zi_k29 : zi_ckM zi_Ms zi_m29 = true := by decide +kernel
theorem zi_k30 : zi_ckM zi_Ms zi_m30 = true := by decide +kernel
theorem zi_k31 : zi_ckM zi_Ms zi_m31 = true := by decide +kernel
theorem zi_k32 : zi_ckM zi_Ms zi_m32 = true := by decide +kernel
theorem zi_k33 : zi_ckM zi_Ms zi_m33 = true := by decide +kernel
end
section
theorem zi_k34 : zi_ckM zi_Ms zi_m34 = true := by decide +kernel
theorem zi_k35 : zi_ckM zi_Ms zi_m35 = true := by decide +kernel
theorem zi_k36 : zi_ckM zi_Ms zi_m36 = true := by decide +kernel
theorem zi_k37 : zi_ckM zi_Ms zi_m37 = true := by decide +kernel
theorem zi_k38 : zi_ckM zi_Ms zi_m38 = true := by decide +kernel
theorem zi_k39 : zi_ckM zi_Ms zi_m39 = true := by decide +kernel
theorem zi_k40 : zi_ckM zi_Ms zi_m40 = true := by decide +kernel
theorem zi_k41 : zi_ckM zi_Ms zi_m41 = true := by decide +kernel
theorem zi_k42 : zi_ckM zi_Ms zi_m42 = true := by decide +kernel
theorem zi_k43 : zi_ckM zi_Ms zi_m43 = true := by decide +kernel
theorem zi_k44 : zi_ckM zi_Ms zi_m44 = true := by decide +kernel
theorem zi_k45 : zi_ckM zi_Ms zi_m45 = true := by decide +kernel
theorem zi_k46 : zi_ckM zi_Ms zi_m46 = true := by decide +kernel
theorem zi_k47 : zi_ckM zi_Ms zi_m47 = true := by decide +kernel
theorem zi_k48 : zi_ckM zi_Ms zi_m48 = true := by decide +kernel
theorem zi_k49 : zi_ckM zi_Ms zi_m49 = true := by decide +kernel
theorem zi_k50 : zi_ckM zi_Ms zi_m50 = true := by decide +kernel
end
section
theorem zi_k51 : zi_ckM zi_Ms zi_m51 = true := by decide +kernel
theorem zi_k52 : zi_ckM zi_Ms zi_m52 = true := by decide +kernel
theorem zi_k53 : zi_ckM zi_Ms zi_m53 = true := by decide +kernel
theorem zi_k54 : zi_ckM zi_Ms zi_m54 = true := by decide +kernel
theorem zi_k55 : zi_ckM zi_Ms zi_m55 = true := by decide +kernel
theorem zi_k56 : zi_ckM zi_Ms zi_m56 = true := by decide +kernel
theorem zi_k57 : zi_ckM zi_Ms zi_m57 = true := by decide +kernel
theorem zi_k58 : zi_ckM zi_Ms zi_m58 = true := by decide +kernel
theorem zi_k59 : zi_ckM zi_Ms zi_m59 = true := by decide +kernel
theorem zi_k60 : zi_ckM zi_Ms zi_m60 = true := by decide +kernel
theorem zi_k61 : zi_ckM zi_Ms zi_m61 = true := by decide +kernel
theorem zi_k62 : zi_ckM zi_Ms zi_m62 = true := by decide +kernel
theorem zi_k63 : zi_ckM zi_Ms zi_m63 = true := by decide +kernel
theorem zi_k64 : zi_ckM zi_Ms zi_m64 = true := by decide +kernel
theorem zi_k65 : zi_ckM zi_Ms zi_m65 = true := by decide +kernel
theorem zi_k66 : zi_ckM zi_Ms zi_m66 = true := by decide +kernel
theorem zi_k67 : zi_ckM zi_Ms zi_m67 = true := by decide +kernel
end
section
theorem zi_k68 : zi_ckM zi_Ms zi_m68 = true := by decide +kernel
theorem zi_k69 : zi_ckM zi_Ms zi_m69 = true := by decide +kernel
theorem zi_k70 : zi_ckM zi_Ms zi_m70 = true := by decide +kernel
theorem zi_k71 : zi_ckM zi_Ms zi_m71 = true := by decide +kernel
theorem zi_k72 : zi_ckM zi_Ms zi_m72 = true := by decide +kernel
theorem zi_k73 : zi_ckM zi_Ms zi_m73 = true := by decide +kernel
theorem zi_k74 : zi_ckM zi_Ms zi_m74 = true := by decide +kernel
theorem zi_k75 : zi_ckM zi_Ms zi_m75 = true := by decide +kernel
theorem zi_k76 : zi_ckM zi_Ms zi_m76 = true := by decide +kernel
theorem zi_k77 : zi_ckM zi_Ms zi_m77 = true := by decide +kernel
theorem zi_k78 : zi_ckM zi_Ms zi_m78 = true := by decide +kernel
theorem zi_k79 : zi_ckM zi_Ms zi_m79 = true := by decide +kernel
theorem zi_k80 : zi_ckM zi_Ms zi_m80 = true := by decide +kernel
theorem zi_k81 : zi_ckM zi_Ms zi_m81 = true := by decide +kernel
theorem zi_k82 : zi_ckM zi_Ms zi_m82 = true := by decide +kernel
theorem zi_k83 : zi_ckM zi_Ms zi_m83 = true := by decide +kernel
theorem zi_k84 : zi_ckM zi_Ms zi_m84 = true := by decide +kernel
end
section
theorem zi_k85 : zi_ckM zi_Ms zi_m85 = true := by decide +kernel
theorem zi_k86 : zi_ckM zi_Ms zi_m86 = true := by decide +kernel
theorem zi_k87 : zi_ckM zi_Ms zi_m87 = true := by decide +kernel
theorem zi_k88 : zi_ckM zi_Ms zi_m88 = true := by decide +kernel
theorem zi_k89 : zi_ckM zi_Ms zi_m89 = true := by decide +kernel
theorem zi_k90 : zi_ckM zi_Ms zi_m90 = true := by decide +kernel
theorem zi_k91 : zi_ckM zi_Ms zi_m91 = true := by decide +kernel
theorem zi_k92 : zi_ckM zi_Ms zi_m92 = true := by decide +kernel
theorem zi_k93 : zi_ckM zi_Ms zi_m93 = true := by decide +kernel
theorem zi_k94 : zi_ckM zi_Ms zi_m94 = true := by decide +kernel
theorem zi_k95 : zi_ckM zi_Ms zi_m95 = true := by decide +kernel
theorem zi_k96 : zi_ckM zi_Ms zi_m96 = true := by decide +kernel
theorem zi_k97 : zi_ckM zi_Ms zi_m97 = true := by decide +kernel
theorem zi_k98 : zi_ckM zi_Ms zi_m98 = true := by decide +kernel
theorem zi_k99 : zi_ckM zi_Ms zi_m99 = true := by decide +kernel
theorem zi_k100 : zi_ckM zi_Ms zi_m100 = true := by decide +kernel
theorem zi_k101 : zi_ckM zi_Ms zi_m101 = true := by decide +kernel
end
section
theorem zi_k102 : zi_ckM zi_Ms zi_m102 = true := by decide +kernel
theorem zi_k103 : zi_ckM zi_Ms zi_m103 = true := by decide +kernel
theorem zi_k104 : zi_ckM zi_Ms zi_m104 = true := by decide +kernel
theorem zi_k105 : zi_ckM zi_Ms zi_m105 = true := by decide +kernel
theorem zi_k106 : zi_ckM zi_Ms zi_m106 = true := by decide +kernel
theorem zi_k107 : zi_ckM zi_Ms zi_m107 = true := by decide +kernel
theorem zi_k108 : zi_ckM zi_Ms zi_m108 = true := by decide +kernel
theorem zi_k109 : zi_ckM zi_Ms zi_m109 = true := by decide +kernel
theorem zi_k110 : zi_ckM zi_Ms zi_m110 = true := by decide +kernel
theorem zi_k111 : zi_ckM zi_Ms zi_m111 = true := by decide +kernel
theorem zi_k112 : zi_ckM zi_Ms zi_m112 = true := by decide +kernel
theorem zi_k113 : zi_ckM zi_Ms zi_m113 = true := by decide +kernel
theorem zi_k114 : zi_ckM zi_Ms zi_m114 = true := by decide +kernel
theorem zi_k115 : zi_ckM zi_Ms zi_m115 = true := by decide +kernel
theorem zi_k116 : zi_ckM zi_Ms zi_m116 = true := by decide +kernel
theorem zi_k117 : zi_ckM zi_Ms zi_m117 = true := by decide +kernel
theorem zi_k118 : zi_ckM zi_Ms zi_m118 = true := by decide +kernel
end
section
theorem zi_k119 : zi_ckM zi_Ms zi_m119 = true := by decide +kernel
theorem zi_k120 : zi_ckM zi_Ms zi_m120 = true := by decide +kernel
theorem zi_k121 : zi_ckM zi_Ms zi_m121 = true := by decide +kernel
theorem zi_k122 : zi_ckM zi_Ms zi_m122 = true := by decide +kernel
theorem zi_k123 : zi_ckM zi_Ms zi_m123 = true := by decide +kernel
theorem zi_k124 : zi_ckM zi_Ms zi_m124 = true := by decide +kernel
theorem zi_k125 : zi_ckM zi_Ms zi_m125 = true := by decide +kernel
theorem zi_k126 : zi_ckM zi_Ms zi_m126 = true := by decide +kernel
theorem zi_k127 : zi_ckM zi_Ms zi_m127 = true := by decide +kernel
theorem zi_k128 : zi_ckM zi_Ms zi_m128 = true := by decide +kernel
theorem zi_k129 : zi_ckM zi_Ms zi_m129 = true := by decide +kernel
theorem zi_k130 : zi_ckM zi_Ms zi_m130 = true := by decide +kernel
theorem zi_k131 : zi_ckM zi_Ms zi_m131 = true := by decide +kernel
theorem zi_k132 : zi_ckM zi_Ms zi_m132 = true := by decide +kernel
theorem zi_k133 : zi_ckM zi_Ms zi_m133 = true := by decide +kernel
theorem zi_k134 : zi_ckM zi_Ms zi_m134 = true := by decide +kernel
theorem zi_k135 : zi_ckM zi_Ms zi_m135 = true := by decide +kernel
end
section
theorem zi_k136 : zi_ckM zi_Ms zi_m136 = true := by decide +kernel
theorem zi_k137 : zi_ckM zi_Ms zi_m137 = true := by decide +kernel
theorem zi_k138 : zi_ckM zi_Ms zi_m138 = true := by decide +kernel
theorem zi_k139 : zi_ckM zi_Ms zi_m139 = true := by decide +kernel
theorem zi_k140 : zi_ckM zi_Ms zi_m140 = true := by decide +kernel
theorem zi_k141 : zi_ckM zi_Ms zi_m141 = true := by decide +kernel
theorem zi_k142 : zi_ckM zi_Ms zi_m142 = true := by decide +kernel
theorem zi_k143 : zi_ckM zi_Ms zi_m143 = true := by decide +kernel
theorem zi_k144 : zi_ckM zi_Ms zi_m144 = true := by decide +kernel
theorem zi_k145 : zi_ckM zi_Ms zi_m145 = true := by decide +kernel
theorem zi_k146 : zi_ckM zi_Ms zi_m146 = true := by decide +kernel
theorem zi_k147 : zi_ckM zi_Ms zi_m147 = true := by decide +kernel
theorem zi_k148 : zi_ckM zi_Ms zi_m148 = true := by decide +kernel
theorem zi_k149 : zi_ckM zi_Ms zi_m149 = true := by decide +kernel
theorem zi_k150 : zi_ckM zi_Ms zi_m150 = true := by decide +kernel
theorem zi_k151 : zi_ckM zi_Ms zi_m151 = true := by decide +kernel
theorem zi_k152 : zi_ckM zi_Ms zi_m152 = true := by decide +kernel
end
section
theorem zi_k153 : zi_ckM zi_Ms zi_m153 = true := by decide +kernel
theorem zi_k154 : zi_ckM zi_Ms zi_m154 = true := by decide +kernel
theorem zi_k155 : zi_ckM zi_Ms zi_m155 = true := by decide +kernel
theorem zi_k156 : zi_ckM zi_Ms zi_m156 = true := by decide +kernel
theorem zi_k157 : zi_ckM zi_Ms zi_m157 = true := by decide +kernel
theorem zi_k158 : zi_ckM zi_Ms zi_m158 = true := by decide +kernel
theorem zi_k159 : zi_ckM zi_Ms zi_m159 = true := by decide +kernel
theorem zi_k160 : zi_ckM zi_Ms zi_m160 = true := by decide +kernel
theorem zi_k161 : zi_ckM zi_Ms zi_m161 = true := by decide +kernel
theorem zi_k162 : zi_ckM zi_Ms zi_m162 = true := by decide +kernel
theorem zi_k163 : zi_ckM zi_Ms zi_m163 = true := by decide +kernel
theorem zi_k164 : zi_ckM zi_Ms zi_m164 = true := by decide +kernel
theorem zi_k165 : zi_ckM zi_Ms zi_m165 = true := by decide +kernel
theorem zi_k166 : zi_ckM zi_Ms zi_m166 = true := by decide +kernel
end
section
/-! The law's own table, in slices. -/
theorem zi_ls0 : (zi_tlaw.take 10).all (fun ch => ch.2.all (fun q => zi_ok zi_Ms zi_mlaw q.1 q.2)) = true := by decide +kernel
def zi_tl1 : zi_T := zi_tlaw.drop 10
end
section
theorem zi_ls1 : (zi_tl1.take 10).all (fun ch => ch.2.all (fun q => zi_ok zi_Ms zi_mlaw q.1 q.2)) = true := by decide +kernel
def zi_tl2 : zi_T := zi_tl1.drop 10
end
section
theorem zi_ls2 : (zi_tl2.take 10).all (fun ch => ch.2.all (fun q => zi_ok zi_Ms zi_mlaw q.1 q.2)) = true := by decide +kernel
def zi_tl3 : zi_T := zi_tl2.drop 10
end
section
theorem zi_ls3 : (zi_tl3.take 10).all (fun ch => ch.2.all (fun q => zi_ok zi_Ms zi_mlaw q.1 q.2)) = true := by decide +kernel
def zi_tl4 : zi_T := zi_tl3.drop 10
end
section
theorem zi_ls4 : (zi_tl4.take 10).all (fun ch => ch.2.all (fun q => zi_ok zi_Ms zi_mlaw q.1 q.2)) = true := by decide +kernel
def zi_tl5 : zi_T := zi_tl4.drop 10
end
section
theorem zi_ls5 : (zi_tl5.take 10).all (fun ch => ch.2.all (fun q => zi_ok zi_Ms zi_mlaw q.1 q.2)) = true := by decide +kernel
def zi_tl6 : zi_T := zi_tl5.drop 10
end
section
theorem zi_ls6 : (zi_tl6.take 10).all (fun ch => ch.2.all (fun q => zi_ok zi_Ms zi_mlaw q.1 q.2)) = true := by decide +kernel
def zi_tl7 : zi_T := zi_tl6.drop 10
end
section
set_option maxRecDepth 20000 in
theorem zi_Ms_all : ∀ N ∈ zi_Ms, zi_ckM zi_Ms N = true := by
  have key : ∀ L : List zi_M, L = zi_Ms → ∀ N ∈ L, zi_ckM zi_Ms N = true := by
    intro L hL
    have hL : L = [zi_m0, zi_m1, zi_m2, zi_m3, zi_m4, zi_m5, zi_m6, zi_m7, zi_m8, zi_m9, zi_m10, zi_m11, zi_m12, zi_m13, zi_m14, zi_m15, zi_m16, zi_m17, zi_m18, zi_m19, zi_m20, zi_m21, zi_m22, zi_m23, zi_m24, zi_m25, zi_m26, zi_m27, zi_m28, zi_m29, zi_m30, zi_m31, zi_m32, zi_m33, zi_m34, zi_m35, zi_m36, zi_m37, zi_m38, zi_m39, zi_m40, zi_m41, zi_m42, zi_m43, zi_m44, zi_m45, zi_m46, zi_m47, zi_m48, zi_m49, zi_m50, zi_m51, zi_m52, zi_m53, zi_m54, zi_m55, zi_m56, zi_m57, zi_m58, zi_m59, zi_m60, zi_m61, zi_m62, zi_m63, zi_m64, zi_m65, zi_m66, zi_m67, zi_m68, zi_m69, zi_m70, zi_m71, zi_m72, zi_m73, zi_m74, zi_m75, zi_m76, zi_m77, zi_m78, zi_m79, zi_m80, zi_m81, zi_m82, zi_m83, zi_m84, zi_m85, zi_m86, zi_m87, zi_m88, zi_m89, zi_m90, zi_m91, zi_m92, zi_m93, zi_m94, zi_m95, zi_m96, zi_m97, zi_m98, zi_m99, zi_m100, zi_m101, zi_m102, zi_m103, zi_m104, zi_m105, zi_m106, zi_m107, zi_m108, zi_m109, zi_m110, zi_m111, zi_m112, zi_m113, zi_m114, zi_m115, zi_m116, zi_m117, zi_m118, zi_m119, zi_m120, zi_m121, zi_m122, zi_m123, zi_m124, zi_m125, zi_m126, zi_m127, zi_m128, zi_m129, zi_m130, zi_m131, zi_m132, zi_m133, zi_m134, zi_m135, zi_m136, zi_m137, zi_m138, zi_m139, zi_m140, zi_m141, zi_m142, zi_m143, zi_m144, zi_m145, zi_m146, zi_m147, zi_m148, zi_m149, zi_m150, zi_m151, zi_m152, zi_m153, zi_m154, zi_m155, zi_m156, zi_m157, zi_m158, zi_m159, zi_m160, zi_m161, zi_m162, zi_m163, zi_m164, zi_m165, zi_m166] := hL
    rw [hL]
    exact List.forall_mem_cons.mpr ⟨zi_k0, List.forall_mem_cons.mpr ⟨zi_k1, List.forall_mem_cons.mpr ⟨zi_k2, List.forall_mem_cons.mpr ⟨zi_k3, List.forall_mem_cons.mpr ⟨zi_k4, List.forall_mem_cons.mpr ⟨zi_k5, List.forall_mem_cons.mpr ⟨zi_k6, List.forall_mem_cons.mpr ⟨zi_k7, List.forall_mem_cons.mpr ⟨zi_k8, List.forall_mem_cons.mpr ⟨zi_k9, List.forall_mem_cons.mpr ⟨zi_k10, List.forall_mem_cons.mpr ⟨zi_k11, List.forall_mem_cons.mpr ⟨zi_k12, List.forall_mem_cons.mpr ⟨zi_k13, List.forall_mem_cons.mpr ⟨zi_k14, List.forall_mem_cons.mpr ⟨zi_k15, List.forall_mem_cons.mpr ⟨zi_k16, List.forall_mem_cons.mpr ⟨zi_k17, List.forall_mem_cons.mpr ⟨zi_k18, List.forall_mem_cons.mpr ⟨zi_k19, List.forall_mem_cons.mpr ⟨zi_k20, List.forall_mem_cons.mpr ⟨zi_k21, List.forall_mem_cons.mpr ⟨zi_k22, List.forall_mem_cons.mpr ⟨zi_k23, List.forall_mem_cons.mpr ⟨zi_k24, List.forall_mem_cons.mpr ⟨zi_k25, List.forall_mem_cons.mpr ⟨zi_k26, List.forall_mem_cons.mpr ⟨zi_k27, List.forall_mem_cons.mpr ⟨zi_k28, List.forall_mem_cons.mpr ⟨zi_k29, List.forall_mem_cons.mpr ⟨zi_k30, List.forall_mem_cons.mpr ⟨zi_k31, List.forall_mem_cons.mpr ⟨zi_k32, List.forall_mem_cons.mpr ⟨zi_k33, List.forall_mem_cons.mpr ⟨zi_k34, List.forall_mem_cons.mpr ⟨zi_k35, List.forall_mem_cons.mpr ⟨zi_k36, List.forall_mem_cons.mpr ⟨zi_k37, List.forall_mem_cons.mpr ⟨zi_k38, List.forall_mem_cons.mpr ⟨zi_k39, List.forall_mem_cons.mpr ⟨zi_k40, List.forall_mem_cons.mpr ⟨zi_k41, List.forall_mem_cons.mpr ⟨zi_k42, List.forall_mem_cons.mpr ⟨zi_k43, List.forall_mem_cons.mpr ⟨zi_k44, List.forall_mem_cons.mpr ⟨zi_k45, List.forall_mem_cons.mpr ⟨zi_k46, List.forall_mem_cons.mpr ⟨zi_k47, List.forall_mem_cons.mpr ⟨zi_k48, List.forall_mem_cons.mpr ⟨zi_k49, List.forall_mem_cons.mpr ⟨zi_k50, List.forall_mem_cons.mpr ⟨zi_k51, List.forall_mem_cons.mpr ⟨zi_k52, List.forall_mem_cons.mpr ⟨zi_k53, List.forall_mem_cons.mpr ⟨zi_k54, List.forall_mem_cons.mpr ⟨zi_k55, List.forall_mem_cons.mpr ⟨zi_k56, List.forall_mem_cons.mpr ⟨zi_k57, List.forall_mem_cons.mpr ⟨zi_k58, List.forall_mem_cons.mpr ⟨zi_k59, List.forall_mem_cons.mpr ⟨zi_k60, List.forall_mem_cons.mpr ⟨zi_k61, List.forall_mem_cons.mpr ⟨zi_k62, List.forall_mem_cons.mpr ⟨zi_k63, List.forall_mem_cons.mpr ⟨zi_k64, List.forall_mem_cons.mpr ⟨zi_k65, List.forall_mem_cons.mpr ⟨zi_k66, List.forall_mem_cons.mpr ⟨zi_k67, List.forall_mem_cons.mpr ⟨zi_k68, List.forall_mem_cons.mpr ⟨zi_k69, List.forall_mem_cons.mpr ⟨zi_k70, List.forall_mem_cons.mpr ⟨zi_k71, List.forall_mem_cons.mpr ⟨zi_k72, List.forall_mem_cons.mpr ⟨zi_k73, List.forall_mem_cons.mpr ⟨zi_k74, List.forall_mem_cons.mpr ⟨zi_k75, List.forall_mem_cons.mpr ⟨zi_k76, List.forall_mem_cons.mpr ⟨zi_k77, List.forall_mem_cons.mpr ⟨zi_k78, List.forall_mem_cons.mpr ⟨zi_k79, List.forall_mem_cons.mpr ⟨zi_k80, List.forall_mem_cons.mpr ⟨zi_k81, List.forall_mem_cons.mpr ⟨zi_k82, List.forall_mem_cons.mpr ⟨zi_k83, List.forall_mem_cons.mpr ⟨zi_k84, List.forall_mem_cons.mpr ⟨zi_k85, List.forall_mem_cons.mpr ⟨zi_k86, List.forall_mem_cons.mpr ⟨zi_k87, List.forall_mem_cons.mpr ⟨zi_k88, List.forall_mem_cons.mpr ⟨zi_k89, List.forall_mem_cons.mpr ⟨zi_k90, List.forall_mem_cons.mpr ⟨zi_k91, List.forall_mem_cons.mpr ⟨zi_k92, List.forall_mem_cons.mpr ⟨zi_k93, List.forall_mem_cons.mpr ⟨zi_k94, List.forall_mem_cons.mpr ⟨zi_k95, List.forall_mem_cons.mpr ⟨zi_k96, List.forall_mem_cons.mpr ⟨zi_k97, List.forall_mem_cons.mpr ⟨zi_k98, List.forall_mem_cons.mpr ⟨zi_k99, List.forall_mem_cons.mpr ⟨zi_k100, List.forall_mem_cons.mpr ⟨zi_k101, List.forall_mem_cons.mpr ⟨zi_k102, List.forall_mem_cons.mpr ⟨zi_k103, List.forall_mem_cons.mpr ⟨zi_k104, List.forall_mem_cons.mpr ⟨zi_k105, List.forall_mem_cons.mpr ⟨zi_k106, List.forall_mem_cons.mpr ⟨zi_k107, List.forall_mem_cons.mpr ⟨zi_k108, List.forall_mem_cons.mpr ⟨zi_k109, List.forall_mem_cons.mpr ⟨zi_k110, List.forall_mem_cons.mpr ⟨zi_k111, List.forall_mem_cons.mpr ⟨zi_k112, List.forall_mem_cons.mpr ⟨zi_k113, List.forall_mem_cons.mpr ⟨zi_k114, List.forall_mem_cons.mpr ⟨zi_k115, List.forall_mem_cons.mpr ⟨zi_k116, List.forall_mem_cons.mpr ⟨zi_k117, List.forall_mem_cons.mpr ⟨zi_k118, List.forall_mem_cons.mpr ⟨zi_k119, List.forall_mem_cons.mpr ⟨zi_k120, List.forall_mem_cons.mpr ⟨zi_k121, List.forall_mem_cons.mpr ⟨zi_k122, List.forall_mem_cons.mpr ⟨zi_k123, List.forall_mem_cons.mpr ⟨zi_k124, List.forall_mem_cons.mpr ⟨zi_k125, List.forall_mem_cons.mpr ⟨zi_k126, List.forall_mem_cons.mpr ⟨zi_k127, List.forall_mem_cons.mpr ⟨zi_k128, List.forall_mem_cons.mpr ⟨zi_k129, List.forall_mem_cons.mpr ⟨zi_k130, List.forall_mem_cons.mpr ⟨zi_k131, List.forall_mem_cons.mpr ⟨zi_k132, List.forall_mem_cons.mpr ⟨zi_k133, List.forall_mem_cons.mpr ⟨zi_k134, List.forall_mem_cons.mpr ⟨zi_k135, List.forall_mem_cons.mpr ⟨zi_k136, List.forall_mem_cons.mpr ⟨zi_k137, List.forall_mem_cons.mpr ⟨zi_k138, List.forall_mem_cons.mpr ⟨zi_k139, List.forall_mem_cons.mpr ⟨zi_k140, List.forall_mem_cons.mpr ⟨zi_k141, List.forall_mem_cons.mpr ⟨zi_k142, List.forall_mem_cons.mpr ⟨zi_k143, List.forall_mem_cons.mpr ⟨zi_k144, List.forall_mem_cons.mpr ⟨zi_k145, List.forall_mem_cons.mpr ⟨zi_k146, List.forall_mem_cons.mpr ⟨zi_k147, List.forall_mem_cons.mpr ⟨zi_k148, List.forall_mem_cons.mpr ⟨zi_k149, List.forall_mem_cons.mpr ⟨zi_k150, List.forall_mem_cons.mpr ⟨zi_k151, List.forall_mem_cons.mpr ⟨zi_k152, List.forall_mem_cons.mpr ⟨zi_k153, List.forall_mem_cons.mpr ⟨zi_k154, List.forall_mem_cons.mpr ⟨zi_k155, List.forall_mem_cons.mpr ⟨zi_k156, List.forall_mem_cons.mpr ⟨zi_k157, List.forall_mem_cons.mpr ⟨zi_k158, List.forall_mem_cons.mpr ⟨zi_k159, List.forall_mem_cons.mpr ⟨zi_k160, List.forall_mem_cons.mpr ⟨zi_k161, List.forall_mem_cons.mpr ⟨zi_k162, List.forall_mem_cons.mpr ⟨zi_k163, List.forall_mem_cons.mpr ⟨zi_k164, List.forall_mem_cons.mpr ⟨zi_k165, List.forall_mem_cons.mpr ⟨zi_k166, List.forall_mem_nil _⟩⟩⟩⟩⟩⟩⟩⟩⟩⟩⟩⟩⟩⟩⟩⟩⟩⟩⟩⟩⟩⟩⟩⟩⟩⟩⟩⟩⟩⟩⟩⟩⟩⟩⟩⟩⟩⟩⟩⟩⟩⟩⟩⟩⟩⟩⟩⟩⟩⟩⟩⟩⟩⟩⟩⟩⟩⟩⟩⟩⟩⟩⟩⟩⟩⟩⟩⟩⟩⟩⟩⟩⟩⟩⟩⟩⟩⟩⟩⟩⟩⟩⟩⟩⟩⟩⟩⟩⟩⟩⟩⟩⟩⟩⟩⟩⟩⟩⟩⟩⟩⟩⟩⟩⟩⟩⟩⟩⟩⟩⟩⟩⟩⟩⟩⟩⟩⟩⟩⟩⟩⟩⟩⟩⟩⟩⟩⟩⟩⟩⟩⟩⟩⟩⟩⟩⟩⟩⟩⟩⟩⟩⟩⟩⟩⟩⟩⟩⟩⟩⟩⟩⟩⟩⟩⟩⟩⟩⟩⟩⟩⟩⟩⟩⟩⟩⟩
  exact key zi_Ms rfl
theorem zi_Ms_ok (mi : Nat) (N : zi_M) (h : zi_Ms[mi]? = some N) : zi_okM N ∧ zi_okT zi_Ms N := zi_ckM_ok (zi_Ms_all N (List.mem_of_getElem? h))
theorem zi_all_c {α : Type} {f : α → Bool} (l : List α) (n : Nat) (h1 : (l.take n).all f = true) (h2 : (l.drop n).all f = true) : l.all f = true := by
  rw [← List.take_append_drop n l, List.all_append, h1, h2]
  rfl
theorem zi_law_ok : zi_okT zi_Ms zi_mlaw := zi_okT_of (zi_all_c zi_tlaw 10 zi_ls0 (zi_all_c zi_tl1 10 zi_ls1 (zi_all_c zi_tl2 10 zi_ls2 (zi_all_c zi_tl3 10 zi_ls3 (zi_all_c zi_tl4 10 zi_ls4 (zi_all_c zi_tl5 10 zi_ls5 (zi_all_c zi_tl6 10 zi_ls6 (by decide +kernel))))))))
theorem zi_mlf_ok : zi_okT zi_Ms zi_mlf := zi_okT_of (by decide +kernel)
theorem zi_mf_ok : zi_okM zi_mf ∧ zi_okT zi_Ms zi_mf := zi_ckM_ok (by decide +kernel)
end
section
/-! The runs of the calls, from the switch to the end. -/
def zi_any : zi_V := .inr (-2147483648, 2147483647)
/-- comes to the law's return with 1 on the stack -/
noncomputable def zi_fin (sl : List zi_V) (n : Nat) (f : zi_F) : Bool := match zi_run zi_call sl zi_mlaw n f with
  | some g => Nat.beq g.1 1433 && zi_lb zi_vb g.2.2.1 [.inl (.int 1)] && Nat.ble g.2.2.2.2.1 600002 && Nat.ble g.2.2.2.2.2 7302232
  | none => false
end
section
theorem zi_o1_0 : zi_fin [zi_any, zi_any, zi_any, zi_any, zi_any, zi_any, zi_any] 14 (335, zi_al0, [], zi_A0, 100, 177797) = true := by decide +kernel
theorem zi_o2_1 : zi_fin [zi_any, zi_any, zi_any, zi_any, zi_any, zi_any, zi_any] 14 (348, zi_al0, [], zi_A0, 100, 177797) = true := by decide +kernel
theorem zi_o3_2 : zi_fin [zi_any, zi_any, zi_any, zi_any, zi_any, zi_any, zi_any] 14 (361, zi_al0, [], zi_A0, 100, 177797) = true := by decide +kernel
theorem zi_o4_3 : zi_fin [zi_any, .inr ((-2147483648), (-1)), zi_any, zi_any, zi_any, zi_any, zi_any] 24 (374, zi_al0, [], zi_A0, 100, 177797) = true := by decide +kernel
theorem zi_o4_4 : zi_fin [zi_any, .inr (0, 2147483647), zi_any, zi_any, zi_any, zi_any, zi_any] 24 (374, zi_al0, [], zi_A0, 100, 177797) = true := by decide +kernel
theorem zi_o5_5 : zi_fin [zi_any, .inr ((-2147483648), (-1)), zi_any, zi_any, zi_any, zi_any, zi_any] 34 (399, zi_al0, [], zi_A0, 100, 177797) = true := by decide +kernel
theorem zi_o5_6 : zi_fin [zi_any, .inr (0, 2147483647), zi_any, zi_any, zi_any, zi_any, zi_any] 34 (399, zi_al0, [], zi_A0, 100, 177797) = true := by decide +kernel
theorem zi_o6_7 : zi_fin [zi_any, .inr ((-2147483648), (-1)), zi_any, zi_any, zi_any, zi_any, zi_any] 24 (436, zi_al0, [], zi_A0, 100, 177797) = true := by decide +kernel
theorem zi_o6_8 : zi_fin [zi_any, .inl (.int 0), zi_any, zi_any, zi_any, zi_any, zi_any] 24 (436, zi_al0, [], zi_A0, 100, 177797) = true := by decide +kernel
theorem zi_o6_9 : zi_fin [zi_any, .inl (.int 1), zi_any, zi_any, zi_any, zi_any, zi_any] 24 (436, zi_al0, [], zi_A0, 100, 177797) = true := by decide +kernel
theorem zi_o6_10 : zi_fin [zi_any, .inl (.int 2), zi_any, zi_any, zi_any, zi_any, zi_any] 24 (436, zi_al0, [], zi_A0, 100, 177797) = true := by decide +kernel
theorem zi_o6_11 : zi_fin [zi_any, .inr (3, 2147483647), zi_any, zi_any, zi_any, zi_any, zi_any] 24 (436, zi_al0, [], zi_A0, 100, 177797) = true := by decide +kernel
theorem zi_o7_12 : zi_fin [zi_any, .inr ((-2147483648), (-1)), zi_any, zi_any, zi_any, zi_any, zi_any] 34 (461, zi_al0, [], zi_A0, 100, 177797) = true := by decide +kernel
theorem zi_o7_13 : zi_fin [zi_any, .inr (0, 2147483647), zi_any, zi_any, zi_any, zi_any, zi_any] 34 (461, zi_al0, [], zi_A0, 100, 177797) = true := by decide +kernel
theorem zi_o8_14 : zi_fin [zi_any, .inr ((-2147483648), (-1)), zi_any, zi_any, zi_any, zi_any, zi_any] 24 (498, zi_al0, [], zi_A0, 100, 177797) = true := by decide +kernel
theorem zi_o8_15 : zi_fin [zi_any, .inr (0, 2147483647), zi_any, zi_any, zi_any, zi_any, zi_any] 24 (498, zi_al0, [], zi_A0, 100, 177797) = true := by decide +kernel
theorem zi_o9_16 : zi_fin [zi_any, .inr ((-2147483648), (-1)), zi_any, zi_any, zi_any, zi_any, zi_any] 34 (523, zi_al0, [], zi_A0, 100, 177797) = true := by decide +kernel
theorem zi_o9_17 : zi_fin [zi_any, .inr (0, 2147483647), zi_any, zi_any, zi_any, zi_any, zi_any] 34 (523, zi_al0, [], zi_A0, 100, 177797) = true := by decide +kernel
theorem zi_o10_18 : zi_fin [zi_any, .inr ((-2147483648), (-1)), zi_any, zi_any, zi_any, zi_any, zi_any] 34 (560, zi_al0, [], zi_A0, 100, 177797) = true := by decide +kernel
theorem zi_o10_19 : zi_fin [zi_any, .inr (0, 2147483647), zi_any, zi_any, zi_any, zi_any, zi_any] 34 (560, zi_al0, [], zi_A0, 100, 177797) = true := by decide +kernel
theorem zi_o11_20 : zi_fin [zi_any, .inr ((-2147483648), (-1)), zi_any, zi_any, zi_any, zi_any, zi_any] 34 (597, zi_al0, [], zi_A0, 100, 177797) = true := by decide +kernel
theorem zi_o11_21 : zi_fin [zi_any, .inr (0, 2147483647), zi_any, zi_any, zi_any, zi_any, zi_any] 34 (597, zi_al0, [], zi_A0, 100, 177797) = true := by decide +kernel
theorem zi_o12_22 : zi_fin [zi_any, zi_any, zi_any, zi_any, zi_any, zi_any, zi_any] 14 (634, zi_al0, [], zi_A0, 100, 177797) = true := by decide +kernel
theorem zi_o13_23 : zi_fin [zi_any, .inr ((-2147483648), (-1)), zi_any, zi_any, zi_any, zi_any, zi_any] 44 (647, zi_al0, [], zi_A0, 100, 177797) = true := by decide +kernel
theorem zi_o13_24 : zi_fin [zi_any, .inr (0, 2147483647), zi_any, zi_any, zi_any, zi_any, zi_any] 44 (647, zi_al0, [], zi_A0, 100, 177797) = true := by decide +kernel
end
section
theorem zi_o14_25 : zi_fin [zi_any, .inr ((-2147483648), (-1)), zi_any, zi_any, zi_any, zi_any, zi_any] 44 (696, zi_al0, [], zi_A0, 100, 177797) = true := by decide +kernel
theorem zi_o14_26 : zi_fin [zi_any, .inr (0, 2147483647), zi_any, zi_any, zi_any, zi_any, zi_any] 44 (696, zi_al0, [], zi_A0, 100, 177797) = true := by decide +kernel
theorem zi_o15_27 : zi_fin [zi_any, zi_any, zi_any, zi_any, zi_any, zi_any, zi_any] 24 (745, zi_al0, [], zi_A0, 100, 177797) = true := by decide +kernel
theorem zi_o16_28 : zi_fin [zi_any, zi_any, zi_any, zi_any, zi_any, zi_any, zi_any] 14 (770, zi_al0, [], zi_A0, 100, 177797) = true := by decide +kernel
theorem zi_o17_29 : zi_fin [zi_any, zi_any, zi_any, zi_any, zi_any, zi_any, zi_any] 14 (783, zi_al0, [], zi_A0, 100, 177797) = true := by decide +kernel
theorem zi_o18_30 : zi_fin [zi_any, .inr ((-2147483648), (-1)), zi_any, zi_any, zi_any, zi_any, zi_any] 54 (796, zi_al0, [], zi_A0, 100, 177797) = true := by decide +kernel
theorem zi_o18_31 : zi_fin [zi_any, .inr (0, 2147483647), zi_any, zi_any, zi_any, zi_any, zi_any] 54 (796, zi_al0, [], zi_A0, 100, 177797) = true := by decide +kernel
theorem zi_o19_32 : zi_fin [zi_any, .inr ((-2147483648), (-1)), zi_any, zi_any, zi_any, zi_any, zi_any] 30 (857, zi_al0, [], zi_A0, 100, 177797) = true := by decide +kernel
theorem zi_o19_33 : zi_fin [zi_any, .inl (.int 0), zi_any, zi_any, zi_any, zi_any, zi_any] 28 (857, zi_al0, [], zi_A0, 100, 177797) = true := by decide +kernel
theorem zi_o19_34 : zi_fin [zi_any, .inr (1, 2147483647), zi_any, zi_any, zi_any, zi_any, zi_any] 30 (857, zi_al0, [], zi_A0, 100, 177797) = true := by decide +kernel
theorem zi_o20_35 : zi_fin [zi_any, .inr ((-2147483648), (-1)), zi_any, zi_any, zi_any, zi_any, zi_any] 44 (898, zi_al0, [], zi_A0, 100, 177797) = true := by decide +kernel
theorem zi_o20_36 : zi_fin [zi_any, .inr (0, 2147483647), zi_any, zi_any, zi_any, zi_any, zi_any] 44 (898, zi_al0, [], zi_A0, 100, 177797) = true := by decide +kernel
theorem zi_o21_37 : zi_fin [zi_any, .inr ((-2147483648), (-1)), zi_any, zi_any, zi_any, zi_any, zi_any] 44 (947, zi_al0, [], zi_A0, 100, 177797) = true := by decide +kernel
theorem zi_o21_38 : zi_fin [zi_any, .inr (0, 2147483647), zi_any, zi_any, zi_any, zi_any, zi_any] 44 (947, zi_al0, [], zi_A0, 100, 177797) = true := by decide +kernel
theorem zi_o23_39 : zi_fin [zi_any, .inr ((-2147483648), (-1)), zi_any, zi_any, zi_any, zi_any, zi_any] 34 (1076, zi_al0, [], zi_A0, 100, 177797) = true := by decide +kernel
theorem zi_o23_40 : zi_fin [zi_any, .inr (0, 2147483647), zi_any, zi_any, zi_any, zi_any, zi_any] 34 (1076, zi_al0, [], zi_A0, 100, 177797) = true := by decide +kernel
theorem zi_o24_41 : zi_fin [zi_any, .inr ((-2147483648), (-1)), zi_any, zi_any, zi_any, zi_any, zi_any] 34 (1113, zi_al0, [], zi_A0, 100, 177797) = true := by decide +kernel
theorem zi_o24_42 : zi_fin [zi_any, .inr (0, 2147483647), zi_any, zi_any, zi_any, zi_any, zi_any] 34 (1113, zi_al0, [], zi_A0, 100, 177797) = true := by decide +kernel
theorem zi_o25_43 : zi_fin [zi_any, .inr ((-2147483648), (-1)), zi_any, zi_any, zi_any, zi_any, zi_any] 24 (1150, zi_al0, [], zi_A0, 100, 177797) = true := by decide +kernel
theorem zi_o25_44 : zi_fin [zi_any, .inl (.int 0), zi_any, zi_any, zi_any, zi_any, zi_any] 24 (1150, zi_al0, [], zi_A0, 100, 177797) = true := by decide +kernel
theorem zi_o25_45 : zi_fin [zi_any, .inl (.int 1), zi_any, zi_any, zi_any, zi_any, zi_any] 24 (1150, zi_al0, [], zi_A0, 100, 177797) = true := by decide +kernel
theorem zi_o25_46 : zi_fin [zi_any, .inr (2, 2147483647), zi_any, zi_any, zi_any, zi_any, zi_any] 24 (1150, zi_al0, [], zi_A0, 100, 177797) = true := by decide +kernel
theorem zi_o26_47 : zi_fin [zi_any, .inr ((-2147483648), (-1)), zi_any, zi_any, zi_any, zi_any, zi_any] 44 (1175, zi_al0, [], zi_A0, 100, 177797) = true := by decide +kernel
theorem zi_o26_48 : zi_fin [zi_any, .inr (0, 2147483647), zi_any, zi_any, zi_any, zi_any, zi_any] 44 (1175, zi_al0, [], zi_A0, 100, 177797) = true := by decide +kernel
theorem zi_o27_49 : zi_fin [zi_any, zi_any, zi_any, zi_any, zi_any, zi_any, zi_any] 14 (1224, zi_al0, [], zi_A0, 100, 177797) = true := by decide +kernel
end
section
theorem zi_o28_50 : zi_fin [zi_any, zi_any, zi_any, zi_any, zi_any, zi_any, zi_any] 14 (1237, zi_al0, [], zi_A0, 100, 177797) = true := by decide +kernel
theorem zi_o29_51 : zi_fin [zi_any, .inr ((-2147483648), (-1)), .inr ((-2147483648), (-1)), zi_any, zi_any, zi_any, zi_any] 44 (1250, zi_al0, [], zi_A0, 100, 177797) = true := by decide +kernel
theorem zi_o29_52 : zi_fin [zi_any, .inr ((-2147483648), (-1)), .inr (0, 2147483647), zi_any, zi_any, zi_any, zi_any] 44 (1250, zi_al0, [], zi_A0, 100, 177797) = true := by decide +kernel
theorem zi_o29_53 : zi_fin [zi_any, .inr (0, 9999), .inr ((-2147483648), (-1)), zi_any, zi_any, zi_any, zi_any] 44 (1250, zi_al0, [], zi_A0, 100, 177797) = true := by decide +kernel
theorem zi_o29_54 : zi_fin [zi_any, .inr (0, 9999), .inr (0, 2147483647), zi_any, zi_any, zi_any, zi_any] 44 (1250, zi_al0, [], zi_A0, 100, 177797) = true := by decide +kernel
theorem zi_o29_55 : zi_fin [zi_any, .inr (10000, 2147483647), .inr ((-2147483648), (-1)), zi_any, zi_any, zi_any, zi_any] 44 (1250, zi_al0, [], zi_A0, 100, 177797) = true := by decide +kernel
theorem zi_o29_56 : zi_fin [zi_any, .inr (10000, 2147483647), .inr (0, 2147483647), zi_any, zi_any, zi_any, zi_any] 44 (1250, zi_al0, [], zi_A0, 100, 177797) = true := by decide +kernel
theorem zi_o30_57 : zi_fin [zi_any, .inr ((-2147483648), (-1)), zi_any, zi_any, zi_any, zi_any, zi_any] 44 (1299, zi_al0, [], zi_A0, 100, 177797) = true := by decide +kernel
theorem zi_o30_58 : zi_fin [zi_any, .inr (10000, 2147483647), zi_any, zi_any, zi_any, zi_any, zi_any] 44 (1299, zi_al0, [], zi_A0, 100, 177797) = true := by decide +kernel
theorem zi_o30_59 : zi_fin [zi_any, .inr (0, 9999), .inr ((-2147483648), 0), zi_any, zi_any, zi_any, zi_any] 44 (1299, zi_al0, [], zi_A0, 100, 177797) = true := by decide +kernel
theorem zi_o30_60 : zi_fin [zi_any, .inr (0, 9999), .inr (61, 2147483647), zi_any, zi_any, zi_any, zi_any] 44 (1299, zi_al0, [], zi_A0, 100, 177797) = true := by decide +kernel
theorem zi_o30_61 : zi_fin [zi_any, .inr (0, 9999), .inr (1, 60), .inr ((-2147483648), (-1)), zi_any, zi_any, zi_any] 44 (1299, zi_al0, [], zi_A0, 100, 177797) = true := by decide +kernel
theorem zi_o30_62 : zi_fin [zi_any, .inr (0, 9999), .inr (1, 60), .inr (0, 2), zi_any, zi_any, zi_any] 44 (1299, zi_al0, [], zi_A0, 100, 177797) = true := by decide +kernel
theorem zi_o30_63 : zi_fin [zi_any, .inr (0, 9999), .inr (1, 60), .inr (3, 2147483647), zi_any, zi_any, zi_any] 44 (1299, zi_al0, [], zi_A0, 100, 177797) = true := by decide +kernel
theorem zi_o31_64 : zi_fin [zi_any, .inr ((-2147483648), (-1)), .inr ((-2147483648), (-1)), zi_any, zi_any, zi_any, zi_any] 40 (1348, zi_al0, [], zi_A0, 100, 177797) = true := by decide +kernel
theorem zi_o31_65 : zi_fin [zi_any, .inr ((-2147483648), (-1)), .inl (.int 0), zi_any, zi_any, zi_any, zi_any] 38 (1348, zi_al0, [], zi_A0, 100, 177797) = true := by decide +kernel
theorem zi_o31_66 : zi_fin [zi_any, .inr ((-2147483648), (-1)), .inr (1, 2147483647), zi_any, zi_any, zi_any, zi_any] 40 (1348, zi_al0, [], zi_A0, 100, 177797) = true := by decide +kernel
theorem zi_o31_67 : zi_fin [zi_any, .inl (.int 0), .inr ((-2147483648), (-1)), zi_any, zi_any, zi_any, zi_any] 40 (1348, zi_al0, [], zi_A0, 100, 177797) = true := by decide +kernel
theorem zi_o31_68 : zi_fin [zi_any, .inl (.int 0), .inl (.int 0), zi_any, zi_any, zi_any, zi_any] 38 (1348, zi_al0, [], zi_A0, 100, 177797) = true := by decide +kernel
theorem zi_o31_69 : zi_fin [zi_any, .inl (.int 0), .inr (1, 2147483647), zi_any, zi_any, zi_any, zi_any] 40 (1348, zi_al0, [], zi_A0, 100, 177797) = true := by decide +kernel
theorem zi_o31_70 : zi_fin [zi_any, .inl (.int 1), .inr ((-2147483648), (-1)), zi_any, zi_any, zi_any, zi_any] 40 (1348, zi_al0, [], zi_A0, 100, 177797) = true := by decide +kernel
theorem zi_o31_71 : zi_fin [zi_any, .inl (.int 1), .inl (.int 0), zi_any, zi_any, zi_any, zi_any] 38 (1348, zi_al0, [], zi_A0, 100, 177797) = true := by decide +kernel
theorem zi_o31_72 : zi_fin [zi_any, .inl (.int 1), .inr (1, 2147483647), zi_any, zi_any, zi_any, zi_any] 40 (1348, zi_al0, [], zi_A0, 100, 177797) = true := by decide +kernel
theorem zi_o31_73 : zi_fin [zi_any, .inl (.int 2), .inr ((-2147483648), (-1)), zi_any, zi_any, zi_any, zi_any] 40 (1348, zi_al0, [], zi_A0, 100, 177797) = true := by decide +kernel
theorem zi_o31_74 : zi_fin [zi_any, .inl (.int 2), .inl (.int 0), zi_any, zi_any, zi_any, zi_any] 38 (1348, zi_al0, [], zi_A0, 100, 177797) = true := by decide +kernel
end
section
theorem zi_o31_75 : zi_fin [zi_any, .inl (.int 2), .inr (1, 2147483647), zi_any, zi_any, zi_any, zi_any] 40 (1348, zi_al0, [], zi_A0, 100, 177797) = true := by decide +kernel
theorem zi_o31_76 : zi_fin [zi_any, .inl (.int 3), .inr ((-2147483648), (-1)), zi_any, zi_any, zi_any, zi_any] 40 (1348, zi_al0, [], zi_A0, 100, 177797) = true := by decide +kernel
theorem zi_o31_77 : zi_fin [zi_any, .inl (.int 3), .inl (.int 0), zi_any, zi_any, zi_any, zi_any] 38 (1348, zi_al0, [], zi_A0, 100, 177797) = true := by decide +kernel
theorem zi_o31_78 : zi_fin [zi_any, .inl (.int 3), .inr (1, 2147483647), zi_any, zi_any, zi_any, zi_any] 40 (1348, zi_al0, [], zi_A0, 100, 177797) = true := by decide +kernel
theorem zi_o31_79 : zi_fin [zi_any, .inr (4, 2147483647), .inr ((-2147483648), (-1)), zi_any, zi_any, zi_any, zi_any] 40 (1348, zi_al0, [], zi_A0, 100, 177797) = true := by decide +kernel
theorem zi_o31_80 : zi_fin [zi_any, .inr (4, 2147483647), .inl (.int 0), zi_any, zi_any, zi_any, zi_any] 38 (1348, zi_al0, [], zi_A0, 100, 177797) = true := by decide +kernel
theorem zi_o31_81 : zi_fin [zi_any, .inr (4, 2147483647), .inr (1, 2147483647), zi_any, zi_any, zi_any, zi_any] 40 (1348, zi_al0, [], zi_A0, 100, 177797) = true := by decide +kernel
theorem zi_o32_82 : zi_fin [zi_any, .inr ((-2147483648), (-1)), zi_any, zi_any, zi_any, zi_any, zi_any] 24 (1401, zi_al0, [], zi_A0, 100, 177797) = true := by decide +kernel
theorem zi_o32_83 : zi_fin [zi_any, .inl (.int 0), zi_any, zi_any, zi_any, zi_any, zi_any] 24 (1401, zi_al0, [], zi_A0, 100, 177797) = true := by decide +kernel
theorem zi_o32_84 : zi_fin [zi_any, .inl (.int 1), zi_any, zi_any, zi_any, zi_any, zi_any] 24 (1401, zi_al0, [], zi_A0, 100, 177797) = true := by decide +kernel
theorem zi_o32_85 : zi_fin [zi_any, .inl (.int 2), zi_any, zi_any, zi_any, zi_any, zi_any] 24 (1401, zi_al0, [], zi_A0, 100, 177797) = true := by decide +kernel
theorem zi_o32_86 : zi_fin [zi_any, .inl (.int 3), zi_any, zi_any, zi_any, zi_any, zi_any] 24 (1401, zi_al0, [], zi_A0, 100, 177797) = true := by decide +kernel
theorem zi_o32_87 : zi_fin [zi_any, .inl (.int 4), zi_any, zi_any, zi_any, zi_any, zi_any] 24 (1401, zi_al0, [], zi_A0, 100, 177797) = true := by decide +kernel
theorem zi_o32_88 : zi_fin [zi_any, .inl (.int 5), zi_any, zi_any, zi_any, zi_any, zi_any] 24 (1401, zi_al0, [], zi_A0, 100, 177797) = true := by decide +kernel
theorem zi_o32_89 : zi_fin [zi_any, .inl (.int 6), zi_any, zi_any, zi_any, zi_any, zi_any] 24 (1401, zi_al0, [], zi_A0, 100, 177797) = true := by decide +kernel
theorem zi_o32_90 : zi_fin [zi_any, .inl (.int 7), zi_any, zi_any, zi_any, zi_any, zi_any] 24 (1401, zi_al0, [], zi_A0, 100, 177797) = true := by decide +kernel
theorem zi_o32_91 : zi_fin [zi_any, .inl (.int 8), zi_any, zi_any, zi_any, zi_any, zi_any] 24 (1401, zi_al0, [], zi_A0, 100, 177797) = true := by decide +kernel
theorem zi_o32_92 : zi_fin [zi_any, .inl (.int 9), zi_any, zi_any, zi_any, zi_any, zi_any] 24 (1401, zi_al0, [], zi_A0, 100, 177797) = true := by decide +kernel
theorem zi_o32_93 : zi_fin [zi_any, .inl (.int 10), zi_any, zi_any, zi_any, zi_any, zi_any] 24 (1401, zi_al0, [], zi_A0, 100, 177797) = true := by decide +kernel
theorem zi_o32_94 : zi_fin [zi_any, .inl (.int 11), zi_any, zi_any, zi_any, zi_any, zi_any] 24 (1401, zi_al0, [], zi_A0, 100, 177797) = true := by decide +kernel
theorem zi_o32_95 : zi_fin [zi_any, .inr (12, 2147483647), zi_any, zi_any, zi_any, zi_any, zi_any] 24 (1401, zi_al0, [], zi_A0, 100, 177797) = true := by decide +kernel
theorem zi_o99_96 : zi_fin [zi_any, zi_any, zi_any, zi_any, zi_any, zi_any, zi_any] 9 (1426, zi_al0, [], zi_A0, 100, 177797) = true := by decide +kernel
end
section
/-! THE CLAIM OUT OF ONE WALK OF THE LAW'S BODY. Your part is whole_start (and what it stands on); all else here is the same for every law, but numbers. -/
def R_law : String := "AgreeToldLaw"
def lw_P (b : Addr) (xs : List Int32) (args : Array Value) (s : State) : Prop := args = #[.ref b] ∧ s.IntsAt b xs ∧ xs.length ≤ 7 ∧ (Jvm.Cond.and given_1 narrow_1).before args s = true
def lw_Q (_ : Array Value) (s : State) (o : Outcome) (t : State) : Prop := o = .returned (some (.int 1)) ∧ Framed s o t [] 600002 7302232
def lw_Z (below : List Frame) (a : Array Value) (s : State) : State → Prop := fun t => ∃ o, t.status = .running ∧ Ended t below o ∧ lw_Q a s o t
/-- the law's own end, with 1 on the stack, nothing written that was there before, its room as the claim has it -/
theorem lw_ret {p : Program} {l : Launch} {e : Env} {s : State} {m : MethodId} {below : List Frame} {meth : Method} {c : Code} {b : Nat} (hx : p.tables.exec = Jvm.exec) (hb : c.code = code) (hr : meth.sig.returnType = ret) (hlocks : meth.locks = false) {pc : Nat} {H : Heap} {ls : Array Slot} (hdg : decode code pc = .ok (.ireturn, 1)) : W p l e room_1 s m #[Value.ref b] below meth c H [] 600002 7302232 (lw_Z below #[Value.ref b] s) (F0 m pc ls [.int 1]) := by
  intro T hT X
  obtain ⟨fs, hret, hrun, hended, hW, hframe⟩ := X.leave (v := some (.int 1)) (hlocks := hlocks) (fun h => by rw [hr] at h; cases h)
  have hmeth' : T.vm.method? m = some meth := X.method'
  refine ⟨T.setFrames fs, ?_, .returned (some (.int 1)), hrun, hended, rfl, ⟨_, rfl⟩, hW, hframe⟩
  jvm_step X.here [X.here.top, hx, hb, hdg, hmeth', hr, ret, narrow_b1]
  (try refine ⟨rfl, ?_⟩); (try refine ⟨rfl, ?_⟩)
  first | (intro acts; rw [hret _ acts rfl rfl rfl]) | rw [hret _ _ rfl rfl rfl]
  exact Steps.refl _
/-- what holds at the law's entry: the machine, the code, the tables' words (any of lw_tbl by 'hts w (by decide +kernel)'), the script of L ints xs at the cell b, what the Statement gives of the start (any of its parts by flat_of_before) -/
def lw_At (p : Program) (s : State) (m : MethodId) (meth : Method) (c : Code) (b L : Nat) (xs : Nat → Int32) : Prop :=
  p.tables.exec = Jvm.exec ∧ c.code = code ∧ meth.sig.returnType = ret ∧ c.maxLocals = 7 ∧ s.vm.findClass R_law = some m.cls ∧ (∀ w ∈ lw_tbl, w.before #[Value.ref b] s = true) ∧ va_X b L xs s s.heap ∧ b < s.heap.size ∧ meth.locks = false ∧ (Jvm.Cond.and given_1 narrow_1).before #[Value.ref b] s = true ∧ meth.name = x.name
/-! The end of a run, and the calls one by one. -/
theorem zi_d1433 : decode code 1433 = .ok (.ireturn, 1) := by decide +kernel
section ZF
variable {p : Program} {l : Launch} {e : Env} {s : State} {m : MethodId} {below : List Frame} {meth : Method} {c : Code} {D : va_G} {dA : Nat → ClassId} {adK adV : Nat → Nat} {b : Nat} {sl : List zi_V} {xs : Nat → Int32}
theorem zi_end (C : zi_Cx p room_1 s m #[Value.ref b] meth c s.heap.size D dA adK adV b zi_mlaw 40 sl) {nc ns : Nat} (hc : nc ≤ 600002) (hs : ns ≤ 7302232) {H : Heap} {locs : List Loc} {ls : Array Slot} (hS : va_S (fun q => s.heap.size ≤ q) s.heap H locs) : zi_W p l e room_1 s m #[Value.ref b] below meth c (lw_Z below #[Value.ref b] s) nc ns 1433 H locs ls [.int 1] := by
  obtain ⟨⟨hx, hb, hml, hret, hown, hts, hlk, hnm⟩, -⟩ := C
  refine va_forget (fun q hq => hS.2.2 q hq) ?_
  refine W.widen (k := 600002) (n := 7302232) hc hs ?_
  exact lw_ret hx hb hret hlk zi_d1433
theorem zi_call_ok : zi_Ct l zi_Ms 40 zi_call := zi_ev_ok zi_Ms_ok 100000 40
theorem zi_fin_ok (C : zi_Cx p room_1 s m #[Value.ref b] meth c s.heap.size D dA adK adV b zi_mlaw 40 sl) {n : Nat} {f : zi_F} (h : zi_fin sl n f = true) {ws : va_W} {H : Heap} {locs : List Loc} {ls : Array Slot} {sc : List Value} (hS : zi_St s.heap.size D dA adK adV b 7 s f ws H locs ls sc) : zi_W p l e room_1 s m #[Value.ref b] below meth c (lw_Z below #[Value.ref b] s) f.2.2.2.2.1 f.2.2.2.2.2 f.1 H locs ls sc := by
  unfold zi_fin at h
  split at h
  · rename_i g hg
    simp only [Bool.and_eq_true] at h
    have e1 := Nat.eq_of_beq_eq_true h.1.1.1
    have e2 := zi_lb_ok (fun _ _ => zi_vb_ok) h.1.1.2
    have c1 := Nat.le_of_ble_eq_true h.1.2
    have c2 := Nat.le_of_ble_eq_true h.2
    refine (zi_run_go (l := l) (e := e) (below := below) C zi_call_ok (fun mi N hN => (zi_Ms_ok mi N hN).1) zi_law_ok n hg).1 _ ws H locs ls sc hS c1 c2 (fun ws' H' locs' ls' sc' hex hS' => ?_)
    obtain ⟨h1, h2, h3, h4, h5, h6⟩ := hS'
    rw [e2] at h6
    obtain ⟨w, t, e3, hw, h7⟩ := zi_F2_cons h6
    have e4 := zi_F2_nil h7
    have hw : w = .int 1 := hw
    rw [e3, e4, hw, e1]
    exact zi_end C c1 c2 h3
  · cases h
theorem zi_f0_at {t : Nat} {ws : va_W} {H : Heap} {locs : List Loc} {ls : Array Slot} {sc : List Value} (hS : zi_St s.heap.size D dA adK adV b 7 s zi_f0 ws H locs ls sc) : zi_St s.heap.size D dA adK adV b 7 s (t, zi_al0, [], zi_A0, 100, 177797) ws H locs ls sc := hS
/-- the script as values of a kind -/
theorem zi_scr (C : zi_Cx p room_1 s m #[Value.ref b] meth c s.heap.size D dA adK adV b zi_mlaw 40 []) (hX : va_X b 7 xs s s.heap) (hbl : b < s.heap.size) {v0 v1 v2 v3 v4 v5 v6 : zi_V} (h0 : ∀ ad, zi_vr ad v0 (.int (xs 0))) (h1 : ∀ ad, zi_vr ad v1 (.int (xs 1))) (h2 : ∀ ad, zi_vr ad v2 (.int (xs 2))) (h3 : ∀ ad, zi_vr ad v3 (.int (xs 3))) (h4 : ∀ ad, zi_vr ad v4 (.int (xs 4))) (h5 : ∀ ad, zi_vr ad v5 (.int (xs 5))) (h6 : ∀ ad, zi_vr ad v6 (.int (xs 6))) : zi_Cx p room_1 s m #[Value.ref b] meth c s.heap.size D dA adK adV b zi_mlaw 40 [v0, v1, v2, v3, v4, v5, v6] := by
  refine ⟨C.1, C.2.1, C.2.2.1, Or.inr ⟨xs, hX, hbl, hbl, fun ad j v hj => ?_⟩⟩
  match j, hj with
  | 0, hj => cases hj; exact h0 ad
  | 1, hj => cases hj; exact h1 ad
  | 2, hj => cases hj; exact h2 ad
  | 3, hj => cases hj; exact h3 ad
  | 4, hj => cases hj; exact h4 ad
  | 5, hj => cases hj; exact h5 ad
  | 6, hj => cases hj; exact h6 ad
  | j + 7, hj => simp at hj
theorem zi_bd (x : Int32) : -2147483648 ≤ x.toInt ∧ x.toInt ≤ 2147483647 := ⟨by have := Int32.le_toInt x; omega, by have := Int32.toInt_lt x; omega⟩
theorem zi_ri {x lo hi : Int32} {a z : Int} (hl : lo.toInt = a) (hh : hi.toInt = z) (h1 : a ≤ x.toInt) (h2 : x.toInt ≤ z) : ∀ ad, zi_vr ad (.inr (lo, hi)) (.int x) := fun _ => ⟨x, rfl, by rw [zi_ile, hl]; exact h1, by rw [zi_ile, hh]; exact h2⟩
theorem zi_re {x k : Int32} {a : Int} (hk : k.toInt = a) (h : x.toInt = a) : ∀ ad, zi_vr ad (.inl (.int k)) (.int x) := fun _ => by
  have e1 : x = k := by rw [zi_ieq, hk, h]
  rw [e1]
  rfl
theorem zi_ra (x : Int32) : ∀ ad, zi_vr ad zi_any (.int x) := zi_ri (a := -2147483648) (z := 2147483647) (by decide) (by decide) (zi_bd x).1 (zi_bd x).2
theorem zi_op1 (C : zi_Cx p room_1 s m #[Value.ref b] meth c s.heap.size D dA adK adV b zi_mlaw 40 []) (hX : va_X b 7 xs s s.heap) (hbl : b < s.heap.size) {ws : va_W} {H : Heap} {locs : List Loc} {ls : Array Slot} {sc : List Value} (hS : zi_St s.heap.size D dA adK adV b 7 s zi_f0 ws H locs ls sc) : zi_W p l e room_1 s m #[Value.ref b] below meth c (lw_Z below #[Value.ref b] s) 100 177797 335 H locs ls sc := by
  have b1 := zi_bd (xs 1)
  have b2 := zi_bd (xs 2)
  have b3 := zi_bd (xs 3)
  exact zi_fin_ok (zi_scr C hX hbl (zi_ra (xs 0)) (zi_ra (xs 1)) (zi_ra (xs 2)) (zi_ra (xs 3)) (zi_ra (xs 4)) (zi_ra (xs 5)) (zi_ra (xs 6))) zi_o1_0 (zi_f0_at hS)
theorem zi_op2 (C : zi_Cx p room_1 s m #[Value.ref b] meth c s.heap.size D dA adK adV b zi_mlaw 40 []) (hX : va_X b 7 xs s s.heap) (hbl : b < s.heap.size) {ws : va_W} {H : Heap} {locs : List Loc} {ls : Array Slot} {sc : List Value} (hS : zi_St s.heap.size D dA adK adV b 7 s zi_f0 ws H locs ls sc) : zi_W p l e room_1 s m #[Value.ref b] below meth c (lw_Z below #[Value.ref b] s) 100 177797 348 H locs ls sc := by
  have b1 := zi_bd (xs 1)
  have b2 := zi_bd (xs 2)
  have b3 := zi_bd (xs 3)
  exact zi_fin_ok (zi_scr C hX hbl (zi_ra (xs 0)) (zi_ra (xs 1)) (zi_ra (xs 2)) (zi_ra (xs 3)) (zi_ra (xs 4)) (zi_ra (xs 5)) (zi_ra (xs 6))) zi_o2_1 (zi_f0_at hS)
theorem zi_op3 (C : zi_Cx p room_1 s m #[Value.ref b] meth c s.heap.size D dA adK adV b zi_mlaw 40 []) (hX : va_X b 7 xs s s.heap) (hbl : b < s.heap.size) {ws : va_W} {H : Heap} {locs : List Loc} {ls : Array Slot} {sc : List Value} (hS : zi_St s.heap.size D dA adK adV b 7 s zi_f0 ws H locs ls sc) : zi_W p l e room_1 s m #[Value.ref b] below meth c (lw_Z below #[Value.ref b] s) 100 177797 361 H locs ls sc := by
  have b1 := zi_bd (xs 1)
  have b2 := zi_bd (xs 2)
  have b3 := zi_bd (xs 3)
  exact zi_fin_ok (zi_scr C hX hbl (zi_ra (xs 0)) (zi_ra (xs 1)) (zi_ra (xs 2)) (zi_ra (xs 3)) (zi_ra (xs 4)) (zi_ra (xs 5)) (zi_ra (xs 6))) zi_o3_2 (zi_f0_at hS)
theorem zi_op4 (C : zi_Cx p room_1 s m #[Value.ref b] meth c s.heap.size D dA adK adV b zi_mlaw 40 []) (hX : va_X b 7 xs s s.heap) (hbl : b < s.heap.size) {ws : va_W} {H : Heap} {locs : List Loc} {ls : Array Slot} {sc : List Value} (hS : zi_St s.heap.size D dA adK adV b 7 s zi_f0 ws H locs ls sc) : zi_W p l e room_1 s m #[Value.ref b] below meth c (lw_Z below #[Value.ref b] s) 100 177797 374 H locs ls sc := by
  have b1 := zi_bd (xs 1)
  have b2 := zi_bd (xs 2)
  have b3 := zi_bd (xs 3)
  rcases (show (xs 1).toInt ≤ (-1) ∨ 0 ≤ (xs 1).toInt by omega) with h0 | h0
  · skip
    exact zi_fin_ok (zi_scr C hX hbl (zi_ra (xs 0)) (zi_ri (a := (-2147483648)) (z := (-1)) (by decide) (by decide) (by omega) (by omega)) (zi_ra (xs 2)) (zi_ra (xs 3)) (zi_ra (xs 4)) (zi_ra (xs 5)) (zi_ra (xs 6))) zi_o4_3 (zi_f0_at hS)
  · skip
    exact zi_fin_ok (zi_scr C hX hbl (zi_ra (xs 0)) (zi_ri (a := 0) (z := 2147483647) (by decide) (by decide) (by omega) (by omega)) (zi_ra (xs 2)) (zi_ra (xs 3)) (zi_ra (xs 4)) (zi_ra (xs 5)) (zi_ra (xs 6))) zi_o4_4 (zi_f0_at hS)
theorem zi_op5 (C : zi_Cx p room_1 s m #[Value.ref b] meth c s.heap.size D dA adK adV b zi_mlaw 40 []) (hX : va_X b 7 xs s s.heap) (hbl : b < s.heap.size) {ws : va_W} {H : Heap} {locs : List Loc} {ls : Array Slot} {sc : List Value} (hS : zi_St s.heap.size D dA adK adV b 7 s zi_f0 ws H locs ls sc) : zi_W p l e room_1 s m #[Value.ref b] below meth c (lw_Z below #[Value.ref b] s) 100 177797 399 H locs ls sc := by
  have b1 := zi_bd (xs 1)
  have b2 := zi_bd (xs 2)
  have b3 := zi_bd (xs 3)
  rcases (show (xs 1).toInt ≤ (-1) ∨ 0 ≤ (xs 1).toInt by omega) with h0 | h0
  · skip
    exact zi_fin_ok (zi_scr C hX hbl (zi_ra (xs 0)) (zi_ri (a := (-2147483648)) (z := (-1)) (by decide) (by decide) (by omega) (by omega)) (zi_ra (xs 2)) (zi_ra (xs 3)) (zi_ra (xs 4)) (zi_ra (xs 5)) (zi_ra (xs 6))) zi_o5_5 (zi_f0_at hS)
  · skip
    exact zi_fin_ok (zi_scr C hX hbl (zi_ra (xs 0)) (zi_ri (a := 0) (z := 2147483647) (by decide) (by decide) (by omega) (by omega)) (zi_ra (xs 2)) (zi_ra (xs 3)) (zi_ra (xs 4)) (zi_ra (xs 5)) (zi_ra (xs 6))) zi_o5_6 (zi_f0_at hS)
theorem zi_op6 (C : zi_Cx p room_1 s m #[Value.ref b] meth c s.heap.size D dA adK adV b zi_mlaw 40 []) (hX : va_X b 7 xs s s.heap) (hbl : b < s.heap.size) {ws : va_W} {H : Heap} {locs : List Loc} {ls : Array Slot} {sc : List Value} (hS : zi_St s.heap.size D dA adK adV b 7 s zi_f0 ws H locs ls sc) : zi_W p l e room_1 s m #[Value.ref b] below meth c (lw_Z below #[Value.ref b] s) 100 177797 436 H locs ls sc := by
  have b1 := zi_bd (xs 1)
  have b2 := zi_bd (xs 2)
  have b3 := zi_bd (xs 3)
  rcases (show (xs 1).toInt ≤ (-1) ∨ (xs 1).toInt = 0 ∨ (xs 1).toInt = 1 ∨ (xs 1).toInt = 2 ∨ 3 ≤ (xs 1).toInt by omega) with h0 | h0 | h0 | h0 | h0
  · skip
    exact zi_fin_ok (zi_scr C hX hbl (zi_ra (xs 0)) (zi_ri (a := (-2147483648)) (z := (-1)) (by decide) (by decide) (by omega) (by omega)) (zi_ra (xs 2)) (zi_ra (xs 3)) (zi_ra (xs 4)) (zi_ra (xs 5)) (zi_ra (xs 6))) zi_o6_7 (zi_f0_at hS)
  · skip
    exact zi_fin_ok (zi_scr C hX hbl (zi_ra (xs 0)) (zi_re (a := 0) (by decide) h0) (zi_ra (xs 2)) (zi_ra (xs 3)) (zi_ra (xs 4)) (zi_ra (xs 5)) (zi_ra (xs 6))) zi_o6_8 (zi_f0_at hS)
  · skip
    exact zi_fin_ok (zi_scr C hX hbl (zi_ra (xs 0)) (zi_re (a := 1) (by decide) h0) (zi_ra (xs 2)) (zi_ra (xs 3)) (zi_ra (xs 4)) (zi_ra (xs 5)) (zi_ra (xs 6))) zi_o6_9 (zi_f0_at hS)
  · skip
    exact zi_fin_ok (zi_scr C hX hbl (zi_ra (xs 0)) (zi_re (a := 2) (by decide) h0) (zi_ra (xs 2)) (zi_ra (xs 3)) (zi_ra (xs 4)) (zi_ra (xs 5)) (zi_ra (xs 6))) zi_o6_10 (zi_f0_at hS)
  · skip
    exact zi_fin_ok (zi_scr C hX hbl (zi_ra (xs 0)) (zi_ri (a := 3) (z := 2147483647) (by decide) (by decide) (by omega) (by omega)) (zi_ra (xs 2)) (zi_ra (xs 3)) (zi_ra (xs 4)) (zi_ra (xs 5)) (zi_ra (xs 6))) zi_o6_11 (zi_f0_at hS)
theorem zi_op7 (C : zi_Cx p room_1 s m #[Value.ref b] meth c s.heap.size D dA adK adV b zi_mlaw 40 []) (hX : va_X b 7 xs s s.heap) (hbl : b < s.heap.size) {ws : va_W} {H : Heap} {locs : List Loc} {ls : Array Slot} {sc : List Value} (hS : zi_St s.heap.size D dA adK adV b 7 s zi_f0 ws H locs ls sc) : zi_W p l e room_1 s m #[Value.ref b] below meth c (lw_Z below #[Value.ref b] s) 100 177797 461 H locs ls sc := by
  have b1 := zi_bd (xs 1)
  have b2 := zi_bd (xs 2)
  have b3 := zi_bd (xs 3)
  rcases (show (xs 1).toInt ≤ (-1) ∨ 0 ≤ (xs 1).toInt by omega) with h0 | h0
  · skip
    exact zi_fin_ok (zi_scr C hX hbl (zi_ra (xs 0)) (zi_ri (a := (-2147483648)) (z := (-1)) (by decide) (by decide) (by omega) (by omega)) (zi_ra (xs 2)) (zi_ra (xs 3)) (zi_ra (xs 4)) (zi_ra (xs 5)) (zi_ra (xs 6))) zi_o7_12 (zi_f0_at hS)
  · skip
    exact zi_fin_ok (zi_scr C hX hbl (zi_ra (xs 0)) (zi_ri (a := 0) (z := 2147483647) (by decide) (by decide) (by omega) (by omega)) (zi_ra (xs 2)) (zi_ra (xs 3)) (zi_ra (xs 4)) (zi_ra (xs 5)) (zi_ra (xs 6))) zi_o7_13 (zi_f0_at hS)
theorem zi_op8 (C : zi_Cx p room_1 s m #[Value.ref b] meth c s.heap.size D dA adK adV b zi_mlaw 40 []) (hX : va_X b 7 xs s s.heap) (hbl : b < s.heap.size) {ws : va_W} {H : Heap} {locs : List Loc} {ls : Array Slot} {sc : List Value} (hS : zi_St s.heap.size D dA adK adV b 7 s zi_f0 ws H locs ls sc) : zi_W p l e room_1 s m #[Value.ref b] below meth c (lw_Z below #[Value.ref b] s) 100 177797 498 H locs ls sc := by
  have b1 := zi_bd (xs 1)
  have b2 := zi_bd (xs 2)
  have b3 := zi_bd (xs 3)
  rcases (show (xs 1).toInt ≤ (-1) ∨ 0 ≤ (xs 1).toInt by omega) with h0 | h0
  · skip
    exact zi_fin_ok (zi_scr C hX hbl (zi_ra (xs 0)) (zi_ri (a := (-2147483648)) (z := (-1)) (by decide) (by decide) (by omega) (by omega)) (zi_ra (xs 2)) (zi_ra (xs 3)) (zi_ra (xs 4)) (zi_ra (xs 5)) (zi_ra (xs 6))) zi_o8_14 (zi_f0_at hS)
  · skip
    exact zi_fin_ok (zi_scr C hX hbl (zi_ra (xs 0)) (zi_ri (a := 0) (z := 2147483647) (by decide) (by decide) (by omega) (by omega)) (zi_ra (xs 2)) (zi_ra (xs 3)) (zi_ra (xs 4)) (zi_ra (xs 5)) (zi_ra (xs 6))) zi_o8_15 (zi_f0_at hS)
theorem zi_op9 (C : zi_Cx p room_1 s m #[Value.ref b] meth c s.heap.size D dA adK adV b zi_mlaw 40 []) (hX : va_X b 7 xs s s.heap) (hbl : b < s.heap.size) {ws : va_W} {H : Heap} {locs : List Loc} {ls : Array Slot} {sc : List Value} (hS : zi_St s.heap.size D dA adK adV b 7 s zi_f0 ws H locs ls sc) : zi_W p l e room_1 s m #[Value.ref b] below meth c (lw_Z below #[Value.ref b] s) 100 177797 523 H locs ls sc := by
  have b1 := zi_bd (xs 1)
  have b2 := zi_bd (xs 2)
  have b3 := zi_bd (xs 3)
  rcases (show (xs 1).toInt ≤ (-1) ∨ 0 ≤ (xs 1).toInt by omega) with h0 | h0
  · skip
    exact zi_fin_ok (zi_scr C hX hbl (zi_ra (xs 0)) (zi_ri (a := (-2147483648)) (z := (-1)) (by decide) (by decide) (by omega) (by omega)) (zi_ra (xs 2)) (zi_ra (xs 3)) (zi_ra (xs 4)) (zi_ra (xs 5)) (zi_ra (xs 6))) zi_o9_16 (zi_f0_at hS)
  · skip
    exact zi_fin_ok (zi_scr C hX hbl (zi_ra (xs 0)) (zi_ri (a := 0) (z := 2147483647) (by decide) (by decide) (by omega) (by omega)) (zi_ra (xs 2)) (zi_ra (xs 3)) (zi_ra (xs 4)) (zi_ra (xs 5)) (zi_ra (xs 6))) zi_o9_17 (zi_f0_at hS)
theorem zi_op10 (C : zi_Cx p room_1 s m #[Value.ref b] meth c s.heap.size D dA adK adV b zi_mlaw 40 []) (hX : va_X b 7 xs s s.heap) (hbl : b < s.heap.size) {ws : va_W} {H : Heap} {locs : List Loc} {ls : Array Slot} {sc : List Value} (hS : zi_St s.heap.size D dA adK adV b 7 s zi_f0 ws H locs ls sc) : zi_W p l e room_1 s m #[Value.ref b] below meth c (lw_Z below #[Value.ref b] s) 100 177797 560 H locs ls sc := by
  have b1 := zi_bd (xs 1)
  have b2 := zi_bd (xs 2)
  have b3 := zi_bd (xs 3)
  rcases (show (xs 1).toInt ≤ (-1) ∨ 0 ≤ (xs 1).toInt by omega) with h0 | h0
  · skip
    exact zi_fin_ok (zi_scr C hX hbl (zi_ra (xs 0)) (zi_ri (a := (-2147483648)) (z := (-1)) (by decide) (by decide) (by omega) (by omega)) (zi_ra (xs 2)) (zi_ra (xs 3)) (zi_ra (xs 4)) (zi_ra (xs 5)) (zi_ra (xs 6))) zi_o10_18 (zi_f0_at hS)
  · skip
    exact zi_fin_ok (zi_scr C hX hbl (zi_ra (xs 0)) (zi_ri (a := 0) (z := 2147483647) (by decide) (by decide) (by omega) (by omega)) (zi_ra (xs 2)) (zi_ra (xs 3)) (zi_ra (xs 4)) (zi_ra (xs 5)) (zi_ra (xs 6))) zi_o10_19 (zi_f0_at hS)
theorem zi_op11 (C : zi_Cx p room_1 s m #[Value.ref b] meth c s.heap.size D dA adK adV b zi_mlaw 40 []) (hX : va_X b 7 xs s s.heap) (hbl : b < s.heap.size) {ws : va_W} {H : Heap} {locs : List Loc} {ls : Array Slot} {sc : List Value} (hS : zi_St s.heap.size D dA adK adV b 7 s zi_f0 ws H locs ls sc) : zi_W p l e room_1 s m #[Value.ref b] below meth c (lw_Z below #[Value.ref b] s) 100 177797 597 H locs ls sc := by
  have b1 := zi_bd (xs 1)
  have b2 := zi_bd (xs 2)
  have b3 := zi_bd (xs 3)
  rcases (show (xs 1).toInt ≤ (-1) ∨ 0 ≤ (xs 1).toInt by omega) with h0 | h0
  · skip
    exact zi_fin_ok (zi_scr C hX hbl (zi_ra (xs 0)) (zi_ri (a := (-2147483648)) (z := (-1)) (by decide) (by decide) (by omega) (by omega)) (zi_ra (xs 2)) (zi_ra (xs 3)) (zi_ra (xs 4)) (zi_ra (xs 5)) (zi_ra (xs 6))) zi_o11_20 (zi_f0_at hS)
  · skip
    exact zi_fin_ok (zi_scr C hX hbl (zi_ra (xs 0)) (zi_ri (a := 0) (z := 2147483647) (by decide) (by decide) (by omega) (by omega)) (zi_ra (xs 2)) (zi_ra (xs 3)) (zi_ra (xs 4)) (zi_ra (xs 5)) (zi_ra (xs 6))) zi_o11_21 (zi_f0_at hS)
theorem zi_op12 (C : zi_Cx p room_1 s m #[Value.ref b] meth c s.heap.size D dA adK adV b zi_mlaw 40 []) (hX : va_X b 7 xs s s.heap) (hbl : b < s.heap.size) {ws : va_W} {H : Heap} {locs : List Loc} {ls : Array Slot} {sc : List Value} (hS : zi_St s.heap.size D dA adK adV b 7 s zi_f0 ws H locs ls sc) : zi_W p l e room_1 s m #[Value.ref b] below meth c (lw_Z below #[Value.ref b] s) 100 177797 634 H locs ls sc := by
  have b1 := zi_bd (xs 1)
  have b2 := zi_bd (xs 2)
  have b3 := zi_bd (xs 3)
  exact zi_fin_ok (zi_scr C hX hbl (zi_ra (xs 0)) (zi_ra (xs 1)) (zi_ra (xs 2)) (zi_ra (xs 3)) (zi_ra (xs 4)) (zi_ra (xs 5)) (zi_ra (xs 6))) zi_o12_22 (zi_f0_at hS)
theorem zi_op13 (C : zi_Cx p room_1 s m #[Value.ref b] meth c s.heap.size D dA adK adV b zi_mlaw 40 []) (hX : va_X b 7 xs s s.heap) (hbl : b < s.heap.size) {ws : va_W} {H : Heap} {locs : List Loc} {ls : Array Slot} {sc : List Value} (hS : zi_St s.heap.size D dA adK adV b 7 s zi_f0 ws H locs ls sc) : zi_W p l e room_1 s m #[Value.ref b] below meth c (lw_Z below #[Value.ref b] s) 100 177797 647 H locs ls sc := by
  have b1 := zi_bd (xs 1)
  have b2 := zi_bd (xs 2)
  have b3 := zi_bd (xs 3)
  rcases (show (xs 1).toInt ≤ (-1) ∨ 0 ≤ (xs 1).toInt by omega) with h0 | h0
  · skip
    exact zi_fin_ok (zi_scr C hX hbl (zi_ra (xs 0)) (zi_ri (a := (-2147483648)) (z := (-1)) (by decide) (by decide) (by omega) (by omega)) (zi_ra (xs 2)) (zi_ra (xs 3)) (zi_ra (xs 4)) (zi_ra (xs 5)) (zi_ra (xs 6))) zi_o13_23 (zi_f0_at hS)
  · skip
    exact zi_fin_ok (zi_scr C hX hbl (zi_ra (xs 0)) (zi_ri (a := 0) (z := 2147483647) (by decide) (by decide) (by omega) (by omega)) (zi_ra (xs 2)) (zi_ra (xs 3)) (zi_ra (xs 4)) (zi_ra (xs 5)) (zi_ra (xs 6))) zi_o13_24 (zi_f0_at hS)
theorem zi_op14 (C : zi_Cx p room_1 s m #[Value.ref b] meth c s.heap.size D dA adK adV b zi_mlaw 40 []) (hX : va_X b 7 xs s s.heap) (hbl : b < s.heap.size) {ws : va_W} {H : Heap} {locs : List Loc} {ls : Array Slot} {sc : List Value} (hS : zi_St s.heap.size D dA adK adV b 7 s zi_f0 ws H locs ls sc) : zi_W p l e room_1 s m #[Value.ref b] below meth c (lw_Z below #[Value.ref b] s) 100 177797 696 H locs ls sc := by
  have b1 := zi_bd (xs 1)
  have b2 := zi_bd (xs 2)
  have b3 := zi_bd (xs 3)
  rcases (show (xs 1).toInt ≤ (-1) ∨ 0 ≤ (xs 1).toInt by omega) with h0 | h0
  · skip
    exact zi_fin_ok (zi_scr C hX hbl (zi_ra (xs 0)) (zi_ri (a := (-2147483648)) (z := (-1)) (by decide) (by decide) (by omega) (by omega)) (zi_ra (xs 2)) (zi_ra (xs 3)) (zi_ra (xs 4)) (zi_ra (xs 5)) (zi_ra (xs 6))) zi_o14_25 (zi_f0_at hS)
  · skip
    exact zi_fin_ok (zi_scr C hX hbl (zi_ra (xs 0)) (zi_ri (a := 0) (z := 2147483647) (by decide) (by decide) (by omega) (by omega)) (zi_ra (xs 2)) (zi_ra (xs 3)) (zi_ra (xs 4)) (zi_ra (xs 5)) (zi_ra (xs 6))) zi_o14_26 (zi_f0_at hS)
theorem zi_op15 (C : zi_Cx p room_1 s m #[Value.ref b] meth c s.heap.size D dA adK adV b zi_mlaw 40 []) (hX : va_X b 7 xs s s.heap) (hbl : b < s.heap.size) {ws : va_W} {H : Heap} {locs : List Loc} {ls : Array Slot} {sc : List Value} (hS : zi_St s.heap.size D dA adK adV b 7 s zi_f0 ws H locs ls sc) : zi_W p l e room_1 s m #[Value.ref b] below meth c (lw_Z below #[Value.ref b] s) 100 177797 745 H locs ls sc := by
  have b1 := zi_bd (xs 1)
  have b2 := zi_bd (xs 2)
  have b3 := zi_bd (xs 3)
  exact zi_fin_ok (zi_scr C hX hbl (zi_ra (xs 0)) (zi_ra (xs 1)) (zi_ra (xs 2)) (zi_ra (xs 3)) (zi_ra (xs 4)) (zi_ra (xs 5)) (zi_ra (xs 6))) zi_o15_27 (zi_f0_at hS)
theorem zi_op16 (C : zi_Cx p room_1 s m #[Value.ref b] meth c s.heap.size D dA adK adV b zi_mlaw 40 []) (hX : va_X b 7 xs s s.heap) (hbl : b < s.heap.size) {ws : va_W} {H : Heap} {locs : List Loc} {ls : Array Slot} {sc : List Value} (hS : zi_St s.heap.size D dA adK adV b 7 s zi_f0 ws H locs ls sc) : zi_W p l e room_1 s m #[Value.ref b] below meth c (lw_Z below #[Value.ref b] s) 100 177797 770 H locs ls sc := by
  have b1 := zi_bd (xs 1)
  have b2 := zi_bd (xs 2)
  have b3 := zi_bd (xs 3)
  exact zi_fin_ok (zi_scr C hX hbl (zi_ra (xs 0)) (zi_ra (xs 1)) (zi_ra (xs 2)) (zi_ra (xs 3)) (zi_ra (xs 4)) (zi_ra (xs 5)) (zi_ra (xs 6))) zi_o16_28 (zi_f0_at hS)
theorem zi_op17 (C : zi_Cx p room_1 s m #[Value.ref b] meth c s.heap.size D dA adK adV b zi_mlaw 40 []) (hX : va_X b 7 xs s s.heap) (hbl : b < s.heap.size) {ws : va_W} {H : Heap} {locs : List Loc} {ls : Array Slot} {sc : List Value} (hS : zi_St s.heap.size D dA adK adV b 7 s zi_f0 ws H locs ls sc) : zi_W p l e room_1 s m #[Value.ref b] below meth c (lw_Z below #[Value.ref b] s) 100 177797 783 H locs ls sc := by
  have b1 := zi_bd (xs 1)
  have b2 := zi_bd (xs 2)
  have b3 := zi_bd (xs 3)
  exact zi_fin_ok (zi_scr C hX hbl (zi_ra (xs 0)) (zi_ra (xs 1)) (zi_ra (xs 2)) (zi_ra (xs 3)) (zi_ra (xs 4)) (zi_ra (xs 5)) (zi_ra (xs 6))) zi_o17_29 (zi_f0_at hS)
theorem zi_op18 (C : zi_Cx p room_1 s m #[Value.ref b] meth c s.heap.size D dA adK adV b zi_mlaw 40 []) (hX : va_X b 7 xs s s.heap) (hbl : b < s.heap.size) {ws : va_W} {H : Heap} {locs : List Loc} {ls : Array Slot} {sc : List Value} (hS : zi_St s.heap.size D dA adK adV b 7 s zi_f0 ws H locs ls sc) : zi_W p l e room_1 s m #[Value.ref b] below meth c (lw_Z below #[Value.ref b] s) 100 177797 796 H locs ls sc := by
  have b1 := zi_bd (xs 1)
  have b2 := zi_bd (xs 2)
  have b3 := zi_bd (xs 3)
  rcases (show (xs 1).toInt ≤ (-1) ∨ 0 ≤ (xs 1).toInt by omega) with h0 | h0
  · skip
    exact zi_fin_ok (zi_scr C hX hbl (zi_ra (xs 0)) (zi_ri (a := (-2147483648)) (z := (-1)) (by decide) (by decide) (by omega) (by omega)) (zi_ra (xs 2)) (zi_ra (xs 3)) (zi_ra (xs 4)) (zi_ra (xs 5)) (zi_ra (xs 6))) zi_o18_30 (zi_f0_at hS)
  · skip
    exact zi_fin_ok (zi_scr C hX hbl (zi_ra (xs 0)) (zi_ri (a := 0) (z := 2147483647) (by decide) (by decide) (by omega) (by omega)) (zi_ra (xs 2)) (zi_ra (xs 3)) (zi_ra (xs 4)) (zi_ra (xs 5)) (zi_ra (xs 6))) zi_o18_31 (zi_f0_at hS)
theorem zi_op19 (C : zi_Cx p room_1 s m #[Value.ref b] meth c s.heap.size D dA adK adV b zi_mlaw 40 []) (hX : va_X b 7 xs s s.heap) (hbl : b < s.heap.size) {ws : va_W} {H : Heap} {locs : List Loc} {ls : Array Slot} {sc : List Value} (hS : zi_St s.heap.size D dA adK adV b 7 s zi_f0 ws H locs ls sc) : zi_W p l e room_1 s m #[Value.ref b] below meth c (lw_Z below #[Value.ref b] s) 100 177797 857 H locs ls sc := by
  have b1 := zi_bd (xs 1)
  have b2 := zi_bd (xs 2)
  have b3 := zi_bd (xs 3)
  rcases (show (xs 1).toInt ≤ (-1) ∨ (xs 1).toInt = 0 ∨ 1 ≤ (xs 1).toInt by omega) with h0 | h0 | h0
  · skip
    exact zi_fin_ok (zi_scr C hX hbl (zi_ra (xs 0)) (zi_ri (a := (-2147483648)) (z := (-1)) (by decide) (by decide) (by omega) (by omega)) (zi_ra (xs 2)) (zi_ra (xs 3)) (zi_ra (xs 4)) (zi_ra (xs 5)) (zi_ra (xs 6))) zi_o19_32 (zi_f0_at hS)
  · skip
    exact zi_fin_ok (zi_scr C hX hbl (zi_ra (xs 0)) (zi_re (a := 0) (by decide) h0) (zi_ra (xs 2)) (zi_ra (xs 3)) (zi_ra (xs 4)) (zi_ra (xs 5)) (zi_ra (xs 6))) zi_o19_33 (zi_f0_at hS)
  · skip
    exact zi_fin_ok (zi_scr C hX hbl (zi_ra (xs 0)) (zi_ri (a := 1) (z := 2147483647) (by decide) (by decide) (by omega) (by omega)) (zi_ra (xs 2)) (zi_ra (xs 3)) (zi_ra (xs 4)) (zi_ra (xs 5)) (zi_ra (xs 6))) zi_o19_34 (zi_f0_at hS)
theorem zi_op20 (C : zi_Cx p room_1 s m #[Value.ref b] meth c s.heap.size D dA adK adV b zi_mlaw 40 []) (hX : va_X b 7 xs s s.heap) (hbl : b < s.heap.size) {ws : va_W} {H : Heap} {locs : List Loc} {ls : Array Slot} {sc : List Value} (hS : zi_St s.heap.size D dA adK adV b 7 s zi_f0 ws H locs ls sc) : zi_W p l e room_1 s m #[Value.ref b] below meth c (lw_Z below #[Value.ref b] s) 100 177797 898 H locs ls sc := by
  have b1 := zi_bd (xs 1)
  have b2 := zi_bd (xs 2)
  have b3 := zi_bd (xs 3)
  rcases (show (xs 1).toInt ≤ (-1) ∨ 0 ≤ (xs 1).toInt by omega) with h0 | h0
  · skip
    exact zi_fin_ok (zi_scr C hX hbl (zi_ra (xs 0)) (zi_ri (a := (-2147483648)) (z := (-1)) (by decide) (by decide) (by omega) (by omega)) (zi_ra (xs 2)) (zi_ra (xs 3)) (zi_ra (xs 4)) (zi_ra (xs 5)) (zi_ra (xs 6))) zi_o20_35 (zi_f0_at hS)
  · skip
    exact zi_fin_ok (zi_scr C hX hbl (zi_ra (xs 0)) (zi_ri (a := 0) (z := 2147483647) (by decide) (by decide) (by omega) (by omega)) (zi_ra (xs 2)) (zi_ra (xs 3)) (zi_ra (xs 4)) (zi_ra (xs 5)) (zi_ra (xs 6))) zi_o20_36 (zi_f0_at hS)
theorem zi_op21 (C : zi_Cx p room_1 s m #[Value.ref b] meth c s.heap.size D dA adK adV b zi_mlaw 40 []) (hX : va_X b 7 xs s s.heap) (hbl : b < s.heap.size) {ws : va_W} {H : Heap} {locs : List Loc} {ls : Array Slot} {sc : List Value} (hS : zi_St s.heap.size D dA adK adV b 7 s zi_f0 ws H locs ls sc) : zi_W p l e room_1 s m #[Value.ref b] below meth c (lw_Z below #[Value.ref b] s) 100 177797 947 H locs ls sc := by
  have b1 := zi_bd (xs 1)
  have b2 := zi_bd (xs 2)
  have b3 := zi_bd (xs 3)
  rcases (show (xs 1).toInt ≤ (-1) ∨ 0 ≤ (xs 1).toInt by omega) with h0 | h0
  · skip
    exact zi_fin_ok (zi_scr C hX hbl (zi_ra (xs 0)) (zi_ri (a := (-2147483648)) (z := (-1)) (by decide) (by decide) (by omega) (by omega)) (zi_ra (xs 2)) (zi_ra (xs 3)) (zi_ra (xs 4)) (zi_ra (xs 5)) (zi_ra (xs 6))) zi_o21_37 (zi_f0_at hS)
  · skip
    exact zi_fin_ok (zi_scr C hX hbl (zi_ra (xs 0)) (zi_ri (a := 0) (z := 2147483647) (by decide) (by decide) (by omega) (by omega)) (zi_ra (xs 2)) (zi_ra (xs 3)) (zi_ra (xs 4)) (zi_ra (xs 5)) (zi_ra (xs 6))) zi_o21_38 (zi_f0_at hS)
theorem zi_op23 (C : zi_Cx p room_1 s m #[Value.ref b] meth c s.heap.size D dA adK adV b zi_mlaw 40 []) (hX : va_X b 7 xs s s.heap) (hbl : b < s.heap.size) {ws : va_W} {H : Heap} {locs : List Loc} {ls : Array Slot} {sc : List Value} (hS : zi_St s.heap.size D dA adK adV b 7 s zi_f0 ws H locs ls sc) : zi_W p l e room_1 s m #[Value.ref b] below meth c (lw_Z below #[Value.ref b] s) 100 177797 1076 H locs ls sc := by
  have b1 := zi_bd (xs 1)
  have b2 := zi_bd (xs 2)
  have b3 := zi_bd (xs 3)
  rcases (show (xs 1).toInt ≤ (-1) ∨ 0 ≤ (xs 1).toInt by omega) with h0 | h0
  · skip
    exact zi_fin_ok (zi_scr C hX hbl (zi_ra (xs 0)) (zi_ri (a := (-2147483648)) (z := (-1)) (by decide) (by decide) (by omega) (by omega)) (zi_ra (xs 2)) (zi_ra (xs 3)) (zi_ra (xs 4)) (zi_ra (xs 5)) (zi_ra (xs 6))) zi_o23_39 (zi_f0_at hS)
  · skip
    exact zi_fin_ok (zi_scr C hX hbl (zi_ra (xs 0)) (zi_ri (a := 0) (z := 2147483647) (by decide) (by decide) (by omega) (by omega)) (zi_ra (xs 2)) (zi_ra (xs 3)) (zi_ra (xs 4)) (zi_ra (xs 5)) (zi_ra (xs 6))) zi_o23_40 (zi_f0_at hS)
theorem zi_op24 (C : zi_Cx p room_1 s m #[Value.ref b] meth c s.heap.size D dA adK adV b zi_mlaw 40 []) (hX : va_X b 7 xs s s.heap) (hbl : b < s.heap.size) {ws : va_W} {H : Heap} {locs : List Loc} {ls : Array Slot} {sc : List Value} (hS : zi_St s.heap.size D dA adK adV b 7 s zi_f0 ws H locs ls sc) : zi_W p l e room_1 s m #[Value.ref b] below meth c (lw_Z below #[Value.ref b] s) 100 177797 1113 H locs ls sc := by
  have b1 := zi_bd (xs 1)
  have b2 := zi_bd (xs 2)
  have b3 := zi_bd (xs 3)
  rcases (show (xs 1).toInt ≤ (-1) ∨ 0 ≤ (xs 1).toInt by omega) with h0 | h0
  · skip
    exact zi_fin_ok (zi_scr C hX hbl (zi_ra (xs 0)) (zi_ri (a := (-2147483648)) (z := (-1)) (by decide) (by decide) (by omega) (by omega)) (zi_ra (xs 2)) (zi_ra (xs 3)) (zi_ra (xs 4)) (zi_ra (xs 5)) (zi_ra (xs 6))) zi_o24_41 (zi_f0_at hS)
  · skip
    exact zi_fin_ok (zi_scr C hX hbl (zi_ra (xs 0)) (zi_ri (a := 0) (z := 2147483647) (by decide) (by decide) (by omega) (by omega)) (zi_ra (xs 2)) (zi_ra (xs 3)) (zi_ra (xs 4)) (zi_ra (xs 5)) (zi_ra (xs 6))) zi_o24_42 (zi_f0_at hS)
theorem zi_op25 (C : zi_Cx p room_1 s m #[Value.ref b] meth c s.heap.size D dA adK adV b zi_mlaw 40 []) (hX : va_X b 7 xs s s.heap) (hbl : b < s.heap.size) {ws : va_W} {H : Heap} {locs : List Loc} {ls : Array Slot} {sc : List Value} (hS : zi_St s.heap.size D dA adK adV b 7 s zi_f0 ws H locs ls sc) : zi_W p l e room_1 s m #[Value.ref b] below meth c (lw_Z below #[Value.ref b] s) 100 177797 1150 H locs ls sc := by
  have b1 := zi_bd (xs 1)
  have b2 := zi_bd (xs 2)
  have b3 := zi_bd (xs 3)
  rcases (show (xs 1).toInt ≤ (-1) ∨ (xs 1).toInt = 0 ∨ (xs 1).toInt = 1 ∨ 2 ≤ (xs 1).toInt by omega) with h0 | h0 | h0 | h0
  · skip
    exact zi_fin_ok (zi_scr C hX hbl (zi_ra (xs 0)) (zi_ri (a := (-2147483648)) (z := (-1)) (by decide) (by decide) (by omega) (by omega)) (zi_ra (xs 2)) (zi_ra (xs 3)) (zi_ra (xs 4)) (zi_ra (xs 5)) (zi_ra (xs 6))) zi_o25_43 (zi_f0_at hS)
  · skip
    exact zi_fin_ok (zi_scr C hX hbl (zi_ra (xs 0)) (zi_re (a := 0) (by decide) h0) (zi_ra (xs 2)) (zi_ra (xs 3)) (zi_ra (xs 4)) (zi_ra (xs 5)) (zi_ra (xs 6))) zi_o25_44 (zi_f0_at hS)
  · skip
    exact zi_fin_ok (zi_scr C hX hbl (zi_ra (xs 0)) (zi_re (a := 1) (by decide) h0) (zi_ra (xs 2)) (zi_ra (xs 3)) (zi_ra (xs 4)) (zi_ra (xs 5)) (zi_ra (xs 6))) zi_o25_45 (zi_f0_at hS)
  · skip
    exact zi_fin_ok (zi_scr C hX hbl (zi_ra (xs 0)) (zi_ri (a := 2) (z := 2147483647) (by decide) (by decide) (by omega) (by omega)) (zi_ra (xs 2)) (zi_ra (xs 3)) (zi_ra (xs 4)) (zi_ra (xs 5)) (zi_ra (xs 6))) zi_o25_46 (zi_f0_at hS)
theorem zi_op26 (C : zi_Cx p room_1 s m #[Value.ref b] meth c s.heap.size D dA adK adV b zi_mlaw 40 []) (hX : va_X b 7 xs s s.heap) (hbl : b < s.heap.size) {ws : va_W} {H : Heap} {locs : List Loc} {ls : Array Slot} {sc : List Value} (hS : zi_St s.heap.size D dA adK adV b 7 s zi_f0 ws H locs ls sc) : zi_W p l e room_1 s m #[Value.ref b] below meth c (lw_Z below #[Value.ref b] s) 100 177797 1175 H locs ls sc := by
  have b1 := zi_bd (xs 1)
  have b2 := zi_bd (xs 2)
  have b3 := zi_bd (xs 3)
  rcases (show (xs 1).toInt ≤ (-1) ∨ 0 ≤ (xs 1).toInt by omega) with h0 | h0
  · skip
    exact zi_fin_ok (zi_scr C hX hbl (zi_ra (xs 0)) (zi_ri (a := (-2147483648)) (z := (-1)) (by decide) (by decide) (by omega) (by omega)) (zi_ra (xs 2)) (zi_ra (xs 3)) (zi_ra (xs 4)) (zi_ra (xs 5)) (zi_ra (xs 6))) zi_o26_47 (zi_f0_at hS)
  · skip
    exact zi_fin_ok (zi_scr C hX hbl (zi_ra (xs 0)) (zi_ri (a := 0) (z := 2147483647) (by decide) (by decide) (by omega) (by omega)) (zi_ra (xs 2)) (zi_ra (xs 3)) (zi_ra (xs 4)) (zi_ra (xs 5)) (zi_ra (xs 6))) zi_o26_48 (zi_f0_at hS)
theorem zi_op27 (C : zi_Cx p room_1 s m #[Value.ref b] meth c s.heap.size D dA adK adV b zi_mlaw 40 []) (hX : va_X b 7 xs s s.heap) (hbl : b < s.heap.size) {ws : va_W} {H : Heap} {locs : List Loc} {ls : Array Slot} {sc : List Value} (hS : zi_St s.heap.size D dA adK adV b 7 s zi_f0 ws H locs ls sc) : zi_W p l e room_1 s m #[Value.ref b] below meth c (lw_Z below #[Value.ref b] s) 100 177797 1224 H locs ls sc := by
  have b1 := zi_bd (xs 1)
  have b2 := zi_bd (xs 2)
  have b3 := zi_bd (xs 3)
  exact zi_fin_ok (zi_scr C hX hbl (zi_ra (xs 0)) (zi_ra (xs 1)) (zi_ra (xs 2)) (zi_ra (xs 3)) (zi_ra (xs 4)) (zi_ra (xs 5)) (zi_ra (xs 6))) zi_o27_49 (zi_f0_at hS)
theorem zi_op28 (C : zi_Cx p room_1 s m #[Value.ref b] meth c s.heap.size D dA adK adV b zi_mlaw 40 []) (hX : va_X b 7 xs s s.heap) (hbl : b < s.heap.size) {ws : va_W} {H : Heap} {locs : List Loc} {ls : Array Slot} {sc : List Value} (hS : zi_St s.heap.size D dA adK adV b 7 s zi_f0 ws H locs ls sc) : zi_W p l e room_1 s m #[Value.ref b] below meth c (lw_Z below #[Value.ref b] s) 100 177797 1237 H locs ls sc := by
  have b1 := zi_bd (xs 1)
  have b2 := zi_bd (xs 2)
  have b3 := zi_bd (xs 3)
  exact zi_fin_ok (zi_scr C hX hbl (zi_ra (xs 0)) (zi_ra (xs 1)) (zi_ra (xs 2)) (zi_ra (xs 3)) (zi_ra (xs 4)) (zi_ra (xs 5)) (zi_ra (xs 6))) zi_o28_50 (zi_f0_at hS)
theorem zi_op29 (C : zi_Cx p room_1 s m #[Value.ref b] meth c s.heap.size D dA adK adV b zi_mlaw 40 []) (hX : va_X b 7 xs s s.heap) (hbl : b < s.heap.size) {ws : va_W} {H : Heap} {locs : List Loc} {ls : Array Slot} {sc : List Value} (hS : zi_St s.heap.size D dA adK adV b 7 s zi_f0 ws H locs ls sc) : zi_W p l e room_1 s m #[Value.ref b] below meth c (lw_Z below #[Value.ref b] s) 100 177797 1250 H locs ls sc := by
  have b1 := zi_bd (xs 1)
  have b2 := zi_bd (xs 2)
  have b3 := zi_bd (xs 3)
  rcases (show (xs 1).toInt ≤ (-1) ∨ (0 ≤ (xs 1).toInt ∧ (xs 1).toInt ≤ 9999) ∨ 10000 ≤ (xs 1).toInt by omega) with h0 | h0 | h0
  · skip
    rcases (show (xs 2).toInt ≤ (-1) ∨ 0 ≤ (xs 2).toInt by omega) with h1 | h1
    · skip
      exact zi_fin_ok (zi_scr C hX hbl (zi_ra (xs 0)) (zi_ri (a := (-2147483648)) (z := (-1)) (by decide) (by decide) (by omega) (by omega)) (zi_ri (a := (-2147483648)) (z := (-1)) (by decide) (by decide) (by omega) (by omega)) (zi_ra (xs 3)) (zi_ra (xs 4)) (zi_ra (xs 5)) (zi_ra (xs 6))) zi_o29_51 (zi_f0_at hS)
    · skip
      exact zi_fin_ok (zi_scr C hX hbl (zi_ra (xs 0)) (zi_ri (a := (-2147483648)) (z := (-1)) (by decide) (by decide) (by omega) (by omega)) (zi_ri (a := 0) (z := 2147483647) (by decide) (by decide) (by omega) (by omega)) (zi_ra (xs 3)) (zi_ra (xs 4)) (zi_ra (xs 5)) (zi_ra (xs 6))) zi_o29_52 (zi_f0_at hS)
  · skip
    rcases (show (xs 2).toInt ≤ (-1) ∨ 0 ≤ (xs 2).toInt by omega) with h1 | h1
    · skip
      exact zi_fin_ok (zi_scr C hX hbl (zi_ra (xs 0)) (zi_ri (a := 0) (z := 9999) (by decide) (by decide) (by omega) (by omega)) (zi_ri (a := (-2147483648)) (z := (-1)) (by decide) (by decide) (by omega) (by omega)) (zi_ra (xs 3)) (zi_ra (xs 4)) (zi_ra (xs 5)) (zi_ra (xs 6))) zi_o29_53 (zi_f0_at hS)
    · skip
      exact zi_fin_ok (zi_scr C hX hbl (zi_ra (xs 0)) (zi_ri (a := 0) (z := 9999) (by decide) (by decide) (by omega) (by omega)) (zi_ri (a := 0) (z := 2147483647) (by decide) (by decide) (by omega) (by omega)) (zi_ra (xs 3)) (zi_ra (xs 4)) (zi_ra (xs 5)) (zi_ra (xs 6))) zi_o29_54 (zi_f0_at hS)
  · skip
    rcases (show (xs 2).toInt ≤ (-1) ∨ 0 ≤ (xs 2).toInt by omega) with h1 | h1
    · skip
      exact zi_fin_ok (zi_scr C hX hbl (zi_ra (xs 0)) (zi_ri (a := 10000) (z := 2147483647) (by decide) (by decide) (by omega) (by omega)) (zi_ri (a := (-2147483648)) (z := (-1)) (by decide) (by decide) (by omega) (by omega)) (zi_ra (xs 3)) (zi_ra (xs 4)) (zi_ra (xs 5)) (zi_ra (xs 6))) zi_o29_55 (zi_f0_at hS)
    · skip
      exact zi_fin_ok (zi_scr C hX hbl (zi_ra (xs 0)) (zi_ri (a := 10000) (z := 2147483647) (by decide) (by decide) (by omega) (by omega)) (zi_ri (a := 0) (z := 2147483647) (by decide) (by decide) (by omega) (by omega)) (zi_ra (xs 3)) (zi_ra (xs 4)) (zi_ra (xs 5)) (zi_ra (xs 6))) zi_o29_56 (zi_f0_at hS)
theorem zi_op30 (C : zi_Cx p room_1 s m #[Value.ref b] meth c s.heap.size D dA adK adV b zi_mlaw 40 []) (hX : va_X b 7 xs s s.heap) (hbl : b < s.heap.size) {ws : va_W} {H : Heap} {locs : List Loc} {ls : Array Slot} {sc : List Value} (hS : zi_St s.heap.size D dA adK adV b 7 s zi_f0 ws H locs ls sc) : zi_W p l e room_1 s m #[Value.ref b] below meth c (lw_Z below #[Value.ref b] s) 100 177797 1299 H locs ls sc := by
  have b1 := zi_bd (xs 1)
  have b2 := zi_bd (xs 2)
  have b3 := zi_bd (xs 3)
  rcases (show (xs 1).toInt ≤ (-1) ∨ 10000 ≤ (xs 1).toInt ∨ (0 ≤ (xs 1).toInt ∧ (xs 1).toInt ≤ 9999) by omega) with h0 | h0 | h0
  · skip
    exact zi_fin_ok (zi_scr C hX hbl (zi_ra (xs 0)) (zi_ri (a := (-2147483648)) (z := (-1)) (by decide) (by decide) (by omega) (by omega)) (zi_ra (xs 2)) (zi_ra (xs 3)) (zi_ra (xs 4)) (zi_ra (xs 5)) (zi_ra (xs 6))) zi_o30_57 (zi_f0_at hS)
  · skip
    exact zi_fin_ok (zi_scr C hX hbl (zi_ra (xs 0)) (zi_ri (a := 10000) (z := 2147483647) (by decide) (by decide) (by omega) (by omega)) (zi_ra (xs 2)) (zi_ra (xs 3)) (zi_ra (xs 4)) (zi_ra (xs 5)) (zi_ra (xs 6))) zi_o30_58 (zi_f0_at hS)
  · skip
    rcases (show (xs 2).toInt ≤ 0 ∨ 61 ≤ (xs 2).toInt ∨ (1 ≤ (xs 2).toInt ∧ (xs 2).toInt ≤ 60) by omega) with h1 | h1 | h1
    · skip
      exact zi_fin_ok (zi_scr C hX hbl (zi_ra (xs 0)) (zi_ri (a := 0) (z := 9999) (by decide) (by decide) (by omega) (by omega)) (zi_ri (a := (-2147483648)) (z := 0) (by decide) (by decide) (by omega) (by omega)) (zi_ra (xs 3)) (zi_ra (xs 4)) (zi_ra (xs 5)) (zi_ra (xs 6))) zi_o30_59 (zi_f0_at hS)
    · skip
      exact zi_fin_ok (zi_scr C hX hbl (zi_ra (xs 0)) (zi_ri (a := 0) (z := 9999) (by decide) (by decide) (by omega) (by omega)) (zi_ri (a := 61) (z := 2147483647) (by decide) (by decide) (by omega) (by omega)) (zi_ra (xs 3)) (zi_ra (xs 4)) (zi_ra (xs 5)) (zi_ra (xs 6))) zi_o30_60 (zi_f0_at hS)
    · skip
      rcases (show (xs 3).toInt ≤ (-1) ∨ (0 ≤ (xs 3).toInt ∧ (xs 3).toInt ≤ 2) ∨ 3 ≤ (xs 3).toInt by omega) with h2 | h2 | h2
      · skip
        exact zi_fin_ok (zi_scr C hX hbl (zi_ra (xs 0)) (zi_ri (a := 0) (z := 9999) (by decide) (by decide) (by omega) (by omega)) (zi_ri (a := 1) (z := 60) (by decide) (by decide) (by omega) (by omega)) (zi_ri (a := (-2147483648)) (z := (-1)) (by decide) (by decide) (by omega) (by omega)) (zi_ra (xs 4)) (zi_ra (xs 5)) (zi_ra (xs 6))) zi_o30_61 (zi_f0_at hS)
      · skip
        exact zi_fin_ok (zi_scr C hX hbl (zi_ra (xs 0)) (zi_ri (a := 0) (z := 9999) (by decide) (by decide) (by omega) (by omega)) (zi_ri (a := 1) (z := 60) (by decide) (by decide) (by omega) (by omega)) (zi_ri (a := 0) (z := 2) (by decide) (by decide) (by omega) (by omega)) (zi_ra (xs 4)) (zi_ra (xs 5)) (zi_ra (xs 6))) zi_o30_62 (zi_f0_at hS)
      · skip
        exact zi_fin_ok (zi_scr C hX hbl (zi_ra (xs 0)) (zi_ri (a := 0) (z := 9999) (by decide) (by decide) (by omega) (by omega)) (zi_ri (a := 1) (z := 60) (by decide) (by decide) (by omega) (by omega)) (zi_ri (a := 3) (z := 2147483647) (by decide) (by decide) (by omega) (by omega)) (zi_ra (xs 4)) (zi_ra (xs 5)) (zi_ra (xs 6))) zi_o30_63 (zi_f0_at hS)
theorem zi_op31 (C : zi_Cx p room_1 s m #[Value.ref b] meth c s.heap.size D dA adK adV b zi_mlaw 40 []) (hX : va_X b 7 xs s s.heap) (hbl : b < s.heap.size) {ws : va_W} {H : Heap} {locs : List Loc} {ls : Array Slot} {sc : List Value} (hS : zi_St s.heap.size D dA adK adV b 7 s zi_f0 ws H locs ls sc) : zi_W p l e room_1 s m #[Value.ref b] below meth c (lw_Z below #[Value.ref b] s) 100 177797 1348 H locs ls sc := by
  have b1 := zi_bd (xs 1)
  have b2 := zi_bd (xs 2)
  have b3 := zi_bd (xs 3)
  rcases (show (xs 1).toInt ≤ (-1) ∨ (xs 1).toInt = 0 ∨ (xs 1).toInt = 1 ∨ (xs 1).toInt = 2 ∨ (xs 1).toInt = 3 ∨ 4 ≤ (xs 1).toInt by omega) with h0 | h0 | h0 | h0 | h0 | h0
  · skip
    rcases (show (xs 2).toInt ≤ (-1) ∨ (xs 2).toInt = 0 ∨ 1 ≤ (xs 2).toInt by omega) with h1 | h1 | h1
    · skip
      exact zi_fin_ok (zi_scr C hX hbl (zi_ra (xs 0)) (zi_ri (a := (-2147483648)) (z := (-1)) (by decide) (by decide) (by omega) (by omega)) (zi_ri (a := (-2147483648)) (z := (-1)) (by decide) (by decide) (by omega) (by omega)) (zi_ra (xs 3)) (zi_ra (xs 4)) (zi_ra (xs 5)) (zi_ra (xs 6))) zi_o31_64 (zi_f0_at hS)
    · skip
      exact zi_fin_ok (zi_scr C hX hbl (zi_ra (xs 0)) (zi_ri (a := (-2147483648)) (z := (-1)) (by decide) (by decide) (by omega) (by omega)) (zi_re (a := 0) (by decide) h1) (zi_ra (xs 3)) (zi_ra (xs 4)) (zi_ra (xs 5)) (zi_ra (xs 6))) zi_o31_65 (zi_f0_at hS)
    · skip
      exact zi_fin_ok (zi_scr C hX hbl (zi_ra (xs 0)) (zi_ri (a := (-2147483648)) (z := (-1)) (by decide) (by decide) (by omega) (by omega)) (zi_ri (a := 1) (z := 2147483647) (by decide) (by decide) (by omega) (by omega)) (zi_ra (xs 3)) (zi_ra (xs 4)) (zi_ra (xs 5)) (zi_ra (xs 6))) zi_o31_66 (zi_f0_at hS)
  · skip
    rcases (show (xs 2).toInt ≤ (-1) ∨ (xs 2).toInt = 0 ∨ 1 ≤ (xs 2).toInt by omega) with h1 | h1 | h1
    · skip
      exact zi_fin_ok (zi_scr C hX hbl (zi_ra (xs 0)) (zi_re (a := 0) (by decide) h0) (zi_ri (a := (-2147483648)) (z := (-1)) (by decide) (by decide) (by omega) (by omega)) (zi_ra (xs 3)) (zi_ra (xs 4)) (zi_ra (xs 5)) (zi_ra (xs 6))) zi_o31_67 (zi_f0_at hS)
    · skip
      exact zi_fin_ok (zi_scr C hX hbl (zi_ra (xs 0)) (zi_re (a := 0) (by decide) h0) (zi_re (a := 0) (by decide) h1) (zi_ra (xs 3)) (zi_ra (xs 4)) (zi_ra (xs 5)) (zi_ra (xs 6))) zi_o31_68 (zi_f0_at hS)
    · skip
      exact zi_fin_ok (zi_scr C hX hbl (zi_ra (xs 0)) (zi_re (a := 0) (by decide) h0) (zi_ri (a := 1) (z := 2147483647) (by decide) (by decide) (by omega) (by omega)) (zi_ra (xs 3)) (zi_ra (xs 4)) (zi_ra (xs 5)) (zi_ra (xs 6))) zi_o31_69 (zi_f0_at hS)
  · skip
    rcases (show (xs 2).toInt ≤ (-1) ∨ (xs 2).toInt = 0 ∨ 1 ≤ (xs 2).toInt by omega) with h1 | h1 | h1
    · skip
      exact zi_fin_ok (zi_scr C hX hbl (zi_ra (xs 0)) (zi_re (a := 1) (by decide) h0) (zi_ri (a := (-2147483648)) (z := (-1)) (by decide) (by decide) (by omega) (by omega)) (zi_ra (xs 3)) (zi_ra (xs 4)) (zi_ra (xs 5)) (zi_ra (xs 6))) zi_o31_70 (zi_f0_at hS)
    · skip
      exact zi_fin_ok (zi_scr C hX hbl (zi_ra (xs 0)) (zi_re (a := 1) (by decide) h0) (zi_re (a := 0) (by decide) h1) (zi_ra (xs 3)) (zi_ra (xs 4)) (zi_ra (xs 5)) (zi_ra (xs 6))) zi_o31_71 (zi_f0_at hS)
    · skip
      exact zi_fin_ok (zi_scr C hX hbl (zi_ra (xs 0)) (zi_re (a := 1) (by decide) h0) (zi_ri (a := 1) (z := 2147483647) (by decide) (by decide) (by omega) (by omega)) (zi_ra (xs 3)) (zi_ra (xs 4)) (zi_ra (xs 5)) (zi_ra (xs 6))) zi_o31_72 (zi_f0_at hS)
  · skip
    rcases (show (xs 2).toInt ≤ (-1) ∨ (xs 2).toInt = 0 ∨ 1 ≤ (xs 2).toInt by omega) with h1 | h1 | h1
    · skip
      exact zi_fin_ok (zi_scr C hX hbl (zi_ra (xs 0)) (zi_re (a := 2) (by decide) h0) (zi_ri (a := (-2147483648)) (z := (-1)) (by decide) (by decide) (by omega) (by omega)) (zi_ra (xs 3)) (zi_ra (xs 4)) (zi_ra (xs 5)) (zi_ra (xs 6))) zi_o31_73 (zi_f0_at hS)
    · skip
      exact zi_fin_ok (zi_scr C hX hbl (zi_ra (xs 0)) (zi_re (a := 2) (by decide) h0) (zi_re (a := 0) (by decide) h1) (zi_ra (xs 3)) (zi_ra (xs 4)) (zi_ra (xs 5)) (zi_ra (xs 6))) zi_o31_74 (zi_f0_at hS)
    · skip
      exact zi_fin_ok (zi_scr C hX hbl (zi_ra (xs 0)) (zi_re (a := 2) (by decide) h0) (zi_ri (a := 1) (z := 2147483647) (by decide) (by decide) (by omega) (by omega)) (zi_ra (xs 3)) (zi_ra (xs 4)) (zi_ra (xs 5)) (zi_ra (xs 6))) zi_o31_75 (zi_f0_at hS)
  · skip
    rcases (show (xs 2).toInt ≤ (-1) ∨ (xs 2).toInt = 0 ∨ 1 ≤ (xs 2).toInt by omega) with h1 | h1 | h1
    · skip
      exact zi_fin_ok (zi_scr C hX hbl (zi_ra (xs 0)) (zi_re (a := 3) (by decide) h0) (zi_ri (a := (-2147483648)) (z := (-1)) (by decide) (by decide) (by omega) (by omega)) (zi_ra (xs 3)) (zi_ra (xs 4)) (zi_ra (xs 5)) (zi_ra (xs 6))) zi_o31_76 (zi_f0_at hS)
    · skip
      exact zi_fin_ok (zi_scr C hX hbl (zi_ra (xs 0)) (zi_re (a := 3) (by decide) h0) (zi_re (a := 0) (by decide) h1) (zi_ra (xs 3)) (zi_ra (xs 4)) (zi_ra (xs 5)) (zi_ra (xs 6))) zi_o31_77 (zi_f0_at hS)
    · skip
      exact zi_fin_ok (zi_scr C hX hbl (zi_ra (xs 0)) (zi_re (a := 3) (by decide) h0) (zi_ri (a := 1) (z := 2147483647) (by decide) (by decide) (by omega) (by omega)) (zi_ra (xs 3)) (zi_ra (xs 4)) (zi_ra (xs 5)) (zi_ra (xs 6))) zi_o31_78 (zi_f0_at hS)
  · skip
    rcases (show (xs 2).toInt ≤ (-1) ∨ (xs 2).toInt = 0 ∨ 1 ≤ (xs 2).toInt by omega) with h1 | h1 | h1
    · skip
      exact zi_fin_ok (zi_scr C hX hbl (zi_ra (xs 0)) (zi_ri (a := 4) (z := 2147483647) (by decide) (by decide) (by omega) (by omega)) (zi_ri (a := (-2147483648)) (z := (-1)) (by decide) (by decide) (by omega) (by omega)) (zi_ra (xs 3)) (zi_ra (xs 4)) (zi_ra (xs 5)) (zi_ra (xs 6))) zi_o31_79 (zi_f0_at hS)
    · skip
      exact zi_fin_ok (zi_scr C hX hbl (zi_ra (xs 0)) (zi_ri (a := 4) (z := 2147483647) (by decide) (by decide) (by omega) (by omega)) (zi_re (a := 0) (by decide) h1) (zi_ra (xs 3)) (zi_ra (xs 4)) (zi_ra (xs 5)) (zi_ra (xs 6))) zi_o31_80 (zi_f0_at hS)
    · skip
      exact zi_fin_ok (zi_scr C hX hbl (zi_ra (xs 0)) (zi_ri (a := 4) (z := 2147483647) (by decide) (by decide) (by omega) (by omega)) (zi_ri (a := 1) (z := 2147483647) (by decide) (by decide) (by omega) (by omega)) (zi_ra (xs 3)) (zi_ra (xs 4)) (zi_ra (xs 5)) (zi_ra (xs 6))) zi_o31_81 (zi_f0_at hS)
theorem zi_op32 (C : zi_Cx p room_1 s m #[Value.ref b] meth c s.heap.size D dA adK adV b zi_mlaw 40 []) (hX : va_X b 7 xs s s.heap) (hbl : b < s.heap.size) {ws : va_W} {H : Heap} {locs : List Loc} {ls : Array Slot} {sc : List Value} (hS : zi_St s.heap.size D dA adK adV b 7 s zi_f0 ws H locs ls sc) : zi_W p l e room_1 s m #[Value.ref b] below meth c (lw_Z below #[Value.ref b] s) 100 177797 1401 H locs ls sc := by
  have b1 := zi_bd (xs 1)
  have b2 := zi_bd (xs 2)
  have b3 := zi_bd (xs 3)
  rcases (show (xs 1).toInt ≤ (-1) ∨ (xs 1).toInt = 0 ∨ (xs 1).toInt = 1 ∨ (xs 1).toInt = 2 ∨ (xs 1).toInt = 3 ∨ (xs 1).toInt = 4 ∨ (xs 1).toInt = 5 ∨ (xs 1).toInt = 6 ∨ (xs 1).toInt = 7 ∨ (xs 1).toInt = 8 ∨ (xs 1).toInt = 9 ∨ (xs 1).toInt = 10 ∨ (xs 1).toInt = 11 ∨ 12 ≤ (xs 1).toInt by omega) with h0 | h0 | h0 | h0 | h0 | h0 | h0 | h0 | h0 | h0 | h0 | h0 | h0 | h0
  · skip
    exact zi_fin_ok (zi_scr C hX hbl (zi_ra (xs 0)) (zi_ri (a := (-2147483648)) (z := (-1)) (by decide) (by decide) (by omega) (by omega)) (zi_ra (xs 2)) (zi_ra (xs 3)) (zi_ra (xs 4)) (zi_ra (xs 5)) (zi_ra (xs 6))) zi_o32_82 (zi_f0_at hS)
  · skip
    exact zi_fin_ok (zi_scr C hX hbl (zi_ra (xs 0)) (zi_re (a := 0) (by decide) h0) (zi_ra (xs 2)) (zi_ra (xs 3)) (zi_ra (xs 4)) (zi_ra (xs 5)) (zi_ra (xs 6))) zi_o32_83 (zi_f0_at hS)
  · skip
    exact zi_fin_ok (zi_scr C hX hbl (zi_ra (xs 0)) (zi_re (a := 1) (by decide) h0) (zi_ra (xs 2)) (zi_ra (xs 3)) (zi_ra (xs 4)) (zi_ra (xs 5)) (zi_ra (xs 6))) zi_o32_84 (zi_f0_at hS)
  · skip
    exact zi_fin_ok (zi_scr C hX hbl (zi_ra (xs 0)) (zi_re (a := 2) (by decide) h0) (zi_ra (xs 2)) (zi_ra (xs 3)) (zi_ra (xs 4)) (zi_ra (xs 5)) (zi_ra (xs 6))) zi_o32_85 (zi_f0_at hS)
  · skip
    exact zi_fin_ok (zi_scr C hX hbl (zi_ra (xs 0)) (zi_re (a := 3) (by decide) h0) (zi_ra (xs 2)) (zi_ra (xs 3)) (zi_ra (xs 4)) (zi_ra (xs 5)) (zi_ra (xs 6))) zi_o32_86 (zi_f0_at hS)
  · skip
    exact zi_fin_ok (zi_scr C hX hbl (zi_ra (xs 0)) (zi_re (a := 4) (by decide) h0) (zi_ra (xs 2)) (zi_ra (xs 3)) (zi_ra (xs 4)) (zi_ra (xs 5)) (zi_ra (xs 6))) zi_o32_87 (zi_f0_at hS)
  · skip
    exact zi_fin_ok (zi_scr C hX hbl (zi_ra (xs 0)) (zi_re (a := 5) (by decide) h0) (zi_ra (xs 2)) (zi_ra (xs 3)) (zi_ra (xs 4)) (zi_ra (xs 5)) (zi_ra (xs 6))) zi_o32_88 (zi_f0_at hS)
  · skip
    exact zi_fin_ok (zi_scr C hX hbl (zi_ra (xs 0)) (zi_re (a := 6) (by decide) h0) (zi_ra (xs 2)) (zi_ra (xs 3)) (zi_ra (xs 4)) (zi_ra (xs 5)) (zi_ra (xs 6))) zi_o32_89 (zi_f0_at hS)
  · skip
    exact zi_fin_ok (zi_scr C hX hbl (zi_ra (xs 0)) (zi_re (a := 7) (by decide) h0) (zi_ra (xs 2)) (zi_ra (xs 3)) (zi_ra (xs 4)) (zi_ra (xs 5)) (zi_ra (xs 6))) zi_o32_90 (zi_f0_at hS)
  · skip
    exact zi_fin_ok (zi_scr C hX hbl (zi_ra (xs 0)) (zi_re (a := 8) (by decide) h0) (zi_ra (xs 2)) (zi_ra (xs 3)) (zi_ra (xs 4)) (zi_ra (xs 5)) (zi_ra (xs 6))) zi_o32_91 (zi_f0_at hS)
  · skip
    exact zi_fin_ok (zi_scr C hX hbl (zi_ra (xs 0)) (zi_re (a := 9) (by decide) h0) (zi_ra (xs 2)) (zi_ra (xs 3)) (zi_ra (xs 4)) (zi_ra (xs 5)) (zi_ra (xs 6))) zi_o32_92 (zi_f0_at hS)
  · skip
    exact zi_fin_ok (zi_scr C hX hbl (zi_ra (xs 0)) (zi_re (a := 10) (by decide) h0) (zi_ra (xs 2)) (zi_ra (xs 3)) (zi_ra (xs 4)) (zi_ra (xs 5)) (zi_ra (xs 6))) zi_o32_93 (zi_f0_at hS)
  · skip
    exact zi_fin_ok (zi_scr C hX hbl (zi_ra (xs 0)) (zi_re (a := 11) (by decide) h0) (zi_ra (xs 2)) (zi_ra (xs 3)) (zi_ra (xs 4)) (zi_ra (xs 5)) (zi_ra (xs 6))) zi_o32_94 (zi_f0_at hS)
  · skip
    exact zi_fin_ok (zi_scr C hX hbl (zi_ra (xs 0)) (zi_ri (a := 12) (z := 2147483647) (by decide) (by decide) (by omega) (by omega)) (zi_ra (xs 2)) (zi_ra (xs 3)) (zi_ra (xs 4)) (zi_ra (xs 5)) (zi_ra (xs 6))) zi_o32_95 (zi_f0_at hS)
theorem zi_op99 (C : zi_Cx p room_1 s m #[Value.ref b] meth c s.heap.size D dA adK adV b zi_mlaw 40 []) (hX : va_X b 7 xs s s.heap) (hbl : b < s.heap.size) {ws : va_W} {H : Heap} {locs : List Loc} {ls : Array Slot} {sc : List Value} (hS : zi_St s.heap.size D dA adK adV b 7 s zi_f0 ws H locs ls sc) : zi_W p l e room_1 s m #[Value.ref b] below meth c (lw_Z below #[Value.ref b] s) 100 177797 1426 H locs ls sc := by
  have b1 := zi_bd (xs 1)
  have b2 := zi_bd (xs 2)
  have b3 := zi_bd (xs 3)
  exact zi_fin_ok (zi_scr C hX hbl (zi_ra (xs 0)) (zi_ra (xs 1)) (zi_ra (xs 2)) (zi_ra (xs 3)) (zi_ra (xs 4)) (zi_ra (xs 5)) (zi_ra (xs 6))) zi_o99_96 (zi_f0_at hS)
end ZF
end
section
/-! ===== BEGIN words of one list among another's, by their places ===== -/
theorem goodIn_r {big : List Cond} (ws : List Cond) (ps : List Nat) (hp : ws = ps.filterMap (fun i => big[i]?)) (h : ws.all goodWord = true) : GoodIn big ws := by
  intro w hw
  have h1 := List.all_eq_true.mp h w hw
  rw [hp] at hw
  obtain ⟨i, -, hi⟩ := List.mem_filterMap.mp hw
  have hm : w ∈ big := by first | exact List.mem_of_getElem? hi | exact List.getElem?_mem hi
  exact ⟨hm, good_of_word h1⟩
theorem goodIn_app {big a b : List Cond} (ha : GoodIn big a) (hb : GoodIn big b) : GoodIn big (a ++ b) := fun w h => (List.mem_append.mp h).elim (ha w) (hb w)
theorem goodIn_ca {big a b : List Cond} {c : Cond} (ha : GoodIn big (c :: a)) (hb : GoodIn big b) : GoodIn big (c :: (a ++ b)) := fun w h => (List.mem_cons.mp h).elim (fun e => ha w (List.mem_cons.mpr (Or.inl e))) (fun h => (List.mem_append.mp h).elim (fun h => ha w (List.mem_cons.mpr (Or.inr h))) (hb w))
theorem goodIn_sub {big ws : List Cond} (hm : ∀ w ∈ ws, w ∈ big) (h : ws.all goodWord = true) : GoodIn big ws := fun w hw => ⟨hm w hw, good_of_word (List.all_eq_true.mp h w hw)⟩
/-! ===== END ===== -/
/-! ===== BEGIN exceptions that leave a method, and their catching by the caller (launches without stack traces) ===== -/
section VXA
/-! The laws vx_back, vx_callV, vx_callS, vx_callSW, vx_throw0, vx_throwS follow proofs of the library, with one case more: JvmDerived/Free/Laws.lean (Back.of_free), Shelf42/LK1.lean (callV, callS), Shelf/KitTraced.lean (throwNew0V, throwNewS). -/
/-- where a method has thrown q: the class by its name, the cell, what was written, the world -/
def vx_T (XC : String → State → State → Prop) (st : State) (q : Addr) (t : State) (mc ms : Nat) (free : Addr → Prop) : Prop :=
  ∃ (E : String) (ce : Cell) (L : List Loc), XC E st t ∧ t.heap[q]? = some ce ∧ ce.vm = .none ∧ st.vm.findClass E = some ce.cls ∧ st.WarmedH t.vm ∧ st.sameButNew ({ t with vm := st.vm } : State) L mc ms ∧ ∀ z ∈ L, free z.base
def vx_Q (Qc : Array Value → State → Outcome → State → Prop) (XC : String → State → State → Prop) (mc ms : Nat) (free : Addr → Prop) : Array Value → State → Outcome → State → Prop := fun a st o t =>
  (Qc a st o t ∧ ∃ L, FrameEnd st o t L mc ms ∧ ∀ q ∈ L, free q.base) ∨ ∃ q, o = .threw q ∧ vx_T XC st q t mc ms free
/-- a callee that returns or throws -/
def vx_Met (l : Launch) (y : MethodName) (ws : List Cond) (rm : Room) (Pc : Array Value → State → Prop) (Qc : Array Value → State → Outcome → State → Prop) (XC : String → State → State → Prop) (mc ms : Nat) (free : Addr → Prop) : Prop :=
  MetFree l y (headSpec ws rm) Pc (fun _ _ _ _ _ => True) (vx_Q Qc XC mc ms free)
def vx_Post (XC : String → State → State → Prop) (mc ms : Nat) (free : Addr → Prop) : Pt → Array Value → Addr → Pt → Prop := fun A a q B =>
  ∃ (g : JFrame) (mk : MethodId) (t : State) (L : List Loc) (E : String) (ce : Cell), B.U.heap = t.heap ∧ B.U.vm = t.vm ∧ XC E (A.U.calling g mk a) t ∧ t.heap[q]? = some ce ∧ ce.vm = .none ∧ A.U.vm.findClass E = some ce.cls ∧ B.locs = A.locs ++ L ∧ (∀ z ∈ L, free z.base) ∧ B.cells = A.cells + mc ∧ B.slots = A.slots + ms
def vx_Back (l : Launch) (R : Room) (p : Program) (e : Env) (below : List Frame) (s : State) (sargs : Array Value) (y : MethodName) (len W9 : Nat)
    (Pre : Pt → Array Value → Prop) (Post : Pt → Array Value → Option Value → Pt → Prop) (PostX : Pt → Array Value → Addr → Pt → Prop) : Prop :=
  ∀ (m : MethodId) (meth : Method) (c : Code) (A : Pt) (g : JFrame) (ig : Instr) (mk : MethodId) (a : Array Value),
    Stand p l e R s m sargs below meth c A.U A.locs A.cells A.slots → g.method = m → g.locals.size = c.maxLocals → decode c.code g.pc = .ok (ig, len) →
    2 * g.monitorRoom + (g.stack.map fun v => v.category).sum ≤ W9 → A.U.methodNamed? y = some mk → Pre A a →
    (∃ (v : Option Value) (B : Pt), Stand p l e R s m sargs below meth c B.U B.locs B.cells B.slots ∧ Post A a v B ∧
      Steps p.tables e below (doInvoke e (A.U.setTop g) [] mk a).1 (B.U.setTop { g with pc := g.pc + len, stack := v.toList ++ g.stack })) ∨
    (∃ (q : Addr) (B : Pt), Stand p l e R s m sargs below meth c B.U B.locs B.cells B.slots ∧ PostX A a q B ∧
      Steps p.tables e below (doInvoke e (A.U.setTop g) [] mk a).1 ((B.U.setTop g).pushFrame (.throwing q)))
section Payer
variable {l : Launch} {R : Room} {p : Program} {e : Env} {below : List Frame} {s : State} {sargs : Array Value} {y : MethodName} {len W9 : Nat}
theorem vx_back {ws : List Cond} {rm : Room} {Pc : Array Value → State → Prop} {Qc : Array Value → State → Outcome → State → Prop} {XC : String → State → State → Prop} {mc ms : Nat} {free : Addr → Prop} {bytes : ByteArray} {maxL : Nat} {ret : Option FieldType}
    (hM : vx_Met l y ws rm Pc Qc XC mc ms free) (hblind : FrameBlind Pc) (hrc : rm.cells = mc) (hrs : rm.slots = ms)
    (hframes : rm.frames + 1 ≤ R.frames) (hlocals : W9 + (maxL + 11) + rm.locals ≤ R.locals)
    (hws : ∀ w ∈ ws, ∀ a' U, s.WarmedH U.vm → w.before a' U = true) (hcode : Cond.code y bytes maxL ret ∈ ws) (hinit : ∀ a' U, s.WarmedH U.vm → (Cond.initialized y.cls).before a' U = true) :
    vx_Back l R p e below s sargs y len W9 (PreOf R mc ms Pc) (PostOf Qc mc ms free) (vx_Post XC mc ms free) := by
  intro m meth c A g ig mk a X hg hsize hdg hW hn hp
  have h1 : (headSpec ws rm).pre.before a A.U = true := atoms_intro fun w hw => hws w hw _ _ X.warmed
  have h2 : (Cond.code y bytes maxL ret).before a A.U = true := hws _ hcode _ _ X.warmed
  have h3 : (Cond.initialized y.cls).before a A.U = true := hinit _ _ X.warmed
  have h4 : A.cells + (headSpec ws rm).room.cells ≤ R.cells := by rw [show (headSpec ws rm).room.cells = mc from hrc]; exact hp.1
  have h5 : A.slots + (headSpec ws rm).room.slots ≤ R.slots := by rw [show (headSpec ws rm).room.slots = ms from hrs]; exact hp.2.1
  have hPc : Pc a (A.U.calling g mk a) := hblind _ _ _ _ hp.2.2
  obtain ⟨U, Ls, c0, s0⟩ := A
  dsimp only [Pt.U, Pt.locs, Pt.cells, Pt.slots] at h1 h2 h3 h4 h5 X hn hPc ⊢
  obtain ⟨methY, cY, hmY, hcY, -, hlY, -, -, -, -⟩ := Cond.code_spec hn h2
  obtain ⟨kY, hkY, -⟩ := className_of_methodNamed hn
  have hinitY : kY.init = .initialized := Cond.initialized_spec (findClass_of_methodNamed hn) hkY h3
  have h : At U g.method c below := by rw [hg]; exact X.here
  have hlocals9 : W9 + (maxL + 11) + (headSpec ws rm).room.locals ≤ R.locals := hlocals
  have happ : (headSpec ws rm).appliesLoose y e.platform (U.calling g mk a) = true :=
    Spec.appliesLoose_calling (g := g) h hdg hn hkY hinitY
      (X.room_calling (g := g) (R' := (headSpec ws rm).room) hsize hmY hcY hframes (by rw [hlY]; omega) h4 h5) h1
  obtain ⟨mid, hmid⟩ := h.above
  have hfr : (U.setTop g).frames = (.java g :: mid) ++ below := by rw [State.frames_setTop' g h.top, hmid]; rfl
  obtain ⟨o, s₂, hsteps, -, hend, hq⟩ := Steps.callFree hM p X.admits X.cas X.clock (acts := []) hfr happ hPc trivial
  have hq' : vx_Q Qc XC mc ms free a (U.calling g mk a) o s₂ := hq
  rw [State.frames_setTop' g h.top] at hend
  obtain ⟨g₀, hg0⟩ := Option.isSome_iff_exists.mp h.top
  obtain ⟨r, hr⟩ := State.topJava?_eq_some.mp hg0
  have hr' : (({ U with heap := s₂.heap, slotsUsed := s₂.slotsUsed } : State).setVm s₂.vm).frames = .java g₀ :: r := hr
  rcases hq' with ⟨hqc, L, hfe, hL⟩ | ⟨q, rfl, E, ce, L, hx, hce, hcv, hcl, hW₂, hsm, hL⟩
  · obtain ⟨⟨v, rfl⟩, hW₂, e2, q2, q3, q4, q5, q6⟩ := id hfe
    have e3 : s₂ = ({ (U.calling g mk a).setFrames s₂.frames with heap := s₂.heap, slotsUsed := s₂.slotsUsed } : State).setVm s₂.vm := by
      have : s₂ = ({ s₂ with vm := (U.calling g mk a).vm } : State).setVm s₂.vm := rfl
      rw [e2] at this
      exact this
    obtain ⟨c₂, i₂, len₂, hc₂, hd₂, hf₂⟩ := hend
    have hW' : U.WarmedH s₂.vm := hW₂
    have hcc : c₂ = c := by
      have h1 : s₂.code? g.method = U.code? g.method := by
        rw [State.code?_eq, State.code?_eq, hW'.alike.method?]
      exact Option.some.inj (hc₂.symm.trans (h1.trans h.code))
    subst hcc
    have hlen : len₂ = len := by rw [hdg] at hd₂; cases hd₂; rfl
    subst hlen
    have hs₂ : s₂ = (({ U with heap := s₂.heap, slotsUsed := s₂.slotsUsed } : State).setVm s₂.vm).setTop { g with pc := g.pc + len₂, stack := v.toList ++ g.stack } := by
      refine e3.trans ?_
      rw [hf₂, State.calling_eq h.top, State.setFrames_setFrames, State.setTop_of_frames _ hr', hr]
      rfl
    have hsame : U.sameButNew ({ U with heap := s₂.heap, slotsUsed := s₂.slotsUsed } : State) L mc ms := by
      refine ⟨?_, q2, q3, q4, q5, q6⟩
      obtain ⟨t, ht, -⟩ := State.frames_cons hr
      show ({ U with heap := s₂.heap, slotsUsed := s₂.slotsUsed } : State) = { U.setFrames U.frames with heap := s₂.heap, slotsUsed := s₂.slotsUsed }
      rw [State.setFrames_self ht]
    subst hg
    refine Or.inl ⟨v, ⟨(({ U with heap := s₂.heap, slotsUsed := s₂.slotsUsed } : State).setVm s₂.vm), Ls ++ L, c0 + mc, s0 + ms⟩,
      ⟨X.admits, X.cas, X.clock, X.frames, X.room, X.hears, X.method, X.code, (X.here.setHeapUsed s₂.heap s₂.slotsUsed).setVm hW'.alike, X.tail, State.WarmedH.trans X.warmed hW', X.limits, X.bytes, X.same.trans (hsame.setVm s.vm)⟩,
      ⟨g, mk, s₂, L, rfl, rfl, hqc, rfl, hL, rfl, rfl⟩, ?_⟩
    show Steps p.tables e below _ ((({ U with heap := s₂.heap, slotsUsed := s₂.slotsUsed } : State).setVm s₂.vm).setTop { g with pc := g.pc + len₂, stack := v.toList ++ g.stack })
    rw [← hs₂]
    exact hsteps
  · obtain ⟨e2, q2, q3, q4, q5, q6⟩ := id hsm
    have e3 : s₂ = ({ (U.calling g mk a).setFrames s₂.frames with heap := s₂.heap, slotsUsed := s₂.slotsUsed } : State).setVm s₂.vm := by
      have : s₂ = ({ s₂ with vm := (U.calling g mk a).vm } : State).setVm s₂.vm := rfl
      rw [e2] at this
      exact this
    have hf₂ : s₂.frames = .throwing q :: .java g :: U.frames.tail := hend
    have hW' : U.WarmedH s₂.vm := hW₂
    have hs₂ : s₂ = ((({ U with heap := s₂.heap, slotsUsed := s₂.slotsUsed } : State).setVm s₂.vm).setTop g).pushFrame (.throwing q) := by
      refine e3.trans ?_
      rw [hf₂, State.calling_eq h.top, State.setFrames_setFrames, State.pushFrame, State.frames_setTop _ hr', State.setTop_of_frames _ hr', State.setFrames_setFrames, hr]
      rfl
    have hsame : U.sameButNew ({ U with heap := s₂.heap, slotsUsed := s₂.slotsUsed } : State) L mc ms := by
      refine ⟨?_, q2, q3, q4, q5, q6⟩
      obtain ⟨t, ht, -⟩ := State.frames_cons hr
      show ({ U with heap := s₂.heap, slotsUsed := s₂.slotsUsed } : State) = { U.setFrames U.frames with heap := s₂.heap, slotsUsed := s₂.slotsUsed }
      rw [State.setFrames_self ht]
    subst hg
    refine Or.inr ⟨q, ⟨(({ U with heap := s₂.heap, slotsUsed := s₂.slotsUsed } : State).setVm s₂.vm), Ls ++ L, c0 + mc, s0 + ms⟩,
      ⟨X.admits, X.cas, X.clock, X.frames, X.room, X.hears, X.method, X.code, (X.here.setHeapUsed s₂.heap s₂.slotsUsed).setVm hW'.alike, X.tail, State.WarmedH.trans X.warmed hW', X.limits, X.bytes, X.same.trans (hsame.setVm s.vm)⟩,
      ⟨g, mk, s₂, L, E, ce, rfl, rfl, hx, hce, hcv, hcl, rfl, hL, rfl, rfl⟩, ?_⟩
    show Steps p.tables e below _ (((({ U with heap := s₂.heap, slotsUsed := s₂.slotsUsed } : State).setVm s₂.vm).setTop g).pushFrame (.throwing q))
    rw [← hs₂]
    exact hsteps
end Payer
section Calls
variable {p : Program} {l : Launch} {e : Env} {R : Room} {s : State} {m : MethodId} {args : Array Value} {below : List Frame} {meth : Method} {c : Code} {T : State} {locs : List Loc} {cells slots : Nat}
theorem vx_callV (X : Stand p l e R s m args below meth c T locs cells slots) (hexec : p.tables.exec = Jvm.exec) {own C : String} {index : Nat} {y : MethodName} {bytes : ByteArray} {maxL : Nat} {ret : Option FieldType}
    (hown : s.vm.findClass own = some m.cls) (hlink : (Cond.methodLink own index y).before args s = true) (hinst : (Cond.instanceMethod y).before args s = true) (hsel : (Cond.selects C y y).before args s = true)
    (hcode : (Cond.code y bytes maxL ret).before args s = true) (hy : y.cls ≠ "java/lang/invoke/MethodHandle" ∧ y.cls ≠ "java/lang/invoke/VarHandle")
    {W9 : Nat} {Pre : Pt → Array Value → Prop} {Post : Pt → Array Value → Option Value → Pt → Prop} {PostX : Pt → Array Value → Addr → Pt → Prop} (hK : vx_Back l R p e below s args y 3 W9 Pre Post PostX)
    {b : Addr} {cellB : Cell} (hcell : T.heap[b]? = some cellB) (hobj : cellB.vm.isStatics = false) (hcls : s.vm.findClass C = some cellB.cls)
    {g : JFrame} (hg : g.method = m) (hsize : g.locals.size = c.maxLocals) {argsL rest : List Value} (hlen : ∀ sig, parseMethodDescriptor y.desc = some sig → argsL.length = sig.parameters.length)
    (hstack : g.stack = argsL.reverse ++ .ref b :: rest) (hW : 2 * g.monitorRoom + (rest.map fun v => v.category).sum ≤ W9) (hdg : decode c.code g.pc = .ok (.invokevirtual index, 3))
    (hpre : ∀ vm₁, s.WarmedH vm₁ → Pre ⟨T.setVm vm₁, locs, cells, slots⟩ (Value.ref b :: argsL).toArray) :
    (∃ (v : Option Value) (vm₁ : Vm) (B : Pt), s.WarmedH vm₁ ∧ Stand p l e R s m args below meth c B.U B.locs B.cells B.slots ∧ Post ⟨T.setVm vm₁, locs, cells, slots⟩ (Value.ref b :: argsL).toArray v B ∧
      ∀ target, Steps p.tables e below (B.U.setTop { g with pc := g.pc + 3, stack := v.toList ++ rest }) target → Steps p.tables e below (T.setTop g) target) ∨
    (∃ (q : Addr) (vm₁ : Vm) (B : Pt), s.WarmedH vm₁ ∧ Stand p l e R s m args below meth c B.U B.locs B.cells B.slots ∧ PostX ⟨T.setVm vm₁, locs, cells, slots⟩ (Value.ref b :: argsL).toArray q B ∧
      Steps p.tables e below (T.setTop g) ((B.U.setTop { g with stack := rest }).pushFrame (.throwing q))) := by
  obtain ⟨mk, methM, hnamed, hmethM, hstM, habM⟩ := Cond.instanceMethod_spec hinst
  obtain ⟨methM', cM, hmethM', -, -, -, -, -, -, hsigM⟩ := Cond.code_spec hnamed hcode
  cases hmethM.symm.trans hmethM'
  obtain ⟨c2, r2, m2, q1, q2, q3, q4, kP, hkP, hkPi⟩ := Cond.selects_spec hsel
  cases hcls.symm.trans q1
  cases (State.methodFound?_of_named hnamed hy).symm.trans q2
  cases hnamed.symm.trans q3
  have hselP : selectMethod e.platform s.vm cellB.cls mk = .method mk := by rw [Launch.admits_selectMethod X.admits]; exact q4
  obtain ⟨vm₁, X₁, hstep₁⟩ := X.invokevirtual hexec hown hlink hnamed hmethM hstM hkP hkPi hy (a := b) (cell := cellB) hcell
    (fun z h => by rw [h] at hobj; cases hobj) hselP hmethM habM hkP hkPi (g := g) hg (argsL := argsL) (rest := rest) (hlen _ hsigM) hstack hdg
  rcases hK m meth c ⟨T.setVm vm₁, locs, cells, slots⟩ { g with stack := rest } (.invokevirtual index) mk (Value.ref b :: argsL).toArray X₁ hg hsize hdg hW (X₁.named hnamed) (hpre vm₁ X₁.warmed) with ⟨v, B, X', hpost, hsteps⟩ | ⟨q, B, X', hpost, hsteps⟩
  · exact Or.inl ⟨v, vm₁, B, X₁.warmed, X', hpost, fun target h => hstep₁ _ fun acts => by rw [doInvoke_state]; exact hsteps.trans h⟩
  · exact Or.inr ⟨q, vm₁, B, X₁.warmed, X', hpost, hstep₁ _ fun acts => by rw [doInvoke_state]; exact hsteps⟩
theorem vx_callS (X : Stand p l e R s m args below meth c T locs cells slots) (hexec : p.tables.exec = Jvm.exec) {own : String} {index : Nat} {y : MethodName} {bytes : ByteArray} {maxL : Nat} {ret : Option FieldType}
    (hown : s.vm.findClass own = some m.cls) (hlink : (Cond.methodLink own index y).before args s = true) (hstat : (Cond.static y).before args s = true) (hinit : (Cond.initialized y.cls).before args s = true)
    (hcode : (Cond.code y bytes maxL ret).before args s = true) (hy : y.cls ≠ "java/lang/invoke/MethodHandle" ∧ y.cls ≠ "java/lang/invoke/VarHandle")
    {W9 : Nat} {Pre : Pt → Array Value → Prop} {Post : Pt → Array Value → Option Value → Pt → Prop} {PostX : Pt → Array Value → Addr → Pt → Prop} (hK : vx_Back l R p e below s args y 3 W9 Pre Post PostX)
    {g : JFrame} (hg : g.method = m) (hsize : g.locals.size = c.maxLocals) {argsL rest : List Value} (hlen : ∀ sig, parseMethodDescriptor y.desc = some sig → argsL.length = sig.parameters.length)
    (hstack : g.stack = argsL.reverse ++ rest) (hW : 2 * g.monitorRoom + (rest.map fun v => v.category).sum ≤ W9) (hdg : decode c.code g.pc = .ok (.invokestatic index, 3))
    (hpre : ∀ vm₁, s.WarmedH vm₁ → Pre ⟨T.setVm vm₁, locs, cells, slots⟩ argsL.toArray) :
    (∃ (v : Option Value) (vm₁ : Vm) (B : Pt), s.WarmedH vm₁ ∧ Stand p l e R s m args below meth c B.U B.locs B.cells B.slots ∧ Post ⟨T.setVm vm₁, locs, cells, slots⟩ argsL.toArray v B ∧
      ∀ target, Steps p.tables e below (B.U.setTop { g with pc := g.pc + 3, stack := v.toList ++ rest }) target → Steps p.tables e below (T.setTop g) target) ∨
    (∃ (q : Addr) (vm₁ : Vm) (B : Pt), s.WarmedH vm₁ ∧ Stand p l e R s m args below meth c B.U B.locs B.cells B.slots ∧ PostX ⟨T.setVm vm₁, locs, cells, slots⟩ argsL.toArray q B ∧
      Steps p.tables e below (T.setTop g) ((B.U.setTop { g with stack := rest }).pushFrame (.throwing q))) := by
  obtain ⟨mk, hnamed⟩ := Cond.code_named hcode
  obtain ⟨methM, cM, hmethM, -, -, -, -, -, -, hsigM⟩ := Cond.code_spec hnamed hcode
  have hstatic : methM.isStatic = true := Cond.static_spec hnamed hmethM hstat
  obtain ⟨kP, hkP, -⟩ := className_of_methodNamed hnamed
  have hinitP : kP.init = .initialized := Cond.initialized_spec (findClass_of_methodNamed hnamed) hkP hinit
  obtain ⟨vm₁, X₁, hstep₁⟩ := X.invokestatic hexec hown hlink hnamed hmethM hstatic hkP hinitP hy (g := g) hg (argsL := argsL) (rest := rest) (hlen _ hsigM) hstack hdg
  rcases hK m meth c ⟨T.setVm vm₁, locs, cells, slots⟩ { g with stack := rest } (.invokestatic index) mk argsL.toArray X₁ hg hsize hdg hW (X₁.named hnamed) (hpre vm₁ X₁.warmed) with ⟨v, B, X', hpost, hsteps⟩ | ⟨q, B, X', hpost, hsteps⟩
  · exact Or.inl ⟨v, vm₁, B, X₁.warmed, X', hpost, fun target h => hstep₁ _ fun acts => by rw [doInvoke_state]; exact hsteps.trans h⟩
  · exact Or.inr ⟨q, vm₁, B, X₁.warmed, X', hpost, hstep₁ _ fun acts => by rw [doInvoke_state]; exact hsteps⟩
end Calls
theorem vx_cls {s : State} {T : State} {vm₁ : Vm} {E : String} {k : ClassId} (hW : s.WarmedH vm₁) (h : (T.setVm vm₁).vm.findClass E = some k) : s.vm.findClass E = some k := by
  have h1 : vm₁.findClass E = some k := h
  rw [hW.alike.findClass] at h1
  exact h1
/-- the method's frame g, with q thrown over it -/
def vx_W (p : Program) (l : Launch) (e : Env) (R : Room) (s : State) (m : MethodId) (args : Array Value) (below : List Frame) (meth : Method) (c : Code) (H : Heap) (locs : List Loc) (cells slots : Nat) (Q : State → Prop) (g : JFrame) (q : Addr) : Prop :=
  ∀ T : State, T.heap = H → Stand p l e R s m args below meth c T locs cells slots → ∃ t, Steps p.tables e below ((T.setTop g).pushFrame (.throwing q)) t ∧ Q t
def vx_Run (p : Program) (l : Launch) (e : Env) (R : Room) (s : State) (m : MethodId) (args : Array Value) (below : List Frame) (meth : Method) (c : Code) (H : Heap) (locs : List Loc) (cells slots mc ms : Nat) (g : JFrame) (rest : List Value) (Qa : State → Outcome → State → Prop) (XC : String → State → State → Prop) (free : Addr → Prop) : Prop :=
  ∀ T : State, T.heap = H → Stand p l e R s m args below meth c T locs cells slots →
    (∃ (v : Option Value) (st₀ t T' : State) (L : List Loc), st₀.heap = H ∧ Stand p l e R s m args below meth c T' (locs ++ L) (cells + mc) (slots + ms) ∧ (∀ q ∈ L, free q.base) ∧ T'.heap = t.heap ∧ T'.vm = t.vm ∧ Qa st₀ (.returned v) t ∧
      Goes p e below T g T' { g with pc := g.pc + 3, stack := v.toList ++ rest }) ∨
    (∃ (q : Addr) (st₀ t T' : State) (L : List Loc) (E : String) (ce : Cell), st₀.heap = H ∧ Stand p l e R s m args below meth c T' (locs ++ L) (cells + mc) (slots + ms) ∧ (∀ z ∈ L, free z.base) ∧ T'.heap = t.heap ∧ T'.vm = t.vm ∧ XC E st₀ t ∧ t.heap[q]? = some ce ∧ ce.vm = .none ∧ s.vm.findClass E = some ce.cls ∧
      Steps p.tables e below (T.setTop g) ((T'.setTop { g with stack := rest }).pushFrame (.throwing q)))
def vx_X {S : Type} (px : S → Prop) (B : String → S → State → Prop) (A : Nat → Prop) : String → State → State → Prop := fun E st t => ∃ u : S, px u ∧ B E u t ∧ va_F A st t
section Runs
variable {p : Program} {l : Launch} {e : Env} {R : Room} {s : State} {m : MethodId} {args : Array Value} {below : List Frame} {meth : Method} {c : Code} {H : Heap} {locs : List Loc} {cells slots : Nat}
variable {y : MethodName} {bytes cc : ByteArray} {maxL nL mc ms n index : Nat} {ret : Option FieldType} {ws : List Cond} {rm : Room} {Pc : Array Value → State → Prop} {Qc : Array Value → State → Outcome → State → Prop} {XC : String → State → State → Prop} {free : Addr → Prop} {Ts : List Cond} {own C : String} {b : Addr} {As rest : List Value} {g : JFrame}
theorem vx_callBack (cb : CallB R s args own index y bytes maxL ret ws rm mc ms n) (hM : vx_Met l y ws rm Pc Qc XC mc ms free) (hbl : FrameBlind Pc) : vx_Back l R p e below s args y 3 8 (PreOf R mc ms Pc) (PostOf Qc mc ms free) (vx_Post XC mc ms free) := by
  obtain ⟨hrc, hrs, hfr, hlo, hws, hcw, -, hini, -⟩ := cb
  exact vx_back (bytes := bytes) (maxL := maxL) (ret := ret) hM hbl hrc hrs hfr hlo hws hcw (fun a' U hW => word_at hW (Or.inl (by first | rfl | simp [Cond.onTables, Cond.keeps, Cond.steady])) hini)
theorem vx_runV (S : CallFix p m c cc nL s args Ts own) (hM : vx_Met l y ws rm Pc Qc XC mc ms free) (cw : CallW R s args own C index y bytes maxL ret ws rm mc ms n) (hp : PreV s H C b Pc As)
    (hg : g.method = m) (hn : As.length = n) (hsize : g.locals.size = nL) (hstack : g.stack = As.reverse ++ .ref b :: rest) (hW : 2 * g.monitorRoom + (rest.map fun v => v.category).sum ≤ 8) (hdg : decode cc g.pc = .ok (.invokevirtual index, 3)) (hf : cells + mc ≤ R.cells ∧ slots + ms ≤ R.slots) :
    vx_Run p l e R s m args below meth c H locs cells slots mc ms g rest (Qc (Value.ref b :: As).toArray) XC free := by
  have hK : vx_Back l R p e below s args y 3 8 (PreOf R mc ms Pc) (PostOf Qc mc ms free) (vx_Post XC mc ms free) := vx_callBack cw.1 hM hp.1
  obtain ⟨⟨-, -, -, -, -, -, hcode, -, hy, hlen, hl⟩, hin, hse⟩ := cw
  obtain ⟨hx, hb, hml, ho, -⟩ := S
  obtain ⟨-, ⟨cellB, hcB, hoB, hclB⟩, hPc⟩ := hp
  intro T hT X
  rcases vx_callV X hx (C := C) (bytes := bytes) (maxL := maxL) (ret := ret) ho hl hin hse hcode hy hK (by rw [hT]; exact hcB) hoB hclB hg (hsize.trans hml.symm) (argsL := As) (rest := rest) (fun sig h => hn.trans (hlen sig h)) hstack hW (by rw [hb]; exact hdg)
    (fun vm₁ hW₁ => ⟨hf.1, hf.2, hPc (T.setVm vm₁) hT hW₁⟩) with ⟨v, vm₁, ⟨U', l2, c2, s2⟩, hW₁, X', ⟨g', mk, t, L, e1, e2, hq, h1, hL, h2, h3⟩, st⟩ | ⟨q, vm₁, ⟨U', l2, c2, s2⟩, hW₁, X', ⟨g', mk, t, L, E, ce, e1, e2, hq, hce, hcv, hcl, h1, hL, h2, h3⟩, st⟩
  · dsimp only [Pt.U, Pt.locs, Pt.cells, Pt.slots] at X' e1 e2 h1 h2 h3 st
    subst h1; subst h2; subst h3
    exact Or.inl ⟨v, (T.setVm vm₁).calling g' mk (Value.ref b :: As).toArray, t, U', L, hT, X', hL, e1, e2, hq, st⟩
  · dsimp only [Pt.U, Pt.locs, Pt.cells, Pt.slots] at X' e1 e2 h1 h2 h3 st hcl
    subst h1; subst h2; subst h3
    exact Or.inr ⟨q, (T.setVm vm₁).calling g' mk (Value.ref b :: As).toArray, t, U', L, E, ce, hT, X', hL, e1, e2, hq, hce, hcv, vx_cls hW₁ hcl, st⟩
theorem vx_runS (S : CallFix p m c cc nL s args Ts own) (hM : vx_Met l y ws rm Pc Qc XC mc ms free) (cw : CallB R s args own index y bytes maxL ret ws rm mc ms n ∧ (Cond.static y).before args s = true) (hp : PreS s H Pc As)
    (hg : g.method = m) (hn : As.length = n) (hsize : g.locals.size = nL) (hstack : g.stack = As.reverse ++ rest) (hW : 2 * g.monitorRoom + (rest.map fun v => v.category).sum ≤ 8) (hdg : decode cc g.pc = .ok (.invokestatic index, 3)) (hf : cells + mc ≤ R.cells ∧ slots + ms ≤ R.slots) :
    vx_Run p l e R s m args below meth c H locs cells slots mc ms g rest (Qc As.toArray) XC free := by
  have hK : vx_Back l R p e below s args y 3 8 (PreOf R mc ms Pc) (PostOf Qc mc ms free) (vx_Post XC mc ms free) := vx_callBack cw.1 hM hp.1
  obtain ⟨⟨-, -, -, -, -, -, hcode, hini, hy, hlen, hl⟩, hstt⟩ := cw
  obtain ⟨hx, hb, hml, ho, -⟩ := S
  intro T hT X
  rcases vx_callS X hx (bytes := bytes) (maxL := maxL) (ret := ret) ho hl hstt hini hcode hy hK hg (hsize.trans hml.symm) (argsL := As) (rest := rest) (fun sig h => hn.trans (hlen sig h)) hstack hW (by rw [hb]; exact hdg)
    (fun vm₁ hW₁ => ⟨hf.1, hf.2, hp.2 (T.setVm vm₁) hT hW₁⟩) with ⟨v, vm₁, ⟨U', l2, c2, s2⟩, hW₁, X', ⟨g', mk, t, L, e1, e2, hq, h1, hL, h2, h3⟩, st⟩ | ⟨q, vm₁, ⟨U', l2, c2, s2⟩, hW₁, X', ⟨g', mk, t, L, E, ce, e1, e2, hq, hce, hcv, hcl, h1, hL, h2, h3⟩, st⟩
  · dsimp only [Pt.U, Pt.locs, Pt.cells, Pt.slots] at X' e1 e2 h1 h2 h3 st
    subst h1; subst h2; subst h3
    exact Or.inl ⟨v, (T.setVm vm₁).calling g' mk As.toArray, t, U', L, hT, X', hL, e1, e2, hq, st⟩
  · dsimp only [Pt.U, Pt.locs, Pt.cells, Pt.slots] at X' e1 e2 h1 h2 h3 st hcl
    subst h1; subst h2; subst h3
    exact Or.inr ⟨q, (T.setVm vm₁).calling g' mk As.toArray, t, U', L, E, ce, hT, X', hL, e1, e2, hq, hce, hcv, vx_cls hW₁ hcl, st⟩
end Runs
section Rows
variable {p : Program} {l : Launch} {e : Env} {R : Room} {s : State} {m : MethodId} {args : Array Value} {below : List Frame} {meth : Method} {c : Code} {H : Heap} {locs : List Loc} {cells slots : Nat} {Q : State → Prop}
variable {mc ms : Nat} {free : Addr → Prop} {A0 A1 : Nat → Prop} {H0 : Heap} {a : Array Value} {pc : Nat} {ls : Array Slot} {st0 rest : List Value}
theorem vx_keep {st₀ t T' : State} {L : List Loc} (h0 : st₀.heap = H) (e1 : T'.heap = t.heap) (hS : va_S A0 H0 H locs) (hA : ∀ q, q < H.size → A1 q → A0 q) (hf : ∀ q, free q → A0 q) (hL : ∀ q ∈ L, free q.base) (hF : va_F A1 st₀ t) :
    H.size ≤ T'.heap.size ∧ (∀ q : Nat, q < H.size → ¬ A1 q → T'.heap[q]? = H[q]?) ∧ va_S A0 H0 T'.heap (locs ++ L) := by
  obtain ⟨hz, hk⟩ := hF
  rw [h0] at hz hk
  exact ⟨by rw [e1]; exact hz, fun q h1 h2 => by rw [e1]; exact hk q h1 h2,
    ⟨Nat.le_trans hS.1 (by rw [e1]; exact hz), fun q h1 h2 => by rw [e1, hk q (Nat.lt_of_lt_of_le h1 hS.1) (fun z => h2 (hA q (Nat.lt_of_lt_of_le h1 hS.1) z))]; exact hS.2.1 q h1 h2, fun q hq => by
      rcases List.mem_append.mp hq with h | h
      · exact hS.2.2 q h
      · exact hf _ (hL q h)⟩⟩
theorem vx_calli {S SX : Type} {post : Int32 → S → Prop} {px : SX → Prop} {B : S → State → Prop} {BX : String → SX → State → Prop} {AX : Nat → Prop} (hr : vx_Run p l e R s m args below meth c H locs cells slots mc ms (F0 m pc ls st0) rest (va_Qi post B A1 a) (vx_X px BX AX) free) (hS : va_S A0 H0 H locs) (hA : ∀ q, q < H.size → A1 q → A0 q) (hf : ∀ q, free q → A0 q) (hAX : ∀ q, q < H.size → AX q → A0 q)
    (kx : ∀ (E : String) (ce : Cell) (q9 : Addr) (u : SX) (t : State) (H1 : Heap) (locs1 : List Loc), t.heap = H1 → s.vm.Alike t.vm → px u → BX E u t → H.size ≤ H1.size → (∀ q : Nat, q < H.size → ¬ AX q → H1[q]? = H[q]?) → va_S A0 H0 H1 locs1 → H1[q9]? = some ce → ce.vm = .none → s.vm.findClass E = some ce.cls → vx_W p l e R s m args below meth c H1 locs1 (cells + mc) (slots + ms) Q (F0 m pc ls rest) q9)
    (kk : ∀ (r : Int32) (u : S) (t : State) (H1 : Heap) (locs1 : List Loc), t.heap = H1 → s.vm.Alike t.vm → post r u → B u t → H.size ≤ H1.size → (∀ q : Nat, q < H.size → ¬ A1 q → H1[q]? = H[q]?) → va_S A0 H0 H1 locs1 → W p l e R s m args below meth c H1 locs1 (cells + mc) (slots + ms) Q (F0 m (pc + 3) ls (.int r :: rest))) : W p l e R s m args below meth c H locs cells slots Q (F0 m pc ls st0) := by
  intro T hT X
  rcases hr T hT X with ⟨v, st₀, t, T', L, h0, X', hL, e1, e2, ⟨⟨r, u, hv, hp, hb⟩, hF⟩, st⟩ | ⟨q, st₀, t, T', L, E, ce, h0, X', hL, e1, e2, ⟨u, hp, hb, hF⟩, hce, hcv, hcl, st⟩
  · cases hv
    obtain ⟨k1, k2, k3⟩ := vx_keep h0 e1 hS hA hf hL hF
    obtain ⟨t2, a1, b1⟩ := kk r u t T'.heap (locs ++ L) e1.symm (by rw [← e2]; exact X'.warmed.alike) hp hb k1 k2 k3 T' rfl X'
    exact ⟨t2, st t2 a1, b1⟩
  · obtain ⟨k1, k2, k3⟩ := vx_keep h0 e1 hS hAX hf hL hF
    obtain ⟨t2, a1, b1⟩ := kx E ce q u t T'.heap (locs ++ L) e1.symm (by rw [← e2]; exact X'.warmed.alike) hp hb k1 k2 k3 (by rw [e1]; exact hce) hcv hcl T' rfl X'
    exact ⟨t2, st.trans a1, b1⟩
theorem vx_calll {S SX : Type} {post : Int64 → S → Prop} {px : SX → Prop} {B : S → State → Prop} {BX : String → SX → State → Prop} {AX : Nat → Prop} (hr : vx_Run p l e R s m args below meth c H locs cells slots mc ms (F0 m pc ls st0) rest (va_Ql post B A1 a) (vx_X px BX AX) free) (hS : va_S A0 H0 H locs) (hA : ∀ q, q < H.size → A1 q → A0 q) (hf : ∀ q, free q → A0 q) (hAX : ∀ q, q < H.size → AX q → A0 q)
    (kx : ∀ (E : String) (ce : Cell) (q9 : Addr) (u : SX) (t : State) (H1 : Heap) (locs1 : List Loc), t.heap = H1 → s.vm.Alike t.vm → px u → BX E u t → H.size ≤ H1.size → (∀ q : Nat, q < H.size → ¬ AX q → H1[q]? = H[q]?) → va_S A0 H0 H1 locs1 → H1[q9]? = some ce → ce.vm = .none → s.vm.findClass E = some ce.cls → vx_W p l e R s m args below meth c H1 locs1 (cells + mc) (slots + ms) Q (F0 m pc ls rest) q9)
    (kk : ∀ (r : Int64) (u : S) (t : State) (H1 : Heap) (locs1 : List Loc), t.heap = H1 → s.vm.Alike t.vm → post r u → B u t → H.size ≤ H1.size → (∀ q : Nat, q < H.size → ¬ A1 q → H1[q]? = H[q]?) → va_S A0 H0 H1 locs1 → W p l e R s m args below meth c H1 locs1 (cells + mc) (slots + ms) Q (F0 m (pc + 3) ls (.long r :: rest))) : W p l e R s m args below meth c H locs cells slots Q (F0 m pc ls st0) := by
  intro T hT X
  rcases hr T hT X with ⟨v, st₀, t, T', L, h0, X', hL, e1, e2, ⟨⟨r, u, hv, hp, hb⟩, hF⟩, st⟩ | ⟨q, st₀, t, T', L, E, ce, h0, X', hL, e1, e2, ⟨u, hp, hb, hF⟩, hce, hcv, hcl, st⟩
  · cases hv
    obtain ⟨k1, k2, k3⟩ := vx_keep h0 e1 hS hA hf hL hF
    obtain ⟨t2, a1, b1⟩ := kk r u t T'.heap (locs ++ L) e1.symm (by rw [← e2]; exact X'.warmed.alike) hp hb k1 k2 k3 T' rfl X'
    exact ⟨t2, st t2 a1, b1⟩
  · obtain ⟨k1, k2, k3⟩ := vx_keep h0 e1 hS hAX hf hL hF
    obtain ⟨t2, a1, b1⟩ := kx E ce q u t T'.heap (locs ++ L) e1.symm (by rw [← e2]; exact X'.warmed.alike) hp hb k1 k2 k3 (by rw [e1]; exact hce) hcv hcl T' rfl X'
    exact ⟨t2, st.trans a1, b1⟩
theorem vx_callf {S SX : Type} {post : UInt32 → S → Prop} {px : SX → Prop} {B : S → State → Prop} {BX : String → SX → State → Prop} {AX : Nat → Prop} (hr : vx_Run p l e R s m args below meth c H locs cells slots mc ms (F0 m pc ls st0) rest (va_Qf post B A1 a) (vx_X px BX AX) free) (hS : va_S A0 H0 H locs) (hA : ∀ q, q < H.size → A1 q → A0 q) (hf : ∀ q, free q → A0 q) (hAX : ∀ q, q < H.size → AX q → A0 q)
    (kx : ∀ (E : String) (ce : Cell) (q9 : Addr) (u : SX) (t : State) (H1 : Heap) (locs1 : List Loc), t.heap = H1 → s.vm.Alike t.vm → px u → BX E u t → H.size ≤ H1.size → (∀ q : Nat, q < H.size → ¬ AX q → H1[q]? = H[q]?) → va_S A0 H0 H1 locs1 → H1[q9]? = some ce → ce.vm = .none → s.vm.findClass E = some ce.cls → vx_W p l e R s m args below meth c H1 locs1 (cells + mc) (slots + ms) Q (F0 m pc ls rest) q9)
    (kk : ∀ (r : UInt32) (u : S) (t : State) (H1 : Heap) (locs1 : List Loc), t.heap = H1 → s.vm.Alike t.vm → post r u → B u t → H.size ≤ H1.size → (∀ q : Nat, q < H.size → ¬ A1 q → H1[q]? = H[q]?) → va_S A0 H0 H1 locs1 → W p l e R s m args below meth c H1 locs1 (cells + mc) (slots + ms) Q (F0 m (pc + 3) ls (.float r :: rest))) : W p l e R s m args below meth c H locs cells slots Q (F0 m pc ls st0) := by
  intro T hT X
  rcases hr T hT X with ⟨v, st₀, t, T', L, h0, X', hL, e1, e2, ⟨⟨r, u, hv, hp, hb⟩, hF⟩, st⟩ | ⟨q, st₀, t, T', L, E, ce, h0, X', hL, e1, e2, ⟨u, hp, hb, hF⟩, hce, hcv, hcl, st⟩
  · cases hv
    obtain ⟨k1, k2, k3⟩ := vx_keep h0 e1 hS hA hf hL hF
    obtain ⟨t2, a1, b1⟩ := kk r u t T'.heap (locs ++ L) e1.symm (by rw [← e2]; exact X'.warmed.alike) hp hb k1 k2 k3 T' rfl X'
    exact ⟨t2, st t2 a1, b1⟩
  · obtain ⟨k1, k2, k3⟩ := vx_keep h0 e1 hS hAX hf hL hF
    obtain ⟨t2, a1, b1⟩ := kx E ce q u t T'.heap (locs ++ L) e1.symm (by rw [← e2]; exact X'.warmed.alike) hp hb k1 k2 k3 (by rw [e1]; exact hce) hcv hcl T' rfl X'
    exact ⟨t2, st.trans a1, b1⟩
theorem vx_calld {S SX : Type} {post : UInt64 → S → Prop} {px : SX → Prop} {B : S → State → Prop} {BX : String → SX → State → Prop} {AX : Nat → Prop} (hr : vx_Run p l e R s m args below meth c H locs cells slots mc ms (F0 m pc ls st0) rest (va_Qd post B A1 a) (vx_X px BX AX) free) (hS : va_S A0 H0 H locs) (hA : ∀ q, q < H.size → A1 q → A0 q) (hf : ∀ q, free q → A0 q) (hAX : ∀ q, q < H.size → AX q → A0 q)
    (kx : ∀ (E : String) (ce : Cell) (q9 : Addr) (u : SX) (t : State) (H1 : Heap) (locs1 : List Loc), t.heap = H1 → s.vm.Alike t.vm → px u → BX E u t → H.size ≤ H1.size → (∀ q : Nat, q < H.size → ¬ AX q → H1[q]? = H[q]?) → va_S A0 H0 H1 locs1 → H1[q9]? = some ce → ce.vm = .none → s.vm.findClass E = some ce.cls → vx_W p l e R s m args below meth c H1 locs1 (cells + mc) (slots + ms) Q (F0 m pc ls rest) q9)
    (kk : ∀ (r : UInt64) (u : S) (t : State) (H1 : Heap) (locs1 : List Loc), t.heap = H1 → s.vm.Alike t.vm → post r u → B u t → H.size ≤ H1.size → (∀ q : Nat, q < H.size → ¬ A1 q → H1[q]? = H[q]?) → va_S A0 H0 H1 locs1 → W p l e R s m args below meth c H1 locs1 (cells + mc) (slots + ms) Q (F0 m (pc + 3) ls (.double r :: rest))) : W p l e R s m args below meth c H locs cells slots Q (F0 m pc ls st0) := by
  intro T hT X
  rcases hr T hT X with ⟨v, st₀, t, T', L, h0, X', hL, e1, e2, ⟨⟨r, u, hv, hp, hb⟩, hF⟩, st⟩ | ⟨q, st₀, t, T', L, E, ce, h0, X', hL, e1, e2, ⟨u, hp, hb, hF⟩, hce, hcv, hcl, st⟩
  · cases hv
    obtain ⟨k1, k2, k3⟩ := vx_keep h0 e1 hS hA hf hL hF
    obtain ⟨t2, a1, b1⟩ := kk r u t T'.heap (locs ++ L) e1.symm (by rw [← e2]; exact X'.warmed.alike) hp hb k1 k2 k3 T' rfl X'
    exact ⟨t2, st t2 a1, b1⟩
  · obtain ⟨k1, k2, k3⟩ := vx_keep h0 e1 hS hAX hf hL hF
    obtain ⟨t2, a1, b1⟩ := kx E ce q u t T'.heap (locs ++ L) e1.symm (by rw [← e2]; exact X'.warmed.alike) hp hb k1 k2 k3 (by rw [e1]; exact hce) hcv hcl T' rfl X'
    exact ⟨t2, st.trans a1, b1⟩
theorem vx_callv {S SX : Type} {post : S → Prop} {px : SX → Prop} {B : S → State → Prop} {BX : String → SX → State → Prop} {AX : Nat → Prop} (hr : vx_Run p l e R s m args below meth c H locs cells slots mc ms (F0 m pc ls st0) rest (va_Qv post B A1 a) (vx_X px BX AX) free) (hS : va_S A0 H0 H locs) (hA : ∀ q, q < H.size → A1 q → A0 q) (hf : ∀ q, free q → A0 q) (hAX : ∀ q, q < H.size → AX q → A0 q)
    (kx : ∀ (E : String) (ce : Cell) (q9 : Addr) (u : SX) (t : State) (H1 : Heap) (locs1 : List Loc), t.heap = H1 → s.vm.Alike t.vm → px u → BX E u t → H.size ≤ H1.size → (∀ q : Nat, q < H.size → ¬ AX q → H1[q]? = H[q]?) → va_S A0 H0 H1 locs1 → H1[q9]? = some ce → ce.vm = .none → s.vm.findClass E = some ce.cls → vx_W p l e R s m args below meth c H1 locs1 (cells + mc) (slots + ms) Q (F0 m pc ls rest) q9)
    (kk : ∀ (u : S) (t : State) (H1 : Heap) (locs1 : List Loc), t.heap = H1 → s.vm.Alike t.vm → post u → B u t → H.size ≤ H1.size → (∀ q : Nat, q < H.size → ¬ A1 q → H1[q]? = H[q]?) → va_S A0 H0 H1 locs1 → W p l e R s m args below meth c H1 locs1 (cells + mc) (slots + ms) Q (F0 m (pc + 3) ls (rest))) : W p l e R s m args below meth c H locs cells slots Q (F0 m pc ls st0) := by
  intro T hT X
  rcases hr T hT X with ⟨v, st₀, t, T', L, h0, X', hL, e1, e2, ⟨⟨u, hv, hp, hb⟩, hF⟩, st⟩ | ⟨q, st₀, t, T', L, E, ce, h0, X', hL, e1, e2, ⟨u, hp, hb, hF⟩, hce, hcv, hcl, st⟩
  · cases hv
    obtain ⟨k1, k2, k3⟩ := vx_keep h0 e1 hS hA hf hL hF
    obtain ⟨t2, a1, b1⟩ := kk u t T'.heap (locs ++ L) e1.symm (by rw [← e2]; exact X'.warmed.alike) hp hb k1 k2 k3 T' rfl X'
    exact ⟨t2, st t2 a1, b1⟩
  · obtain ⟨k1, k2, k3⟩ := vx_keep h0 e1 hS hAX hf hL hF
    obtain ⟨t2, a1, b1⟩ := kx E ce q u t T'.heap (locs ++ L) e1.symm (by rw [← e2]; exact X'.warmed.alike) hp hb k1 k2 k3 (by rw [e1]; exact hce) hcv hcl T' rfl X'
    exact ⟨t2, st.trans a1, b1⟩
/-- caught by the row x of this method's table; the rows ahead don't take it -/
theorem vx_catch {own name : String} {E : String} {ce : Cell} {q : Addr} (hown : s.vm.findClass own = some m.cls) (pre : List ExceptionTableEntry) (x : ExceptionTableEntry) (suf : List ExceptionTableEntry) (hsplit : c.exceptionTable.toList = pre ++ x :: suf)
    (hpass : ∀ z ∈ pre, covers z pc = false ∨ (z.catchType ≠ 0 ∧ ∃ nm : String, (Cond.classLink own z.catchType nm).before args s = true ∧ va_Nc E nm s)) (hx : covers x pc = true) (h0 : x.catchType ≠ 0)
    (hlink : (Cond.classLink own x.catchType name).before args s = true) (hcast : (Cond.castable E name).before args s = true) (hcell : H[q]? = some ce) (hv : ce.vm = .none) (hcl : s.vm.findClass E = some ce.cls)
    (kk : W p l e R s m args below meth c H locs cells slots Q (F0 m x.handlerPc ls [.ref q])) : vx_W p l e R s m args below meth c H locs cells slots Q (F0 m pc ls rest) q := by
  intro T hT X
  have hpl : e.platform.magicAccessors = ({} : Platform).magicAccessors := by rw [X.admits.platform]
  obtain ⟨c3, c4, hc3, hc4, hasg⟩ := Cond.castable_spec hcast
  cases Option.some.inj (hc3.symm.trans hcl)
  obtain ⟨c5, hc5, hcl5⟩ := Cond.classLink_spec hown hlink e.platform hpl
  cases Option.some.inj (hc4.symm.trans hc5)
  obtain ⟨vm', X', st⟩ := X.thenCaughtThrough q (g := F0 m pc ls rest) rfl (Steps.refl _) (by rw [hT]; exact hcell) (by rw [hv]; rfl) (by obtain ⟨k9, h9, -⟩ := Vm.findClass_spec hcl; exact ⟨k9, h9⟩) pre x suf hsplit
    (fun z hz => by
      rcases hpass z hz with h | ⟨hz0, nm, hl1, hn1⟩
      · exact Or.inl h
      · obtain ⟨c6, hc6, hcl6⟩ := Cond.classLink_spec hown hl1 e.platform hpl
        obtain ⟨a8, b8, h1, h2, h3⟩ := hn1
        cases Option.some.inj (h1.symm.trans hcl)
        cases Option.some.inj (h2.symm.trans hc6)
        exact Or.inr ⟨hz0, _, hcl6, h3⟩) hx (Or.inr ⟨h0, c4, hcl5, hasg⟩)
  obtain ⟨t, a1, b1⟩ := kk (T.setVm vm') hT X'
  exact ⟨t, st.trans a1, b1⟩
end Rows
section Ends
variable {p : Program} {l : Launch} {e : Env} {R : Room} {s : State} {m : MethodId} {args : Array Value} {below : List Frame} {meth : Method} {c : Code} {H : Heap} {locs : List Loc} {cells slots : Nat} {Q : State → Prop}
variable {mc ms : Nat} {free : Addr → Prop} {A0 A1 : Nat → Prop} {H0 : Heap} {a : Array Value} {ls : Array Slot} {st0 rest : List Value}
variable {Qc : Array Value → State → Outcome → State → Prop} {XC : String → State → State → Prop}
/-- what a body that may throw owes at its end -/
def vx_MQ (below : List Frame) (Qc : Array Value → State → Outcome → State → Prop) (XC : String → State → State → Prop) (a : Array Value) (s : State) (mc ms : Nat) (free : Addr → Prop) : State → Prop := fun t =>
  ∃ o, t.status = .running ∧ Ended t below o ∧ vx_Q Qc XC mc ms free a s o t
theorem vx_ret {g : JFrame} {mc ms : Nat} (k : W p l e R s m args below meth c H locs cells slots (MQ below Qc args s mc ms free) g) : W p l e R s m args below meth c H locs cells slots (vx_MQ below Qc XC args s mc ms free) g := by
  intro T hT X
  obtain ⟨t, a1, o, b1, b2, b3, b4⟩ := k T hT X
  exact ⟨t, a1, o, b1, b2, Or.inl ⟨b3, b4⟩⟩
/-- not caught here: it goes on to the caller -/
theorem vx_widen {g : JFrame} {q : Addr} {k n : Nat} (h1 : cells ≤ k) (h2 : slots ≤ n) (kk : vx_W p l e R s m args below meth c H locs k n Q g q) : vx_W p l e R s m args below meth c H locs cells slots Q g q := fun T hT X => kk T hT (stand_widen X h1 h2)
theorem vx_out {pc : Nat} {E : String} {ce : Cell} {q : Addr} {mc ms : Nat} (hout : ∀ x ∈ c.exceptionTable.toList, covers x pc = false) (hlocks : meth.locks = false) (hcell : H[q]? = some ce) (hv : ce.vm = .none) (hcl : s.vm.findClass E = some ce.cls)
    (hx : ∀ t : State, t.heap = H → s.vm.Alike t.vm → XC E s t) (hf : ∀ z ∈ locs, free z.base) (hc : cells ≤ mc) (hs : slots ≤ ms) :
    vx_W p l e R s m args below meth c H locs cells slots (vx_MQ below Qc XC args s mc ms free) (F0 m pc ls rest) q := by
  intro T hT X
  obtain ⟨st1, hrun, hend, hW, hsm⟩ := X.leaveThrown q (g := F0 m pc ls rest) rfl rfl rfl hout hlocks
  have hcell9 : (T.setFrames (.throwing q :: below)).heap[q]? = some ce := by
    show T.heap[q]? = some ce
    rw [hT]; exact hcell
  exact ⟨_, st1, .threw q, hrun, hend, Or.inr ⟨q, rfl, E, ce, locs, hx _ hT hW.alike, hcell9, hv, hcl, hW, hsm.mono hc hs, hf⟩⟩
theorem vx_frame {U : State} {k n : Nat} (h : s.sameButNew ({ U with vm := s.vm } : State) locs k n) : s.heap.size ≤ U.heap.size ∧ ∀ q : Nat, q < s.heap.size → (∀ z ∈ locs, z.base ≠ q) → U.heap[q]? = s.heap[q]? := by
  obtain ⟨-, h2, -, -, -, h6⟩ := h
  refine ⟨h2, fun q hq hz => ?_⟩
  obtain ⟨c9, e1, e2, e3, e4⟩ := h6 q _ (Array.getElem?_eq_getElem hq)
  have hs : c9.slots = (s.heap[q]).slots := Array.ext_getElem? fun i => e4 i fun hm => hz _ hm rfl
  have h9 : c9 = s.heap[q] := by
    rw [hs] at e2
    exact e2
  have e5 : U.heap[q]? = some c9 := e1
  rw [e5, h9, Array.getElem?_eq_getElem hq]
/-- the words of a throw but the four that speak of the heap -/
def vx_no (w : Cond) : Bool := decide (w ≠ .isRef (.static Bundle.tN "UNASSIGNED_STACK" Bundle.steD)) && decide (w ≠ .isRef (.static Bundle.tN "SUPPRESSED_SENTINEL" Bundle.listD)) && decide (w ≠ .laysStatic Bundle.tN "UNASSIGNED_STACK" Bundle.steD) && decide (w ≠ .laysStatic Bundle.tN "SUPPRESSED_SENTINEL" Bundle.listD)
def vx_at0 (own : String) (ic : Nat) (X : String) (names : List String) : List Cond := (Bundle.ownAtoms0 own ic X names).filter vx_no
def vx_atS (own : String) (ic : Nat) (X : String) (names : List String) : List Cond := (Bundle.ownAtoms own ic X names).filter vx_no
/-- a word that the tables alone decide, or a good one -/
def vx_ot (w : Cond) : Bool := w.onTables || goodWord w
theorem vx_ot_at {args a' : Array Value} {s U : State} {w : Cond} (hW : s.WarmedH U.vm) (hvm : s.vm = U.vm) (hg : vx_ot w = true) (h : w.before args s = true) : w.before a' U = true := by
  simp only [vx_ot, Bool.or_eq_true] at hg
  rcases hg with hg | hg
  · exact va_tabs hg hvm h
  · exact word_at hW (good_of_word hg) h
/-- a list's words: the good ones out of the method's own list, the others by premises of their own -/
theorem vx_hat {args : Array Value} {s : State} {L B : List Cond} (h1 : ∀ w ∈ L.filter goodWord, w.before args s = true) (h2 : ∀ w ∈ L.filter (fun w => !goodWord w), w ∈ B) (h3 : ∀ w ∈ B, w.before args s = true) : ∀ w ∈ L, w.before args s = true := by
  intro w hw
  by_cases g : goodWord w = true
  · exact h1 w (List.mem_filter.mpr ⟨hw, g⟩)
  · refine h3 w (h2 w (List.mem_filter.mpr ⟨hw, ?_⟩))
    show (!goodWord w) = true
    cases hgw : goodWord w
    · rfl
    · exact absurd hgw g
theorem vx_c {args : Array Value} {s : State} {w : Cond} {B : List Cond} (h : w.before args s = true) (t : ∀ w ∈ B, w.before args s = true) : ∀ w' ∈ w :: B, w'.before args s = true := fun w' h' => (List.mem_cons.mp h').elim (fun e => by rw [e]; exact h) (t w')
theorem vx_n {args : Array Value} {s : State} : ∀ w ∈ ([] : List Cond), w.before args s = true := fun _ h => nomatch h
theorem vx_own {args : Array Value} {s : State} {L : List Cond} (h1 : ∀ w ∈ L.filter vx_no, w.before args s = true)
    (hU : (Cond.isRef (.static Bundle.tN "UNASSIGNED_STACK" Bundle.steD)).before args s = true) (hN : (Cond.isRef (.static Bundle.tN "SUPPRESSED_SENTINEL" Bundle.listD)).before args s = true)
    (lU : (Cond.laysStatic Bundle.tN "UNASSIGNED_STACK" Bundle.steD).before args s = true) (lN : (Cond.laysStatic Bundle.tN "SUPPRESSED_SENTINEL" Bundle.listD).before args s = true) : ∀ w ∈ L, w.before args s = true := by
  intro w hw
  by_cases e1 : w = .isRef (.static Bundle.tN "UNASSIGNED_STACK" Bundle.steD)
  · rw [e1]; exact hU
  · by_cases e2 : w = .isRef (.static Bundle.tN "SUPPRESSED_SENTINEL" Bundle.listD)
    · rw [e2]; exact hN
    · by_cases e3 : w = .laysStatic Bundle.tN "UNASSIGNED_STACK" Bundle.steD
      · rw [e3]; exact lU
      · by_cases e4 : w = .laysStatic Bundle.tN "SUPPRESSED_SENTINEL" Bundle.listD
        · rw [e4]; exact lN
        · exact h1 w (List.mem_filter.mpr ⟨hw, by unfold vx_no; rw [decide_eq_true e1, decide_eq_true e2, decide_eq_true e3, decide_eq_true e4]; rfl⟩)
/-- where a static field lies, its class's statics cell in H -/
def vx_L (C n d : String) (A : Nat → Prop) (U : State) (H : Heap) : Prop := ∃ (c : ClassId) (k : Class) (i : Nat) (f : Field) (a : Nat) (cell : Cell), U.vm.findClass C = some c ∧ U.fieldFound? C n d = some (c, k, i, f) ∧ f.isStatic = true ∧ k.statics = some a ∧ H[a]? = some cell ∧ cell.vm.isStatics = true ∧ cell.cls = c ∧ f.slot < cell.slots.size ∧ k.staticTypes[f.slot]? = some f.type ∧ ¬ A a
theorem vx_L.moved {C n d : String} {A : Nat → Prop} {u U : State} {H : Heap} (hvm : u.vm.Alike U.vm) (h : vx_L C n d A u H) : vx_L C n d A U H := by
  obtain ⟨c, k, i, f, a, cell, h1, h2, h3, h4, h5, h6, h7, h8, h9, h10⟩ := h
  obtain ⟨k', hi', he⟩ := State.fieldFound?_setVm hvm h2
  exact ⟨c, k', i, f, a, cell, by rw [hvm.findClass]; exact h1, hi', h3, by rw [he]; exact h4, h5, h6, h7, h8, by rw [he]; exact h9, h10⟩
theorem vx_L.kept {C n d : String} {A : Nat → Prop} {U : State} {H H1 : Heap} (h : vx_L C n d A U H) (hq : ∀ a : Nat, a < H.size → ¬ A a → H1[a]? = H[a]?) : vx_L C n d A U H1 := by
  obtain ⟨c, k, i, f, a, cell, h1, h2, h3, h4, h5, h6, h7, h8, h9, h10⟩ := h
  exact ⟨c, k, i, f, a, cell, h1, h2, h3, h4, by rw [hq a (Array.getElem?_eq_some_iff.mp h5).1 h10]; exact h5, h6, h7, h8, h9, h10⟩
theorem vx_L.narrow {C n d : String} {A B : Nat → Prop} {U : State} {H : Heap} (h : vx_L C n d A U H) (hAB : ∀ q, B q → A q) : vx_L C n d B U H := by
  obtain ⟨c, k, i, f, a, cell, h1, h2, h3, h4, h5, h6, h7, h8, h9, h10⟩ := h
  exact ⟨c, k, i, f, a, cell, h1, h2, h3, h4, h5, h6, h7, h8, h9, fun z => h10 (hAB _ z)⟩
theorem vx_L.word {C n d : String} {A : Nat → Prop} {s : State} {args : Array Value} (h : vx_L C n d A s s.heap) : (Cond.laysStatic C n d).before args s = true := by
  obtain ⟨c, k, i, f, a, cell, h1, h2, h3, h4, h5, h6, h7, h8, h9, -⟩ := h
  show (Cond.laysStatic C n d).holds args s none s [] = true
  exact Cond.laysStatic_of h1 h2 h3 h4 h5 h6 h7 h8 h9
/-- .. and what it holds: null or some reference -/
def vx_Zq (C n d : String) (A : Nat → Prop) (U : State) (H : Heap) : Prop := va_Zq C n d A U H ∧ vx_L C n d A U H
theorem vx_Zq.moved {C n d : String} {A : Nat → Prop} {u U : State} {H : Heap} (hvm : u.vm.Alike U.vm) (h : vx_Zq C n d A u H) : vx_Zq C n d A U H := ⟨va_Zq.moved hvm h.1, vx_L.moved hvm h.2⟩
theorem vx_Zq.kept {C n d : String} {A : Nat → Prop} {U : State} {H H1 : Heap} (h : vx_Zq C n d A U H) (hq : ∀ a : Nat, a < H.size → ¬ A a → H1[a]? = H[a]?) : vx_Zq C n d A U H1 := ⟨va_Zq.kept h.1 hq, vx_L.kept h.2 hq⟩
theorem vx_Zq.narrow {C n d : String} {A B : Nat → Prop} {U : State} {H : Heap} (h : vx_Zq C n d A U H) (hAB : ∀ q, B q → A q) : vx_Zq C n d B U H := ⟨va_Zq.narrow h.1 hAB, vx_L.narrow h.2 hAB⟩
theorem vx_Zqof {args : Array Value} {s : State} {C n d : String} {A : Nat → Prop} (hl : (Cond.laysStatic C n d).before args s = true) (hini : (Cond.initialized C).before args s = true) (h : (Cond.isRef (.static C n d)).before args s = true) (hA : ∀ a : Nat, a < s.heap.size → ¬ A a) : vx_Zq C n d A s s.heap := by
  refine ⟨va_Zqof hl hini h hA, ?_⟩
  obtain ⟨c, k, i, f, a, cell, h1, h2, h3, h4, h5, h6, h7, h8, h9⟩ := Cond.laysStatic_spec hl
  exact ⟨c, k, i, f, a, cell, h1, h2, h3, h4, h5, h6, h7, h8, h9, hA a (Array.getElem?_eq_some_iff.mp h5).1⟩
theorem vx_isRef {C n d : String} {v : Value} {A : Nat → Prop} {s : State} {args : Array Value} (h : va_Z C n d v A s s.heap) (hv : v.isRef = true) : (Cond.isRef (.static C n d)).before args s = true := by
  obtain ⟨cf, kf, fi, f, a, cell, h1, h2, h3, h4, h5, h6, h7, -⟩ := h
  have he : (Term.static C n d).eval args s none [] s = some v := by
    simp [Term.eval, State.fieldNamed?, h1, h2, h4, h5, h6, h7]
  simp only [Cond.before, Cond.holds, Cond.value, he]
  cases v <;> simp_all [Value.isRef]
theorem vx_isRefq {C n d : String} {A : Nat → Prop} {s : State} {args : Array Value} (h : va_Zq C n d A s s.heap) : (Cond.isRef (.static C n d)).before args s = true := by
  rcases h with h | ⟨t, h⟩
  · exact vx_isRef h rfl
  · exact vx_isRef h rfl
/-- the same frame, seen from here: as if the method were called anew in this heap -/
theorem vx_rebase {T : State} (X : Stand p l e R s m args below meth c T locs cells slots) {R' : Room} (hf : R'.frames ≤ R.frames) (hl : R'.locals ≤ R.locals) (hc : cells + R'.cells ≤ R.cells) (hs : slots + R'.slots ≤ R.slots) :
    Stand p l e R' ((T.setVm s.vm).setFrames (.invoking m args :: below)) m args below meth c T [] 0 0 := by
  have htop : (T.setVm s.vm).topJava?.isSome := X.here.top
  have hF : ((T.setVm s.vm).setFrames (.invoking m args :: below)).frames = .invoking m args :: below := State.frames_setFrames _ (State.cur_lt_of_top htop)
  obtain ⟨g₀, hg0⟩ := Option.isSome_iff_exists.mp htop
  obtain ⟨r, hr⟩ := State.topJava?_eq_some.mp hg0
  have hl9 : e.platform.stackLimits (T.setVm s.vm).me = e.platform.stackLimits s.me := X.limits
  have hb9 : (T.setVm s.vm).me.stackBytes = s.me.stackBytes := X.bytes
  refine ⟨X.admits, X.cas, X.clock, hF, ?_, X.hears, X.method, X.code, X.here, X.tail, X.warmed, ?_, ?_, ?_⟩
  · have h := X.room
    have hU : ((T.setVm s.vm).setFrames (.invoking m args :: below)).localsInUse = s.localsInUse := by
      rw [State.localsInUse_invoking hF (meth := meth) (c := c) X.method X.code, State.localsInUse_invoking X.frames X.method X.code]
    simp only [State.hasRoom, Bool.and_eq_true, decide_eq_true_eq] at h ⊢
    obtain ⟨⟨⟨⟨h1, h2, h3, h4, h5, h6⟩, h7⟩, h8⟩, h9⟩ := h
    rw [X.frames, List.length_cons] at h2 h3
    have q1 := X.heapSize
    have q2 := X.used
    simp only [hF, hU, List.length_cons, State.stackLimits_setFrames, State.stackBytes_setFrames, hl9, hb9]
    refine ⟨⟨⟨⟨by omega, by omega, by omega, by omega, by omega, h6⟩, ?_⟩, ?_⟩, X.book⟩
    · show T.heap.size + R'.cells ≤ e.platform.maxCells
      omega
    · show T.slotsUsed + R'.slots ≤ e.platform.maxSlots
      omega
  · rw [State.stackLimits_setFrames]; rfl
  · rw [State.stackBytes_setFrames]; rfl
  · refine ⟨?_, Nat.le_refl _, Nat.le_refl _, ?_, ?_, fun a c9 h9 => ⟨c9, h9, rfl, rfl, fun _ _ => rfl⟩⟩
    · obtain ⟨t, ht, -⟩ := State.frames_cons hr
      show T.setVm s.vm = { ((T.setVm s.vm).setFrames (.invoking m args :: below)).setFrames (T.setVm s.vm).frames with heap := T.heap, slotsUsed := T.slotsUsed }
      rw [State.setFrames_setFrames, State.setFrames_self ht]
      rfl
    · show T.slotsUsed = T.slotsUsed + ((T.heap.toList.drop T.heap.size).map (·.slots.size)).sum
      rw [List.drop_eq_nil_of_le (Nat.le_of_eq Array.length_toList)]
      rfl
    · show ((T.heap.toList.drop T.heap.size).map (·.slots.size)).sum ≤ 0
      rw [List.drop_eq_nil_of_le (Nat.le_of_eq Array.length_toList)]
      exact Nat.le_refl _
/-- 'throw new E()': new; dup; invokespecial; athrow -/
theorem vx_throw0 {cc : ByteArray} {pc : Nat} (hexec : p.tables.exec = Jvm.exec) (hb : c.code = cc) (hl : l.stackTraces = false) {own cls : String} {names : List String} {ik ic mc ms : Nat} {A : Nat → Prop}
    (hown : s.vm.findClass own = some m.cls) (hcls : Bundle.fit cls = true) (hnames : ∀ n ∈ names, Bundle.fit n = true)
    (hk : (Cond.classLink own ik cls).before args s = true) (hini : (Cond.initialized cls).before args s = true) (hat : ∀ w ∈ vx_at0 own ic cls names, w.before args s = true)
    (hgood : ∀ w ∈ Cond.classLink own ik cls :: Cond.initialized cls :: vx_at0 own ic cls names, vx_ot w = true)
    (hU : vx_Zq Bundle.tN "UNASSIGNED_STACK" Bundle.steD A s s.heap) (hN : vx_Zq Bundle.tN "SUPPRESSED_SENTINEL" Bundle.listD A s s.heap) (hS : va_S A s.heap H locs) (hsize : ls.size = c.maxLocals)
    (d0 : decode cc pc = .ok (.new ik, 3)) (d3 : decode cc (pc + 3) = .ok (.dup, 1)) (d4 : decode cc (pc + 4) = .ok (.invokespecial ic, 3)) (d7 : decode cc (pc + 7) = .ok (.athrow, 1))
    (hout : ∀ x ∈ c.exceptionTable.toList, covers x (pc + 7) = false)
    (hRframes : names.length + 3 < R.frames) (hRlocals : (rest.map fun v => v.category).sum + (13 * (names.length + 1) + 42) ≤ R.locals) (hRcells : cells + 1 ≤ R.cells) (hRslots : slots + 6 ≤ R.slots) (hlocks : meth.locks = false)
    (hx : ∀ t : State, s.vm.Alike t.vm → H.size ≤ t.heap.size → (∀ q : Nat, q < H.size → t.heap[q]? = H[q]?) → XC cls s t)
    (hf : ∀ z ∈ locs, free z.base) (hc : cells + 1 ≤ mc) (hs : slots + 6 ≤ ms) :
    W p l e R s m args below meth c H locs cells slots (vx_MQ below Qc XC args s mc ms free) (F0 m pc ls rest) := by
  intro T hT X
  have htr : e.platform.stackTraces = false := (show e.platform.stackTraces = l.stackTraces by rw [X.admits.platform]).trans hl
  have Y := vx_rebase X (R' := { frames := R.frames, locals := R.locals, cells := 1, slots := 6 }) (Nat.le_refl _) (Nat.le_refl _) hRcells hRslots
  obtain ⟨s', hA⟩ : ∃ z, z = (T.setVm s.vm).setFrames (.invoking m args :: below) := ⟨_, rfl⟩
  rw [← hA] at Y
  have hvm : s'.vm = s.vm := by rw [hA]; rfl
  have hhp : s'.heap = H := by rw [hA]; exact hT
  have hW0 : s.WarmedH s'.vm := by rw [hvm]; exact State.WarmedH.refl s
  have hat' : ∀ w ∈ vx_at0 own ic cls names, w.before args s' = true := fun w hw => vx_ot_at hW0 hvm.symm (hgood w (List.mem_cons_of_mem _ (List.mem_cons_of_mem _ hw))) (hat w hw)
  have hk' : (Cond.classLink own ik cls).before args s' = true := vx_ot_at hW0 hvm.symm (hgood _ List.mem_cons_self) hk
  have hini' : (Cond.initialized cls).before args s' = true := vx_ot_at hW0 hvm.symm (hgood _ (List.mem_cons_of_mem _ List.mem_cons_self)) hini
  have hU' : vx_Zq Bundle.tN "UNASSIGNED_STACK" Bundle.steD A s' s'.heap := by rw [hhp]; exact vx_Zq.moved hW0.alike (hU.kept hS.2.1)
  have hN' : vx_Zq Bundle.tN "SUPPRESSED_SENTINEL" Bundle.listD A s' s'.heap := by rw [hhp]; exact vx_Zq.moved hW0.alike (hN.kept hS.2.1)
  have h : ∀ w ∈ Bundle.ownAtoms0 own ic cls names, w.before args s' = true := vx_own hat' (vx_isRefq hU'.1) (vx_isRefq hN'.1) hU'.2.word hN'.2.word
  have hown' : s'.vm.findClass own = some m.cls := by rw [hvm]; exact hown
  have hins : (Cond.instantiable cls 6).before args s' = true := h _ (by simp [Bundle.ownAtoms0])
  obtain ⟨vm₁, cX, kX, hfX, hkX, -, -, X₁, st1⟩ := Y.newCold hexec (own := own) (C := cls) (index := ik) (n := 6) hown' hk' hins hini'
    (g := F0 m pc ls rest) rfl (by rw [hb]; exact d0) (Nat.le_refl _) (Nat.le_refl _)
  generalize hT1 : (T.setVm vm₁).pushCell { cls := cX, slots := kX.instanceTypes.map defaultValue, vm := .none } = T1 at X₁ st1
  have hcat : (Value.ref T.heap.size).category = 1 := rfl
  have hcellA : T1.heap[T.heap.size]? = some (freshCell cX kX) := by rw [← hT1]; exact State.heap_pushCell_size _ _
  have d3' : decode c.code (pc + 3) = .ok (.dup, 1) := by rw [hb]; exact d3
  obtain ⟨U, hsteps, hrun, hend, hW, hsame, ce, hce, hO⟩ := X₁.ctorThrow0 hexec htr (own := own) (cls := cls) (names := names) (ic := ic) hown' hcls hnames h (fun x hx => nomatch hx) hfX hkX hcellA (by rw [hhp, hT]; exact Nat.le_refl _)
    (g := { method := m, pc := pc + 4, locals := ls, stack := .ref T.heap.size :: .ref T.heap.size :: rest, locked := none }) rfl hsize rfl rfl (rest := rest) rfl
    (by rw [hb]; exact d4) (by rw [hb]; exact d7) hout hRframes (by simp only [List.map_cons, List.sum_cons, hcat]; omega) hlocks
  obtain ⟨f1, f2⟩ := vx_frame hsame
  rw [hhp] at f1 f2
  have hWs : s.WarmedH U.vm := State.WarmedH.trans hW0 hW
  have hcl : s.vm.findClass cls = some ce.cls := by
    have h9 := hO.cls
    rw [hvm] at h9
    exact h9
  have hall : s.sameButNew ({ U with vm := s.vm } : State) locs mc ms := by
    subst hA
    obtain ⟨e1, e2⟩ := hsame
    rw [State.setFrames_setFrames] at e1
    have h2 : (T.setVm s.vm).sameButNew ({ U with vm := s.vm } : State) [] (0 + 1) (0 + 6) := ⟨e1, e2⟩
    have h3 := X.same.trans h2
    rw [List.append_nil] at h3
    exact h3.mono hc hs
  refine ⟨U, ?_, .threw T.heap.size, hrun, hend, Or.inr ⟨T.heap.size, rfl, cls, ce, locs, hx U hWs.alike f1 (fun q hq => f2 q hq (fun z hz => nomatch hz)), hce, hO.vm, hcl, hWs, hall, hf⟩⟩
  refine st1 _ ?_
  show Steps p.tables e below (T1.setTop { method := m, pc := pc + 3, locals := ls, stack := .ref T.heap.size :: rest, locked := none }) _
  jvm_step X₁.here [X₁.here.top, hexec, d3', Value.category]
  exact hsteps
/-- 'throw new E("text")': new; dup; ldc; invokespecial; athrow -/
theorem vx_throwS {cc : ByteArray} {pc : Nat} (hexec : p.tables.exec = Jvm.exec) (hb : c.code = cc) (hl : l.stackTraces = false) {own cls text : String} {names : List String} {ik is ic mc ms sa : Nat} {A : Nat → Prop}
    (hown : s.vm.findClass own = some m.cls) (hcls : Bundle.fit cls = true) (hnames : ∀ n ∈ names, Bundle.fit n = true)
    (hk : (Cond.classLink own ik cls).before args s = true) (hini : (Cond.initialized cls).before args s = true) (hstr : vk_R own is text sa s) (hat : ∀ w ∈ vx_atS own ic cls names, w.before args s = true)
    (hgood : ∀ w ∈ Cond.classLink own ik cls :: Cond.initialized cls :: vx_atS own ic cls names, vx_ot w = true)
    (hU : vx_Zq Bundle.tN "UNASSIGNED_STACK" Bundle.steD A s s.heap) (hN : vx_Zq Bundle.tN "SUPPRESSED_SENTINEL" Bundle.listD A s s.heap) (hS : va_S A s.heap H locs) (hsize : ls.size = c.maxLocals)
    (d0 : decode cc pc = .ok (.new ik, 3)) (d3 : decode cc (pc + 3) = .ok (.dup, 1)) (d4 : decode cc (pc + 4) = .ok (.ldc is, 2)) (d6 : decode cc (pc + 6) = .ok (.invokespecial ic, 3)) (d9 : decode cc (pc + 9) = .ok (.athrow, 1))
    (hout : ∀ x ∈ c.exceptionTable.toList, covers x (pc + 9) = false)
    (hRframes : names.length + 3 < R.frames) (hRlocals : (rest.map fun v => v.category).sum + (13 * (names.length + 1) + 43) ≤ R.locals) (hRcells : cells + 1 ≤ R.cells) (hRslots : slots + 6 ≤ R.slots) (hlocks : meth.locks = false)
    (hx : ∀ t : State, s.vm.Alike t.vm → H.size ≤ t.heap.size → (∀ q : Nat, q < H.size → t.heap[q]? = H[q]?) → XC cls s t)
    (hf : ∀ z ∈ locs, free z.base) (hc : cells + 1 ≤ mc) (hs : slots + 6 ≤ ms) :
    W p l e R s m args below meth c H locs cells slots (vx_MQ below Qc XC args s mc ms free) (F0 m pc ls rest) := by
  intro T hT X
  have htr : e.platform.stackTraces = false := (show e.platform.stackTraces = l.stackTraces by rw [X.admits.platform]).trans hl
  have Y := vx_rebase X (R' := { frames := R.frames, locals := R.locals, cells := 1, slots := 6 }) (Nat.le_refl _) (Nat.le_refl _) hRcells hRslots
  obtain ⟨s', hA⟩ : ∃ z, z = (T.setVm s.vm).setFrames (.invoking m args :: below) := ⟨_, rfl⟩
  rw [← hA] at Y
  have hvm : s'.vm = s.vm := by rw [hA]; rfl
  have hhp : s'.heap = H := by rw [hA]; exact hT
  have hW0 : s.WarmedH s'.vm := by rw [hvm]; exact State.WarmedH.refl s
  have hat' : ∀ w ∈ vx_atS own ic cls names, w.before args s' = true := fun w hw => vx_ot_at hW0 hvm.symm (hgood w (List.mem_cons_of_mem _ (List.mem_cons_of_mem _ hw))) (hat w hw)
  have hk' : (Cond.classLink own ik cls).before args s' = true := vx_ot_at hW0 hvm.symm (hgood _ List.mem_cons_self) hk
  have hini' : (Cond.initialized cls).before args s' = true := vx_ot_at hW0 hvm.symm (hgood _ (List.mem_cons_of_mem _ List.mem_cons_self)) hini
  have hU' : vx_Zq Bundle.tN "UNASSIGNED_STACK" Bundle.steD A s' s'.heap := by rw [hhp]; exact vx_Zq.moved hW0.alike (hU.kept hS.2.1)
  have hN' : vx_Zq Bundle.tN "SUPPRESSED_SENTINEL" Bundle.listD A s' s'.heap := by rw [hhp]; exact vx_Zq.moved hW0.alike (hN.kept hS.2.1)
  have h : ∀ w ∈ Bundle.ownAtoms own ic cls names, w.before args s' = true := vx_own hat' (vx_isRefq hU'.1) (vx_isRefq hN'.1) hU'.2.word hN'.2.word
  have hown' : s'.vm.findClass own = some m.cls := by rw [hvm]; exact hown
  have hins : (Cond.instantiable cls 6).before args s' = true := h _ (by simp [Bundle.ownAtoms])
  obtain ⟨vm₁, cX, kX, hfX, hkX, -, -, X₁, st1⟩ := Y.newCold hexec (own := own) (C := cls) (index := ik) (n := 6) hown' hk' hins hini'
    (g := F0 m pc ls rest) rfl (by rw [hb]; exact d0) (Nat.le_refl _) (Nat.le_refl _)
  generalize hT1 : (T.setVm vm₁).pushCell { cls := cX, slots := kX.instanceTypes.map defaultValue, vm := .none } = T1 at X₁ st1
  have hcat : (Value.ref T.heap.size).category = 1 := rfl
  have hcellA : T1.heap[T.heap.size]? = some (freshCell cX kX) := by rw [← hT1]; exact State.heap_pushCell_size _ _
  have d3' : decode c.code (pc + 3) = .ok (.dup, 1) := by rw [hb]; exact d3
  have d4' : decode c.code (pc + 4) = .ok (.ldc is, 2) := by rw [hb]; exact d4
  have hstr' : vk_R own is text sa s' := vk_R.warm hW0 hstr
  obtain ⟨U, hsteps, hrun, hend, hW, hsame, ce, hce, hO⟩ := X₁.ctorThrowS hexec htr (own := own) (cls := cls) (names := names) (ic := ic) hown' hcls hnames h (fun x hx => nomatch hx) hfX hkX hcellA (by rw [hhp, hT]; exact Nat.le_refl _) (msg := .ref sa) rfl
    (g := { method := m, pc := pc + 6, locals := ls, stack := .ref sa :: .ref T.heap.size :: .ref T.heap.size :: rest, locked := none }) rfl hsize rfl rfl (rest := rest) rfl
    (by rw [hb]; exact d6) (by rw [hb]; exact d9) hout hRframes (by simp only [List.map_cons, List.sum_cons, hcat]; omega) hlocks
  obtain ⟨f1, f2⟩ := vx_frame hsame
  rw [hhp] at f1 f2
  have hWs : s.WarmedH U.vm := State.WarmedH.trans hW0 hW
  have hcl : s.vm.findClass cls = some ce.cls := by
    have h9 := hO.cls
    rw [hvm] at h9
    exact h9
  have hall : s.sameButNew ({ U with vm := s.vm } : State) locs mc ms := by
    subst hA
    obtain ⟨e1, e2⟩ := hsame
    rw [State.setFrames_setFrames] at e1
    have h2 : (T.setVm s.vm).sameButNew ({ U with vm := s.vm } : State) [] (0 + 1) (0 + 6) := ⟨e1, e2⟩
    have h3 := X.same.trans h2
    rw [List.append_nil] at h3
    exact h3.mono hc hs
  refine ⟨U, ?_, .threw T.heap.size, hrun, hend, Or.inr ⟨T.heap.size, rfl, cls, ce, locs, hx U hWs.alike f1 (fun q hq => f2 q hq (fun z hz => nomatch hz)), hce, hO.vm, hcl, hWs, hall, hf⟩⟩
  refine st1 _ ?_
  show Steps p.tables e below (T1.setTop { method := m, pc := pc + 3, locals := ls, stack := .ref T.heap.size :: rest, locked := none }) _
  jvm_step X₁.here [X₁.here.top, hexec, d3', Value.category]
  exact X₁.ldcString hexec (own := own) (text := text) (index := is) (a := sa) hown' hstr'.1 hstr'.2
    (g := { method := m, pc := pc + 4, locals := ls, stack := .ref T.heap.size :: .ref T.heap.size :: rest, locked := none }) rfl d4' _ hsteps
/-- 'throw new E("text")', the text by a wide index -/
theorem vx_throwSW {cc : ByteArray} {pc : Nat} (hexec : p.tables.exec = Jvm.exec) (hb : c.code = cc) (hl : l.stackTraces = false) {own cls text : String} {names : List String} {ik is ic mc ms sa : Nat} {A : Nat → Prop}
    (hown : s.vm.findClass own = some m.cls) (hcls : Bundle.fit cls = true) (hnames : ∀ n ∈ names, Bundle.fit n = true)
    (hk : (Cond.classLink own ik cls).before args s = true) (hini : (Cond.initialized cls).before args s = true) (hstr : vk_R own is text sa s) (hat : ∀ w ∈ vx_atS own ic cls names, w.before args s = true)
    (hgood : ∀ w ∈ Cond.classLink own ik cls :: Cond.initialized cls :: vx_atS own ic cls names, vx_ot w = true)
    (hU : vx_Zq Bundle.tN "UNASSIGNED_STACK" Bundle.steD A s s.heap) (hN : vx_Zq Bundle.tN "SUPPRESSED_SENTINEL" Bundle.listD A s s.heap) (hS : va_S A s.heap H locs) (hsize : ls.size = c.maxLocals)
    (d0 : decode cc pc = .ok (.new ik, 3)) (d3 : decode cc (pc + 3) = .ok (.dup, 1)) (d4 : decode cc (pc + 4) = .ok (.ldc_w is, 3)) (d7 : decode cc (pc + 7) = .ok (.invokespecial ic, 3)) (d10 : decode cc (pc + 10) = .ok (.athrow, 1))
    (hout : ∀ x ∈ c.exceptionTable.toList, covers x (pc + 10) = false)
    (hRframes : names.length + 3 < R.frames) (hRlocals : (rest.map fun v => v.category).sum + (13 * (names.length + 1) + 43) ≤ R.locals) (hRcells : cells + 1 ≤ R.cells) (hRslots : slots + 6 ≤ R.slots) (hlocks : meth.locks = false)
    (hx : ∀ t : State, s.vm.Alike t.vm → H.size ≤ t.heap.size → (∀ q : Nat, q < H.size → t.heap[q]? = H[q]?) → XC cls s t)
    (hf : ∀ z ∈ locs, free z.base) (hc : cells + 1 ≤ mc) (hs : slots + 6 ≤ ms) :
    W p l e R s m args below meth c H locs cells slots (vx_MQ below Qc XC args s mc ms free) (F0 m pc ls rest) := by
  intro T hT X
  have htr : e.platform.stackTraces = false := (show e.platform.stackTraces = l.stackTraces by rw [X.admits.platform]).trans hl
  have Y := vx_rebase X (R' := { frames := R.frames, locals := R.locals, cells := 1, slots := 6 }) (Nat.le_refl _) (Nat.le_refl _) hRcells hRslots
  obtain ⟨s', hA⟩ : ∃ z, z = (T.setVm s.vm).setFrames (.invoking m args :: below) := ⟨_, rfl⟩
  rw [← hA] at Y
  have hvm : s'.vm = s.vm := by rw [hA]; rfl
  have hhp : s'.heap = H := by rw [hA]; exact hT
  have hW0 : s.WarmedH s'.vm := by rw [hvm]; exact State.WarmedH.refl s
  have hat' : ∀ w ∈ vx_atS own ic cls names, w.before args s' = true := fun w hw => vx_ot_at hW0 hvm.symm (hgood w (List.mem_cons_of_mem _ (List.mem_cons_of_mem _ hw))) (hat w hw)
  have hk' : (Cond.classLink own ik cls).before args s' = true := vx_ot_at hW0 hvm.symm (hgood _ List.mem_cons_self) hk
  have hini' : (Cond.initialized cls).before args s' = true := vx_ot_at hW0 hvm.symm (hgood _ (List.mem_cons_of_mem _ List.mem_cons_self)) hini
  have hU' : vx_Zq Bundle.tN "UNASSIGNED_STACK" Bundle.steD A s' s'.heap := by rw [hhp]; exact vx_Zq.moved hW0.alike (hU.kept hS.2.1)
  have hN' : vx_Zq Bundle.tN "SUPPRESSED_SENTINEL" Bundle.listD A s' s'.heap := by rw [hhp]; exact vx_Zq.moved hW0.alike (hN.kept hS.2.1)
  have h : ∀ w ∈ Bundle.ownAtoms own ic cls names, w.before args s' = true := vx_own hat' (vx_isRefq hU'.1) (vx_isRefq hN'.1) hU'.2.word hN'.2.word
  have hown' : s'.vm.findClass own = some m.cls := by rw [hvm]; exact hown
  have hins : (Cond.instantiable cls 6).before args s' = true := h _ (by simp [Bundle.ownAtoms])
  obtain ⟨vm₁, cX, kX, hfX, hkX, -, -, X₁, st1⟩ := Y.newCold hexec (own := own) (C := cls) (index := ik) (n := 6) hown' hk' hins hini'
    (g := F0 m pc ls rest) rfl (by rw [hb]; exact d0) (Nat.le_refl _) (Nat.le_refl _)
  generalize hT1 : (T.setVm vm₁).pushCell { cls := cX, slots := kX.instanceTypes.map defaultValue, vm := .none } = T1 at X₁ st1
  have hcat : (Value.ref T.heap.size).category = 1 := rfl
  have hcellA : T1.heap[T.heap.size]? = some (freshCell cX kX) := by rw [← hT1]; exact State.heap_pushCell_size _ _
  have d3' : decode c.code (pc + 3) = .ok (.dup, 1) := by rw [hb]; exact d3
  have d4' : decode c.code (pc + 4) = .ok (.ldc_w is, 3) := by rw [hb]; exact d4
  have hstr' : vk_R own is text sa s' := vk_R.warm hW0 hstr
  obtain ⟨U, hsteps, hrun, hend, hW, hsame, ce, hce, hO⟩ := X₁.ctorThrowS hexec htr (own := own) (cls := cls) (names := names) (ic := ic) hown' hcls hnames h (fun x hx => nomatch hx) hfX hkX hcellA (by rw [hhp, hT]; exact Nat.le_refl _) (msg := .ref sa) rfl
    (g := { method := m, pc := pc + 7, locals := ls, stack := .ref sa :: .ref T.heap.size :: .ref T.heap.size :: rest, locked := none }) rfl hsize rfl rfl (rest := rest) rfl
    (by rw [hb]; exact d7) (by rw [hb]; exact d10) hout hRframes (by simp only [List.map_cons, List.sum_cons, hcat]; omega) hlocks
  obtain ⟨f1, f2⟩ := vx_frame hsame
  rw [hhp] at f1 f2
  have hWs : s.WarmedH U.vm := State.WarmedH.trans hW0 hW
  have hcl : s.vm.findClass cls = some ce.cls := by
    have h9 := hO.cls
    rw [hvm] at h9
    exact h9
  have hall : s.sameButNew ({ U with vm := s.vm } : State) locs mc ms := by
    subst hA
    obtain ⟨e1, e2⟩ := hsame
    rw [State.setFrames_setFrames] at e1
    have h2 : (T.setVm s.vm).sameButNew ({ U with vm := s.vm } : State) [] (0 + 1) (0 + 6) := ⟨e1, e2⟩
    have h3 := X.same.trans h2
    rw [List.append_nil] at h3
    exact h3.mono hc hs
  refine ⟨U, ?_, .threw T.heap.size, hrun, hend, Or.inr ⟨T.heap.size, rfl, cls, ce, locs, hx U hWs.alike f1 (fun q hq => f2 q hq (fun z hz => nomatch hz)), hce, hO.vm, hcl, hWs, hall, hf⟩⟩
  refine st1 _ ?_
  show Steps p.tables e below (T1.setTop { method := m, pc := pc + 3, locals := ls, stack := .ref T.heap.size :: rest, locked := none }) _
  jvm_step X₁.here [X₁.here.top, hexec, d3', Value.category]
  exact X₁.ldcStringW hexec (own := own) (text := text) (index := is) (a := sa) hown' hstr'.1 hstr'.2
    (g := { method := m, pc := pc + 4, locals := ls, stack := .ref T.heap.size :: .ref T.heap.size :: rest, locked := none }) rfl d4' _ hsteps
end Ends
section Bodies
variable {l : Launch}
theorem vx_ofW {y : MethodName} {ws ws' : List Cond} {rm : Room} {Pc : Array Value → State → Prop} {Qc : Array Value → State → Outcome → State → Prop} {XC : String → State → State → Prop} {mc ms : Nat} {free : Addr → Prop} {cc : ByteArray} {maxL : Nat} {ret : Option FieldType}
    (hy : plainName y.cls = true) (hw : ws = Cond.code y cc maxL ret :: ws')
    (body : ∀ p e s m args below meth c s₁, BodyLoose p l y (headSpec ws rm) cc maxL ret e s m args below meth c s₁ → c.maxLocals = maxL → (∀ x ∈ c.exceptionTable.toList, False) → Pc args s →
      W p l e (headSpec ws rm).room s m args below meth c s.heap [] 0 0 (vx_MQ below Qc XC args s mc ms free) (entryFrame m args maxL)) : vx_Met l y ws rm Pc Qc XC mc ms free := by
  refine MetFree.of_bodyS (code := cc) (maxLocals := maxL) (ret := ret) hy ?_ ?_
  · intro args s m h hn
    obtain ⟨meth, c, h1, h2, h3, h4, h5, h6, -, -⟩ := Cond.code_spec hn (atoms_spec (ws := ws) h _ (by rw [hw]; exact List.mem_cons_self))
    exact ⟨meth, c, h1, h2, h3, h4, h5, h6⟩
  · intro p e s m args below meth c s₁ B hml hP _
    have hh0 : s₁.heap = s.heap := by rw [B.state]; rfl
    have ht : ∀ x ∈ c.exceptionTable.toList, False := by
      obtain ⟨meth9, c9, h1, h2, -, -, -, -, h7, -⟩ := Cond.code_spec B.named (atoms_spec (ws := ws) B.pre _ (by rw [hw]; exact List.mem_cons_self))
      cases Option.some.inj (h1.symm.trans B.method)
      cases Option.some.inj (h2.symm.trans (Stand.of_body B).code)
      intro x hx
      rw [Array.isEmpty_iff.mp h7] at hx
      cases hx
    obtain ⟨t, a1, o, b1, b2, b3⟩ := body p e s m args below meth c s₁ B hml ht hP s₁ hh0 (Stand.of_body B)
    exact ⟨t, o, a1, b1, b2, b3⟩
/-- the table of a body with handlers -/
theorem vx_table {p : Program} {x y : MethodName} {S : Spec} {cc bytes : ByteArray} {maxL maxL' : Nat} {ret ret' : Option FieldType} {e : Env} {s s₁ : State} {m : MethodId} {args : Array Value} {below : List Frame} {meth : Method} {c : Code} {hh : List (Nat × Nat × Nat × Nat)}
    (B : BodyLoose p l y S cc maxL ret e s m args below meth c s₁) (h : (Cond.codeWith y bytes maxL' ret' hh).before args s = true) : c.exceptionTable.toList = tableOf hh := by
  obtain ⟨m9, meth9, c9, hn9, h1, h2, -, -, h6, -⟩ := Cond.codeWith_spec h
  cases Option.some.inj (hn9.symm.trans B.named)
  cases Option.some.inj (h1.symm.trans B.method)
  cases Option.some.inj (h2.symm.trans (Stand.of_body B).code)
  rw [← h6, table_eq]
end Bodies
end VXA
/-! ===== END ===== -/
/-! ===== BEGIN a static call of a method with an exception table ===== -/
section VXS
variable {p : Program} {l : Launch} {e : Env} {R : Room} {s : State} {m : MethodId} {args : Array Value} {below : List Frame} {meth : Method} {c : Code} {T : State} {H : Heap} {locs : List Loc} {cells slots : Nat}
abbrev vx_CSW (R : Room) (s : State) (args : Array Value) (own : String) (index : Nat) (y : MethodName) (bytes : ByteArray) (maxL : Nat) (ret : Option FieldType) (hh : List (Nat × Nat × Nat × Nat)) (ws : List Cond) (rm : Room) (mc ms n : Nat) : Prop :=
  (rm.cells = mc ∧ rm.slots = ms ∧ rm.frames + 1 ≤ R.frames ∧ 8 + (maxL + 11) + rm.locals ≤ R.locals ∧ (∀ w ∈ ws, ∀ (a' : Array Value) (U : State), s.WarmedH U.vm → w.before a' U = true) ∧ Cond.codeWith y bytes maxL ret hh ∈ ws) ∧
  (Cond.codeWith y bytes maxL ret hh).before args s = true ∧ (Cond.initialized y.cls).before args s = true ∧ (y.cls ≠ "java/lang/invoke/MethodHandle" ∧ y.cls ≠ "java/lang/invoke/VarHandle") ∧
  (∀ sig, parseMethodDescriptor y.desc = some sig → n = sig.parameters.length) ∧ (Cond.methodLink own index y).before args s = true ∧ (Cond.static y).before args s = true
theorem vx_cwSW {own : String} {index maxL mc ms : Nat} {y : MethodName} {bytes : ByteArray} {ret : Option FieldType} {hh : List (Nat × Nat × Nat × Nat)} {Ts ws ws' : List Cond} {rm : Room} (n : Nat) (ht : ∀ w ∈ Ts, w.before args s = true) (hT : GoodIn Ts (va_wsS own index y ws)) (hw : ws = Cond.codeWith y bytes maxL ret hh :: ws') (hrc : rm.cells = mc) (hrs : rm.slots = ms)
    (hd : y.cls ≠ "java/lang/invoke/MethodHandle" ∧ y.cls ≠ "java/lang/invoke/VarHandle" ∧ (parseMethodDescriptor y.desc).map (fun d => d.parameters.length) = some n) (hR : rm.frames + 1 ≤ R.frames ∧ 8 + (maxL + 11) + rm.locals ≤ R.locals) :
    vx_CSW R s args own index y bytes maxL ret hh ws rm mc ms n := by
  have ok : ∀ w ∈ va_wsS own index y ws, w.before args s = true := fun w h => ht w (hT w h).1
  have hG : GoodIn Ts ws := fun w h => hT w (by unfold va_wsS; exact List.mem_append_right _ h)
  have hc : Cond.codeWith y bytes maxL ret hh ∈ ws := by rw [hw]; exact List.mem_cons_self
  refine ⟨⟨hrc, hrs, hR.1, hR.2, pay_in ht hG, hc⟩, ht _ (hG _ hc).1, ok _ (by simp [va_wsS]), ⟨hd.1, hd.2.1⟩, fun sig h => ?_, ok _ (by simp [va_wsS]), ok _ (by simp [va_wsS])⟩
  have h2 := hd.2.2
  rw [h] at h2
  exact (Option.some.inj h2).symm
theorem vx_callSW (X : Stand p l e R s m args below meth c T locs cells slots) (hexec : p.tables.exec = Jvm.exec) {own : String} {index : Nat} {y : MethodName} {bytes : ByteArray} {maxL : Nat} {ret : Option FieldType} {hh : List (Nat × Nat × Nat × Nat)}
    (hown : s.vm.findClass own = some m.cls) (hlink : (Cond.methodLink own index y).before args s = true) (hstat : (Cond.static y).before args s = true) (hinit : (Cond.initialized y.cls).before args s = true)
    (hcode : (Cond.codeWith y bytes maxL ret hh).before args s = true) (hy : y.cls ≠ "java/lang/invoke/MethodHandle" ∧ y.cls ≠ "java/lang/invoke/VarHandle")
    {W9 : Nat} {Pre : Pt → Array Value → Prop} {Post : Pt → Array Value → Option Value → Pt → Prop} (hK : Back l R p e below s args y 3 W9 Pre Post)
    {g : JFrame} (hg : g.method = m) (hsize : g.locals.size = c.maxLocals) {argsL rest : List Value} (hlen : ∀ sig, parseMethodDescriptor y.desc = some sig → argsL.length = sig.parameters.length)
    (hstack : g.stack = argsL.reverse ++ rest) (hW : 2 * g.monitorRoom + (rest.map fun v => v.category).sum ≤ W9) (hdg : decode c.code g.pc = .ok (.invokestatic index, 3))
    (hpre : ∀ vm₁, s.WarmedH vm₁ → Pre ⟨T.setVm vm₁, locs, cells, slots⟩ argsL.toArray) :
    ∃ (v : Option Value) (vm₁ : Vm) (B : Pt), s.WarmedH vm₁ ∧ Stand p l e R s m args below meth c B.U B.locs B.cells B.slots ∧ Post ⟨T.setVm vm₁, locs, cells, slots⟩ argsL.toArray v B ∧
      ∀ target, Steps p.tables e below (B.U.setTop { g with pc := g.pc + 3, stack := v.toList ++ rest }) target → Steps p.tables e below (T.setTop g) target := by
  obtain ⟨mk, methM, cM, hnamed, hmethM, -, -, -, -, -, -, hsigM⟩ := Cond.codeWith_spec hcode
  have hstatic : methM.isStatic = true := Cond.static_spec hnamed hmethM hstat
  obtain ⟨kP, hkP, -⟩ := className_of_methodNamed hnamed
  have hinitP : kP.init = .initialized := Cond.initialized_spec (findClass_of_methodNamed hnamed) hkP hinit
  obtain ⟨vm₁, X₁, hstep₁⟩ := X.invokestatic hexec hown hlink hnamed hmethM hstatic hkP hinitP hy (g := g) hg (argsL := argsL) (rest := rest) (hlen _ hsigM) hstack hdg
  obtain ⟨v, B, X', hpost, hsteps⟩ := hK m meth c ⟨T.setVm vm₁, locs, cells, slots⟩ { g with stack := rest } (.invokestatic index) mk argsL.toArray X₁ hg hsize hdg hW (X₁.named hnamed) (hpre vm₁ X₁.warmed)
  exact ⟨v, vm₁, B, X₁.warmed, X', hpost, fun target h => hstep₁ _ fun acts => by rw [doInvoke_state]; exact hsteps.trans h⟩
theorem vx_runSW {y : MethodName} {bytes cc : ByteArray} {maxL nL mc ms n index : Nat} {ret : Option FieldType} {hh : List (Nat × Nat × Nat × Nat)} {ws : List Cond} {rm : Room} {Pc : Array Value → State → Prop} {Qc : Array Value → State → Outcome → State → Prop} {free : Addr → Prop} {Ts : List Cond} {own : String} {As rest : List Value} {g : JFrame}
    (S : CallFix p m c cc nL s args Ts own) (hM : Met l y ws rm Pc Qc mc ms free) (cw : vx_CSW R s args own index y bytes maxL ret hh ws rm mc ms n) (hp : PreS s H Pc As)
    (hg : g.method = m) (hn : As.length = n) (hsize : g.locals.size = nL) (hstack : g.stack = As.reverse ++ rest) (hW : 2 * g.monitorRoom + (rest.map fun v => v.category).sum ≤ 8) (hdg : decode cc g.pc = .ok (.invokestatic index, 3)) (hf : cells + mc ≤ R.cells ∧ slots + ms ≤ R.slots) :
    va_Run p l e R s m args below meth c H locs cells slots mc ms g rest (Qc As.toArray) (free) := by
  obtain ⟨⟨hrc, hrs, hfr, hlo, hws, hcw⟩, hcode, hini, hy, hlen, hl, hstt⟩ := cw
  have hK : Back l R p e below s args y 3 8 (PreOf R mc ms Pc) (PostOf Qc mc ms free) := va_backW (hh := hh) (bytes := bytes) (maxL := maxL) (ret := ret) hM hp.1 hrc hrs hfr hlo hws hcw (fun a' U hW => word_at hW (Or.inl (by first | rfl | simp [Cond.onTables, Cond.keeps, Cond.steady])) hini)
  obtain ⟨hx, hb, hml, ho, -⟩ := S
  intro T hT X
  obtain ⟨v, vm₁, ⟨U', l2, c2, s2⟩, hW₁, X', ⟨g', mk, t, L, e1, e2, hq, h1, hL, h2, h3⟩, st⟩ := vx_callSW X hx (hh := hh) (bytes := bytes) (maxL := maxL) (ret := ret) ho hl hstt hini hcode hy hK hg (hsize.trans hml.symm) (argsL := As) (rest := rest) (fun sig h => hn.trans (hlen sig h)) hstack hW (by rw [hb]; exact hdg)
    (fun vm₁ hW₁ => ⟨hf.1, hf.2, hp.2 (T.setVm vm₁) hT hW₁⟩)
  dsimp only [Pt.U, Pt.locs, Pt.cells, Pt.slots] at X' e1 e2 h1 h2 h3 st
  subst h1; subst h2; subst h3
  exact ⟨v, (T.setVm vm₁).calling g' mk As.toArray, t, U', L, hT, X', hL, e1, e2, hq, st⟩
/-- not caught here, past rows that name other classes: it goes on to the caller -/
theorem vx_outP {p : Program} {l : Launch} {e : Env} {R : Room} {s : State} {m : MethodId} {args : Array Value} {below : List Frame} {meth : Method} {c : Code} {H : Heap} {locs : List Loc} {cells slots : Nat} {free : Addr → Prop} {ls : Array Slot} {rest : List Value} {Qc : Array Value → State → Outcome → State → Prop} {XC : String → State → State → Prop}
    {pc : Nat} {own E : String} {ce : Cell} {q : Addr} {mc ms : Nat} (hown : s.vm.findClass own = some m.cls) (hlocks : meth.locks = false)
    (hpass : ∀ z ∈ c.exceptionTable.toList, covers z pc = false ∨ (z.catchType ≠ 0 ∧ ∃ nm : String, (Cond.classLink own z.catchType nm).before args s = true ∧ va_Nc E nm s)) (hcell : H[q]? = some ce) (hv : ce.vm = .none) (hcl : s.vm.findClass E = some ce.cls)
    (hx : ∀ t : State, t.heap = H → s.vm.Alike t.vm → XC E s t) (hf : ∀ z ∈ locs, free z.base) (hc : cells ≤ mc) (hs : slots ≤ ms) :
    vx_W p l e R s m args below meth c H locs cells slots (vx_MQ below Qc XC args s mc ms free) (F0 m pc ls rest) q := by
  intro T hT X
  have hpl : e.platform.magicAccessors = ({} : Platform).magicAccessors := by rw [X.admits.platform]
  obtain ⟨vm', hW', X', st⟩ := X.outThrough hlocks q (g := F0 m pc ls rest) rfl rfl rfl (cell := ce) (by rw [hT]; exact hcell) (by rw [hv]; rfl)
    (by obtain ⟨k9, h9, -⟩ := Vm.findClass_spec hcl; exact ⟨k9, h9⟩) (fun z hz => by
      rcases hpass z hz with h | ⟨hz0, nm, hl1, hn1⟩
      · exact Or.inl h
      · obtain ⟨c6, hc6, hcl6⟩ := Cond.classLink_spec hown hl1 e.platform hpl
        obtain ⟨a8, b8, h1, h2, h3⟩ := hn1
        cases Option.some.inj (h1.symm.trans hcl)
        cases Option.some.inj (h2.symm.trans hc6)
        exact Or.inr ⟨hz0, _, hcl6, h3⟩)
  obtain ⟨g₀, hfr⟩ := X'.frames_eq
  have hcell9 : ((T.setVm vm').setFrames (.throwing q :: below)).heap[q]? = some ce := by
    show T.heap[q]? = some ce
    rw [hT]; exact hcell
  have hend : Ended ((T.setVm vm').setFrames (.throwing q :: below)) below (.threw q) := State.frames_setFrames _ (State.cur_lt_of_frames hfr)
  refine ⟨(T.setVm vm').setFrames (.throwing q :: below), ?_, .threw q, X'.here.running, hend, Or.inr ⟨q, rfl, E, ce, locs, hx _ hT (X'.ends _).1.alike, hcell9, hv, hcl, (X'.ends _).1, (X'.ends _).2.mono hc hs, hf⟩⟩
  rw [X.pushThrowing_eq]
  exact st
/-- a thing of a world lies in the heap -/
theorem vx_lt {D : va_G} {cl : List vw_C} {ws : va_W} {H1 : Heap} (h : va_P D cl ws H1) {k : Nat} {q : Nat × va_E} (hk : ws[k]? = some q) : q.1 < H1.size := (h k q hk).lt
end VXS
/-! ===== END ===== -/
end
section
/-! feed: both tapes take the same of the 24 bytes. First: runs joined, steps with cells that are known by their places alone. -/
theorem zi_run_tr {call : zi_K} {sl : List zi_V} {M : zi_M} {h : zi_F} : ∀ (j n : Nat) {f g : zi_F}, zi_run call sl M j f = some g → zi_run call sl M n g = some h → zi_run call sl M (n + j) f = some h
  | 0, n, f, g, h0, hl => by
    have h0 : some f = some g := h0
    cases h0
    exact hl
  | j + 1, n, f, g, h0, hl => by
    have h0 : (match zi_stp call sl M f with | some (.inl g) => bif zi_up f g then zi_run call sl M j g else none | _ => none) = some g := h0
    show (match zi_stp call sl M f with | some (.inl g) => bif zi_up f g then zi_run call sl M (n + j) g else none | _ => none) = some h
    split at h0
    · rename_i x hx
      cases hu : zi_up f x with
      | false => rw [hu] at h0; cases h0
      | true => rw [hu] at h0; exact zi_run_tr j n h0 hl
    · cases h0
theorem zi_loop_run {call : zi_K} {M : zi_M} {r : zi_R} : ∀ (j n : Nat) {f g : zi_F}, zi_run call [] M j f = some g → zi_loop call M n g = some r → zi_loop call M (n + j) f = some r
  | 0, n, f, g, h0, hl => by
    have h0 : some f = some g := h0
    cases h0
    exact hl
  | j + 1, n, f, g, h0, hl => by
    have h0 : (match zi_stp call [] M f with | some (.inl g) => bif zi_up f g then zi_run call [] M j g else none | _ => none) = some g := h0
    show (match zi_stp call [] M f with | some (.inl g) => bif zi_up f g then zi_loop call M (n + j) g else none | some (.inr v) => some (v, f.2.2.2.1, f.2.2.2.2.1, f.2.2.2.2.2) | none => none) = some r
    split at h0
    · rename_i x hx
      rw [hx]
      dsimp only
      cases hu : zi_up f x with
      | false => rw [hu] at h0; cases h0
      | true => rw [hu] at h0; exact zi_loop_run j n h0 hl
    · cases h0
theorem zi_loop_up {call : zi_K} {M : zi_M} {r : zi_R} : ∀ (n k : Nat) {f : zi_F}, zi_loop call M n f = some r → n ≤ k → zi_loop call M k f = some r
  | 0, _, f, h, _ => by cases h
  | n + 1, 0, f, _, hk => absurd hk (Nat.not_succ_le_zero n)
  | n + 1, k + 1, f, h, hk => by
    have h : (match zi_stp call [] M f with | some (.inl g) => bif zi_up f g then zi_loop call M n g else none | some (.inr v) => some (v, f.2.2.2.1, f.2.2.2.2.1, f.2.2.2.2.2) | none => none) = some r := h
    show (match zi_stp call [] M f with | some (.inl g) => bif zi_up f g then zi_loop call M k g else none | some (.inr v) => some (v, f.2.2.2.1, f.2.2.2.2.1, f.2.2.2.2.2) | none => none) = some r
    split at h
    · rename_i x hx
      cases hu : zi_up f x with
      | false => rw [hu] at h; cases h
      | true => rw [hu] at h; exact zi_loop_up n k h (Nat.le_of_succ_le_succ hk)
    · exact h
    · cases h
def zi_rc (call : zi_K) (M : zi_M) (f g : zi_F) (B : Nat) : Prop := ∃ j, j ≤ B ∧ zi_run call [] M j f = some g
theorem zi_rc_0 {call : zi_K} {M : zi_M} {f : zi_F} {B : Nat} : zi_rc call M f f B := ⟨0, Nat.zero_le _, rfl⟩
theorem zi_rc_c {call : zi_K} {M : zi_M} {f g h : zi_F} {B : Nat} (h1 : zi_run call [] M 1 f = some g) (h2 : zi_rc call M g h B) : zi_rc call M f h (B + 1) := by
  obtain ⟨j, hj, e⟩ := h2
  exact ⟨j + 1, Nat.succ_le_succ hj, zi_run_tr 1 j h1 e⟩
theorem zi_rc_t {call : zi_K} {M : zi_M} {f g h : zi_F} {B B' : Nat} (h1 : zi_rc call M f g B) (h2 : zi_rc call M g h B') : zi_rc call M f h (B' + B) := by
  obtain ⟨j, hj, e⟩ := h1
  obtain ⟨j', hj', e'⟩ := h2
  exact ⟨j' + j, Nat.add_le_add hj' hj, zi_run_tr j j' e e'⟩
theorem zi_rc_w {call : zi_K} {M : zi_M} {f g : zi_F} {B B' : Nat} (h : zi_rc call M f g B) (hb : B ≤ B') : zi_rc call M f g B' := by
  obtain ⟨j, hj, e⟩ := h
  exact ⟨j, Nat.le_trans hj hb, e⟩
theorem zi_run_1 {call : zi_K} {sl : List zi_V} {M : zi_M} {pc : Nat} {al : List (Nat × zi_V)} {st : List zi_V} {A : List zi_C} {nc ns : Nat} {i : Instr} {n : Nat} {o : List Nat} {g : zi_F} (h1 : zi_lk2 pc M.2.2.2.2.1 = some (i, n, o)) (h2 : zi_do call sl M.2.2.1 M.2.2.2.1 pc al st A nc ns i n o = some (.inl g)) (h3 : zi_up (pc, al, st, A, nc, ns) g = true) : zi_run call sl M 1 (pc, al, st, A, nc, ns) = some g := by
  have e : zi_stp call sl M (pc, al, st, A, nc, ns) = some (.inl g) := by
    unfold zi_stp
    simp only [h1, h2]
  show (match zi_stp call sl M (pc, al, st, A, nc, ns) with | some (.inl g) => bif zi_up (pc, al, st, A, nc, ns) g then some g else none | _ => none) = some g
  rw [e]
  dsimp only
  rw [h3]
  rfl
theorem zi_loop_e {call : zi_K} {M : zi_M} {pc : Nat} {al : List (Nat × zi_V)} {st : List zi_V} {A : List zi_C} {nc ns : Nat} {i : Instr} {n : Nat} {o : List Nat} {v : Option zi_V} (h1 : zi_lk2 pc M.2.2.2.2.1 = some (i, n, o)) (h2 : zi_do call [] M.2.2.1 M.2.2.2.1 pc al st A nc ns i n o = some (.inr v)) (h3 : zi_isr i = true) : zi_loop call M 1 (pc, al, st, A, nc, ns) = some (v, A, nc, ns) := by
  have e : zi_stp call [] M (pc, al, st, A, nc, ns) = some (.inr v) := by
    unfold zi_stp
    simp only [h1, h2, h3, cond_true]
  show (match zi_stp call [] M (pc, al, st, A, nc, ns) with | some (.inl g) => bif zi_up (pc, al, st, A, nc, ns) g then zi_loop call M 0 g else none | some (.inr v) => some (v, A, nc, ns) | none => none) = some (v, A, nc, ns)
  rw [e]
theorem zi_rc_end {call : zi_K} {M : zi_M} {f g : zi_F} {B n : Nat} {r : zi_R} (h : zi_rc call M f g B) (h2 : zi_loop call M 1 g = some r) (hn : B + 1 ≤ n) : zi_loop call M n f = some r := by
  obtain ⟨j, hj, e⟩ := h
  exact zi_loop_up (1 + j) n (zi_loop_run j 1 e h2) (by omega)
theorem zi_if1_s {c : ClassFile.Cond} {pc n : Nat} {al : List (Nat × zi_V)} {r : List zi_V} {A : List zi_C} {nc ns tgt : Nat} {v : zi_V} (q : Bool) (h : zi_test c v (.inl (.int 0)) = some q) : zi_if1 c pc n al (v :: r) A nc ns tgt = some (.inl (bif q then tgt else pc + n, al, r, A, nc, ns)) := by
  show zi_br pc n al r A nc ns tgt (zi_test c v (.inl (.int 0))) = _
  rw [h]
  cases q <;> rfl
theorem zi_if2_s {c : ClassFile.Cond} {pc n : Nat} {al : List (Nat × zi_V)} {r : List zi_V} {A : List zi_C} {nc ns tgt : Nat} {v w : zi_V} (q : Bool) (h : zi_test c v w = some q) : zi_if2 c pc n al (w :: v :: r) A nc ns tgt = some (.inl (bif q then tgt else pc + n, al, r, A, nc, ns)) := by
  show zi_br pc n al r A nc ns tgt (zi_test c v w) = _
  rw [h]
  cases q <;> rfl
theorem zi_get_s {pc n : Nat} {al : List (Nat × zi_V)} {rest : List zi_V} {A : List zi_C} {nc ns r ci k : Nat} {fs : List zi_V} {v : zi_V} (hr : Nat.ble 10 r = true) (h : A[r - 10]? = some (.inl (ci, fs))) (hv : fs[k]? = some v) : zi_get pc n al (.inl (.ref r) :: rest) A nc ns ci k = some (.inl (pc + n, al, v :: rest, A, nc, ns)) := by
  unfold zi_get
  dsimp only
  rw [hr, h]
  dsimp only [cond]
  rw [Nat.beq_refl, hv]
theorem zi_put_s {pc n : Nat} {al : List (Nat × zi_V)} {rest : List zi_V} {A : List zi_C} {nc ns r ci k : Nat} {fs : List zi_V} {v : zi_V} (hr : Nat.ble 10 r = true) (h : A[r - 10]? = some (.inl (ci, fs))) (hl : k < fs.length) (hf : zi_fit (zi_ty ci k) v = true) : zi_put pc n al (v :: .inl (.ref r) :: rest) A nc ns ci k = some (.inl (pc + n, al, rest, A.set (r - 10) (.inl (ci, fs.set k v)), nc, ns)) := by
  unfold zi_put
  dsimp only
  rw [hr, h]
  dsimp only [cond]
  rw [Nat.beq_refl, hf, Nat.ble_eq_true_of_le (show k + 1 ≤ fs.length from hl)]
  rfl
theorem zi_len_s {sl : List zi_V} {pc n : Nat} {al : List (Nat × zi_V)} {rest : List zi_V} {A : List zi_C} {nc ns r t N : Nat} {d : zi_V} {us : List (Nat × zi_V)} (hr : Nat.ble 10 r = true) (h : A[r - 10]? = some (.inr (t, N, d, us))) (ht : Nat.ble t 6 = true) : zi_len sl pc n al (.inl (.ref r) :: rest) A nc ns = some (.inl (pc + n, al, .inl (.int (Int32.ofNat N)) :: rest, A, nc, ns)) := by
  unfold zi_len
  dsimp only
  rw [hr, h]
  dsimp only [cond]
  rw [ht]
theorem zi_ast_s {pc n : Nat} {al : List (Nat × zi_V)} {rest : List zi_V} {A : List zi_C} {nc ns r t N : Nat} {d v : zi_V} {us : List (Nat × zi_V)} {x : Int32} (hr : Nat.ble 10 r = true) (h : A[r - 10]? = some (.inr (t, N, d, us))) (hi : zi_in x N = true) (hv : zi_sok t v = true) : zi_ast t pc n al (v :: .inl (.int x) :: .inl (.ref r) :: rest) A nc ns = some (.inl (pc + n, al, rest, A.set (r - 10) (.inr (t, N, d, (x.toNatClampNeg, v) :: us)), nc, ns)) := by
  unfold zi_ast
  dsimp only
  rw [hr, h]
  dsimp only [cond]
  rw [Nat.beq_refl, hi, hv]
  rfl
theorem zi_rcv_s {A : List zi_C} {r ci : Nat} {fs : List zi_V} (hr : Nat.ble 10 r = true) (h : A[r - 10]? = some (.inl (ci, fs))) : zi_rcv A ci (some (.inl (.ref r))) = true := by
  unfold zi_rcv
  dsimp only
  rw [hr, h]
  dsimp only [cond]
  rw [Nat.beq_refl]
theorem zi_inv_s {call : zi_K} {pc n : Nat} {al : List (Nat × zi_V)} {st : List zi_V} {A A' : List zi_C} {nc ns mi k c1 c2 : Nat} {v : zi_V} (h1 : (Nat.ble k st.length && Nat.ble (zi_cats (st.drop k)) 8) = true) (h2 : call mi (st.take k).reverse A = some (some v, A', c1, c2)) : zi_inv call pc n al st A nc ns mi k = some (.inl (pc + n, al, v :: st.drop k, A', nc + c1, ns + c2)) := by
  unfold zi_inv
  rw [h1]
  dsimp only [cond]
  rw [h2]
theorem zi_inv_n {call : zi_K} {pc n : Nat} {al : List (Nat × zi_V)} {st : List zi_V} {A A' : List zi_C} {nc ns mi k c1 c2 : Nat} (h1 : (Nat.ble k st.length && Nat.ble (zi_cats (st.drop k)) 8) = true) (h2 : call mi (st.take k).reverse A = some (none, A', c1, c2)) : zi_inv call pc n al st A nc ns mi k = some (.inl (pc + n, al, st.drop k, A', nc + c1, ns + c2)) := by
  unfold zi_inv
  rw [h1]
  dsimp only [cond]
  rw [h2]
theorem zi_ivv {call : zi_K} {sl : List zi_V} {nL : Nat} {ret : Option FieldType} {pc n : Nat} {al : List (Nat × zi_V)} {st : List zi_V} {A : List zi_C} {nc ns mi k ci j : Nat} {o : List Nat} {g : zi_F} (hk : Nat.ble 1 k = true) (hr : zi_rcv A ci st[k - 1]? = true) (hi : zi_inv call pc n al st A nc ns mi k = some (.inl g)) : zi_do call sl nL ret pc al st A nc ns (.invokevirtual j) n (mi :: k :: ci :: o) = some (.inl g) := by
  show (bif Nat.ble 1 k && zi_rcv A ci st[k - 1]? then zi_inv call pc n al st A nc ns mi k else none) = some (.inl g)
  rw [hk, hr]
  exact hi
theorem zi_ald_s {sl : List zi_V} {pc n : Nat} {al : List (Nat × zi_V)} {rest : List zi_V} {A : List zi_C} {nc ns j : Nat} {x : Int32} {v : zi_V} (hi : zi_in x sl.length = true) (hx : x.toNatClampNeg = j) (hv : sl[j]? = some v) : zi_ald 0 sl pc n al (.inl (.int x) :: .inl (.ref 8) :: rest) A nc ns = some (.inl (pc + n, al, v :: rest, A, nc, ns)) := by
  unfold zi_ald
  dsimp only
  rw [hi, hx, hv]
  rfl
theorem zi_tlt (x y : Int32) : zi_test .lt (.inl (.int x)) (.inl (.int y)) = some (decide (x < y)) := by
  show (bif decide (x < y) then some true else bif decide (y ≤ x) then some false else none) = _
  by_cases h : x < y
  · simp [h]
  · have h2 : y ≤ x := Int32.not_lt.mp h
    simp [h, h2]
theorem zi_tgt (x y : Int32) : zi_test .gt (.inl (.int x)) (.inl (.int y)) = some (decide (y < x)) := zi_tlt y x
theorem zi_tge (x y : Int32) : zi_test .ge (.inl (.int x)) (.inl (.int y)) = some (decide (y ≤ x)) := by
  show (bif decide (y ≤ x) then some true else bif decide (x < y) then some false else none) = _
  by_cases h : y ≤ x
  · simp [h]
  · have h2 : x < y := Int32.not_le.mp h
    simp [h, h2]
theorem zi_teq (x y : Int32) : zi_test .eq (.inl (.int x)) (.inl (.int y)) = some (decide (x = y)) := by
  show (bif decide (x < y) || decide (y < x) then some false else bif decide (x = x) && decide (y = y) && decide (x = y) then some true else none) = _
  by_cases h : x = y
  · subst h
    simp [Int32.lt_irrefl]
  · have h2 : x < y ∨ y < x := by
      rcases Int32.lt_or_le (a := x) (b := y) with z | z
      · exact Or.inl z
      · exact Or.inr (Int32.lt_of_le_of_ne z (fun e => h e.symm))
    rcases h2 with z | z <;> simp [z, h]
/-! The bytes. -/
def zi_by (v : Int64) (k : Int32) : Int32 := ((v.toUInt64 >>> (k.toInt64.toUInt64 &&& Int64.toUInt64 63)).toInt64 &&& Int64.ofNat 255).toInt32
def zi_bm (v : Int64) (k : Int32) : Int32 := (v >>> (k.toInt64 &&& 63)).toInt32 &&& (Int16.ofInt 255).toInt32
theorem zi_255 (i : Nat) : Nat.testBit 255 i = decide (i < 8) := Nat.testBit_two_pow_sub_one 8 i
theorem zi_byt (v : Int64) (s : UInt64) (t : Int64) (a : Nat) (ha : a ≤ 56) (hs : s.toNat % 64 = a) (ht : (t.toBitVec.smod 64).toNat = a) : ((v.toUInt64 >>> s).toInt64 &&& Int64.ofNat 255).toInt32 = (v >>> t).toInt32 &&& (Int16.ofInt 255).toInt32 := by
  have e1 : ((v.toUInt64 >>> s).toInt64 &&& Int64.ofNat 255).toBitVec = (v.toBitVec >>> a) &&& 255#64 := by
    show (v.toBitVec >>> (s % 64).toBitVec) &&& 255#64 = _
    rw [BitVec.ushiftRight_eq', show (s % 64).toBitVec.toNat = a from (UInt64.toNat_mod s 64).trans hs]
  have e2 : (v >>> t).toBitVec = v.toBitVec.sshiftRight a := by
    show v.toBitVec.sshiftRight' (t.toBitVec.smod 64) = _
    rw [BitVec.sshiftRight_eq', ht]
  have e3 : (Int16.ofInt 255).toInt32.toBitVec = 255#32 := by decide
  apply Int32.toBitVec_inj.mp
  rw [Int64.toBitVec_toInt32, Int32.toBitVec_and, Int64.toBitVec_toInt32, e1, e2, e3]
  apply BitVec.eq_of_getLsbD_eq
  intro i hi
  rw [BitVec.getLsbD_and, BitVec.getLsbD_signExtend, BitVec.getLsbD_signExtend, BitVec.getLsbD_and, BitVec.getLsbD_ushiftRight, BitVec.getLsbD_sshiftRight, BitVec.getLsbD_ofNat, BitVec.getLsbD_ofNat, zi_255]
  by_cases h8 : i < 8
  · have h64 : i < 64 := by omega
    have h1 : a + i < 64 := by omega
    have h2 : ¬ 64 ≤ i := by omega
    simp [h8, hi, h64, h1, h2]
  · have h64 : i < 64 := by omega
    simp [h8, hi, h64]
def zi_fb (c : Int32) : Bool := decide (c = 10) || (!decide (c < 32) && !decide (126 < c))
/-- the length behind a byte -/
def zi_av (c : Int32) (j : Nat) : Nat := bif zi_fb c then j + 1 else j
theorem zi_av_le (c : Int32) (j : Nat) : zi_av c j ≤ j + 1 := by
  unfold zi_av
  cases zi_fb c with
  | true => exact Nat.le_refl _
  | false => exact Nat.le_succ j
def zi_sg (v : Int64) (j : Nat) : Nat := zi_av (zi_by v 0) (zi_av (zi_by v 8) (zi_av (zi_by v 16) (zi_av (zi_by v 24) (zi_av (zi_by v 32) (zi_av (zi_by v 40) (zi_av (zi_by v 48) (zi_av (zi_by v 56) j)))))))
/-- an object with a row and how much of it is used; nothing else changes -/
def zi_Pq (io ia ci t ka kf : Nat) (A : List zi_C) (j : Nat) : Prop := (∃ fs : List zi_V, A[io]? = some (.inl (ci, fs)) ∧ fs[ka]? = some (.inl (.ref (10 + ia))) ∧ fs[kf]? = some (.inl (.int (nI j)))) ∧ ∃ us : List (Nat × zi_V), A[ia]? = some (.inr (t, 1000, .inl (.int 0), us))
def zi_Kq (io ia : Nat) (A A' : List zi_C) : Prop := ∀ i, i ≠ io → i ≠ ia → A'[i]? = A[i]?
theorem zi_Kq_t {io ia : Nat} {A B C : List zi_C} (h1 : zi_Kq io ia A B) (h2 : zi_Kq io ia B C) : zi_Kq io ia A C := fun i a b => (h2 i a b).trans (h1 i a b)
theorem zi_Pq_put {io ia ci t ka kf : Nat} {A : List zi_C} {j : Nat} {fs : List zi_V} {us : List (Nat × zi_V)} (hio : io ≠ ia) (hka : ka ≠ kf) (h1 : A[io]? = some (.inl (ci, fs))) (h2 : fs[ka]? = some (.inl (.ref (10 + ia)))) (h3 : fs[kf]? = some (.inl (.int (nI j)))) (h4 : A[ia]? = some (.inr (t, 1000, .inl (.int 0), us))) (u : Nat × zi_V) {w : Int32} (hw : w = nI (j + 1)) :
    zi_Pq io ia ci t ka kf ((A.set ia (.inr (t, 1000, .inl (.int 0), u :: us))).set io (.inl (ci, fs.set kf (.inl (.int w))))) (j + 1) ∧ zi_Kq io ia A ((A.set ia (.inr (t, 1000, .inl (.int 0), u :: us))).set io (.inl (ci, fs.set kf (.inl (.int w))))) := by
  have l1 : io < A.length := (List.getElem?_eq_some_iff.mp h1).1
  have l4 : ia < A.length := (List.getElem?_eq_some_iff.mp h4).1
  have l3 : kf < fs.length := (List.getElem?_eq_some_iff.mp h3).1
  subst hw
  refine ⟨⟨⟨fs.set kf (.inl (.int (nI (j + 1)))), ?_, ?_, ?_⟩, ⟨u :: us, ?_⟩⟩, fun i hi hi' => ?_⟩
  · simp [l1]
  · rw [List.getElem?_set_ne (fun z => hka z.symm)]; exact h2
  · simp [l3]
  · rw [List.getElem?_set_ne hio]; simp [l4]
  · rw [List.getElem?_set_ne (fun z => hi z.symm), List.getElem?_set_ne (fun z => hi' z.symm)]
theorem zi_in_nI {j N : Nat} (h : j < N) (hN : N < 2 ^ 31) : zi_in (nI j) N = true := by
  unfold zi_in
  rw [nI_clamp (by omega), Nat.ble_eq_true_of_le (show j + 1 ≤ N from h)]
  simp [nI_pos (show j < 2 ^ 31 by omega)]
theorem zi_fit_int (y : Int32) : zi_fit .int (.inl (.int y)) = true := by
  show (decide (narrow .int (.int y) = .int y) && fits .int (.int y)) = true
  rw [decide_eq_true (vp_nar_int y)]
  rfl
theorem zi_sok_c (c : Int32) : zi_sok 3 (.inl (.int (c.toUInt32 % 65536).toInt32)) = true := decide_eq_true (pk_nc c)
theorem zi_c10 : (Int8.ofInt 10).toInt32 = 10 := by decide
theorem zi_c32 : (Int8.ofInt 32).toInt32 = 32 := by decide
theorem zi_c126 : (Int8.ofInt 126).toInt32 = 126 := by decide
theorem zi_c56 : (Int8.ofInt 56).toInt32 = 56 := by decide
theorem zi_c1000 : (Int16.ofInt 1000).toInt32 = nI 1000 := by decide
theorem zi_k1000 : Int32.ofNat 1000 = nI 1000 := rfl
theorem zi_one (j : Nat) : nI j + Int32.ofInt 1 = nI (j + 1) := by rw [nI_succ]; rfl
/-! putBytes: from the loop's head to the first compare; the compares; the store. -/
theorem zi_pA1 {call : zi_K} (v : Int64) (k : Int32) (A : List zi_C) (hk : zi_test .lt (.inl (.int k)) (.inl (.int 0)) = some false) : zi_rc call zi_m40 (3, [(3, .inl (.int k)), (0, .inl (.ref 12)), (1, .inl (.long v))], [], A, 0, 0) (21, [(4, .inl (.int (zi_by v k))), (3, .inl (.int k)), (0, .inl (.ref 12)), (1, .inl (.long v))], [.inl (.int (Int8.ofInt 10).toInt32), .inl (.int (zi_by v k))], A, 0, 0) 11 := by
  refine zi_rc_c (zi_run_1 (g := (4, [(3, .inl (.int k)), (0, .inl (.ref 12)), (1, .inl (.long v))], [.inl (.int k)], A, 0, 0)) rfl rfl rfl) ?_
  refine zi_rc_c (zi_run_1 (g := (7, [(3, .inl (.int k)), (0, .inl (.ref 12)), (1, .inl (.long v))], [], A, 0, 0)) rfl (show zi_if1 .lt 4 3 ([(3, .inl (.int k)), (0, .inl (.ref 12)), (1, .inl (.long v))]) [.inl (.int k)] A 0 0 90 = some (.inl (7, [(3, .inl (.int k)), (0, .inl (.ref 12)), (1, .inl (.long v))], [], A, 0, 0)) from zi_if1_s false hk) rfl) ?_
  refine zi_rc_c (zi_run_1 (g := (8, [(3, .inl (.int k)), (0, .inl (.ref 12)), (1, .inl (.long v))], [.inl (.long v)], A, 0, 0)) rfl rfl rfl) ?_
  refine zi_rc_c (zi_run_1 (g := (9, [(3, .inl (.int k)), (0, .inl (.ref 12)), (1, .inl (.long v))], [.inl (.int k), .inl (.long v)], A, 0, 0)) rfl rfl rfl) ?_
  refine zi_rc_c (zi_run_1 (g := (10, [(3, .inl (.int k)), (0, .inl (.ref 12)), (1, .inl (.long v))], [.inl (.long (v.toUInt64 >>> (k.toInt64.toUInt64 &&& Int64.toUInt64 63)).toInt64)], A, 0, 0)) rfl rfl rfl) ?_
  refine zi_rc_c (zi_run_1 (g := (13, [(3, .inl (.int k)), (0, .inl (.ref 12)), (1, .inl (.long v))], [.inl (.long (Int64.ofNat 255)), .inl (.long (v.toUInt64 >>> (k.toInt64.toUInt64 &&& Int64.toUInt64 63)).toInt64)], A, 0, 0)) rfl rfl rfl) ?_
  refine zi_rc_c (zi_run_1 (g := (14, [(3, .inl (.int k)), (0, .inl (.ref 12)), (1, .inl (.long v))], [.inl (.long ((v.toUInt64 >>> (k.toInt64.toUInt64 &&& Int64.toUInt64 63)).toInt64 &&& Int64.ofNat 255))], A, 0, 0)) rfl rfl rfl) ?_
  refine zi_rc_c (zi_run_1 (g := (15, [(3, .inl (.int k)), (0, .inl (.ref 12)), (1, .inl (.long v))], [.inl (.int (zi_by v k))], A, 0, 0)) rfl rfl rfl) ?_
  refine zi_rc_c (zi_run_1 (g := (17, [(4, .inl (.int (zi_by v k))), (3, .inl (.int k)), (0, .inl (.ref 12)), (1, .inl (.long v))], [], A, 0, 0)) rfl rfl rfl) ?_
  refine zi_rc_c (zi_run_1 (g := (19, [(4, .inl (.int (zi_by v k))), (3, .inl (.int k)), (0, .inl (.ref 12)), (1, .inl (.long v))], [.inl (.int (zi_by v k))], A, 0, 0)) rfl rfl rfl) ?_
  refine zi_rc_c (zi_run_1 (g := (21, [(4, .inl (.int (zi_by v k))), (3, .inl (.int k)), (0, .inl (.ref 12)), (1, .inl (.long v))], [.inl (.int (Int8.ofInt 10).toInt32), .inl (.int (zi_by v k))], A, 0, 0)) rfl rfl rfl) ?_
  exact zi_rc_0
theorem zi_pA2 {call : zi_K} (v : Int64) (k : Int32) (A : List zi_C) (f d : zi_V) (hk : zi_test .lt (.inl (.int k)) (.inl (.int 0)) = some false) : zi_rc call zi_m40 (3, [(3, .inl (.int k)), (5, f), (4, d), (0, .inl (.ref 12)), (1, .inl (.long v))], [], A, 0, 0) (21, [(4, .inl (.int (zi_by v k))), (3, .inl (.int k)), (5, f), (0, .inl (.ref 12)), (1, .inl (.long v))], [.inl (.int (Int8.ofInt 10).toInt32), .inl (.int (zi_by v k))], A, 0, 0) 11 := by
  refine zi_rc_c (zi_run_1 (g := (4, [(3, .inl (.int k)), (5, f), (4, d), (0, .inl (.ref 12)), (1, .inl (.long v))], [.inl (.int k)], A, 0, 0)) rfl rfl rfl) ?_
  refine zi_rc_c (zi_run_1 (g := (7, [(3, .inl (.int k)), (5, f), (4, d), (0, .inl (.ref 12)), (1, .inl (.long v))], [], A, 0, 0)) rfl (show zi_if1 .lt 4 3 ([(3, .inl (.int k)), (5, f), (4, d), (0, .inl (.ref 12)), (1, .inl (.long v))]) [.inl (.int k)] A 0 0 90 = some (.inl (7, [(3, .inl (.int k)), (5, f), (4, d), (0, .inl (.ref 12)), (1, .inl (.long v))], [], A, 0, 0)) from zi_if1_s false hk) rfl) ?_
  refine zi_rc_c (zi_run_1 (g := (8, [(3, .inl (.int k)), (5, f), (4, d), (0, .inl (.ref 12)), (1, .inl (.long v))], [.inl (.long v)], A, 0, 0)) rfl rfl rfl) ?_
  refine zi_rc_c (zi_run_1 (g := (9, [(3, .inl (.int k)), (5, f), (4, d), (0, .inl (.ref 12)), (1, .inl (.long v))], [.inl (.int k), .inl (.long v)], A, 0, 0)) rfl rfl rfl) ?_
  refine zi_rc_c (zi_run_1 (g := (10, [(3, .inl (.int k)), (5, f), (4, d), (0, .inl (.ref 12)), (1, .inl (.long v))], [.inl (.long (v.toUInt64 >>> (k.toInt64.toUInt64 &&& Int64.toUInt64 63)).toInt64)], A, 0, 0)) rfl rfl rfl) ?_
  refine zi_rc_c (zi_run_1 (g := (13, [(3, .inl (.int k)), (5, f), (4, d), (0, .inl (.ref 12)), (1, .inl (.long v))], [.inl (.long (Int64.ofNat 255)), .inl (.long (v.toUInt64 >>> (k.toInt64.toUInt64 &&& Int64.toUInt64 63)).toInt64)], A, 0, 0)) rfl rfl rfl) ?_
  refine zi_rc_c (zi_run_1 (g := (14, [(3, .inl (.int k)), (5, f), (4, d), (0, .inl (.ref 12)), (1, .inl (.long v))], [.inl (.long ((v.toUInt64 >>> (k.toInt64.toUInt64 &&& Int64.toUInt64 63)).toInt64 &&& Int64.ofNat 255))], A, 0, 0)) rfl rfl rfl) ?_
  refine zi_rc_c (zi_run_1 (g := (15, [(3, .inl (.int k)), (5, f), (4, d), (0, .inl (.ref 12)), (1, .inl (.long v))], [.inl (.int (zi_by v k))], A, 0, 0)) rfl rfl rfl) ?_
  refine zi_rc_c (zi_run_1 (g := (17, [(4, .inl (.int (zi_by v k))), (3, .inl (.int k)), (5, f), (0, .inl (.ref 12)), (1, .inl (.long v))], [], A, 0, 0)) rfl rfl rfl) ?_
  refine zi_rc_c (zi_run_1 (g := (19, [(4, .inl (.int (zi_by v k))), (3, .inl (.int k)), (5, f), (0, .inl (.ref 12)), (1, .inl (.long v))], [.inl (.int (zi_by v k))], A, 0, 0)) rfl rfl rfl) ?_
  refine zi_rc_c (zi_run_1 (g := (21, [(4, .inl (.int (zi_by v k))), (3, .inl (.int k)), (5, f), (0, .inl (.ref 12)), (1, .inl (.long v))], [.inl (.int (Int8.ofInt 10).toInt32), .inl (.int (zi_by v k))], A, 0, 0)) rfl rfl rfl) ?_
  exact zi_rc_0
theorem zi_pB {call : zi_K} (v : Int64) (c k : Int32) (Y : List (Nat × zi_V)) (A : List zi_C) (hY : zi_del1 5 Y = (0, .inl (.ref 12)) :: (1, .inl (.long v)) :: []) : zi_rc call zi_m40 (21, (4, .inl (.int c)) :: (3, .inl (.int k)) :: Y, [.inl (.int (Int8.ofInt 10).toInt32), .inl (.int c)], A, 0, 0) (45, (5, .inl (.int (Int32.ofInt (bif zi_fb c then 1 else 0)))) :: (4, .inl (.int c)) :: (3, .inl (.int k)) :: (0, .inl (.ref 12)) :: (1, .inl (.long v)) :: [], [], A, 0, 0) 12 := by
  by_cases h10 : c = 10
  · refine zi_rc_c (zi_run_1 (g := (38, (4, .inl (.int c)) :: (3, .inl (.int k)) :: Y, [], A, 0, 0)) rfl (zi_if2_s true (by rw [zi_c10, zi_teq]; simp [h10])) rfl) ?_
    refine zi_rc_c (zi_run_1 (g := (39, (4, .inl (.int c)) :: (3, .inl (.int k)) :: Y, [.inl (.int (Int32.ofInt 1))], A, 0, 0)) rfl rfl rfl) ?_
    refine zi_rc_c (zi_run_1 (g := (43, (4, .inl (.int c)) :: (3, .inl (.int k)) :: Y, [.inl (.int (Int32.ofInt 1))], A, 0, 0)) rfl rfl rfl) ?_
    rw [show zi_fb c = true by unfold zi_fb; simp [*]]
    rw [← hY]
    refine zi_rc_c (zi_run_1 (g := (45, (5, .inl (.int (Int32.ofInt 1))) :: (4, .inl (.int c)) :: (3, .inl (.int k)) :: zi_del1 5 Y, [], A, 0, 0)) rfl rfl rfl) ?_
    exact zi_rc_0
  · refine zi_rc_c (zi_run_1 (g := (24, (4, .inl (.int c)) :: (3, .inl (.int k)) :: Y, [], A, 0, 0)) rfl (zi_if2_s false (by rw [zi_c10, zi_teq]; simp [h10])) rfl) ?_
    refine zi_rc_c (zi_run_1 (g := (26, (4, .inl (.int c)) :: (3, .inl (.int k)) :: Y, [.inl (.int c)], A, 0, 0)) rfl rfl rfl) ?_
    refine zi_rc_c (zi_run_1 (g := (28, (4, .inl (.int c)) :: (3, .inl (.int k)) :: Y, [.inl (.int (Int8.ofInt 32).toInt32), .inl (.int c)], A, 0, 0)) rfl rfl rfl) ?_
    by_cases h32 : c < 32
    · refine zi_rc_c (zi_run_1 (g := (42, (4, .inl (.int c)) :: (3, .inl (.int k)) :: Y, [], A, 0, 0)) rfl (zi_if2_s true (by rw [zi_c32, zi_tlt]; simp [h32])) rfl) ?_
      refine zi_rc_c (zi_run_1 (g := (43, (4, .inl (.int c)) :: (3, .inl (.int k)) :: Y, [.inl (.int (Int32.ofInt 0))], A, 0, 0)) rfl rfl rfl) ?_
      rw [show zi_fb c = false by unfold zi_fb; simp [*]]
      rw [← hY]
      refine zi_rc_c (zi_run_1 (g := (45, (5, .inl (.int (Int32.ofInt 0))) :: (4, .inl (.int c)) :: (3, .inl (.int k)) :: zi_del1 5 Y, [], A, 0, 0)) rfl rfl rfl) ?_
      exact zi_rc_0
    · refine zi_rc_c (zi_run_1 (g := (31, (4, .inl (.int c)) :: (3, .inl (.int k)) :: Y, [], A, 0, 0)) rfl (zi_if2_s false (by rw [zi_c32, zi_tlt]; simp [h32])) rfl) ?_
      refine zi_rc_c (zi_run_1 (g := (33, (4, .inl (.int c)) :: (3, .inl (.int k)) :: Y, [.inl (.int c)], A, 0, 0)) rfl rfl rfl) ?_
      refine zi_rc_c (zi_run_1 (g := (35, (4, .inl (.int c)) :: (3, .inl (.int k)) :: Y, [.inl (.int (Int8.ofInt 126).toInt32), .inl (.int c)], A, 0, 0)) rfl rfl rfl) ?_
      by_cases h126 : 126 < c
      · refine zi_rc_c (zi_run_1 (g := (42, (4, .inl (.int c)) :: (3, .inl (.int k)) :: Y, [], A, 0, 0)) rfl (zi_if2_s true (by rw [zi_c126, zi_tgt]; simp [h126])) rfl) ?_
        refine zi_rc_c (zi_run_1 (g := (43, (4, .inl (.int c)) :: (3, .inl (.int k)) :: Y, [.inl (.int (Int32.ofInt 0))], A, 0, 0)) rfl rfl rfl) ?_
        rw [show zi_fb c = false by unfold zi_fb; simp [*]]
        rw [← hY]
        refine zi_rc_c (zi_run_1 (g := (45, (5, .inl (.int (Int32.ofInt 0))) :: (4, .inl (.int c)) :: (3, .inl (.int k)) :: zi_del1 5 Y, [], A, 0, 0)) rfl rfl rfl) ?_
        exact zi_rc_0
      · refine zi_rc_c (zi_run_1 (g := (38, (4, .inl (.int c)) :: (3, .inl (.int k)) :: Y, [], A, 0, 0)) rfl (zi_if2_s false (by rw [zi_c126, zi_tgt]; simp [h126])) rfl) ?_
        refine zi_rc_c (zi_run_1 (g := (39, (4, .inl (.int c)) :: (3, .inl (.int k)) :: Y, [.inl (.int (Int32.ofInt 1))], A, 0, 0)) rfl rfl rfl) ?_
        refine zi_rc_c (zi_run_1 (g := (43, (4, .inl (.int c)) :: (3, .inl (.int k)) :: Y, [.inl (.int (Int32.ofInt 1))], A, 0, 0)) rfl rfl rfl) ?_
        rw [show zi_fb c = true by unfold zi_fb; simp [*]]
        rw [← hY]
        refine zi_rc_c (zi_run_1 (g := (45, (5, .inl (.int (Int32.ofInt 1))) :: (4, .inl (.int c)) :: (3, .inl (.int k)) :: zi_del1 5 Y, [], A, 0, 0)) rfl rfl rfl) ?_
        exact zi_rc_0
theorem zi_pC0 {call : zi_K} (v : Int64) (c k : Int32) (A : List zi_C) : zi_rc call zi_m40 (45, (5, .inl (.int (Int32.ofInt 0))) :: (4, .inl (.int c)) :: (3, .inl (.int k)) :: (0, .inl (.ref 12)) :: (1, .inl (.long v)) :: [], [], A, 0, 0) (3, (3, .inl (.int (k + Int32.ofInt (-8)))) :: (5, .inl (.int (Int32.ofInt 0))) :: (4, .inl (.int c)) :: (0, .inl (.ref 12)) :: (1, .inl (.long v)) :: [], [], A, 0, 0) 4 := by
  refine zi_rc_c (zi_run_1 (g := (47, (5, .inl (.int (Int32.ofInt 0))) :: (4, .inl (.int c)) :: (3, .inl (.int k)) :: (0, .inl (.ref 12)) :: (1, .inl (.long v)) :: [], [.inl (.int (Int32.ofInt 0))], A, 0, 0)) rfl rfl rfl) ?_
  refine zi_rc_c (zi_run_1 (g := (84, (5, .inl (.int (Int32.ofInt 0))) :: (4, .inl (.int c)) :: (3, .inl (.int k)) :: (0, .inl (.ref 12)) :: (1, .inl (.long v)) :: [], [], A, 0, 0)) rfl (show zi_if1 .eq 47 3 ((5, .inl (.int (Int32.ofInt 0))) :: (4, .inl (.int c)) :: (3, .inl (.int k)) :: (0, .inl (.ref 12)) :: (1, .inl (.long v)) :: []) [.inl (.int (Int32.ofInt 0))] A 0 0 84 = some (.inl (84, (5, .inl (.int (Int32.ofInt 0))) :: (4, .inl (.int c)) :: (3, .inl (.int k)) :: (0, .inl (.ref 12)) :: (1, .inl (.long v)) :: [], [], A, 0, 0)) from zi_if1_s true (by decide +kernel)) rfl) ?_
  refine zi_rc_c (zi_run_1 (g := (87, (3, .inl (.int (k + Int32.ofInt (-8)))) :: (5, .inl (.int (Int32.ofInt 0))) :: (4, .inl (.int c)) :: (0, .inl (.ref 12)) :: (1, .inl (.long v)) :: [], [], A, 0, 0)) rfl rfl rfl) ?_
  refine zi_rc_c (zi_run_1 (g := (3, (3, .inl (.int (k + Int32.ofInt (-8)))) :: (5, .inl (.int (Int32.ofInt 0))) :: (4, .inl (.int c)) :: (0, .inl (.ref 12)) :: (1, .inl (.long v)) :: [], [], A, 0, 0)) rfl rfl rfl) ?_
  exact zi_rc_0
theorem zi_pC1 {call : zi_K} (v : Int64) (c k : Int32) (A : List zi_C) {j : Nat} (hj : j < 1000) (hP : zi_Pq 2 3 2 3 0 5 A j) : ∃ A', zi_Pq 2 3 2 3 0 5 A' (j + 1) ∧ zi_Kq 2 3 A A' ∧ zi_rc call zi_m40 (45, (5, .inl (.int (Int32.ofInt 1))) :: (4, .inl (.int c)) :: (3, .inl (.int k)) :: (0, .inl (.ref 12)) :: (1, .inl (.long v)) :: [], [], A, 0, 0) (3, (3, .inl (.int (k + Int32.ofInt (-8)))) :: (5, .inl (.int (Int32.ofInt 1))) :: (4, .inl (.int c)) :: (0, .inl (.ref 12)) :: (1, .inl (.long v)) :: [], [], A', 0, 0) 24 := by
  obtain ⟨⟨fs, h1, h2, h3⟩, us, h4⟩ := hP
  have l3 : 5 < fs.length := (List.getElem?_eq_some_iff.mp h3).1
  have hQ := zi_Pq_put (io := 2) (ia := 3) (ka := 0) (kf := 5) (by decide) (by decide) h1 h2 h3 h4 ((nI j).toNatClampNeg, .inl (.int (c.toUInt32 % 65536).toInt32)) (zi_one j)
  have h5 : (A.set 3 (.inr (3, 1000, .inl (.int 0), ((nI j).toNatClampNeg, .inl (.int (c.toUInt32 % 65536).toInt32)) :: us)))[2]? = some (.inl (2, fs)) := by rw [List.getElem?_set_ne (by decide)]; exact h1
  refine ⟨((A.set 3 (.inr (3, 1000, .inl (.int 0), ((nI j).toNatClampNeg, .inl (.int (c.toUInt32 % 65536).toInt32)) :: us))).set 2 (.inl (2, fs.set 5 (.inl (.int (nI j + Int32.ofInt 1)))))), hQ.1, hQ.2, ?_⟩
  refine zi_rc_c (zi_run_1 (g := (47, (5, .inl (.int (Int32.ofInt 1))) :: (4, .inl (.int c)) :: (3, .inl (.int k)) :: (0, .inl (.ref 12)) :: (1, .inl (.long v)) :: [], [.inl (.int (Int32.ofInt 1))], A, 0, 0)) rfl rfl rfl) ?_
  refine zi_rc_c (zi_run_1 (g := (50, (5, .inl (.int (Int32.ofInt 1))) :: (4, .inl (.int c)) :: (3, .inl (.int k)) :: (0, .inl (.ref 12)) :: (1, .inl (.long v)) :: [], [], A, 0, 0)) rfl (show zi_if1 .eq 47 3 ((5, .inl (.int (Int32.ofInt 1))) :: (4, .inl (.int c)) :: (3, .inl (.int k)) :: (0, .inl (.ref 12)) :: (1, .inl (.long v)) :: []) [.inl (.int (Int32.ofInt 1))] A 0 0 84 = some (.inl (50, (5, .inl (.int (Int32.ofInt 1))) :: (4, .inl (.int c)) :: (3, .inl (.int k)) :: (0, .inl (.ref 12)) :: (1, .inl (.long v)) :: [], [], A, 0, 0)) from zi_if1_s false (by decide +kernel)) rfl) ?_
  refine zi_rc_c (zi_run_1 (g := (51, (5, .inl (.int (Int32.ofInt 1))) :: (4, .inl (.int c)) :: (3, .inl (.int k)) :: (0, .inl (.ref 12)) :: (1, .inl (.long v)) :: [], [.inl (.ref 12)], A, 0, 0)) rfl rfl rfl) ?_
  refine zi_rc_c (zi_run_1 (g := (54, (5, .inl (.int (Int32.ofInt 1))) :: (4, .inl (.int c)) :: (3, .inl (.int k)) :: (0, .inl (.ref 12)) :: (1, .inl (.long v)) :: [], [.inl (.int (nI j))], A, 0, 0)) rfl (show zi_get 51 3 ((5, .inl (.int (Int32.ofInt 1))) :: (4, .inl (.int c)) :: (3, .inl (.int k)) :: (0, .inl (.ref 12)) :: (1, .inl (.long v)) :: []) [.inl (.ref 12)] A 0 0 2 5 = some (.inl (54, (5, .inl (.int (Int32.ofInt 1))) :: (4, .inl (.int c)) :: (3, .inl (.int k)) :: (0, .inl (.ref 12)) :: (1, .inl (.long v)) :: [], [.inl (.int (nI j))], A, 0, 0)) from zi_get_s rfl h1 h3) rfl) ?_
  refine zi_rc_c (zi_run_1 (g := (55, (5, .inl (.int (Int32.ofInt 1))) :: (4, .inl (.int c)) :: (3, .inl (.int k)) :: (0, .inl (.ref 12)) :: (1, .inl (.long v)) :: [], [.inl (.ref 12), .inl (.int (nI j))], A, 0, 0)) rfl rfl rfl) ?_
  refine zi_rc_c (zi_run_1 (g := (58, (5, .inl (.int (Int32.ofInt 1))) :: (4, .inl (.int c)) :: (3, .inl (.int k)) :: (0, .inl (.ref 12)) :: (1, .inl (.long v)) :: [], [.inl (.ref 13), .inl (.int (nI j))], A, 0, 0)) rfl (show zi_get 55 3 ((5, .inl (.int (Int32.ofInt 1))) :: (4, .inl (.int c)) :: (3, .inl (.int k)) :: (0, .inl (.ref 12)) :: (1, .inl (.long v)) :: []) [.inl (.ref 12), .inl (.int (nI j))] A 0 0 2 0 = some (.inl (58, (5, .inl (.int (Int32.ofInt 1))) :: (4, .inl (.int c)) :: (3, .inl (.int k)) :: (0, .inl (.ref 12)) :: (1, .inl (.long v)) :: [], [.inl (.ref 13), .inl (.int (nI j))], A, 0, 0)) from zi_get_s rfl h1 h2) rfl) ?_
  refine zi_rc_c (zi_run_1 (g := (59, (5, .inl (.int (Int32.ofInt 1))) :: (4, .inl (.int c)) :: (3, .inl (.int k)) :: (0, .inl (.ref 12)) :: (1, .inl (.long v)) :: [], [.inl (.int (Int32.ofNat 1000)), .inl (.int (nI j))], A, 0, 0)) rfl (show zi_len [] 58 1 ((5, .inl (.int (Int32.ofInt 1))) :: (4, .inl (.int c)) :: (3, .inl (.int k)) :: (0, .inl (.ref 12)) :: (1, .inl (.long v)) :: []) [.inl (.ref 13), .inl (.int (nI j))] A 0 0 = some (.inl (59, (5, .inl (.int (Int32.ofInt 1))) :: (4, .inl (.int c)) :: (3, .inl (.int k)) :: (0, .inl (.ref 12)) :: (1, .inl (.long v)) :: [], [.inl (.int (Int32.ofNat 1000)), .inl (.int (nI j))], A, 0, 0)) from zi_len_s rfl h4 rfl) rfl) ?_
  refine zi_rc_c (zi_run_1 (g := (62, (5, .inl (.int (Int32.ofInt 1))) :: (4, .inl (.int c)) :: (3, .inl (.int k)) :: (0, .inl (.ref 12)) :: (1, .inl (.long v)) :: [], [], A, 0, 0)) rfl (show zi_if2 .ge 59 3 ((5, .inl (.int (Int32.ofInt 1))) :: (4, .inl (.int c)) :: (3, .inl (.int k)) :: (0, .inl (.ref 12)) :: (1, .inl (.long v)) :: []) [.inl (.int (Int32.ofNat 1000)), .inl (.int (nI j))] A 0 0 84 = some (.inl (62, (5, .inl (.int (Int32.ofInt 1))) :: (4, .inl (.int c)) :: (3, .inl (.int k)) :: (0, .inl (.ref 12)) :: (1, .inl (.long v)) :: [], [], A, 0, 0)) from zi_if2_s false (by rw [zi_k1000, zi_tge]; simp [nI_ge hj (by decide)])) rfl) ?_
  refine zi_rc_c (zi_run_1 (g := (63, (5, .inl (.int (Int32.ofInt 1))) :: (4, .inl (.int c)) :: (3, .inl (.int k)) :: (0, .inl (.ref 12)) :: (1, .inl (.long v)) :: [], [.inl (.ref 12)], A, 0, 0)) rfl rfl rfl) ?_
  refine zi_rc_c (zi_run_1 (g := (66, (5, .inl (.int (Int32.ofInt 1))) :: (4, .inl (.int c)) :: (3, .inl (.int k)) :: (0, .inl (.ref 12)) :: (1, .inl (.long v)) :: [], [.inl (.ref 13)], A, 0, 0)) rfl (show zi_get 63 3 ((5, .inl (.int (Int32.ofInt 1))) :: (4, .inl (.int c)) :: (3, .inl (.int k)) :: (0, .inl (.ref 12)) :: (1, .inl (.long v)) :: []) [.inl (.ref 12)] A 0 0 2 0 = some (.inl (66, (5, .inl (.int (Int32.ofInt 1))) :: (4, .inl (.int c)) :: (3, .inl (.int k)) :: (0, .inl (.ref 12)) :: (1, .inl (.long v)) :: [], [.inl (.ref 13)], A, 0, 0)) from zi_get_s rfl h1 h2) rfl) ?_
  refine zi_rc_c (zi_run_1 (g := (67, (5, .inl (.int (Int32.ofInt 1))) :: (4, .inl (.int c)) :: (3, .inl (.int k)) :: (0, .inl (.ref 12)) :: (1, .inl (.long v)) :: [], [.inl (.ref 12), .inl (.ref 13)], A, 0, 0)) rfl rfl rfl) ?_
  refine zi_rc_c (zi_run_1 (g := (70, (5, .inl (.int (Int32.ofInt 1))) :: (4, .inl (.int c)) :: (3, .inl (.int k)) :: (0, .inl (.ref 12)) :: (1, .inl (.long v)) :: [], [.inl (.int (nI j)), .inl (.ref 13)], A, 0, 0)) rfl (show zi_get 67 3 ((5, .inl (.int (Int32.ofInt 1))) :: (4, .inl (.int c)) :: (3, .inl (.int k)) :: (0, .inl (.ref 12)) :: (1, .inl (.long v)) :: []) [.inl (.ref 12), .inl (.ref 13)] A 0 0 2 5 = some (.inl (70, (5, .inl (.int (Int32.ofInt 1))) :: (4, .inl (.int c)) :: (3, .inl (.int k)) :: (0, .inl (.ref 12)) :: (1, .inl (.long v)) :: [], [.inl (.int (nI j)), .inl (.ref 13)], A, 0, 0)) from zi_get_s rfl h1 h3) rfl) ?_
  refine zi_rc_c (zi_run_1 (g := (72, (5, .inl (.int (Int32.ofInt 1))) :: (4, .inl (.int c)) :: (3, .inl (.int k)) :: (0, .inl (.ref 12)) :: (1, .inl (.long v)) :: [], [.inl (.int c), .inl (.int (nI j)), .inl (.ref 13)], A, 0, 0)) rfl rfl rfl) ?_
  refine zi_rc_c (zi_run_1 (g := (73, (5, .inl (.int (Int32.ofInt 1))) :: (4, .inl (.int c)) :: (3, .inl (.int k)) :: (0, .inl (.ref 12)) :: (1, .inl (.long v)) :: [], [.inl (.int (c.toUInt32 % 65536).toInt32), .inl (.int (nI j)), .inl (.ref 13)], A, 0, 0)) rfl rfl rfl) ?_
  refine zi_rc_c (zi_run_1 (g := (74, (5, .inl (.int (Int32.ofInt 1))) :: (4, .inl (.int c)) :: (3, .inl (.int k)) :: (0, .inl (.ref 12)) :: (1, .inl (.long v)) :: [], [], (A.set 3 (.inr (3, 1000, .inl (.int 0), ((nI j).toNatClampNeg, .inl (.int (c.toUInt32 % 65536).toInt32)) :: us))), 0, 0)) rfl (show zi_ast 3 73 1 ((5, .inl (.int (Int32.ofInt 1))) :: (4, .inl (.int c)) :: (3, .inl (.int k)) :: (0, .inl (.ref 12)) :: (1, .inl (.long v)) :: []) [.inl (.int (c.toUInt32 % 65536).toInt32), .inl (.int (nI j)), .inl (.ref 13)] A 0 0 = some (.inl (74, (5, .inl (.int (Int32.ofInt 1))) :: (4, .inl (.int c)) :: (3, .inl (.int k)) :: (0, .inl (.ref 12)) :: (1, .inl (.long v)) :: [], [], (A.set 3 (.inr (3, 1000, .inl (.int 0), ((nI j).toNatClampNeg, .inl (.int (c.toUInt32 % 65536).toInt32)) :: us))), 0, 0)) from zi_ast_s rfl h4 (zi_in_nI hj (by decide)) (zi_sok_c c)) rfl) ?_
  refine zi_rc_c (zi_run_1 (g := (75, (5, .inl (.int (Int32.ofInt 1))) :: (4, .inl (.int c)) :: (3, .inl (.int k)) :: (0, .inl (.ref 12)) :: (1, .inl (.long v)) :: [], [.inl (.ref 12)], (A.set 3 (.inr (3, 1000, .inl (.int 0), ((nI j).toNatClampNeg, .inl (.int (c.toUInt32 % 65536).toInt32)) :: us))), 0, 0)) rfl rfl rfl) ?_
  refine zi_rc_c (zi_run_1 (g := (76, (5, .inl (.int (Int32.ofInt 1))) :: (4, .inl (.int c)) :: (3, .inl (.int k)) :: (0, .inl (.ref 12)) :: (1, .inl (.long v)) :: [], [.inl (.ref 12), .inl (.ref 12)], (A.set 3 (.inr (3, 1000, .inl (.int 0), ((nI j).toNatClampNeg, .inl (.int (c.toUInt32 % 65536).toInt32)) :: us))), 0, 0)) rfl rfl rfl) ?_
  refine zi_rc_c (zi_run_1 (g := (79, (5, .inl (.int (Int32.ofInt 1))) :: (4, .inl (.int c)) :: (3, .inl (.int k)) :: (0, .inl (.ref 12)) :: (1, .inl (.long v)) :: [], [.inl (.int (nI j)), .inl (.ref 12)], (A.set 3 (.inr (3, 1000, .inl (.int 0), ((nI j).toNatClampNeg, .inl (.int (c.toUInt32 % 65536).toInt32)) :: us))), 0, 0)) rfl (show zi_get 76 3 ((5, .inl (.int (Int32.ofInt 1))) :: (4, .inl (.int c)) :: (3, .inl (.int k)) :: (0, .inl (.ref 12)) :: (1, .inl (.long v)) :: []) [.inl (.ref 12), .inl (.ref 12)] (A.set 3 (.inr (3, 1000, .inl (.int 0), ((nI j).toNatClampNeg, .inl (.int (c.toUInt32 % 65536).toInt32)) :: us))) 0 0 2 5 = some (.inl (79, (5, .inl (.int (Int32.ofInt 1))) :: (4, .inl (.int c)) :: (3, .inl (.int k)) :: (0, .inl (.ref 12)) :: (1, .inl (.long v)) :: [], [.inl (.int (nI j)), .inl (.ref 12)], (A.set 3 (.inr (3, 1000, .inl (.int 0), ((nI j).toNatClampNeg, .inl (.int (c.toUInt32 % 65536).toInt32)) :: us))), 0, 0)) from zi_get_s rfl h5 h3) rfl) ?_
  refine zi_rc_c (zi_run_1 (g := (80, (5, .inl (.int (Int32.ofInt 1))) :: (4, .inl (.int c)) :: (3, .inl (.int k)) :: (0, .inl (.ref 12)) :: (1, .inl (.long v)) :: [], [.inl (.int (Int32.ofInt 1)), .inl (.int (nI j)), .inl (.ref 12)], (A.set 3 (.inr (3, 1000, .inl (.int 0), ((nI j).toNatClampNeg, .inl (.int (c.toUInt32 % 65536).toInt32)) :: us))), 0, 0)) rfl rfl rfl) ?_
  refine zi_rc_c (zi_run_1 (g := (81, (5, .inl (.int (Int32.ofInt 1))) :: (4, .inl (.int c)) :: (3, .inl (.int k)) :: (0, .inl (.ref 12)) :: (1, .inl (.long v)) :: [], [.inl (.int (nI j + Int32.ofInt 1)), .inl (.ref 12)], (A.set 3 (.inr (3, 1000, .inl (.int 0), ((nI j).toNatClampNeg, .inl (.int (c.toUInt32 % 65536).toInt32)) :: us))), 0, 0)) rfl rfl rfl) ?_
  refine zi_rc_c (zi_run_1 (g := (84, (5, .inl (.int (Int32.ofInt 1))) :: (4, .inl (.int c)) :: (3, .inl (.int k)) :: (0, .inl (.ref 12)) :: (1, .inl (.long v)) :: [], [], ((A.set 3 (.inr (3, 1000, .inl (.int 0), ((nI j).toNatClampNeg, .inl (.int (c.toUInt32 % 65536).toInt32)) :: us))).set 2 (.inl (2, fs.set 5 (.inl (.int (nI j + Int32.ofInt 1)))))), 0, 0)) rfl (show zi_put 81 3 ((5, .inl (.int (Int32.ofInt 1))) :: (4, .inl (.int c)) :: (3, .inl (.int k)) :: (0, .inl (.ref 12)) :: (1, .inl (.long v)) :: []) [.inl (.int (nI j + Int32.ofInt 1)), .inl (.ref 12)] (A.set 3 (.inr (3, 1000, .inl (.int 0), ((nI j).toNatClampNeg, .inl (.int (c.toUInt32 % 65536).toInt32)) :: us))) 0 0 2 5 = some (.inl (84, (5, .inl (.int (Int32.ofInt 1))) :: (4, .inl (.int c)) :: (3, .inl (.int k)) :: (0, .inl (.ref 12)) :: (1, .inl (.long v)) :: [], [], ((A.set 3 (.inr (3, 1000, .inl (.int 0), ((nI j).toNatClampNeg, .inl (.int (c.toUInt32 % 65536).toInt32)) :: us))).set 2 (.inl (2, fs.set 5 (.inl (.int (nI j + Int32.ofInt 1)))))), 0, 0)) from zi_put_s rfl h5 l3 (zi_fit_int _)) rfl) ?_
  refine zi_rc_c (zi_run_1 (g := (87, (3, .inl (.int (k + Int32.ofInt (-8)))) :: (5, .inl (.int (Int32.ofInt 1))) :: (4, .inl (.int c)) :: (0, .inl (.ref 12)) :: (1, .inl (.long v)) :: [], [], ((A.set 3 (.inr (3, 1000, .inl (.int 0), ((nI j).toNatClampNeg, .inl (.int (c.toUInt32 % 65536).toInt32)) :: us))).set 2 (.inl (2, fs.set 5 (.inl (.int (nI j + Int32.ofInt 1)))))), 0, 0)) rfl rfl rfl) ?_
  refine zi_rc_c (zi_run_1 (g := (3, (3, .inl (.int (k + Int32.ofInt (-8)))) :: (5, .inl (.int (Int32.ofInt 1))) :: (4, .inl (.int c)) :: (0, .inl (.ref 12)) :: (1, .inl (.long v)) :: [], [], ((A.set 3 (.inr (3, 1000, .inl (.int 0), ((nI j).toNatClampNeg, .inl (.int (c.toUInt32 % 65536).toInt32)) :: us))).set 2 (.inl (2, fs.set 5 (.inl (.int (nI j + Int32.ofInt 1)))))), 0, 0)) rfl rfl rfl) ?_
  exact zi_rc_0
/-- an iteration of putBytes -/
theorem zi_it40 {call : zi_K} (v : Int64) {k k' : Int32} (hk : zi_test .lt (.inl (.int k)) (.inl (.int 0)) = some false) (hk' : k + Int32.ofInt (-8) = k') {A : List zi_C} {j : Nat} (hj : j < 1000) (hP : zi_Pq 2 3 2 3 0 5 A j) {X : List (Nat × zi_V)} (hX : X = (0, .inl (.ref 12)) :: (1, .inl (.long v)) :: [] ∨ ∃ f d : zi_V, X = (5, f) :: (4, d) :: (0, .inl (.ref 12)) :: (1, .inl (.long v)) :: []) :
    ∃ (A' : List zi_C) (X' : List (Nat × zi_V)), zi_Pq 2 3 2 3 0 5 A' (zi_av (zi_by v k) j) ∧ zi_Kq 2 3 A A' ∧ (∃ f d : zi_V, X' = (5, f) :: (4, d) :: (0, .inl (.ref 12)) :: (1, .inl (.long v)) :: []) ∧ zi_rc call zi_m40 (3, (3, .inl (.int k)) :: X, [], A, 0, 0) (3, (3, .inl (.int k')) :: X', [], A', 0, 0) 50 := by
  subst hk'
  have hB : ∃ Y : List (Nat × zi_V), zi_del1 5 Y = (0, .inl (.ref 12)) :: (1, .inl (.long v)) :: [] ∧ zi_rc call zi_m40 (3, (3, .inl (.int k)) :: X, [], A, 0, 0) (21, (4, .inl (.int (zi_by v k))) :: (3, .inl (.int k)) :: Y, [.inl (.int (Int8.ofInt 10).toInt32), .inl (.int (zi_by v k))], A, 0, 0) 11 := by
    rcases hX with rfl | ⟨f, d, rfl⟩
    · exact ⟨(0, .inl (.ref 12)) :: (1, .inl (.long v)) :: [], rfl, zi_pA1 v k A hk⟩
    · exact ⟨(5, f) :: (0, .inl (.ref 12)) :: (1, .inl (.long v)) :: [], rfl, zi_pA2 v k A f d hk⟩
  obtain ⟨Y, hY, h1⟩ := hB
  have h2 := zi_pB (call := call) v (zi_by v k) k Y A hY
  have h12 := zi_rc_t h1 h2
  unfold zi_av
  cases hf : zi_fb (zi_by v k) with
  | false =>
    rw [hf] at h12
    exact ⟨A, _, hP, fun _ _ _ => rfl, ⟨_, _, rfl⟩, zi_rc_w (zi_rc_t h12 (zi_pC0 v (zi_by v k) k A)) (by decide)⟩
  | true =>
    rw [hf] at h12
    obtain ⟨A', hP', hK', h3⟩ := zi_pC1 (call := call) v (zi_by v k) k A hj hP
    exact ⟨A', _, hP', hK', ⟨_, _, rfl⟩, zi_rc_w (zi_rc_t h12 h3) (by decide)⟩
/-! lay, the check's own. -/
theorem zi_qA1 {call : zi_K} (v : Int64) (k : Int32) (A : List zi_C) (hk : zi_test .lt (.inl (.int k)) (.inl (.int 0)) = some false) : zi_rc call zi_m39 (3, [(3, .inl (.int k)), (0, .inl (.ref 82)), (1, .inl (.long v))], [], A, 0, 0) (21, [(4, .inl (.int (zi_bm v k))), (3, .inl (.int k)), (0, .inl (.ref 82)), (1, .inl (.long v))], [.inl (.int (Int8.ofInt 10).toInt32), .inl (.int (zi_bm v k))], A, 0, 0) 11 := by
  refine zi_rc_c (zi_run_1 (g := (4, [(3, .inl (.int k)), (0, .inl (.ref 82)), (1, .inl (.long v))], [.inl (.int k)], A, 0, 0)) rfl rfl rfl) ?_
  refine zi_rc_c (zi_run_1 (g := (7, [(3, .inl (.int k)), (0, .inl (.ref 82)), (1, .inl (.long v))], [], A, 0, 0)) rfl (show zi_if1 .lt 4 3 ([(3, .inl (.int k)), (0, .inl (.ref 82)), (1, .inl (.long v))]) [.inl (.int k)] A 0 0 75 = some (.inl (7, [(3, .inl (.int k)), (0, .inl (.ref 82)), (1, .inl (.long v))], [], A, 0, 0)) from zi_if1_s false hk) rfl) ?_
  refine zi_rc_c (zi_run_1 (g := (8, [(3, .inl (.int k)), (0, .inl (.ref 82)), (1, .inl (.long v))], [.inl (.long v)], A, 0, 0)) rfl rfl rfl) ?_
  refine zi_rc_c (zi_run_1 (g := (9, [(3, .inl (.int k)), (0, .inl (.ref 82)), (1, .inl (.long v))], [.inl (.int k), .inl (.long v)], A, 0, 0)) rfl rfl rfl) ?_
  refine zi_rc_c (zi_run_1 (g := (10, [(3, .inl (.int k)), (0, .inl (.ref 82)), (1, .inl (.long v))], [.inl (.long (v >>> (k.toInt64 &&& 63)))], A, 0, 0)) rfl rfl rfl) ?_
  refine zi_rc_c (zi_run_1 (g := (11, [(3, .inl (.int k)), (0, .inl (.ref 82)), (1, .inl (.long v))], [.inl (.int (v >>> (k.toInt64 &&& 63)).toInt32)], A, 0, 0)) rfl rfl rfl) ?_
  refine zi_rc_c (zi_run_1 (g := (14, [(3, .inl (.int k)), (0, .inl (.ref 82)), (1, .inl (.long v))], [.inl (.int (Int16.ofInt 255).toInt32), .inl (.int (v >>> (k.toInt64 &&& 63)).toInt32)], A, 0, 0)) rfl rfl rfl) ?_
  refine zi_rc_c (zi_run_1 (g := (15, [(3, .inl (.int k)), (0, .inl (.ref 82)), (1, .inl (.long v))], [.inl (.int (zi_bm v k))], A, 0, 0)) rfl rfl rfl) ?_
  refine zi_rc_c (zi_run_1 (g := (17, [(4, .inl (.int (zi_bm v k))), (3, .inl (.int k)), (0, .inl (.ref 82)), (1, .inl (.long v))], [], A, 0, 0)) rfl rfl rfl) ?_
  refine zi_rc_c (zi_run_1 (g := (19, [(4, .inl (.int (zi_bm v k))), (3, .inl (.int k)), (0, .inl (.ref 82)), (1, .inl (.long v))], [.inl (.int (zi_bm v k))], A, 0, 0)) rfl rfl rfl) ?_
  refine zi_rc_c (zi_run_1 (g := (21, [(4, .inl (.int (zi_bm v k))), (3, .inl (.int k)), (0, .inl (.ref 82)), (1, .inl (.long v))], [.inl (.int (Int8.ofInt 10).toInt32), .inl (.int (zi_bm v k))], A, 0, 0)) rfl rfl rfl) ?_
  exact zi_rc_0
theorem zi_qA2 {call : zi_K} (v : Int64) (k : Int32) (A : List zi_C) (d : zi_V) (hk : zi_test .lt (.inl (.int k)) (.inl (.int 0)) = some false) : zi_rc call zi_m39 (3, [(3, .inl (.int k)), (4, d), (0, .inl (.ref 82)), (1, .inl (.long v))], [], A, 0, 0) (21, [(4, .inl (.int (zi_bm v k))), (3, .inl (.int k)), (0, .inl (.ref 82)), (1, .inl (.long v))], [.inl (.int (Int8.ofInt 10).toInt32), .inl (.int (zi_bm v k))], A, 0, 0) 11 := by
  refine zi_rc_c (zi_run_1 (g := (4, [(3, .inl (.int k)), (4, d), (0, .inl (.ref 82)), (1, .inl (.long v))], [.inl (.int k)], A, 0, 0)) rfl rfl rfl) ?_
  refine zi_rc_c (zi_run_1 (g := (7, [(3, .inl (.int k)), (4, d), (0, .inl (.ref 82)), (1, .inl (.long v))], [], A, 0, 0)) rfl (show zi_if1 .lt 4 3 ([(3, .inl (.int k)), (4, d), (0, .inl (.ref 82)), (1, .inl (.long v))]) [.inl (.int k)] A 0 0 75 = some (.inl (7, [(3, .inl (.int k)), (4, d), (0, .inl (.ref 82)), (1, .inl (.long v))], [], A, 0, 0)) from zi_if1_s false hk) rfl) ?_
  refine zi_rc_c (zi_run_1 (g := (8, [(3, .inl (.int k)), (4, d), (0, .inl (.ref 82)), (1, .inl (.long v))], [.inl (.long v)], A, 0, 0)) rfl rfl rfl) ?_
  refine zi_rc_c (zi_run_1 (g := (9, [(3, .inl (.int k)), (4, d), (0, .inl (.ref 82)), (1, .inl (.long v))], [.inl (.int k), .inl (.long v)], A, 0, 0)) rfl rfl rfl) ?_
  refine zi_rc_c (zi_run_1 (g := (10, [(3, .inl (.int k)), (4, d), (0, .inl (.ref 82)), (1, .inl (.long v))], [.inl (.long (v >>> (k.toInt64 &&& 63)))], A, 0, 0)) rfl rfl rfl) ?_
  refine zi_rc_c (zi_run_1 (g := (11, [(3, .inl (.int k)), (4, d), (0, .inl (.ref 82)), (1, .inl (.long v))], [.inl (.int (v >>> (k.toInt64 &&& 63)).toInt32)], A, 0, 0)) rfl rfl rfl) ?_
  refine zi_rc_c (zi_run_1 (g := (14, [(3, .inl (.int k)), (4, d), (0, .inl (.ref 82)), (1, .inl (.long v))], [.inl (.int (Int16.ofInt 255).toInt32), .inl (.int (v >>> (k.toInt64 &&& 63)).toInt32)], A, 0, 0)) rfl rfl rfl) ?_
  refine zi_rc_c (zi_run_1 (g := (15, [(3, .inl (.int k)), (4, d), (0, .inl (.ref 82)), (1, .inl (.long v))], [.inl (.int (zi_bm v k))], A, 0, 0)) rfl rfl rfl) ?_
  refine zi_rc_c (zi_run_1 (g := (17, [(4, .inl (.int (zi_bm v k))), (3, .inl (.int k)), (0, .inl (.ref 82)), (1, .inl (.long v))], [], A, 0, 0)) rfl rfl rfl) ?_
  refine zi_rc_c (zi_run_1 (g := (19, [(4, .inl (.int (zi_bm v k))), (3, .inl (.int k)), (0, .inl (.ref 82)), (1, .inl (.long v))], [.inl (.int (zi_bm v k))], A, 0, 0)) rfl rfl rfl) ?_
  refine zi_rc_c (zi_run_1 (g := (21, [(4, .inl (.int (zi_bm v k))), (3, .inl (.int k)), (0, .inl (.ref 82)), (1, .inl (.long v))], [.inl (.int (Int8.ofInt 10).toInt32), .inl (.int (zi_bm v k))], A, 0, 0)) rfl rfl rfl) ?_
  exact zi_rc_0
theorem zi_qB {call : zi_K} (v : Int64) (c k : Int32) (A : List zi_C) : zi_rc call zi_m39 (21, (4, .inl (.int c)) :: (3, .inl (.int k)) :: (0, .inl (.ref 82)) :: (1, .inl (.long v)) :: [], [.inl (.int (Int8.ofInt 10).toInt32), .inl (.int c)], A, 0, 0) (bif zi_fb c then 38 else 69, (4, .inl (.int c)) :: (3, .inl (.int k)) :: (0, .inl (.ref 82)) :: (1, .inl (.long v)) :: [], [], A, 0, 0) 12 := by
  by_cases h10 : c = 10
  · refine zi_rc_c (zi_run_1 (g := (38, (4, .inl (.int c)) :: (3, .inl (.int k)) :: (0, .inl (.ref 82)) :: (1, .inl (.long v)) :: [], [], A, 0, 0)) rfl (zi_if2_s true (by rw [zi_c10, zi_teq]; simp [h10])) rfl) ?_
    rw [show zi_fb c = true by unfold zi_fb; simp [*]]
    exact zi_rc_0
  · refine zi_rc_c (zi_run_1 (g := (24, (4, .inl (.int c)) :: (3, .inl (.int k)) :: (0, .inl (.ref 82)) :: (1, .inl (.long v)) :: [], [], A, 0, 0)) rfl (zi_if2_s false (by rw [zi_c10, zi_teq]; simp [h10])) rfl) ?_
    refine zi_rc_c (zi_run_1 (g := (26, (4, .inl (.int c)) :: (3, .inl (.int k)) :: (0, .inl (.ref 82)) :: (1, .inl (.long v)) :: [], [.inl (.int c)], A, 0, 0)) rfl rfl rfl) ?_
    refine zi_rc_c (zi_run_1 (g := (28, (4, .inl (.int c)) :: (3, .inl (.int k)) :: (0, .inl (.ref 82)) :: (1, .inl (.long v)) :: [], [.inl (.int (Int8.ofInt 32).toInt32), .inl (.int c)], A, 0, 0)) rfl rfl rfl) ?_
    by_cases h32 : c < 32
    · refine zi_rc_c (zi_run_1 (g := (69, (4, .inl (.int c)) :: (3, .inl (.int k)) :: (0, .inl (.ref 82)) :: (1, .inl (.long v)) :: [], [], A, 0, 0)) rfl (zi_if2_s true (by rw [zi_c32, zi_tlt]; simp [h32])) rfl) ?_
      rw [show zi_fb c = false by unfold zi_fb; simp [*]]
      exact zi_rc_0
    · refine zi_rc_c (zi_run_1 (g := (31, (4, .inl (.int c)) :: (3, .inl (.int k)) :: (0, .inl (.ref 82)) :: (1, .inl (.long v)) :: [], [], A, 0, 0)) rfl (zi_if2_s false (by rw [zi_c32, zi_tlt]; simp [h32])) rfl) ?_
      refine zi_rc_c (zi_run_1 (g := (33, (4, .inl (.int c)) :: (3, .inl (.int k)) :: (0, .inl (.ref 82)) :: (1, .inl (.long v)) :: [], [.inl (.int c)], A, 0, 0)) rfl rfl rfl) ?_
      refine zi_rc_c (zi_run_1 (g := (35, (4, .inl (.int c)) :: (3, .inl (.int k)) :: (0, .inl (.ref 82)) :: (1, .inl (.long v)) :: [], [.inl (.int (Int8.ofInt 126).toInt32), .inl (.int c)], A, 0, 0)) rfl rfl rfl) ?_
      by_cases h126 : 126 < c
      · refine zi_rc_c (zi_run_1 (g := (69, (4, .inl (.int c)) :: (3, .inl (.int k)) :: (0, .inl (.ref 82)) :: (1, .inl (.long v)) :: [], [], A, 0, 0)) rfl (zi_if2_s true (by rw [zi_c126, zi_tgt]; simp [h126])) rfl) ?_
        rw [show zi_fb c = false by unfold zi_fb; simp [*]]
        exact zi_rc_0
      · refine zi_rc_c (zi_run_1 (g := (38, (4, .inl (.int c)) :: (3, .inl (.int k)) :: (0, .inl (.ref 82)) :: (1, .inl (.long v)) :: [], [], A, 0, 0)) rfl (zi_if2_s false (by rw [zi_c126, zi_tgt]; simp [h126])) rfl) ?_
        rw [show zi_fb c = true by unfold zi_fb; simp [*]]
        exact zi_rc_0
theorem zi_qC0 {call : zi_K} (v : Int64) (c k : Int32) (A : List zi_C) : zi_rc call zi_m39 (69, (4, .inl (.int c)) :: (3, .inl (.int k)) :: (0, .inl (.ref 82)) :: (1, .inl (.long v)) :: [], [], A, 0, 0) (3, (3, .inl (.int (k + Int32.ofInt (-8)))) :: (4, .inl (.int c)) :: (0, .inl (.ref 82)) :: (1, .inl (.long v)) :: [], [], A, 0, 0) 2 := by
  refine zi_rc_c (zi_run_1 (g := (72, (3, .inl (.int (k + Int32.ofInt (-8)))) :: (4, .inl (.int c)) :: (0, .inl (.ref 82)) :: (1, .inl (.long v)) :: [], [], A, 0, 0)) rfl rfl rfl) ?_
  refine zi_rc_c (zi_run_1 (g := (3, (3, .inl (.int (k + Int32.ofInt (-8)))) :: (4, .inl (.int c)) :: (0, .inl (.ref 82)) :: (1, .inl (.long v)) :: [], [], A, 0, 0)) rfl rfl rfl) ?_
  exact zi_rc_0
theorem zi_qC1 {call : zi_K} (v : Int64) (c k : Int32) (A : List zi_C) {j : Nat} (hj : j < 1000) (hP : zi_Pq 72 73 11 0 1 2 A j) : ∃ A', zi_Pq 72 73 11 0 1 2 A' (j + 1) ∧ zi_Kq 72 73 A A' ∧ zi_rc call zi_m39 (38, (4, .inl (.int c)) :: (3, .inl (.int k)) :: (0, .inl (.ref 82)) :: (1, .inl (.long v)) :: [], [], A, 0, 0) (69, (4, .inl (.int c)) :: (3, .inl (.int k)) :: (0, .inl (.ref 82)) :: (1, .inl (.long v)) :: [], [], A', 0, 0) 24 := by
  obtain ⟨⟨fs, h1, h2, h3⟩, us, h4⟩ := hP
  have l3 : 2 < fs.length := (List.getElem?_eq_some_iff.mp h3).1
  have hQ := zi_Pq_put (io := 72) (ia := 73) (ka := 1) (kf := 2) (by decide) (by decide) h1 h2 h3 h4 ((nI j).toNatClampNeg, .inl (.int c)) (zi_one j)
  have h5 : (A.set 73 (.inr (0, 1000, .inl (.int 0), ((nI j).toNatClampNeg, .inl (.int c)) :: us)))[72]? = some (.inl (11, fs)) := by rw [List.getElem?_set_ne (by decide)]; exact h1
  refine ⟨((A.set 73 (.inr (0, 1000, .inl (.int 0), ((nI j).toNatClampNeg, .inl (.int c)) :: us))).set 72 (.inl (11, fs.set 2 (.inl (.int (nI j + Int32.ofInt 1)))))), hQ.1, hQ.2, ?_⟩
  refine zi_rc_c (zi_run_1 (g := (39, (4, .inl (.int c)) :: (3, .inl (.int k)) :: (0, .inl (.ref 82)) :: (1, .inl (.long v)) :: [], [.inl (.ref 82)], A, 0, 0)) rfl rfl rfl) ?_
  refine zi_rc_c (zi_run_1 (g := (42, (4, .inl (.int c)) :: (3, .inl (.int k)) :: (0, .inl (.ref 82)) :: (1, .inl (.long v)) :: [], [.inl (.int (nI j))], A, 0, 0)) rfl (show zi_get 39 3 ((4, .inl (.int c)) :: (3, .inl (.int k)) :: (0, .inl (.ref 82)) :: (1, .inl (.long v)) :: []) [.inl (.ref 82)] A 0 0 11 2 = some (.inl (42, (4, .inl (.int c)) :: (3, .inl (.int k)) :: (0, .inl (.ref 82)) :: (1, .inl (.long v)) :: [], [.inl (.int (nI j))], A, 0, 0)) from zi_get_s rfl h1 h3) rfl) ?_
  refine zi_rc_c (zi_run_1 (g := (45, (4, .inl (.int c)) :: (3, .inl (.int k)) :: (0, .inl (.ref 82)) :: (1, .inl (.long v)) :: [], [.inl (.int (Int16.ofInt 1000).toInt32), .inl (.int (nI j))], A, 0, 0)) rfl rfl rfl) ?_
  refine zi_rc_c (zi_run_1 (g := (48, (4, .inl (.int c)) :: (3, .inl (.int k)) :: (0, .inl (.ref 82)) :: (1, .inl (.long v)) :: [], [], A, 0, 0)) rfl (show zi_if2 .ge 45 3 ((4, .inl (.int c)) :: (3, .inl (.int k)) :: (0, .inl (.ref 82)) :: (1, .inl (.long v)) :: []) [.inl (.int (Int16.ofInt 1000).toInt32), .inl (.int (nI j))] A 0 0 69 = some (.inl (48, (4, .inl (.int c)) :: (3, .inl (.int k)) :: (0, .inl (.ref 82)) :: (1, .inl (.long v)) :: [], [], A, 0, 0)) from zi_if2_s false (by rw [zi_c1000, zi_tge]; simp [nI_ge hj (by decide)])) rfl) ?_
  refine zi_rc_c (zi_run_1 (g := (49, (4, .inl (.int c)) :: (3, .inl (.int k)) :: (0, .inl (.ref 82)) :: (1, .inl (.long v)) :: [], [.inl (.ref 82)], A, 0, 0)) rfl rfl rfl) ?_
  refine zi_rc_c (zi_run_1 (g := (52, (4, .inl (.int c)) :: (3, .inl (.int k)) :: (0, .inl (.ref 82)) :: (1, .inl (.long v)) :: [], [.inl (.ref 83)], A, 0, 0)) rfl (show zi_get 49 3 ((4, .inl (.int c)) :: (3, .inl (.int k)) :: (0, .inl (.ref 82)) :: (1, .inl (.long v)) :: []) [.inl (.ref 82)] A 0 0 11 1 = some (.inl (52, (4, .inl (.int c)) :: (3, .inl (.int k)) :: (0, .inl (.ref 82)) :: (1, .inl (.long v)) :: [], [.inl (.ref 83)], A, 0, 0)) from zi_get_s rfl h1 h2) rfl) ?_
  refine zi_rc_c (zi_run_1 (g := (53, (4, .inl (.int c)) :: (3, .inl (.int k)) :: (0, .inl (.ref 82)) :: (1, .inl (.long v)) :: [], [.inl (.ref 82), .inl (.ref 83)], A, 0, 0)) rfl rfl rfl) ?_
  refine zi_rc_c (zi_run_1 (g := (56, (4, .inl (.int c)) :: (3, .inl (.int k)) :: (0, .inl (.ref 82)) :: (1, .inl (.long v)) :: [], [.inl (.int (nI j)), .inl (.ref 83)], A, 0, 0)) rfl (show zi_get 53 3 ((4, .inl (.int c)) :: (3, .inl (.int k)) :: (0, .inl (.ref 82)) :: (1, .inl (.long v)) :: []) [.inl (.ref 82), .inl (.ref 83)] A 0 0 11 2 = some (.inl (56, (4, .inl (.int c)) :: (3, .inl (.int k)) :: (0, .inl (.ref 82)) :: (1, .inl (.long v)) :: [], [.inl (.int (nI j)), .inl (.ref 83)], A, 0, 0)) from zi_get_s rfl h1 h3) rfl) ?_
  refine zi_rc_c (zi_run_1 (g := (58, (4, .inl (.int c)) :: (3, .inl (.int k)) :: (0, .inl (.ref 82)) :: (1, .inl (.long v)) :: [], [.inl (.int c), .inl (.int (nI j)), .inl (.ref 83)], A, 0, 0)) rfl rfl rfl) ?_
  refine zi_rc_c (zi_run_1 (g := (59, (4, .inl (.int c)) :: (3, .inl (.int k)) :: (0, .inl (.ref 82)) :: (1, .inl (.long v)) :: [], [], (A.set 73 (.inr (0, 1000, .inl (.int 0), ((nI j).toNatClampNeg, .inl (.int c)) :: us))), 0, 0)) rfl (show zi_ast 0 58 1 ((4, .inl (.int c)) :: (3, .inl (.int k)) :: (0, .inl (.ref 82)) :: (1, .inl (.long v)) :: []) [.inl (.int c), .inl (.int (nI j)), .inl (.ref 83)] A 0 0 = some (.inl (59, (4, .inl (.int c)) :: (3, .inl (.int k)) :: (0, .inl (.ref 82)) :: (1, .inl (.long v)) :: [], [], (A.set 73 (.inr (0, 1000, .inl (.int 0), ((nI j).toNatClampNeg, .inl (.int c)) :: us))), 0, 0)) from zi_ast_s rfl h4 (zi_in_nI hj (by decide)) rfl) rfl) ?_
  refine zi_rc_c (zi_run_1 (g := (60, (4, .inl (.int c)) :: (3, .inl (.int k)) :: (0, .inl (.ref 82)) :: (1, .inl (.long v)) :: [], [.inl (.ref 82)], (A.set 73 (.inr (0, 1000, .inl (.int 0), ((nI j).toNatClampNeg, .inl (.int c)) :: us))), 0, 0)) rfl rfl rfl) ?_
  refine zi_rc_c (zi_run_1 (g := (61, (4, .inl (.int c)) :: (3, .inl (.int k)) :: (0, .inl (.ref 82)) :: (1, .inl (.long v)) :: [], [.inl (.ref 82), .inl (.ref 82)], (A.set 73 (.inr (0, 1000, .inl (.int 0), ((nI j).toNatClampNeg, .inl (.int c)) :: us))), 0, 0)) rfl rfl rfl) ?_
  refine zi_rc_c (zi_run_1 (g := (64, (4, .inl (.int c)) :: (3, .inl (.int k)) :: (0, .inl (.ref 82)) :: (1, .inl (.long v)) :: [], [.inl (.int (nI j)), .inl (.ref 82)], (A.set 73 (.inr (0, 1000, .inl (.int 0), ((nI j).toNatClampNeg, .inl (.int c)) :: us))), 0, 0)) rfl (show zi_get 61 3 ((4, .inl (.int c)) :: (3, .inl (.int k)) :: (0, .inl (.ref 82)) :: (1, .inl (.long v)) :: []) [.inl (.ref 82), .inl (.ref 82)] (A.set 73 (.inr (0, 1000, .inl (.int 0), ((nI j).toNatClampNeg, .inl (.int c)) :: us))) 0 0 11 2 = some (.inl (64, (4, .inl (.int c)) :: (3, .inl (.int k)) :: (0, .inl (.ref 82)) :: (1, .inl (.long v)) :: [], [.inl (.int (nI j)), .inl (.ref 82)], (A.set 73 (.inr (0, 1000, .inl (.int 0), ((nI j).toNatClampNeg, .inl (.int c)) :: us))), 0, 0)) from zi_get_s rfl h5 h3) rfl) ?_
  refine zi_rc_c (zi_run_1 (g := (65, (4, .inl (.int c)) :: (3, .inl (.int k)) :: (0, .inl (.ref 82)) :: (1, .inl (.long v)) :: [], [.inl (.int (Int32.ofInt 1)), .inl (.int (nI j)), .inl (.ref 82)], (A.set 73 (.inr (0, 1000, .inl (.int 0), ((nI j).toNatClampNeg, .inl (.int c)) :: us))), 0, 0)) rfl rfl rfl) ?_
  refine zi_rc_c (zi_run_1 (g := (66, (4, .inl (.int c)) :: (3, .inl (.int k)) :: (0, .inl (.ref 82)) :: (1, .inl (.long v)) :: [], [.inl (.int (nI j + Int32.ofInt 1)), .inl (.ref 82)], (A.set 73 (.inr (0, 1000, .inl (.int 0), ((nI j).toNatClampNeg, .inl (.int c)) :: us))), 0, 0)) rfl rfl rfl) ?_
  refine zi_rc_c (zi_run_1 (g := (69, (4, .inl (.int c)) :: (3, .inl (.int k)) :: (0, .inl (.ref 82)) :: (1, .inl (.long v)) :: [], [], ((A.set 73 (.inr (0, 1000, .inl (.int 0), ((nI j).toNatClampNeg, .inl (.int c)) :: us))).set 72 (.inl (11, fs.set 2 (.inl (.int (nI j + Int32.ofInt 1)))))), 0, 0)) rfl (show zi_put 66 3 ((4, .inl (.int c)) :: (3, .inl (.int k)) :: (0, .inl (.ref 82)) :: (1, .inl (.long v)) :: []) [.inl (.int (nI j + Int32.ofInt 1)), .inl (.ref 82)] (A.set 73 (.inr (0, 1000, .inl (.int 0), ((nI j).toNatClampNeg, .inl (.int c)) :: us))) 0 0 11 2 = some (.inl (69, (4, .inl (.int c)) :: (3, .inl (.int k)) :: (0, .inl (.ref 82)) :: (1, .inl (.long v)) :: [], [], ((A.set 73 (.inr (0, 1000, .inl (.int 0), ((nI j).toNatClampNeg, .inl (.int c)) :: us))).set 72 (.inl (11, fs.set 2 (.inl (.int (nI j + Int32.ofInt 1)))))), 0, 0)) from zi_put_s rfl h5 l3 (zi_fit_int _)) rfl) ?_
  exact zi_rc_0
theorem zi_it39 {call : zi_K} (v : Int64) {k k' : Int32} (hk : zi_test .lt (.inl (.int k)) (.inl (.int 0)) = some false) (hk' : k + Int32.ofInt (-8) = k') (hb : zi_by v k = zi_bm v k) {A : List zi_C} {j : Nat} (hj : j < 1000) (hP : zi_Pq 72 73 11 0 1 2 A j) {X : List (Nat × zi_V)} (hX : X = (0, .inl (.ref 82)) :: (1, .inl (.long v)) :: [] ∨ ∃ d : zi_V, X = (4, d) :: (0, .inl (.ref 82)) :: (1, .inl (.long v)) :: []) :
    ∃ (A' : List zi_C) (X' : List (Nat × zi_V)), zi_Pq 72 73 11 0 1 2 A' (zi_av (zi_by v k) j) ∧ zi_Kq 72 73 A A' ∧ (∃ d : zi_V, X' = (4, d) :: (0, .inl (.ref 82)) :: (1, .inl (.long v)) :: []) ∧ zi_rc call zi_m39 (3, (3, .inl (.int k)) :: X, [], A, 0, 0) (3, (3, .inl (.int k')) :: X', [], A', 0, 0) 50 := by
  subst hk'
  have h1 : zi_rc call zi_m39 (3, (3, .inl (.int k)) :: X, [], A, 0, 0) (21, (4, .inl (.int (zi_by v k))) :: (3, .inl (.int k)) :: (0, .inl (.ref 82)) :: (1, .inl (.long v)) :: [], [.inl (.int (Int8.ofInt 10).toInt32), .inl (.int (zi_by v k))], A, 0, 0) 11 := by
    rw [hb]
    rcases hX with rfl | ⟨d, rfl⟩
    · exact zi_qA1 v k A hk
    · exact zi_qA2 v k A d hk
  have h12 := zi_rc_t h1 (zi_qB (call := call) v (zi_by v k) k A)
  unfold zi_av
  cases hf : zi_fb (zi_by v k) with
  | false =>
    rw [hf] at h12
    exact ⟨A, _, hP, fun _ _ _ => rfl, ⟨_, rfl⟩, zi_rc_w (zi_rc_t h12 (zi_qC0 v (zi_by v k) k A)) (by decide)⟩
  | true =>
    rw [hf] at h12
    obtain ⟨A', hP', hK', h3⟩ := zi_qC1 (call := call) v (zi_by v k) k A hj hP
    exact ⟨A', _, hP', hK', ⟨_, rfl⟩, zi_rc_w (zi_rc_t (zi_rc_t h12 h3) (zi_qC0 v (zi_by v k) k A')) (by decide)⟩
/-- all eight bytes -/
theorem zi_ev40 {d : Nat} (v : Int64) {A : List zi_C} {j : Nat} (hj : j + 8 ≤ 1000) (hP : zi_Pq 2 3 2 3 0 5 A j) : ∃ A', zi_ev zi_Ms 100000 (d + 1) 40 [.inl (.ref 12), .inl (.long v)] A = some (none, A', 0, 0) ∧ zi_Pq 2 3 2 3 0 5 A' (zi_sg v j) ∧ zi_Kq 2 3 A A' := by
  have r0 : zi_rc (zi_ev zi_Ms 100000 d) zi_m40 (0, zi_ent 0 [.inl (.ref 12), .inl (.long v)], [], A, 0, 0) (3, (3, .inl (.int 56)) :: (0, .inl (.ref 12)) :: (1, .inl (.long v)) :: [], [], A, 0, 0) 2 := by
    refine zi_rc_c (zi_run_1 (g := (2, (0, .inl (.ref 12)) :: (1, .inl (.long v)) :: [], [.inl (.int (Int8.ofInt 56).toInt32)], A, 0, 0)) rfl rfl rfl) ?_
    rw [zi_c56]
    refine zi_rc_c (zi_run_1 (g := (3, (3, .inl (.int 56)) :: (0, .inl (.ref 12)) :: (1, .inl (.long v)) :: [], [], A, 0, 0)) rfl rfl rfl) ?_
    exact zi_rc_0
  have b1 := zi_av_le (zi_by v 56) (j)
  obtain ⟨A1, X1, p1, k1, x1, r1⟩ := zi_it40 (call := zi_ev zi_Ms 100000 d) v (k := 56) (k' := 48) (by decide +kernel) (by decide +kernel) (by omega) hP (Or.inl rfl)
  have b2 := zi_av_le (zi_by v 48) (zi_av (zi_by v 56) (j))
  obtain ⟨A2, X2, p2, k2, x2, r2⟩ := zi_it40 (call := zi_ev zi_Ms 100000 d) v (k := 48) (k' := 40) (by decide +kernel) (by decide +kernel) (by omega) p1 (Or.inr x1)
  have b3 := zi_av_le (zi_by v 40) (zi_av (zi_by v 48) (zi_av (zi_by v 56) (j)))
  obtain ⟨A3, X3, p3, k3, x3, r3⟩ := zi_it40 (call := zi_ev zi_Ms 100000 d) v (k := 40) (k' := 32) (by decide +kernel) (by decide +kernel) (by omega) p2 (Or.inr x2)
  have b4 := zi_av_le (zi_by v 32) (zi_av (zi_by v 40) (zi_av (zi_by v 48) (zi_av (zi_by v 56) (j))))
  obtain ⟨A4, X4, p4, k4, x4, r4⟩ := zi_it40 (call := zi_ev zi_Ms 100000 d) v (k := 32) (k' := 24) (by decide +kernel) (by decide +kernel) (by omega) p3 (Or.inr x3)
  have b5 := zi_av_le (zi_by v 24) (zi_av (zi_by v 32) (zi_av (zi_by v 40) (zi_av (zi_by v 48) (zi_av (zi_by v 56) (j)))))
  obtain ⟨A5, X5, p5, k5, x5, r5⟩ := zi_it40 (call := zi_ev zi_Ms 100000 d) v (k := 24) (k' := 16) (by decide +kernel) (by decide +kernel) (by omega) p4 (Or.inr x4)
  have b6 := zi_av_le (zi_by v 16) (zi_av (zi_by v 24) (zi_av (zi_by v 32) (zi_av (zi_by v 40) (zi_av (zi_by v 48) (zi_av (zi_by v 56) (j))))))
  obtain ⟨A6, X6, p6, k6, x6, r6⟩ := zi_it40 (call := zi_ev zi_Ms 100000 d) v (k := 16) (k' := 8) (by decide +kernel) (by decide +kernel) (by omega) p5 (Or.inr x5)
  have b7 := zi_av_le (zi_by v 8) (zi_av (zi_by v 16) (zi_av (zi_by v 24) (zi_av (zi_by v 32) (zi_av (zi_by v 40) (zi_av (zi_by v 48) (zi_av (zi_by v 56) (j)))))))
  obtain ⟨A7, X7, p7, k7, x7, r7⟩ := zi_it40 (call := zi_ev zi_Ms 100000 d) v (k := 8) (k' := 0) (by decide +kernel) (by decide +kernel) (by omega) p6 (Or.inr x6)
  have b8 := zi_av_le (zi_by v 0) (zi_av (zi_by v 8) (zi_av (zi_by v 16) (zi_av (zi_by v 24) (zi_av (zi_by v 32) (zi_av (zi_by v 40) (zi_av (zi_by v 48) (zi_av (zi_by v 56) (j))))))))
  obtain ⟨A8, X8, p8, k8, x8, r8⟩ := zi_it40 (call := zi_ev zi_Ms 100000 d) v (k := 0) (k' := (-8)) (by decide +kernel) (by decide +kernel) (by omega) p7 (Or.inr x7)
  have r := zi_rc_t (zi_rc_t (zi_rc_t (zi_rc_t (zi_rc_t (zi_rc_t (zi_rc_t (zi_rc_t r0 r1) r2) r3) r4) r5) r6) r7) r8
  have r9 : zi_rc (zi_ev zi_Ms 100000 d) zi_m40 (3, (3, .inl (.int (-8))) :: X8, [], A8, 0, 0) (90, (3, .inl (.int (-8))) :: X8, [], A8, 0, 0) 2 := by
    refine zi_rc_c (zi_run_1 (g := (4, (3, .inl (.int (-8))) :: X8, [.inl (.int (-8))], A8, 0, 0)) rfl rfl rfl) ?_
    refine zi_rc_c (zi_run_1 (g := (90, (3, .inl (.int (-8))) :: X8, [], A8, 0, 0)) rfl (show zi_if1 .lt 4 3 ((3, .inl (.int (-8))) :: X8) [.inl (.int (-8))] A8 0 0 90 = some (.inl (90, (3, .inl (.int (-8))) :: X8, [], A8, 0, 0)) from zi_if1_s true (by decide +kernel)) rfl) ?_
    exact zi_rc_0
  refine ⟨A8, ?_, p8, zi_Kq_t (zi_Kq_t (zi_Kq_t (zi_Kq_t (zi_Kq_t (zi_Kq_t (zi_Kq_t k1 k2) k3) k4) k5) k6) k7) k8⟩
  show (bif Nat.ble (zi_cats [.inl (.ref 12), .inl (.long v)]) zi_m40.2.2.1 then zi_loop (zi_ev zi_Ms 100000 d) zi_m40 100000 (0, zi_ent 0 [.inl (.ref 12), .inl (.long v)], [], A, 0, 0) else none) = some (none, A8, 0, 0)
  have e9 : zi_loop (zi_ev zi_Ms 100000 d) zi_m40 100000 (0, zi_ent 0 [.inl (.ref 12), .inl (.long v)], [], A, 0, 0) = some (none, A8, 0, 0) := zi_rc_end (zi_rc_t r r9) (zi_loop_e rfl rfl rfl) (Nat.le_of_ble_eq_true rfl)
  rw [show Nat.ble (zi_cats [.inl (.ref 12), .inl (.long v)]) zi_m40.2.2.1 = true from rfl, cond_true]
  exact e9
/-- all eight bytes -/
theorem zi_ev39 {d : Nat} (v : Int64) {A : List zi_C} {j : Nat} (hj : j + 8 ≤ 1000) (hP : zi_Pq 72 73 11 0 1 2 A j) : ∃ A', zi_ev zi_Ms 100000 (d + 1) 39 [.inl (.ref 82), .inl (.long v)] A = some (none, A', 0, 0) ∧ zi_Pq 72 73 11 0 1 2 A' (zi_sg v j) ∧ zi_Kq 72 73 A A' := by
  have r0 : zi_rc (zi_ev zi_Ms 100000 d) zi_m39 (0, zi_ent 0 [.inl (.ref 82), .inl (.long v)], [], A, 0, 0) (3, (3, .inl (.int 56)) :: (0, .inl (.ref 82)) :: (1, .inl (.long v)) :: [], [], A, 0, 0) 2 := by
    refine zi_rc_c (zi_run_1 (g := (2, (0, .inl (.ref 82)) :: (1, .inl (.long v)) :: [], [.inl (.int (Int8.ofInt 56).toInt32)], A, 0, 0)) rfl rfl rfl) ?_
    rw [zi_c56]
    refine zi_rc_c (zi_run_1 (g := (3, (3, .inl (.int 56)) :: (0, .inl (.ref 82)) :: (1, .inl (.long v)) :: [], [], A, 0, 0)) rfl rfl rfl) ?_
    exact zi_rc_0
  have b1 := zi_av_le (zi_by v 56) (j)
  obtain ⟨A1, X1, p1, k1, x1, r1⟩ := zi_it39 (call := zi_ev zi_Ms 100000 d) v (k := 56) (k' := 48) (by decide +kernel) (by decide +kernel) (zi_byt v _ _ 56 (by decide) (by decide +kernel) (by decide +kernel)) (by omega) hP (Or.inl rfl)
  have b2 := zi_av_le (zi_by v 48) (zi_av (zi_by v 56) (j))
  obtain ⟨A2, X2, p2, k2, x2, r2⟩ := zi_it39 (call := zi_ev zi_Ms 100000 d) v (k := 48) (k' := 40) (by decide +kernel) (by decide +kernel) (zi_byt v _ _ 48 (by decide) (by decide +kernel) (by decide +kernel)) (by omega) p1 (Or.inr x1)
  have b3 := zi_av_le (zi_by v 40) (zi_av (zi_by v 48) (zi_av (zi_by v 56) (j)))
  obtain ⟨A3, X3, p3, k3, x3, r3⟩ := zi_it39 (call := zi_ev zi_Ms 100000 d) v (k := 40) (k' := 32) (by decide +kernel) (by decide +kernel) (zi_byt v _ _ 40 (by decide) (by decide +kernel) (by decide +kernel)) (by omega) p2 (Or.inr x2)
  have b4 := zi_av_le (zi_by v 32) (zi_av (zi_by v 40) (zi_av (zi_by v 48) (zi_av (zi_by v 56) (j))))
  obtain ⟨A4, X4, p4, k4, x4, r4⟩ := zi_it39 (call := zi_ev zi_Ms 100000 d) v (k := 32) (k' := 24) (by decide +kernel) (by decide +kernel) (zi_byt v _ _ 32 (by decide) (by decide +kernel) (by decide +kernel)) (by omega) p3 (Or.inr x3)
  have b5 := zi_av_le (zi_by v 24) (zi_av (zi_by v 32) (zi_av (zi_by v 40) (zi_av (zi_by v 48) (zi_av (zi_by v 56) (j)))))
  obtain ⟨A5, X5, p5, k5, x5, r5⟩ := zi_it39 (call := zi_ev zi_Ms 100000 d) v (k := 24) (k' := 16) (by decide +kernel) (by decide +kernel) (zi_byt v _ _ 24 (by decide) (by decide +kernel) (by decide +kernel)) (by omega) p4 (Or.inr x4)
  have b6 := zi_av_le (zi_by v 16) (zi_av (zi_by v 24) (zi_av (zi_by v 32) (zi_av (zi_by v 40) (zi_av (zi_by v 48) (zi_av (zi_by v 56) (j))))))
  obtain ⟨A6, X6, p6, k6, x6, r6⟩ := zi_it39 (call := zi_ev zi_Ms 100000 d) v (k := 16) (k' := 8) (by decide +kernel) (by decide +kernel) (zi_byt v _ _ 16 (by decide) (by decide +kernel) (by decide +kernel)) (by omega) p5 (Or.inr x5)
  have b7 := zi_av_le (zi_by v 8) (zi_av (zi_by v 16) (zi_av (zi_by v 24) (zi_av (zi_by v 32) (zi_av (zi_by v 40) (zi_av (zi_by v 48) (zi_av (zi_by v 56) (j)))))))
  obtain ⟨A7, X7, p7, k7, x7, r7⟩ := zi_it39 (call := zi_ev zi_Ms 100000 d) v (k := 8) (k' := 0) (by decide +kernel) (by decide +kernel) (zi_byt v _ _ 8 (by decide) (by decide +kernel) (by decide +kernel)) (by omega) p6 (Or.inr x6)
  have b8 := zi_av_le (zi_by v 0) (zi_av (zi_by v 8) (zi_av (zi_by v 16) (zi_av (zi_by v 24) (zi_av (zi_by v 32) (zi_av (zi_by v 40) (zi_av (zi_by v 48) (zi_av (zi_by v 56) (j))))))))
  obtain ⟨A8, X8, p8, k8, x8, r8⟩ := zi_it39 (call := zi_ev zi_Ms 100000 d) v (k := 0) (k' := (-8)) (by decide +kernel) (by decide +kernel) (zi_byt v _ _ 0 (by decide) (by decide +kernel) (by decide +kernel)) (by omega) p7 (Or.inr x7)
  have r := zi_rc_t (zi_rc_t (zi_rc_t (zi_rc_t (zi_rc_t (zi_rc_t (zi_rc_t (zi_rc_t r0 r1) r2) r3) r4) r5) r6) r7) r8
  have r9 : zi_rc (zi_ev zi_Ms 100000 d) zi_m39 (3, (3, .inl (.int (-8))) :: X8, [], A8, 0, 0) (75, (3, .inl (.int (-8))) :: X8, [], A8, 0, 0) 2 := by
    refine zi_rc_c (zi_run_1 (g := (4, (3, .inl (.int (-8))) :: X8, [.inl (.int (-8))], A8, 0, 0)) rfl rfl rfl) ?_
    refine zi_rc_c (zi_run_1 (g := (75, (3, .inl (.int (-8))) :: X8, [], A8, 0, 0)) rfl (show zi_if1 .lt 4 3 ((3, .inl (.int (-8))) :: X8) [.inl (.int (-8))] A8 0 0 75 = some (.inl (75, (3, .inl (.int (-8))) :: X8, [], A8, 0, 0)) from zi_if1_s true (by decide +kernel)) rfl) ?_
    exact zi_rc_0
  refine ⟨A8, ?_, p8, zi_Kq_t (zi_Kq_t (zi_Kq_t (zi_Kq_t (zi_Kq_t (zi_Kq_t (zi_Kq_t k1 k2) k3) k4) k5) k6) k7) k8⟩
  show (bif Nat.ble (zi_cats [.inl (.ref 82), .inl (.long v)]) zi_m39.2.2.1 then zi_loop (zi_ev zi_Ms 100000 d) zi_m39 100000 (0, zi_ent 0 [.inl (.ref 82), .inl (.long v)], [], A, 0, 0) else none) = some (none, A8, 0, 0)
  have e9 : zi_loop (zi_ev zi_Ms 100000 d) zi_m39 100000 (0, zi_ent 0 [.inl (.ref 82), .inl (.long v)], [], A, 0, 0) = some (none, A8, 0, 0) := zi_rc_end (zi_rc_t r r9) (zi_loop_e rfl rfl rfl) (Nat.le_of_ble_eq_true rfl)
  rw [show Nat.ble (zi_cats [.inl (.ref 82), .inl (.long v)]) zi_m39.2.2.1 = true from rfl, cond_true]
  exact e9
end
section
/-! Both feeds, and the law's row of feed. -/
theorem zi_sg_le (v : Int64) (j : Nat) : zi_sg v j ≤ j + 8 := by
  unfold zi_sg
  have b1 := zi_av_le (zi_by v 56) j
  have b2 := zi_av_le (zi_by v 48) (zi_av (zi_by v 56) j)
  have b3 := zi_av_le (zi_by v 40) (zi_av (zi_by v 48) (zi_av (zi_by v 56) j))
  have b4 := zi_av_le (zi_by v 32) (zi_av (zi_by v 40) (zi_av (zi_by v 48) (zi_av (zi_by v 56) j)))
  have b5 := zi_av_le (zi_by v 24) (zi_av (zi_by v 32) (zi_av (zi_by v 40) (zi_av (zi_by v 48) (zi_av (zi_by v 56) j))))
  have b6 := zi_av_le (zi_by v 16) (zi_av (zi_by v 24) (zi_av (zi_by v 32) (zi_av (zi_by v 40) (zi_av (zi_by v 48) (zi_av (zi_by v 56) j)))))
  have b7 := zi_av_le (zi_by v 8) (zi_av (zi_by v 16) (zi_av (zi_by v 24) (zi_av (zi_by v 32) (zi_av (zi_by v 40) (zi_av (zi_by v 48) (zi_av (zi_by v 56) j))))))
  have b8 := zi_av_le (zi_by v 0) (zi_av (zi_by v 8) (zi_av (zi_by v 16) (zi_av (zi_by v 24) (zi_av (zi_by v 32) (zi_av (zi_by v 40) (zi_av (zi_by v 48) (zi_av (zi_by v 56) j)))))))
  omega
theorem zi_ret_i (x : Int32) : zi_ret 0 (some .int) [.inl (.int x)] = some (.inr (some (.inl (.int x)))) := by
  unfold zi_ret
  dsimp only
  rw [show zi_rok .int (.inl (.int x)) = true from decide_eq_true (vp_nar_int x)]
  rfl
theorem zi_ev70 {d : Nat} (a b c : Int64) {A : List zi_C} {j : Nat} {fs0 : List zi_V} (h0 : A[0]? = some (.inl (0, fs0))) (h1 : fs0[1]? = some (.inl (.ref 12))) (hj : j + 24 ≤ 1000) (hP : zi_Pq 2 3 2 3 0 5 A j) : ∃ A', zi_ev zi_Ms 100000 (d + 2) 70 [.inl (.ref 10), .inl (.long a), .inl (.long b), .inl (.long c)] A = some (some (.inl (.int (nI (zi_sg c (zi_sg b (zi_sg a j)))))), A', 0, 0) ∧ zi_Kq 2 3 A A' := by
  have s1 := zi_sg_le a j
  have s2 := zi_sg_le b (zi_sg a j)
  obtain ⟨A1, e1, p1, k1⟩ := zi_ev40 (d := d) a (by omega) hP
  obtain ⟨A2, e2, p2, k2⟩ := zi_ev40 (d := d) b (by omega) p1
  obtain ⟨A3, e3, p3, k3⟩ := zi_ev40 (d := d) c (by omega) p2
  have g1 : A1[0]? = some (.inl (0, fs0)) := (k1 0 (by decide) (by decide)).trans h0
  have g2 : A2[0]? = some (.inl (0, fs0)) := (k2 0 (by decide) (by decide)).trans g1
  have g3 : A3[0]? = some (.inl (0, fs0)) := (k3 0 (by decide) (by decide)).trans g2
  obtain ⟨⟨f0, q0, -, -⟩, -⟩ := hP
  obtain ⟨⟨f1, q1, -, -⟩, -⟩ := p1
  obtain ⟨⟨f2, q2, -, -⟩, -⟩ := p2
  obtain ⟨⟨f3, q3, -, w3⟩, -⟩ := p3
  have r : zi_rc (zi_ev zi_Ms 100000 (d + 1)) zi_m70 (0, (0, .inl (.ref 10)) :: (1, .inl (.long a)) :: (3, .inl (.long b)) :: (5, .inl (.long c)) :: [], [], A, 0, 0) (32, (0, .inl (.ref 10)) :: (1, .inl (.long a)) :: (3, .inl (.long b)) :: (5, .inl (.long c)) :: [], [.inl (.int (nI (zi_sg c (zi_sg b (zi_sg a j)))))], A3, 0, 0) 20 := by
    refine zi_rc_c (zi_run_1 (g := (1, (0, .inl (.ref 10)) :: (1, .inl (.long a)) :: (3, .inl (.long b)) :: (5, .inl (.long c)) :: [], [.inl (.ref 10)], A, 0, 0)) rfl (rfl) rfl) ?_
    refine zi_rc_c (zi_run_1 (g := (4, (0, .inl (.ref 10)) :: (1, .inl (.long a)) :: (3, .inl (.long b)) :: (5, .inl (.long c)) :: [], [.inl (.ref 12)], A, 0, 0)) rfl (show zi_get 1 3 ((0, .inl (.ref 10)) :: (1, .inl (.long a)) :: (3, .inl (.long b)) :: (5, .inl (.long c)) :: []) [.inl (.ref 10)] A 0 0 0 1 = some (.inl (4, (0, .inl (.ref 10)) :: (1, .inl (.long a)) :: (3, .inl (.long b)) :: (5, .inl (.long c)) :: [], [.inl (.ref 12)], A, 0, 0)) from zi_get_s rfl h0 h1) rfl) ?_
    refine zi_rc_c (zi_run_1 (g := (5, (0, .inl (.ref 10)) :: (1, .inl (.long a)) :: (3, .inl (.long b)) :: (5, .inl (.long c)) :: [], [.inl (.long a), .inl (.ref 12)], A, 0, 0)) rfl (rfl) rfl) ?_
    refine zi_rc_c (zi_run_1 (g := (8, (0, .inl (.ref 10)) :: (1, .inl (.long a)) :: (3, .inl (.long b)) :: (5, .inl (.long c)) :: [], [], A1, 0, 0)) rfl (zi_ivv rfl (zi_rcv_s rfl q0) (zi_inv_n (c1 := 0) (c2 := 0) rfl e1)) rfl) ?_
    refine zi_rc_c (zi_run_1 (g := (9, (0, .inl (.ref 10)) :: (1, .inl (.long a)) :: (3, .inl (.long b)) :: (5, .inl (.long c)) :: [], [.inl (.ref 10)], A1, 0, 0)) rfl (rfl) rfl) ?_
    refine zi_rc_c (zi_run_1 (g := (12, (0, .inl (.ref 10)) :: (1, .inl (.long a)) :: (3, .inl (.long b)) :: (5, .inl (.long c)) :: [], [.inl (.ref 12)], A1, 0, 0)) rfl (show zi_get 9 3 ((0, .inl (.ref 10)) :: (1, .inl (.long a)) :: (3, .inl (.long b)) :: (5, .inl (.long c)) :: []) [.inl (.ref 10)] A1 0 0 0 1 = some (.inl (12, (0, .inl (.ref 10)) :: (1, .inl (.long a)) :: (3, .inl (.long b)) :: (5, .inl (.long c)) :: [], [.inl (.ref 12)], A1, 0, 0)) from zi_get_s rfl g1 h1) rfl) ?_
    refine zi_rc_c (zi_run_1 (g := (13, (0, .inl (.ref 10)) :: (1, .inl (.long a)) :: (3, .inl (.long b)) :: (5, .inl (.long c)) :: [], [.inl (.long b), .inl (.ref 12)], A1, 0, 0)) rfl (rfl) rfl) ?_
    refine zi_rc_c (zi_run_1 (g := (16, (0, .inl (.ref 10)) :: (1, .inl (.long a)) :: (3, .inl (.long b)) :: (5, .inl (.long c)) :: [], [], A2, 0, 0)) rfl (zi_ivv rfl (zi_rcv_s rfl q1) (zi_inv_n (c1 := 0) (c2 := 0) rfl e2)) rfl) ?_
    refine zi_rc_c (zi_run_1 (g := (17, (0, .inl (.ref 10)) :: (1, .inl (.long a)) :: (3, .inl (.long b)) :: (5, .inl (.long c)) :: [], [.inl (.ref 10)], A2, 0, 0)) rfl (rfl) rfl) ?_
    refine zi_rc_c (zi_run_1 (g := (20, (0, .inl (.ref 10)) :: (1, .inl (.long a)) :: (3, .inl (.long b)) :: (5, .inl (.long c)) :: [], [.inl (.ref 12)], A2, 0, 0)) rfl (show zi_get 17 3 ((0, .inl (.ref 10)) :: (1, .inl (.long a)) :: (3, .inl (.long b)) :: (5, .inl (.long c)) :: []) [.inl (.ref 10)] A2 0 0 0 1 = some (.inl (20, (0, .inl (.ref 10)) :: (1, .inl (.long a)) :: (3, .inl (.long b)) :: (5, .inl (.long c)) :: [], [.inl (.ref 12)], A2, 0, 0)) from zi_get_s rfl g2 h1) rfl) ?_
    refine zi_rc_c (zi_run_1 (g := (22, (0, .inl (.ref 10)) :: (1, .inl (.long a)) :: (3, .inl (.long b)) :: (5, .inl (.long c)) :: [], [.inl (.long c), .inl (.ref 12)], A2, 0, 0)) rfl (rfl) rfl) ?_
    refine zi_rc_c (zi_run_1 (g := (25, (0, .inl (.ref 10)) :: (1, .inl (.long a)) :: (3, .inl (.long b)) :: (5, .inl (.long c)) :: [], [], A3, 0, 0)) rfl (zi_ivv rfl (zi_rcv_s rfl q2) (zi_inv_n (c1 := 0) (c2 := 0) rfl e3)) rfl) ?_
    refine zi_rc_c (zi_run_1 (g := (26, (0, .inl (.ref 10)) :: (1, .inl (.long a)) :: (3, .inl (.long b)) :: (5, .inl (.long c)) :: [], [.inl (.ref 10)], A3, 0, 0)) rfl (rfl) rfl) ?_
    refine zi_rc_c (zi_run_1 (g := (29, (0, .inl (.ref 10)) :: (1, .inl (.long a)) :: (3, .inl (.long b)) :: (5, .inl (.long c)) :: [], [.inl (.ref 12)], A3, 0, 0)) rfl (show zi_get 26 3 ((0, .inl (.ref 10)) :: (1, .inl (.long a)) :: (3, .inl (.long b)) :: (5, .inl (.long c)) :: []) [.inl (.ref 10)] A3 0 0 0 1 = some (.inl (29, (0, .inl (.ref 10)) :: (1, .inl (.long a)) :: (3, .inl (.long b)) :: (5, .inl (.long c)) :: [], [.inl (.ref 12)], A3, 0, 0)) from zi_get_s rfl g3 h1) rfl) ?_
    refine zi_rc_c (zi_run_1 (g := (32, (0, .inl (.ref 10)) :: (1, .inl (.long a)) :: (3, .inl (.long b)) :: (5, .inl (.long c)) :: [], [.inl (.int (nI (zi_sg c (zi_sg b (zi_sg a j)))))], A3, 0, 0)) rfl (show zi_get 29 3 ((0, .inl (.ref 10)) :: (1, .inl (.long a)) :: (3, .inl (.long b)) :: (5, .inl (.long c)) :: []) [.inl (.ref 12)] A3 0 0 2 5 = some (.inl (32, (0, .inl (.ref 10)) :: (1, .inl (.long a)) :: (3, .inl (.long b)) :: (5, .inl (.long c)) :: [], [.inl (.int (nI (zi_sg c (zi_sg b (zi_sg a j)))))], A3, 0, 0)) from zi_get_s rfl q3 w3) rfl) ?_
    exact zi_rc_0
  refine ⟨A3, ?_, zi_Kq_t (zi_Kq_t k1 k2) k3⟩
  show (bif Nat.ble (zi_cats [.inl (.ref 10), .inl (.long a), .inl (.long b), .inl (.long c)]) zi_m70.2.2.1 then zi_loop (zi_ev zi_Ms 100000 (d + 1)) zi_m70 100000 (0, zi_ent 0 [.inl (.ref 10), .inl (.long a), .inl (.long b), .inl (.long c)], [], A, 0, 0) else none) = some (some (.inl (.int (nI (zi_sg c (zi_sg b (zi_sg a j)))))), A3, 0, 0)
  have e9 : zi_loop (zi_ev zi_Ms 100000 (d + 1)) zi_m70 100000 (0, zi_ent 0 [.inl (.ref 10), .inl (.long a), .inl (.long b), .inl (.long c)], [], A, 0, 0) = some (some (.inl (.int (nI (zi_sg c (zi_sg b (zi_sg a j)))))), A3, 0, 0) := zi_rc_end r (zi_loop_e rfl (zi_ret_i _) rfl) (Nat.le_of_ble_eq_true rfl)
  rw [show Nat.ble (zi_cats [.inl (.ref 10), .inl (.long a), .inl (.long b), .inl (.long c)]) zi_m70.2.2.1 = true from rfl, cond_true]
  exact e9
theorem zi_ev81 {d : Nat} (a b c : Int64) {A : List zi_C} {j : Nat} (hj : j + 24 ≤ 1000) (hP : zi_Pq 72 73 11 0 1 2 A j) : ∃ A', zi_ev zi_Ms 100000 (d + 2) 81 [.inl (.ref 82), .inl (.long a), .inl (.long b), .inl (.long c)] A = some (some (.inl (.int (nI (zi_sg c (zi_sg b (zi_sg a j)))))), A', 0, 0) := by
  have s1 := zi_sg_le a j
  have s2 := zi_sg_le b (zi_sg a j)
  obtain ⟨⟨fs, h1, h2, h3⟩, us, h4⟩ := hP
  have l1 : 72 < A.length := (List.getElem?_eq_some_iff.mp h1).1
  have l0 : 0 < fs.length := Nat.lt_of_le_of_lt (Nat.zero_le _) (List.getElem?_eq_some_iff.mp h3).1
  have hP0 : zi_Pq 72 73 11 0 1 2 (A.set 72 (.inl (11, fs.set 0 (.inl (.int (Int32.ofInt 0)))))) j := by
    refine ⟨⟨fs.set 0 (.inl (.int (Int32.ofInt 0))), ?_, ?_, ?_⟩, us, ?_⟩
    · simp [l1]
    · rw [List.getElem?_set_ne (by decide)]; exact h2
    · rw [List.getElem?_set_ne (by decide)]; exact h3
    · rw [List.getElem?_set_ne (by decide)]; exact h4
  obtain ⟨A1, e1, p1, k1⟩ := zi_ev39 (d := d) a (by omega) hP0
  obtain ⟨A2, e2, p2, k2⟩ := zi_ev39 (d := d) b (by omega) p1
  obtain ⟨A3, e3, p3, k3⟩ := zi_ev39 (d := d) c (by omega) p2
  obtain ⟨⟨f0, q0, -, -⟩, -⟩ := hP0
  obtain ⟨⟨f1, q1, -, -⟩, -⟩ := p1
  obtain ⟨⟨f2, q2, -, -⟩, -⟩ := p2
  obtain ⟨⟨f3, q3, -, w3⟩, -⟩ := p3
  have r : zi_rc (zi_ev zi_Ms 100000 (d + 1)) zi_m81 (0, (0, .inl (.ref 82)) :: (1, .inl (.long a)) :: (3, .inl (.long b)) :: (5, .inl (.long c)) :: [], [], A, 0, 0) (25, (0, .inl (.ref 82)) :: (1, .inl (.long a)) :: (3, .inl (.long b)) :: (5, .inl (.long c)) :: [], [.inl (.int (nI (zi_sg c (zi_sg b (zi_sg a j)))))], A3, 0, 0) 20 := by
    refine zi_rc_c (zi_run_1 (g := (1, (0, .inl (.ref 82)) :: (1, .inl (.long a)) :: (3, .inl (.long b)) :: (5, .inl (.long c)) :: [], [.inl (.ref 82)], A, 0, 0)) rfl (rfl) rfl) ?_
    refine zi_rc_c (zi_run_1 (g := (2, (0, .inl (.ref 82)) :: (1, .inl (.long a)) :: (3, .inl (.long b)) :: (5, .inl (.long c)) :: [], [.inl (.int (Int32.ofInt 0)), .inl (.ref 82)], A, 0, 0)) rfl (rfl) rfl) ?_
    refine zi_rc_c (zi_run_1 (g := (5, (0, .inl (.ref 82)) :: (1, .inl (.long a)) :: (3, .inl (.long b)) :: (5, .inl (.long c)) :: [], [], (A.set 72 (.inl (11, fs.set 0 (.inl (.int (Int32.ofInt 0)))))), 0, 0)) rfl (show zi_put 2 3 ((0, .inl (.ref 82)) :: (1, .inl (.long a)) :: (3, .inl (.long b)) :: (5, .inl (.long c)) :: []) [.inl (.int (Int32.ofInt 0)), .inl (.ref 82)] A 0 0 11 0 = some (.inl (5, (0, .inl (.ref 82)) :: (1, .inl (.long a)) :: (3, .inl (.long b)) :: (5, .inl (.long c)) :: [], [], (A.set 72 (.inl (11, fs.set 0 (.inl (.int (Int32.ofInt 0)))))), 0, 0)) from zi_put_s rfl h1 l0 (by decide +kernel)) rfl) ?_
    refine zi_rc_c (zi_run_1 (g := (6, (0, .inl (.ref 82)) :: (1, .inl (.long a)) :: (3, .inl (.long b)) :: (5, .inl (.long c)) :: [], [.inl (.ref 82)], (A.set 72 (.inl (11, fs.set 0 (.inl (.int (Int32.ofInt 0)))))), 0, 0)) rfl (rfl) rfl) ?_
    refine zi_rc_c (zi_run_1 (g := (7, (0, .inl (.ref 82)) :: (1, .inl (.long a)) :: (3, .inl (.long b)) :: (5, .inl (.long c)) :: [], [.inl (.long a), .inl (.ref 82)], (A.set 72 (.inl (11, fs.set 0 (.inl (.int (Int32.ofInt 0)))))), 0, 0)) rfl (rfl) rfl) ?_
    refine zi_rc_c (zi_run_1 (g := (10, (0, .inl (.ref 82)) :: (1, .inl (.long a)) :: (3, .inl (.long b)) :: (5, .inl (.long c)) :: [], [], A1, 0, 0)) rfl (zi_ivv rfl (zi_rcv_s rfl q0) (zi_inv_n (c1 := 0) (c2 := 0) rfl e1)) rfl) ?_
    refine zi_rc_c (zi_run_1 (g := (11, (0, .inl (.ref 82)) :: (1, .inl (.long a)) :: (3, .inl (.long b)) :: (5, .inl (.long c)) :: [], [.inl (.ref 82)], A1, 0, 0)) rfl (rfl) rfl) ?_
    refine zi_rc_c (zi_run_1 (g := (12, (0, .inl (.ref 82)) :: (1, .inl (.long a)) :: (3, .inl (.long b)) :: (5, .inl (.long c)) :: [], [.inl (.long b), .inl (.ref 82)], A1, 0, 0)) rfl (rfl) rfl) ?_
    refine zi_rc_c (zi_run_1 (g := (15, (0, .inl (.ref 82)) :: (1, .inl (.long a)) :: (3, .inl (.long b)) :: (5, .inl (.long c)) :: [], [], A2, 0, 0)) rfl (zi_ivv rfl (zi_rcv_s rfl q1) (zi_inv_n (c1 := 0) (c2 := 0) rfl e2)) rfl) ?_
    refine zi_rc_c (zi_run_1 (g := (16, (0, .inl (.ref 82)) :: (1, .inl (.long a)) :: (3, .inl (.long b)) :: (5, .inl (.long c)) :: [], [.inl (.ref 82)], A2, 0, 0)) rfl (rfl) rfl) ?_
    refine zi_rc_c (zi_run_1 (g := (18, (0, .inl (.ref 82)) :: (1, .inl (.long a)) :: (3, .inl (.long b)) :: (5, .inl (.long c)) :: [], [.inl (.long c), .inl (.ref 82)], A2, 0, 0)) rfl (rfl) rfl) ?_
    refine zi_rc_c (zi_run_1 (g := (21, (0, .inl (.ref 82)) :: (1, .inl (.long a)) :: (3, .inl (.long b)) :: (5, .inl (.long c)) :: [], [], A3, 0, 0)) rfl (zi_ivv rfl (zi_rcv_s rfl q2) (zi_inv_n (c1 := 0) (c2 := 0) rfl e3)) rfl) ?_
    refine zi_rc_c (zi_run_1 (g := (22, (0, .inl (.ref 82)) :: (1, .inl (.long a)) :: (3, .inl (.long b)) :: (5, .inl (.long c)) :: [], [.inl (.ref 82)], A3, 0, 0)) rfl (rfl) rfl) ?_
    refine zi_rc_c (zi_run_1 (g := (25, (0, .inl (.ref 82)) :: (1, .inl (.long a)) :: (3, .inl (.long b)) :: (5, .inl (.long c)) :: [], [.inl (.int (nI (zi_sg c (zi_sg b (zi_sg a j)))))], A3, 0, 0)) rfl (show zi_get 22 3 ((0, .inl (.ref 82)) :: (1, .inl (.long a)) :: (3, .inl (.long b)) :: (5, .inl (.long c)) :: []) [.inl (.ref 82)] A3 0 0 11 2 = some (.inl (25, (0, .inl (.ref 82)) :: (1, .inl (.long a)) :: (3, .inl (.long b)) :: (5, .inl (.long c)) :: [], [.inl (.int (nI (zi_sg c (zi_sg b (zi_sg a j)))))], A3, 0, 0)) from zi_get_s rfl q3 w3) rfl) ?_
    exact zi_rc_0
  refine ⟨A3, ?_⟩
  show (bif Nat.ble (zi_cats [.inl (.ref 82), .inl (.long a), .inl (.long b), .inl (.long c)]) zi_m81.2.2.1 then zi_loop (zi_ev zi_Ms 100000 (d + 1)) zi_m81 100000 (0, zi_ent 0 [.inl (.ref 82), .inl (.long a), .inl (.long b), .inl (.long c)], [], A, 0, 0) else none) = some (some (.inl (.int (nI (zi_sg c (zi_sg b (zi_sg a j)))))), A3, 0, 0)
  have e9 : zi_loop (zi_ev zi_Ms 100000 (d + 1)) zi_m81 100000 (0, zi_ent 0 [.inl (.ref 82), .inl (.long a), .inl (.long b), .inl (.long c)], [], A, 0, 0) = some (some (.inl (.int (nI (zi_sg c (zi_sg b (zi_sg a j)))))), A3, 0, 0) := zi_rc_end r (zi_loop_e rfl (zi_ret_i _) rfl) (Nat.le_of_ble_eq_true rfl)
  rw [show Nat.ble (zi_cats [.inl (.ref 82), .inl (.long a), .inl (.long b), .inl (.long c)]) zi_m81.2.2.1 = true from rfl, cond_true]
  exact e9
theorem zi_fin_c {sl : List zi_V} {n : Nat} {f g : zi_F} (h : zi_run zi_call sl zi_mlaw 1 f = some g) (h2 : zi_fin sl n g = true) : zi_fin sl (n + 1) f = true := by
  unfold zi_fin at h2 ⊢
  split at h2
  · rename_i x hx
    rw [zi_run_tr 1 n h hx]
    exact h2
  · cases h2
theorem zi_lb_1 : zi_lb zi_vb [.inl (.int (Int32.ofInt 1))] [.inl (.int 1)] = true := by decide +kernel
theorem zi_fin_0 {sl : List zi_V} {al : List (Nat × zi_V)} {A : List zi_C} : zi_fin sl 0 (1433, al, [.inl (.int (Int32.ofInt 1))], A, 100, 177797) = true := by
  show (Nat.beq 1433 1433 && zi_lb zi_vb [.inl (.int (Int32.ofInt 1))] [.inl (.int 1)] && Nat.ble 100 600002 && Nat.ble 177797 7302232) = true
  rw [zi_lb_1]
  rfl
/-- a long out of two ints of the script -/
def zi_lg (x y : Int32) : Int64 := (x.toInt64 <<< ((Int8.ofInt 32).toInt32.toInt64 &&& 63)) ||| (y.toInt64 &&& Int64.ofNat 4294967295)
theorem zi_ix : (zi_in (0 + Int32.ofInt 1) 7 && zi_in (0 + Int32.ofInt 2) 7 && zi_in (0 + Int32.ofInt 3) 7 && zi_in (0 + Int32.ofInt 4) 7 && zi_in (0 + Int32.ofInt 5) 7 && zi_in (0 + (Int8.ofInt 6).toInt32) 7) = true := by decide +kernel
theorem zi_i1t : zi_in (0 + Int32.ofInt 1) 7 = true ∧ (0 + Int32.ofInt 1 : Int32).toNatClampNeg = 1 := by decide +kernel
theorem zi_i2t : zi_in (0 + Int32.ofInt 2) 7 = true ∧ (0 + Int32.ofInt 2 : Int32).toNatClampNeg = 2 := by decide +kernel
theorem zi_i3t : zi_in (0 + Int32.ofInt 3) 7 = true ∧ (0 + Int32.ofInt 3 : Int32).toNatClampNeg = 3 := by decide +kernel
theorem zi_i4t : zi_in (0 + Int32.ofInt 4) 7 = true ∧ (0 + Int32.ofInt 4 : Int32).toNatClampNeg = 4 := by decide +kernel
theorem zi_i5t : zi_in (0 + Int32.ofInt 5) 7 = true ∧ (0 + Int32.ofInt 5 : Int32).toNatClampNeg = 5 := by decide +kernel
theorem zi_i6t : zi_in (0 + (Int8.ofInt 6).toInt32) 7 = true ∧ (0 + (Int8.ofInt 6).toInt32 : Int32).toNatClampNeg = 6 := by decide +kernel
theorem zi_P0c : zi_Pq 2 3 2 3 0 5 zi_A0 0 := by
  refine ⟨⟨_, rfl, rfl, ?_⟩, _, rfl⟩
  rw [nI_0]
  rfl
theorem zi_P0m : zi_Pq 72 73 11 0 1 2 zi_A0 0 := by
  refine ⟨⟨_, rfl, rfl, ?_⟩, _, rfl⟩
  rw [nI_0]
  rfl
theorem zi_o0 (x0 x1 x2 x3 x4 x5 x6 : Int32) : zi_fin [.inl (.int x0), .inl (.int x1), .inl (.int x2), .inl (.int x3), .inl (.int x4), .inl (.int x5), .inl (.int x6)] 116 (188, zi_al0, [], zi_A0, 100, 177797) = true := by
  obtain ⟨fs0, c0, d0⟩ : ∃ fs0 : List zi_V, zi_A0[0]? = some (.inl (0, fs0)) ∧ fs0[1]? = some (.inl (.ref 12)) := ⟨_, rfl, rfl⟩
  obtain ⟨A1, e1, k1⟩ := zi_ev70 (d := 38) (zi_lg x1 x2) (zi_lg x3 x4) (zi_lg x5 x6) c0 d0 (by decide) zi_P0c
  have p1 : zi_Pq 72 73 11 0 1 2 A1 0 := by
    obtain ⟨⟨fs, h1, h2, h3⟩, us, h4⟩ := zi_P0m
    exact ⟨⟨fs, (k1 72 (by decide) (by decide)).trans h1, h2, h3⟩, us, (k1 73 (by decide) (by decide)).trans h4⟩
  obtain ⟨A2, e2⟩ := zi_ev81 (d := 38) (zi_lg x1 x2) (zi_lg x3 x4) (zi_lg x5 x6) (by decide) p1
  obtain ⟨⟨fs2, c2, -, -⟩, -⟩ := p1
  generalize zi_sg (zi_lg x5 x6) (zi_sg (zi_lg x3 x4) (zi_sg (zi_lg x1 x2) 0)) = n at e1 e2
  refine zi_fin_c (zi_run_1 (g := (189, zi_al0, [.inl (.ref 10)], zi_A0, 100, 177797)) rfl (rfl) rfl) ?_
  refine zi_fin_c (zi_run_1 (g := (190, zi_al0, [.inl (.ref 8), .inl (.ref 10)], zi_A0, 100, 177797)) rfl (rfl) rfl) ?_
  refine zi_fin_c (zi_run_1 (g := (192, zi_al0, [.inl (.int 0), .inl (.ref 8), .inl (.ref 10)], zi_A0, 100, 177797)) rfl (rfl) rfl) ?_
  refine zi_fin_c (zi_run_1 (g := (193, zi_al0, [.inl (.int (Int32.ofInt 1)), .inl (.int 0), .inl (.ref 8), .inl (.ref 10)], zi_A0, 100, 177797)) rfl (rfl) rfl) ?_
  refine zi_fin_c (zi_run_1 (g := (194, zi_al0, [.inl (.int (0 + (Int32.ofInt 1))), .inl (.ref 8), .inl (.ref 10)], zi_A0, 100, 177797)) rfl (rfl) rfl) ?_
  refine zi_fin_c (zi_run_1 (g := (195, zi_al0, [.inl (.int x1), .inl (.ref 10)], zi_A0, 100, 177797)) rfl (show zi_ald 0 [.inl (.int x0), .inl (.int x1), .inl (.int x2), .inl (.int x3), .inl (.int x4), .inl (.int x5), .inl (.int x6)] 194 1 zi_al0 [.inl (.int (0 + (Int32.ofInt 1))), .inl (.ref 8), .inl (.ref 10)] zi_A0 100 177797 = some (.inl (195, zi_al0, [.inl (.int x1), .inl (.ref 10)], zi_A0, 100, 177797)) from zi_ald_s zi_i1t.1 zi_i1t.2 rfl) rfl) ?_
  refine zi_fin_c (zi_run_1 (g := (196, zi_al0, [.inl (.long x1.toInt64), .inl (.ref 10)], zi_A0, 100, 177797)) rfl (rfl) rfl) ?_
  refine zi_fin_c (zi_run_1 (g := (198, zi_al0, [.inl (.int (Int8.ofInt 32).toInt32), .inl (.long x1.toInt64), .inl (.ref 10)], zi_A0, 100, 177797)) rfl (rfl) rfl) ?_
  refine zi_fin_c (zi_run_1 (g := (199, zi_al0, [.inl (.long (x1.toInt64 <<< ((Int8.ofInt 32).toInt32.toInt64 &&& 63))), .inl (.ref 10)], zi_A0, 100, 177797)) rfl (rfl) rfl) ?_
  refine zi_fin_c (zi_run_1 (g := (200, zi_al0, [.inl (.ref 8), .inl (.long (x1.toInt64 <<< ((Int8.ofInt 32).toInt32.toInt64 &&& 63))), .inl (.ref 10)], zi_A0, 100, 177797)) rfl (rfl) rfl) ?_
  refine zi_fin_c (zi_run_1 (g := (202, zi_al0, [.inl (.int 0), .inl (.ref 8), .inl (.long (x1.toInt64 <<< ((Int8.ofInt 32).toInt32.toInt64 &&& 63))), .inl (.ref 10)], zi_A0, 100, 177797)) rfl (rfl) rfl) ?_
  refine zi_fin_c (zi_run_1 (g := (203, zi_al0, [.inl (.int (Int32.ofInt 2)), .inl (.int 0), .inl (.ref 8), .inl (.long (x1.toInt64 <<< ((Int8.ofInt 32).toInt32.toInt64 &&& 63))), .inl (.ref 10)], zi_A0, 100, 177797)) rfl (rfl) rfl) ?_
  refine zi_fin_c (zi_run_1 (g := (204, zi_al0, [.inl (.int (0 + (Int32.ofInt 2))), .inl (.ref 8), .inl (.long (x1.toInt64 <<< ((Int8.ofInt 32).toInt32.toInt64 &&& 63))), .inl (.ref 10)], zi_A0, 100, 177797)) rfl (rfl) rfl) ?_
  refine zi_fin_c (zi_run_1 (g := (205, zi_al0, [.inl (.int x2), .inl (.long (x1.toInt64 <<< ((Int8.ofInt 32).toInt32.toInt64 &&& 63))), .inl (.ref 10)], zi_A0, 100, 177797)) rfl (show zi_ald 0 [.inl (.int x0), .inl (.int x1), .inl (.int x2), .inl (.int x3), .inl (.int x4), .inl (.int x5), .inl (.int x6)] 204 1 zi_al0 [.inl (.int (0 + (Int32.ofInt 2))), .inl (.ref 8), .inl (.long (x1.toInt64 <<< ((Int8.ofInt 32).toInt32.toInt64 &&& 63))), .inl (.ref 10)] zi_A0 100 177797 = some (.inl (205, zi_al0, [.inl (.int x2), .inl (.long (x1.toInt64 <<< ((Int8.ofInt 32).toInt32.toInt64 &&& 63))), .inl (.ref 10)], zi_A0, 100, 177797)) from zi_ald_s zi_i2t.1 zi_i2t.2 rfl) rfl) ?_
  refine zi_fin_c (zi_run_1 (g := (206, zi_al0, [.inl (.long x2.toInt64), .inl (.long (x1.toInt64 <<< ((Int8.ofInt 32).toInt32.toInt64 &&& 63))), .inl (.ref 10)], zi_A0, 100, 177797)) rfl (rfl) rfl) ?_
  refine zi_fin_c (zi_run_1 (g := (209, zi_al0, [.inl (.long (Int64.ofNat 4294967295)), .inl (.long x2.toInt64), .inl (.long (x1.toInt64 <<< ((Int8.ofInt 32).toInt32.toInt64 &&& 63))), .inl (.ref 10)], zi_A0, 100, 177797)) rfl (rfl) rfl) ?_
  refine zi_fin_c (zi_run_1 (g := (210, zi_al0, [.inl (.long (x2.toInt64 &&& Int64.ofNat 4294967295)), .inl (.long (x1.toInt64 <<< ((Int8.ofInt 32).toInt32.toInt64 &&& 63))), .inl (.ref 10)], zi_A0, 100, 177797)) rfl (rfl) rfl) ?_
  refine zi_fin_c (zi_run_1 (g := (211, zi_al0, [.inl (.long (zi_lg x1 x2)), .inl (.ref 10)], zi_A0, 100, 177797)) rfl (rfl) rfl) ?_
  refine zi_fin_c (zi_run_1 (g := (212, zi_al0, [.inl (.ref 8), .inl (.long (zi_lg x1 x2)), .inl (.ref 10)], zi_A0, 100, 177797)) rfl (rfl) rfl) ?_
  refine zi_fin_c (zi_run_1 (g := (214, zi_al0, [.inl (.int 0), .inl (.ref 8), .inl (.long (zi_lg x1 x2)), .inl (.ref 10)], zi_A0, 100, 177797)) rfl (rfl) rfl) ?_
  refine zi_fin_c (zi_run_1 (g := (215, zi_al0, [.inl (.int (Int32.ofInt 3)), .inl (.int 0), .inl (.ref 8), .inl (.long (zi_lg x1 x2)), .inl (.ref 10)], zi_A0, 100, 177797)) rfl (rfl) rfl) ?_
  refine zi_fin_c (zi_run_1 (g := (216, zi_al0, [.inl (.int (0 + (Int32.ofInt 3))), .inl (.ref 8), .inl (.long (zi_lg x1 x2)), .inl (.ref 10)], zi_A0, 100, 177797)) rfl (rfl) rfl) ?_
  refine zi_fin_c (zi_run_1 (g := (217, zi_al0, [.inl (.int x3), .inl (.long (zi_lg x1 x2)), .inl (.ref 10)], zi_A0, 100, 177797)) rfl (show zi_ald 0 [.inl (.int x0), .inl (.int x1), .inl (.int x2), .inl (.int x3), .inl (.int x4), .inl (.int x5), .inl (.int x6)] 216 1 zi_al0 [.inl (.int (0 + (Int32.ofInt 3))), .inl (.ref 8), .inl (.long (zi_lg x1 x2)), .inl (.ref 10)] zi_A0 100 177797 = some (.inl (217, zi_al0, [.inl (.int x3), .inl (.long (zi_lg x1 x2)), .inl (.ref 10)], zi_A0, 100, 177797)) from zi_ald_s zi_i3t.1 zi_i3t.2 rfl) rfl) ?_
  refine zi_fin_c (zi_run_1 (g := (218, zi_al0, [.inl (.long x3.toInt64), .inl (.long (zi_lg x1 x2)), .inl (.ref 10)], zi_A0, 100, 177797)) rfl (rfl) rfl) ?_
  refine zi_fin_c (zi_run_1 (g := (220, zi_al0, [.inl (.int (Int8.ofInt 32).toInt32), .inl (.long x3.toInt64), .inl (.long (zi_lg x1 x2)), .inl (.ref 10)], zi_A0, 100, 177797)) rfl (rfl) rfl) ?_
  refine zi_fin_c (zi_run_1 (g := (221, zi_al0, [.inl (.long (x3.toInt64 <<< ((Int8.ofInt 32).toInt32.toInt64 &&& 63))), .inl (.long (zi_lg x1 x2)), .inl (.ref 10)], zi_A0, 100, 177797)) rfl (rfl) rfl) ?_
  refine zi_fin_c (zi_run_1 (g := (222, zi_al0, [.inl (.ref 8), .inl (.long (x3.toInt64 <<< ((Int8.ofInt 32).toInt32.toInt64 &&& 63))), .inl (.long (zi_lg x1 x2)), .inl (.ref 10)], zi_A0, 100, 177797)) rfl (rfl) rfl) ?_
  refine zi_fin_c (zi_run_1 (g := (224, zi_al0, [.inl (.int 0), .inl (.ref 8), .inl (.long (x3.toInt64 <<< ((Int8.ofInt 32).toInt32.toInt64 &&& 63))), .inl (.long (zi_lg x1 x2)), .inl (.ref 10)], zi_A0, 100, 177797)) rfl (rfl) rfl) ?_
  refine zi_fin_c (zi_run_1 (g := (225, zi_al0, [.inl (.int (Int32.ofInt 4)), .inl (.int 0), .inl (.ref 8), .inl (.long (x3.toInt64 <<< ((Int8.ofInt 32).toInt32.toInt64 &&& 63))), .inl (.long (zi_lg x1 x2)), .inl (.ref 10)], zi_A0, 100, 177797)) rfl (rfl) rfl) ?_
  refine zi_fin_c (zi_run_1 (g := (226, zi_al0, [.inl (.int (0 + (Int32.ofInt 4))), .inl (.ref 8), .inl (.long (x3.toInt64 <<< ((Int8.ofInt 32).toInt32.toInt64 &&& 63))), .inl (.long (zi_lg x1 x2)), .inl (.ref 10)], zi_A0, 100, 177797)) rfl (rfl) rfl) ?_
  refine zi_fin_c (zi_run_1 (g := (227, zi_al0, [.inl (.int x4), .inl (.long (x3.toInt64 <<< ((Int8.ofInt 32).toInt32.toInt64 &&& 63))), .inl (.long (zi_lg x1 x2)), .inl (.ref 10)], zi_A0, 100, 177797)) rfl (show zi_ald 0 [.inl (.int x0), .inl (.int x1), .inl (.int x2), .inl (.int x3), .inl (.int x4), .inl (.int x5), .inl (.int x6)] 226 1 zi_al0 [.inl (.int (0 + (Int32.ofInt 4))), .inl (.ref 8), .inl (.long (x3.toInt64 <<< ((Int8.ofInt 32).toInt32.toInt64 &&& 63))), .inl (.long (zi_lg x1 x2)), .inl (.ref 10)] zi_A0 100 177797 = some (.inl (227, zi_al0, [.inl (.int x4), .inl (.long (x3.toInt64 <<< ((Int8.ofInt 32).toInt32.toInt64 &&& 63))), .inl (.long (zi_lg x1 x2)), .inl (.ref 10)], zi_A0, 100, 177797)) from zi_ald_s zi_i4t.1 zi_i4t.2 rfl) rfl) ?_
  refine zi_fin_c (zi_run_1 (g := (228, zi_al0, [.inl (.long x4.toInt64), .inl (.long (x3.toInt64 <<< ((Int8.ofInt 32).toInt32.toInt64 &&& 63))), .inl (.long (zi_lg x1 x2)), .inl (.ref 10)], zi_A0, 100, 177797)) rfl (rfl) rfl) ?_
  refine zi_fin_c (zi_run_1 (g := (231, zi_al0, [.inl (.long (Int64.ofNat 4294967295)), .inl (.long x4.toInt64), .inl (.long (x3.toInt64 <<< ((Int8.ofInt 32).toInt32.toInt64 &&& 63))), .inl (.long (zi_lg x1 x2)), .inl (.ref 10)], zi_A0, 100, 177797)) rfl (rfl) rfl) ?_
  refine zi_fin_c (zi_run_1 (g := (232, zi_al0, [.inl (.long (x4.toInt64 &&& Int64.ofNat 4294967295)), .inl (.long (x3.toInt64 <<< ((Int8.ofInt 32).toInt32.toInt64 &&& 63))), .inl (.long (zi_lg x1 x2)), .inl (.ref 10)], zi_A0, 100, 177797)) rfl (rfl) rfl) ?_
  refine zi_fin_c (zi_run_1 (g := (233, zi_al0, [.inl (.long (zi_lg x3 x4)), .inl (.long (zi_lg x1 x2)), .inl (.ref 10)], zi_A0, 100, 177797)) rfl (rfl) rfl) ?_
  refine zi_fin_c (zi_run_1 (g := (234, zi_al0, [.inl (.ref 8), .inl (.long (zi_lg x3 x4)), .inl (.long (zi_lg x1 x2)), .inl (.ref 10)], zi_A0, 100, 177797)) rfl (rfl) rfl) ?_
  refine zi_fin_c (zi_run_1 (g := (236, zi_al0, [.inl (.int 0), .inl (.ref 8), .inl (.long (zi_lg x3 x4)), .inl (.long (zi_lg x1 x2)), .inl (.ref 10)], zi_A0, 100, 177797)) rfl (rfl) rfl) ?_
  refine zi_fin_c (zi_run_1 (g := (237, zi_al0, [.inl (.int (Int32.ofInt 5)), .inl (.int 0), .inl (.ref 8), .inl (.long (zi_lg x3 x4)), .inl (.long (zi_lg x1 x2)), .inl (.ref 10)], zi_A0, 100, 177797)) rfl (rfl) rfl) ?_
  refine zi_fin_c (zi_run_1 (g := (238, zi_al0, [.inl (.int (0 + (Int32.ofInt 5))), .inl (.ref 8), .inl (.long (zi_lg x3 x4)), .inl (.long (zi_lg x1 x2)), .inl (.ref 10)], zi_A0, 100, 177797)) rfl (rfl) rfl) ?_
  refine zi_fin_c (zi_run_1 (g := (239, zi_al0, [.inl (.int x5), .inl (.long (zi_lg x3 x4)), .inl (.long (zi_lg x1 x2)), .inl (.ref 10)], zi_A0, 100, 177797)) rfl (show zi_ald 0 [.inl (.int x0), .inl (.int x1), .inl (.int x2), .inl (.int x3), .inl (.int x4), .inl (.int x5), .inl (.int x6)] 238 1 zi_al0 [.inl (.int (0 + (Int32.ofInt 5))), .inl (.ref 8), .inl (.long (zi_lg x3 x4)), .inl (.long (zi_lg x1 x2)), .inl (.ref 10)] zi_A0 100 177797 = some (.inl (239, zi_al0, [.inl (.int x5), .inl (.long (zi_lg x3 x4)), .inl (.long (zi_lg x1 x2)), .inl (.ref 10)], zi_A0, 100, 177797)) from zi_ald_s zi_i5t.1 zi_i5t.2 rfl) rfl) ?_
  refine zi_fin_c (zi_run_1 (g := (240, zi_al0, [.inl (.long x5.toInt64), .inl (.long (zi_lg x3 x4)), .inl (.long (zi_lg x1 x2)), .inl (.ref 10)], zi_A0, 100, 177797)) rfl (rfl) rfl) ?_
  refine zi_fin_c (zi_run_1 (g := (242, zi_al0, [.inl (.int (Int8.ofInt 32).toInt32), .inl (.long x5.toInt64), .inl (.long (zi_lg x3 x4)), .inl (.long (zi_lg x1 x2)), .inl (.ref 10)], zi_A0, 100, 177797)) rfl (rfl) rfl) ?_
  refine zi_fin_c (zi_run_1 (g := (243, zi_al0, [.inl (.long (x5.toInt64 <<< ((Int8.ofInt 32).toInt32.toInt64 &&& 63))), .inl (.long (zi_lg x3 x4)), .inl (.long (zi_lg x1 x2)), .inl (.ref 10)], zi_A0, 100, 177797)) rfl (rfl) rfl) ?_
  refine zi_fin_c (zi_run_1 (g := (244, zi_al0, [.inl (.ref 8), .inl (.long (x5.toInt64 <<< ((Int8.ofInt 32).toInt32.toInt64 &&& 63))), .inl (.long (zi_lg x3 x4)), .inl (.long (zi_lg x1 x2)), .inl (.ref 10)], zi_A0, 100, 177797)) rfl (rfl) rfl) ?_
  refine zi_fin_c (zi_run_1 (g := (246, zi_al0, [.inl (.int 0), .inl (.ref 8), .inl (.long (x5.toInt64 <<< ((Int8.ofInt 32).toInt32.toInt64 &&& 63))), .inl (.long (zi_lg x3 x4)), .inl (.long (zi_lg x1 x2)), .inl (.ref 10)], zi_A0, 100, 177797)) rfl (rfl) rfl) ?_
  refine zi_fin_c (zi_run_1 (g := (248, zi_al0, [.inl (.int (Int8.ofInt 6).toInt32), .inl (.int 0), .inl (.ref 8), .inl (.long (x5.toInt64 <<< ((Int8.ofInt 32).toInt32.toInt64 &&& 63))), .inl (.long (zi_lg x3 x4)), .inl (.long (zi_lg x1 x2)), .inl (.ref 10)], zi_A0, 100, 177797)) rfl (rfl) rfl) ?_
  refine zi_fin_c (zi_run_1 (g := (249, zi_al0, [.inl (.int (0 + (Int8.ofInt 6).toInt32)), .inl (.ref 8), .inl (.long (x5.toInt64 <<< ((Int8.ofInt 32).toInt32.toInt64 &&& 63))), .inl (.long (zi_lg x3 x4)), .inl (.long (zi_lg x1 x2)), .inl (.ref 10)], zi_A0, 100, 177797)) rfl (rfl) rfl) ?_
  refine zi_fin_c (zi_run_1 (g := (250, zi_al0, [.inl (.int x6), .inl (.long (x5.toInt64 <<< ((Int8.ofInt 32).toInt32.toInt64 &&& 63))), .inl (.long (zi_lg x3 x4)), .inl (.long (zi_lg x1 x2)), .inl (.ref 10)], zi_A0, 100, 177797)) rfl (show zi_ald 0 [.inl (.int x0), .inl (.int x1), .inl (.int x2), .inl (.int x3), .inl (.int x4), .inl (.int x5), .inl (.int x6)] 249 1 zi_al0 [.inl (.int (0 + (Int8.ofInt 6).toInt32)), .inl (.ref 8), .inl (.long (x5.toInt64 <<< ((Int8.ofInt 32).toInt32.toInt64 &&& 63))), .inl (.long (zi_lg x3 x4)), .inl (.long (zi_lg x1 x2)), .inl (.ref 10)] zi_A0 100 177797 = some (.inl (250, zi_al0, [.inl (.int x6), .inl (.long (x5.toInt64 <<< ((Int8.ofInt 32).toInt32.toInt64 &&& 63))), .inl (.long (zi_lg x3 x4)), .inl (.long (zi_lg x1 x2)), .inl (.ref 10)], zi_A0, 100, 177797)) from zi_ald_s zi_i6t.1 zi_i6t.2 rfl) rfl) ?_
  refine zi_fin_c (zi_run_1 (g := (251, zi_al0, [.inl (.long x6.toInt64), .inl (.long (x5.toInt64 <<< ((Int8.ofInt 32).toInt32.toInt64 &&& 63))), .inl (.long (zi_lg x3 x4)), .inl (.long (zi_lg x1 x2)), .inl (.ref 10)], zi_A0, 100, 177797)) rfl (rfl) rfl) ?_
  refine zi_fin_c (zi_run_1 (g := (254, zi_al0, [.inl (.long (Int64.ofNat 4294967295)), .inl (.long x6.toInt64), .inl (.long (x5.toInt64 <<< ((Int8.ofInt 32).toInt32.toInt64 &&& 63))), .inl (.long (zi_lg x3 x4)), .inl (.long (zi_lg x1 x2)), .inl (.ref 10)], zi_A0, 100, 177797)) rfl (rfl) rfl) ?_
  refine zi_fin_c (zi_run_1 (g := (255, zi_al0, [.inl (.long (x6.toInt64 &&& Int64.ofNat 4294967295)), .inl (.long (x5.toInt64 <<< ((Int8.ofInt 32).toInt32.toInt64 &&& 63))), .inl (.long (zi_lg x3 x4)), .inl (.long (zi_lg x1 x2)), .inl (.ref 10)], zi_A0, 100, 177797)) rfl (rfl) rfl) ?_
  refine zi_fin_c (zi_run_1 (g := (256, zi_al0, [.inl (.long (zi_lg x5 x6)), .inl (.long (zi_lg x3 x4)), .inl (.long (zi_lg x1 x2)), .inl (.ref 10)], zi_A0, 100, 177797)) rfl (rfl) rfl) ?_
  refine zi_fin_c (zi_run_1 (g := (259, zi_al0, [.inl (.int (nI n))], A1, 100, 177797)) rfl (zi_ivv rfl (zi_rcv_s rfl c0) (zi_inv_s (c1 := 0) (c2 := 0) rfl e1)) rfl) ?_
  refine zi_fin_c (zi_run_1 (g := (260, zi_al0, [.inl (.ref 82), .inl (.int (nI n))], A1, 100, 177797)) rfl (rfl) rfl) ?_
  refine zi_fin_c (zi_run_1 (g := (261, zi_al0, [.inl (.ref 8), .inl (.ref 82), .inl (.int (nI n))], A1, 100, 177797)) rfl (rfl) rfl) ?_
  refine zi_fin_c (zi_run_1 (g := (263, zi_al0, [.inl (.int 0), .inl (.ref 8), .inl (.ref 82), .inl (.int (nI n))], A1, 100, 177797)) rfl (rfl) rfl) ?_
  refine zi_fin_c (zi_run_1 (g := (264, zi_al0, [.inl (.int (Int32.ofInt 1)), .inl (.int 0), .inl (.ref 8), .inl (.ref 82), .inl (.int (nI n))], A1, 100, 177797)) rfl (rfl) rfl) ?_
  refine zi_fin_c (zi_run_1 (g := (265, zi_al0, [.inl (.int (0 + (Int32.ofInt 1))), .inl (.ref 8), .inl (.ref 82), .inl (.int (nI n))], A1, 100, 177797)) rfl (rfl) rfl) ?_
  refine zi_fin_c (zi_run_1 (g := (266, zi_al0, [.inl (.int x1), .inl (.ref 82), .inl (.int (nI n))], A1, 100, 177797)) rfl (show zi_ald 0 [.inl (.int x0), .inl (.int x1), .inl (.int x2), .inl (.int x3), .inl (.int x4), .inl (.int x5), .inl (.int x6)] 265 1 zi_al0 [.inl (.int (0 + (Int32.ofInt 1))), .inl (.ref 8), .inl (.ref 82), .inl (.int (nI n))] A1 100 177797 = some (.inl (266, zi_al0, [.inl (.int x1), .inl (.ref 82), .inl (.int (nI n))], A1, 100, 177797)) from zi_ald_s zi_i1t.1 zi_i1t.2 rfl) rfl) ?_
  refine zi_fin_c (zi_run_1 (g := (267, zi_al0, [.inl (.long x1.toInt64), .inl (.ref 82), .inl (.int (nI n))], A1, 100, 177797)) rfl (rfl) rfl) ?_
  refine zi_fin_c (zi_run_1 (g := (269, zi_al0, [.inl (.int (Int8.ofInt 32).toInt32), .inl (.long x1.toInt64), .inl (.ref 82), .inl (.int (nI n))], A1, 100, 177797)) rfl (rfl) rfl) ?_
  refine zi_fin_c (zi_run_1 (g := (270, zi_al0, [.inl (.long (x1.toInt64 <<< ((Int8.ofInt 32).toInt32.toInt64 &&& 63))), .inl (.ref 82), .inl (.int (nI n))], A1, 100, 177797)) rfl (rfl) rfl) ?_
  refine zi_fin_c (zi_run_1 (g := (271, zi_al0, [.inl (.ref 8), .inl (.long (x1.toInt64 <<< ((Int8.ofInt 32).toInt32.toInt64 &&& 63))), .inl (.ref 82), .inl (.int (nI n))], A1, 100, 177797)) rfl (rfl) rfl) ?_
  refine zi_fin_c (zi_run_1 (g := (273, zi_al0, [.inl (.int 0), .inl (.ref 8), .inl (.long (x1.toInt64 <<< ((Int8.ofInt 32).toInt32.toInt64 &&& 63))), .inl (.ref 82), .inl (.int (nI n))], A1, 100, 177797)) rfl (rfl) rfl) ?_
  refine zi_fin_c (zi_run_1 (g := (274, zi_al0, [.inl (.int (Int32.ofInt 2)), .inl (.int 0), .inl (.ref 8), .inl (.long (x1.toInt64 <<< ((Int8.ofInt 32).toInt32.toInt64 &&& 63))), .inl (.ref 82), .inl (.int (nI n))], A1, 100, 177797)) rfl (rfl) rfl) ?_
  refine zi_fin_c (zi_run_1 (g := (275, zi_al0, [.inl (.int (0 + (Int32.ofInt 2))), .inl (.ref 8), .inl (.long (x1.toInt64 <<< ((Int8.ofInt 32).toInt32.toInt64 &&& 63))), .inl (.ref 82), .inl (.int (nI n))], A1, 100, 177797)) rfl (rfl) rfl) ?_
  refine zi_fin_c (zi_run_1 (g := (276, zi_al0, [.inl (.int x2), .inl (.long (x1.toInt64 <<< ((Int8.ofInt 32).toInt32.toInt64 &&& 63))), .inl (.ref 82), .inl (.int (nI n))], A1, 100, 177797)) rfl (show zi_ald 0 [.inl (.int x0), .inl (.int x1), .inl (.int x2), .inl (.int x3), .inl (.int x4), .inl (.int x5), .inl (.int x6)] 275 1 zi_al0 [.inl (.int (0 + (Int32.ofInt 2))), .inl (.ref 8), .inl (.long (x1.toInt64 <<< ((Int8.ofInt 32).toInt32.toInt64 &&& 63))), .inl (.ref 82), .inl (.int (nI n))] A1 100 177797 = some (.inl (276, zi_al0, [.inl (.int x2), .inl (.long (x1.toInt64 <<< ((Int8.ofInt 32).toInt32.toInt64 &&& 63))), .inl (.ref 82), .inl (.int (nI n))], A1, 100, 177797)) from zi_ald_s zi_i2t.1 zi_i2t.2 rfl) rfl) ?_
  refine zi_fin_c (zi_run_1 (g := (277, zi_al0, [.inl (.long x2.toInt64), .inl (.long (x1.toInt64 <<< ((Int8.ofInt 32).toInt32.toInt64 &&& 63))), .inl (.ref 82), .inl (.int (nI n))], A1, 100, 177797)) rfl (rfl) rfl) ?_
  refine zi_fin_c (zi_run_1 (g := (280, zi_al0, [.inl (.long (Int64.ofNat 4294967295)), .inl (.long x2.toInt64), .inl (.long (x1.toInt64 <<< ((Int8.ofInt 32).toInt32.toInt64 &&& 63))), .inl (.ref 82), .inl (.int (nI n))], A1, 100, 177797)) rfl (rfl) rfl) ?_
  refine zi_fin_c (zi_run_1 (g := (281, zi_al0, [.inl (.long (x2.toInt64 &&& Int64.ofNat 4294967295)), .inl (.long (x1.toInt64 <<< ((Int8.ofInt 32).toInt32.toInt64 &&& 63))), .inl (.ref 82), .inl (.int (nI n))], A1, 100, 177797)) rfl (rfl) rfl) ?_
  refine zi_fin_c (zi_run_1 (g := (282, zi_al0, [.inl (.long (zi_lg x1 x2)), .inl (.ref 82), .inl (.int (nI n))], A1, 100, 177797)) rfl (rfl) rfl) ?_
  refine zi_fin_c (zi_run_1 (g := (283, zi_al0, [.inl (.ref 8), .inl (.long (zi_lg x1 x2)), .inl (.ref 82), .inl (.int (nI n))], A1, 100, 177797)) rfl (rfl) rfl) ?_
  refine zi_fin_c (zi_run_1 (g := (285, zi_al0, [.inl (.int 0), .inl (.ref 8), .inl (.long (zi_lg x1 x2)), .inl (.ref 82), .inl (.int (nI n))], A1, 100, 177797)) rfl (rfl) rfl) ?_
  refine zi_fin_c (zi_run_1 (g := (286, zi_al0, [.inl (.int (Int32.ofInt 3)), .inl (.int 0), .inl (.ref 8), .inl (.long (zi_lg x1 x2)), .inl (.ref 82), .inl (.int (nI n))], A1, 100, 177797)) rfl (rfl) rfl) ?_
  refine zi_fin_c (zi_run_1 (g := (287, zi_al0, [.inl (.int (0 + (Int32.ofInt 3))), .inl (.ref 8), .inl (.long (zi_lg x1 x2)), .inl (.ref 82), .inl (.int (nI n))], A1, 100, 177797)) rfl (rfl) rfl) ?_
  refine zi_fin_c (zi_run_1 (g := (288, zi_al0, [.inl (.int x3), .inl (.long (zi_lg x1 x2)), .inl (.ref 82), .inl (.int (nI n))], A1, 100, 177797)) rfl (show zi_ald 0 [.inl (.int x0), .inl (.int x1), .inl (.int x2), .inl (.int x3), .inl (.int x4), .inl (.int x5), .inl (.int x6)] 287 1 zi_al0 [.inl (.int (0 + (Int32.ofInt 3))), .inl (.ref 8), .inl (.long (zi_lg x1 x2)), .inl (.ref 82), .inl (.int (nI n))] A1 100 177797 = some (.inl (288, zi_al0, [.inl (.int x3), .inl (.long (zi_lg x1 x2)), .inl (.ref 82), .inl (.int (nI n))], A1, 100, 177797)) from zi_ald_s zi_i3t.1 zi_i3t.2 rfl) rfl) ?_
  refine zi_fin_c (zi_run_1 (g := (289, zi_al0, [.inl (.long x3.toInt64), .inl (.long (zi_lg x1 x2)), .inl (.ref 82), .inl (.int (nI n))], A1, 100, 177797)) rfl (rfl) rfl) ?_
  refine zi_fin_c (zi_run_1 (g := (291, zi_al0, [.inl (.int (Int8.ofInt 32).toInt32), .inl (.long x3.toInt64), .inl (.long (zi_lg x1 x2)), .inl (.ref 82), .inl (.int (nI n))], A1, 100, 177797)) rfl (rfl) rfl) ?_
  refine zi_fin_c (zi_run_1 (g := (292, zi_al0, [.inl (.long (x3.toInt64 <<< ((Int8.ofInt 32).toInt32.toInt64 &&& 63))), .inl (.long (zi_lg x1 x2)), .inl (.ref 82), .inl (.int (nI n))], A1, 100, 177797)) rfl (rfl) rfl) ?_
  refine zi_fin_c (zi_run_1 (g := (293, zi_al0, [.inl (.ref 8), .inl (.long (x3.toInt64 <<< ((Int8.ofInt 32).toInt32.toInt64 &&& 63))), .inl (.long (zi_lg x1 x2)), .inl (.ref 82), .inl (.int (nI n))], A1, 100, 177797)) rfl (rfl) rfl) ?_
  refine zi_fin_c (zi_run_1 (g := (295, zi_al0, [.inl (.int 0), .inl (.ref 8), .inl (.long (x3.toInt64 <<< ((Int8.ofInt 32).toInt32.toInt64 &&& 63))), .inl (.long (zi_lg x1 x2)), .inl (.ref 82), .inl (.int (nI n))], A1, 100, 177797)) rfl (rfl) rfl) ?_
  refine zi_fin_c (zi_run_1 (g := (296, zi_al0, [.inl (.int (Int32.ofInt 4)), .inl (.int 0), .inl (.ref 8), .inl (.long (x3.toInt64 <<< ((Int8.ofInt 32).toInt32.toInt64 &&& 63))), .inl (.long (zi_lg x1 x2)), .inl (.ref 82), .inl (.int (nI n))], A1, 100, 177797)) rfl (rfl) rfl) ?_
  refine zi_fin_c (zi_run_1 (g := (297, zi_al0, [.inl (.int (0 + (Int32.ofInt 4))), .inl (.ref 8), .inl (.long (x3.toInt64 <<< ((Int8.ofInt 32).toInt32.toInt64 &&& 63))), .inl (.long (zi_lg x1 x2)), .inl (.ref 82), .inl (.int (nI n))], A1, 100, 177797)) rfl (rfl) rfl) ?_
  refine zi_fin_c (zi_run_1 (g := (298, zi_al0, [.inl (.int x4), .inl (.long (x3.toInt64 <<< ((Int8.ofInt 32).toInt32.toInt64 &&& 63))), .inl (.long (zi_lg x1 x2)), .inl (.ref 82), .inl (.int (nI n))], A1, 100, 177797)) rfl (show zi_ald 0 [.inl (.int x0), .inl (.int x1), .inl (.int x2), .inl (.int x3), .inl (.int x4), .inl (.int x5), .inl (.int x6)] 297 1 zi_al0 [.inl (.int (0 + (Int32.ofInt 4))), .inl (.ref 8), .inl (.long (x3.toInt64 <<< ((Int8.ofInt 32).toInt32.toInt64 &&& 63))), .inl (.long (zi_lg x1 x2)), .inl (.ref 82), .inl (.int (nI n))] A1 100 177797 = some (.inl (298, zi_al0, [.inl (.int x4), .inl (.long (x3.toInt64 <<< ((Int8.ofInt 32).toInt32.toInt64 &&& 63))), .inl (.long (zi_lg x1 x2)), .inl (.ref 82), .inl (.int (nI n))], A1, 100, 177797)) from zi_ald_s zi_i4t.1 zi_i4t.2 rfl) rfl) ?_
  refine zi_fin_c (zi_run_1 (g := (299, zi_al0, [.inl (.long x4.toInt64), .inl (.long (x3.toInt64 <<< ((Int8.ofInt 32).toInt32.toInt64 &&& 63))), .inl (.long (zi_lg x1 x2)), .inl (.ref 82), .inl (.int (nI n))], A1, 100, 177797)) rfl (rfl) rfl) ?_
  refine zi_fin_c (zi_run_1 (g := (302, zi_al0, [.inl (.long (Int64.ofNat 4294967295)), .inl (.long x4.toInt64), .inl (.long (x3.toInt64 <<< ((Int8.ofInt 32).toInt32.toInt64 &&& 63))), .inl (.long (zi_lg x1 x2)), .inl (.ref 82), .inl (.int (nI n))], A1, 100, 177797)) rfl (rfl) rfl) ?_
  refine zi_fin_c (zi_run_1 (g := (303, zi_al0, [.inl (.long (x4.toInt64 &&& Int64.ofNat 4294967295)), .inl (.long (x3.toInt64 <<< ((Int8.ofInt 32).toInt32.toInt64 &&& 63))), .inl (.long (zi_lg x1 x2)), .inl (.ref 82), .inl (.int (nI n))], A1, 100, 177797)) rfl (rfl) rfl) ?_
  refine zi_fin_c (zi_run_1 (g := (304, zi_al0, [.inl (.long (zi_lg x3 x4)), .inl (.long (zi_lg x1 x2)), .inl (.ref 82), .inl (.int (nI n))], A1, 100, 177797)) rfl (rfl) rfl) ?_
  refine zi_fin_c (zi_run_1 (g := (305, zi_al0, [.inl (.ref 8), .inl (.long (zi_lg x3 x4)), .inl (.long (zi_lg x1 x2)), .inl (.ref 82), .inl (.int (nI n))], A1, 100, 177797)) rfl (rfl) rfl) ?_
  refine zi_fin_c (zi_run_1 (g := (307, zi_al0, [.inl (.int 0), .inl (.ref 8), .inl (.long (zi_lg x3 x4)), .inl (.long (zi_lg x1 x2)), .inl (.ref 82), .inl (.int (nI n))], A1, 100, 177797)) rfl (rfl) rfl) ?_
  refine zi_fin_c (zi_run_1 (g := (308, zi_al0, [.inl (.int (Int32.ofInt 5)), .inl (.int 0), .inl (.ref 8), .inl (.long (zi_lg x3 x4)), .inl (.long (zi_lg x1 x2)), .inl (.ref 82), .inl (.int (nI n))], A1, 100, 177797)) rfl (rfl) rfl) ?_
  refine zi_fin_c (zi_run_1 (g := (309, zi_al0, [.inl (.int (0 + (Int32.ofInt 5))), .inl (.ref 8), .inl (.long (zi_lg x3 x4)), .inl (.long (zi_lg x1 x2)), .inl (.ref 82), .inl (.int (nI n))], A1, 100, 177797)) rfl (rfl) rfl) ?_
  refine zi_fin_c (zi_run_1 (g := (310, zi_al0, [.inl (.int x5), .inl (.long (zi_lg x3 x4)), .inl (.long (zi_lg x1 x2)), .inl (.ref 82), .inl (.int (nI n))], A1, 100, 177797)) rfl (show zi_ald 0 [.inl (.int x0), .inl (.int x1), .inl (.int x2), .inl (.int x3), .inl (.int x4), .inl (.int x5), .inl (.int x6)] 309 1 zi_al0 [.inl (.int (0 + (Int32.ofInt 5))), .inl (.ref 8), .inl (.long (zi_lg x3 x4)), .inl (.long (zi_lg x1 x2)), .inl (.ref 82), .inl (.int (nI n))] A1 100 177797 = some (.inl (310, zi_al0, [.inl (.int x5), .inl (.long (zi_lg x3 x4)), .inl (.long (zi_lg x1 x2)), .inl (.ref 82), .inl (.int (nI n))], A1, 100, 177797)) from zi_ald_s zi_i5t.1 zi_i5t.2 rfl) rfl) ?_
  refine zi_fin_c (zi_run_1 (g := (311, zi_al0, [.inl (.long x5.toInt64), .inl (.long (zi_lg x3 x4)), .inl (.long (zi_lg x1 x2)), .inl (.ref 82), .inl (.int (nI n))], A1, 100, 177797)) rfl (rfl) rfl) ?_
  refine zi_fin_c (zi_run_1 (g := (313, zi_al0, [.inl (.int (Int8.ofInt 32).toInt32), .inl (.long x5.toInt64), .inl (.long (zi_lg x3 x4)), .inl (.long (zi_lg x1 x2)), .inl (.ref 82), .inl (.int (nI n))], A1, 100, 177797)) rfl (rfl) rfl) ?_
  refine zi_fin_c (zi_run_1 (g := (314, zi_al0, [.inl (.long (x5.toInt64 <<< ((Int8.ofInt 32).toInt32.toInt64 &&& 63))), .inl (.long (zi_lg x3 x4)), .inl (.long (zi_lg x1 x2)), .inl (.ref 82), .inl (.int (nI n))], A1, 100, 177797)) rfl (rfl) rfl) ?_
  refine zi_fin_c (zi_run_1 (g := (315, zi_al0, [.inl (.ref 8), .inl (.long (x5.toInt64 <<< ((Int8.ofInt 32).toInt32.toInt64 &&& 63))), .inl (.long (zi_lg x3 x4)), .inl (.long (zi_lg x1 x2)), .inl (.ref 82), .inl (.int (nI n))], A1, 100, 177797)) rfl (rfl) rfl) ?_
  refine zi_fin_c (zi_run_1 (g := (317, zi_al0, [.inl (.int 0), .inl (.ref 8), .inl (.long (x5.toInt64 <<< ((Int8.ofInt 32).toInt32.toInt64 &&& 63))), .inl (.long (zi_lg x3 x4)), .inl (.long (zi_lg x1 x2)), .inl (.ref 82), .inl (.int (nI n))], A1, 100, 177797)) rfl (rfl) rfl) ?_
  refine zi_fin_c (zi_run_1 (g := (319, zi_al0, [.inl (.int (Int8.ofInt 6).toInt32), .inl (.int 0), .inl (.ref 8), .inl (.long (x5.toInt64 <<< ((Int8.ofInt 32).toInt32.toInt64 &&& 63))), .inl (.long (zi_lg x3 x4)), .inl (.long (zi_lg x1 x2)), .inl (.ref 82), .inl (.int (nI n))], A1, 100, 177797)) rfl (rfl) rfl) ?_
  refine zi_fin_c (zi_run_1 (g := (320, zi_al0, [.inl (.int (0 + (Int8.ofInt 6).toInt32)), .inl (.ref 8), .inl (.long (x5.toInt64 <<< ((Int8.ofInt 32).toInt32.toInt64 &&& 63))), .inl (.long (zi_lg x3 x4)), .inl (.long (zi_lg x1 x2)), .inl (.ref 82), .inl (.int (nI n))], A1, 100, 177797)) rfl (rfl) rfl) ?_
  refine zi_fin_c (zi_run_1 (g := (321, zi_al0, [.inl (.int x6), .inl (.long (x5.toInt64 <<< ((Int8.ofInt 32).toInt32.toInt64 &&& 63))), .inl (.long (zi_lg x3 x4)), .inl (.long (zi_lg x1 x2)), .inl (.ref 82), .inl (.int (nI n))], A1, 100, 177797)) rfl (show zi_ald 0 [.inl (.int x0), .inl (.int x1), .inl (.int x2), .inl (.int x3), .inl (.int x4), .inl (.int x5), .inl (.int x6)] 320 1 zi_al0 [.inl (.int (0 + (Int8.ofInt 6).toInt32)), .inl (.ref 8), .inl (.long (x5.toInt64 <<< ((Int8.ofInt 32).toInt32.toInt64 &&& 63))), .inl (.long (zi_lg x3 x4)), .inl (.long (zi_lg x1 x2)), .inl (.ref 82), .inl (.int (nI n))] A1 100 177797 = some (.inl (321, zi_al0, [.inl (.int x6), .inl (.long (x5.toInt64 <<< ((Int8.ofInt 32).toInt32.toInt64 &&& 63))), .inl (.long (zi_lg x3 x4)), .inl (.long (zi_lg x1 x2)), .inl (.ref 82), .inl (.int (nI n))], A1, 100, 177797)) from zi_ald_s zi_i6t.1 zi_i6t.2 rfl) rfl) ?_
  refine zi_fin_c (zi_run_1 (g := (322, zi_al0, [.inl (.long x6.toInt64), .inl (.long (x5.toInt64 <<< ((Int8.ofInt 32).toInt32.toInt64 &&& 63))), .inl (.long (zi_lg x3 x4)), .inl (.long (zi_lg x1 x2)), .inl (.ref 82), .inl (.int (nI n))], A1, 100, 177797)) rfl (rfl) rfl) ?_
  refine zi_fin_c (zi_run_1 (g := (325, zi_al0, [.inl (.long (Int64.ofNat 4294967295)), .inl (.long x6.toInt64), .inl (.long (x5.toInt64 <<< ((Int8.ofInt 32).toInt32.toInt64 &&& 63))), .inl (.long (zi_lg x3 x4)), .inl (.long (zi_lg x1 x2)), .inl (.ref 82), .inl (.int (nI n))], A1, 100, 177797)) rfl (rfl) rfl) ?_
  refine zi_fin_c (zi_run_1 (g := (326, zi_al0, [.inl (.long (x6.toInt64 &&& Int64.ofNat 4294967295)), .inl (.long (x5.toInt64 <<< ((Int8.ofInt 32).toInt32.toInt64 &&& 63))), .inl (.long (zi_lg x3 x4)), .inl (.long (zi_lg x1 x2)), .inl (.ref 82), .inl (.int (nI n))], A1, 100, 177797)) rfl (rfl) rfl) ?_
  refine zi_fin_c (zi_run_1 (g := (327, zi_al0, [.inl (.long (zi_lg x5 x6)), .inl (.long (zi_lg x3 x4)), .inl (.long (zi_lg x1 x2)), .inl (.ref 82), .inl (.int (nI n))], A1, 100, 177797)) rfl (rfl) rfl) ?_
  refine zi_fin_c (zi_run_1 (g := (330, zi_al0, [.inl (.int (nI n)), .inl (.int (nI n))], A2, 100, 177797)) rfl (zi_ivv rfl (zi_rcv_s rfl c2) (zi_inv_s (c1 := 0) (c2 := 0) rfl e2)) rfl) ?_
  refine zi_fin_c (zi_run_1 (g := (1426, zi_al0, [], A2, 100, 177797)) rfl (show zi_if2 .eq 330 3 zi_al0 [.inl (.int (nI n)), .inl (.int (nI n))] A2 100 177797 1426 = some (.inl (1426, zi_al0, [], A2, 100, 177797)) from zi_if2_s true (by rw [zi_teq]; simp)) rfl) ?_
  refine zi_fin_c (zi_run_1 (g := (1429, (4, .inl (.int (0 + Int32.ofInt 7))) :: (3, .inl (.ref 109)) :: (2, .inl (.ref 82)) :: (1, .inl (.ref 10)) :: (0, .inl (.ref 8)) :: [], [], A2, 100, 177797)) rfl (rfl) rfl) ?_
  refine zi_fin_c (zi_run_1 (g := (23, (4, .inl (.int (0 + Int32.ofInt 7))) :: (3, .inl (.ref 109)) :: (2, .inl (.ref 82)) :: (1, .inl (.ref 10)) :: (0, .inl (.ref 8)) :: [], [], A2, 100, 177797)) rfl (rfl) rfl) ?_
  refine zi_fin_c (zi_run_1 (g := (25, (4, .inl (.int (0 + Int32.ofInt 7))) :: (3, .inl (.ref 109)) :: (2, .inl (.ref 82)) :: (1, .inl (.ref 10)) :: (0, .inl (.ref 8)) :: [], [.inl (.int (0 + Int32.ofInt 7))], A2, 100, 177797)) rfl (rfl) rfl) ?_
  refine zi_fin_c (zi_run_1 (g := (26, (4, .inl (.int (0 + Int32.ofInt 7))) :: (3, .inl (.ref 109)) :: (2, .inl (.ref 82)) :: (1, .inl (.ref 10)) :: (0, .inl (.ref 8)) :: [], [.inl (.ref 8), .inl (.int (0 + Int32.ofInt 7))], A2, 100, 177797)) rfl (rfl) rfl) ?_
  refine zi_fin_c (zi_run_1 (g := (27, (4, .inl (.int (0 + Int32.ofInt 7))) :: (3, .inl (.ref 109)) :: (2, .inl (.ref 82)) :: (1, .inl (.ref 10)) :: (0, .inl (.ref 8)) :: [], [.inl (.int (Int32.ofNat 7)), .inl (.int (0 + Int32.ofInt 7))], A2, 100, 177797)) rfl (rfl) rfl) ?_
  refine zi_fin_c (zi_run_1 (g := (29, (4, .inl (.int (0 + Int32.ofInt 7))) :: (3, .inl (.ref 109)) :: (2, .inl (.ref 82)) :: (1, .inl (.ref 10)) :: (0, .inl (.ref 8)) :: [], [.inl (.int (Int8.ofInt 7).toInt32), .inl (.int (Int32.ofNat 7)), .inl (.int (0 + Int32.ofInt 7))], A2, 100, 177797)) rfl (rfl) rfl) ?_
  refine zi_fin_c (zi_run_1 (g := (30, (4, .inl (.int (0 + Int32.ofInt 7))) :: (3, .inl (.ref 109)) :: (2, .inl (.ref 82)) :: (1, .inl (.ref 10)) :: (0, .inl (.ref 8)) :: [], [.inl (.int (Int32.ofNat 7 - (Int8.ofInt 7).toInt32)), .inl (.int (0 + Int32.ofInt 7))], A2, 100, 177797)) rfl (rfl) rfl) ?_
  refine zi_fin_c (zi_run_1 (g := (1432, (4, .inl (.int (0 + Int32.ofInt 7))) :: (3, .inl (.ref 109)) :: (2, .inl (.ref 82)) :: (1, .inl (.ref 10)) :: (0, .inl (.ref 8)) :: [], [], A2, 100, 177797)) rfl (show zi_if2 .gt 30 3 ((4, .inl (.int (0 + Int32.ofInt 7))) :: (3, .inl (.ref 109)) :: (2, .inl (.ref 82)) :: (1, .inl (.ref 10)) :: (0, .inl (.ref 8)) :: []) [.inl (.int (Int32.ofNat 7 - (Int8.ofInt 7).toInt32)), .inl (.int (0 + Int32.ofInt 7))] A2 100 177797 1432 = some (.inl (1432, (4, .inl (.int (0 + Int32.ofInt 7))) :: (3, .inl (.ref 109)) :: (2, .inl (.ref 82)) :: (1, .inl (.ref 10)) :: (0, .inl (.ref 8)) :: [], [], A2, 100, 177797)) from zi_if2_s true (by decide +kernel)) rfl) ?_
  refine zi_fin_c (zi_run_1 (g := (1433, (4, .inl (.int (0 + Int32.ofInt 7))) :: (3, .inl (.ref 109)) :: (2, .inl (.ref 82)) :: (1, .inl (.ref 10)) :: (0, .inl (.ref 8)) :: [], [.inl (.int (Int32.ofInt 1))], A2, 100, 177797)) rfl (rfl) rfl) ?_
  exact zi_fin_0
end
section
section ZF
variable {p : Program} {l : Launch} {e : Env} {s : State} {m : MethodId} {below : List Frame} {meth : Method} {c : Code} {D : va_G} {dA : Nat → ClassId} {adK adV : Nat → Nat} {b : Nat} {sl : List zi_V} {xs : Nat → Int32}
theorem zi_op0 (C : zi_Cx p room_1 s m #[Value.ref b] meth c s.heap.size D dA adK adV b zi_mlaw 40 []) (hX : va_X b 7 xs s s.heap) (hbl : b < s.heap.size) {ws : va_W} {H : Heap} {locs : List Loc} {ls : Array Slot} {sc : List Value} (hS : zi_St s.heap.size D dA adK adV b 7 s zi_f0 ws H locs ls sc) : zi_W p l e room_1 s m #[Value.ref b] below meth c (lw_Z below #[Value.ref b] s) 100 177797 188 H locs ls sc := by
  have hx : ∀ x : Int32, ∀ ad, zi_vr ad (.inl (.int x)) (.int x) := fun _ _ => rfl
  exact zi_fin_ok (zi_scr C hX hbl (hx (xs 0)) (hx (xs 1)) (hx (xs 2)) (hx (xs 3)) (hx (xs 4)) (hx (xs 5)) (hx (xs 6))) (zi_o0 (xs 0) (xs 1) (xs 2) (xs 3) (xs 4) (xs 5) (xs 6)) (zi_f0_at hS)
end ZF
end
section
/-! An exception made by new X("text") and thrown, where X's own constructor passes on by an index of its own (ix, the bytes bs); the classes above as the library's chain has them. -/
def zi_own (own : String) (ic : Nat) (X : String) (ix : Nat) (bs : ByteArray) (Y : String) (r : List String) : List Cond :=
  Bundle.throwableAtoms ++ Bundle.throwableSAtoms ++ (Bundle.passSAtoms X Y ix bs ++ Bundle.chainSAtoms Y r) ++
  [.methodLink own ic (Bundle.initS X), .instantiable X 6, .castable X X, .selects X Bundle.tFill0 Bundle.tFill0, .selects X Bundle.tFill Bundle.tFill,
   .lays X Bundle.tN "cause" "Ljava/lang/Throwable;", .lays X Bundle.tN "stackTrace" Bundle.steD, .lays X Bundle.tN "suppressedExceptions" Bundle.listD, .lays X Bundle.tN "detailMessage" "Ljava/lang/String;",
   .isRef (.static Bundle.tN "UNASSIGNED_STACK" Bundle.steD), .isRef (.static Bundle.tN "SUPPRESSED_SENTINEL" Bundle.listD),
   .fieldLink Bundle.tN 198 Bundle.tN "backtrace" "Ljava/lang/Object;", .lays Bundle.tN Bundle.tN "backtrace" "Ljava/lang/Object;", .lays X Bundle.tN "backtrace" "Ljava/lang/Object;"]
section ZX
variable {p : Program} {l : Launch} {e : Env} {R : Room} {s : State} {m₀ : MethodId} {args : Array Value} {below : List Frame} {meth : Method} {c : Code} {W : State} {locs : List Loc} {cells slots : Nat}
set_option maxHeartbeats 2000000 in
/-- follows the library's Stand.ctorThrowS, with the first link of the chain by itself -/
theorem zi_ctorThrow (X : Stand p l e R s m₀ args below meth c W locs cells slots) (hexec : p.tables.exec = Jvm.exec) (htr : e.platform.stackTraces = false) {own cls Y : String} {r : List String} {ic ix : Nat} {bs : ByteArray}
    (b0 : decode bs 0 = .ok (.aload_n 0, 1)) (b1 : decode bs 1 = .ok (.aload_n 1, 1)) (b2 : decode bs 2 = .ok (.invokespecial ix, 3)) (b5 : decode bs 5 = .ok (.return_, 1))
    (hown : s.vm.findClass own = some m₀.cls) (hcls : Bundle.fit cls = true) (hY : Bundle.fit Y = true) (hr : ∀ n ∈ r, Bundle.fit n = true)
    (h : ∀ a ∈ zi_own own ic cls ix bs Y r, a.before args s = true)
    (hlocs : ∀ x ∈ locs, ∀ cell, s.heap[x.base]? = some cell → cell.vm.isStatics = false)
    {a : Addr} {cX : ClassId} {kX : Class} (hfoundX : s.vm.findClass cls = some cX) (hkX : s.vm.classes[cX]? = some kX) (hcell : W.heap[a]? = some (freshCell cX kX)) (hnew : s.heap.size ≤ a)
    {msg : Value} (hmsg : msg.isRef = true)
    {g : JFrame} (hg : g.method = m₀) (hsize : g.locals.size = c.maxLocals) (hlocked : g.locked = none) (hentered : g.entered = []) {rest : List Value} (hstack : g.stack = msg :: .ref a :: .ref a :: rest)
    (hd6 : decode c.code g.pc = .ok (.invokespecial ic, 3)) (hd9 : decode c.code (g.pc + 3) = .ok (.athrow, 1)) (hout : ∀ x ∈ c.exceptionTable.toList, covers x (g.pc + 3) = false)
    (hRframes : r.length + 4 < R.frames) (hRlocals : 2 * g.monitorRoom + ((Value.ref a :: rest).map fun v => v.category).sum + (13 * (r.length + 2) + 42) ≤ R.locals) (hlocks : meth.locks = false) :
    ∃ U : State, Steps p.tables e below (W.setTop g) U ∧ U.status = .running ∧ Ended U below (.threw a) ∧ s.WarmedH U.vm ∧ s.sameButNew ({ U with vm := s.vm } : State) locs cells slots ∧
      ∃ ce, U.heap[a]? = some ce ∧ ce.vm = .none ∧ s.vm.findClass cls = some ce.cls := by
  have howns : e.platform.frameOwnsMonitors = true := by rw [X.admits.platform]
  have hfin : e.platform.finalization = false := by rw [X.admits.platform]
  have hpl : e.platform.magicAccessors = ({} : Platform).magicAccessors := by rw [X.admits.platform]
  have a' : ∀ x, x ∈ zi_own own ic cls ix bs Y r → x.holds args s none s [] = true := fun x hx => h x hx
  obtain ⟨T, Z0, L, -, Yt⟩ := ThrowableC.of_atoms (args := args) howns hfin hpl (fun x hx => h x (by simp [zi_own, hx]))
  obtain ⟨Z, M, LZ, LM, hnZ⟩ := Init0T.ofS_atoms (args := args) hpl L Yt (fun x hx => h x (by simp [zi_own, hx]))
  obtain ⟨P2, Ps, hlen, L2, hL, hP2m, hlink2, hlinks⟩ := Bundle.chainS (args := args) hpl hnZ r Y hY hr (fun x hx => h x (by simp [zi_own, hx]))
  obtain ⟨P1, L1, hP1m, hP1s⟩ := PassC.ofS_atoms (args := args) (s := s) hpl (X := cls) (Y := Y) (Bundle.fit_spec hcls).1 (Bundle.fit_spec hY).2 b0 b1 b2 b5 (fun x hx => h x (by simp [zi_own, hx]))
  have hlink1 : P1.sup = P2.m := Option.some.inj (hP1s.symm.trans hP2m)
  have hfound : s.vm.findClass cls = some P1.m.cls := findClass_of_methodNamed hP1m
  cases Option.some.inj (hfoundX.symm.trans hfound)
  obtain ⟨c1, kX', hc1, hk, hord, -, -, hn6⟩ := Cond.instantiable_spec (a' (.instantiable cls 6) (by simp [zi_own]))
  cases Option.some.inj (hc1.symm.trans hfound)
  cases Option.some.inj (hkX.symm.trans hk)
  have hsel0 : selectMethod e.platform s.vm P1.m.cls T.fill0 = .method T.fill0 := by
    obtain ⟨c2, r2, m2, q1, q2, q3, q4, -⟩ := Cond.selects_spec (a' (.selects cls Bundle.tFill0 Bundle.tFill0) (by simp [zi_own]))
    cases Option.some.inj (q1.symm.trans hfound)
    cases Option.some.inj (q2.symm.trans (State.methodFound?_of_named Yt.fill0 (by decide)))
    cases Option.some.inj (q3.symm.trans Yt.fill0)
    rw [Launch.admits_selectMethod X.admits]; exact q4
  have hselF : selectMethod e.platform s.vm P1.m.cls T.fill = .method T.fill := by
    obtain ⟨c2, r2, m2, q1, q2, q3, q4, -⟩ := Cond.selects_spec (a' (.selects cls Bundle.tFill Bundle.tFill) (by simp [zi_own]))
    cases Option.some.inj (q1.symm.trans hfound)
    cases Option.some.inj (q2.symm.trans (State.methodFound?_of_named Yt.fill (by decide)))
    cases Option.some.inj (q3.symm.trans Yt.fill)
    rw [Launch.admits_selectMethod X.admits]; exact q4
  obtain ⟨cellS0, hcS0, hiss⟩ := Yt.statics
  obtain ⟨u0, hu0⟩ := Cond.staticRefV Yt.unassigned L.unassignedStatic L.statics hcS0 hiss (a' (.isRef (.static Bundle.tN "UNASSIGNED_STACK" Bundle.steD)) (by simp [zi_own]))
  obtain ⟨sen, hsen⟩ := Cond.staticRefV Yt.sentinel L.sentinelStatic L.statics hcS0 hiss (a' (.isRef (.static Bundle.tN "SUPPRESSED_SENTINEL" Bundle.listD)) (by simp [zi_own]))
  obtain ⟨ci198, i198, fB, hk198, hg198, ha198, hsB, -, hnB, htB, hffB⟩ := Cond.ownField (t := .object "java/lang/Object") Yt.found L.cls (by decide +kernel) (a' (.fieldLink Bundle.tN 198 Bundle.tN "backtrace" "Ljava/lang/Object;") (by simp [zi_own])) (a' (.lays Bundle.tN Bundle.tN "backtrace" "Ljava/lang/Object;") (by simp [zi_own])) e.platform hpl
  obtain ⟨cellS, hcS', heS, -, hkeep⟩ := X.same.2.2.2.2.2 T.aS cellS0 hcS0
  have hcellS : W.heap[T.aS]? = some cellS := hcS'
  have hout' : ∀ i, (⟨T.aS, i⟩ : Loc) ∉ locs := fun i hmem => by
    have := hlocs _ hmem cellS0 hcS0
    rw [hiss] at this; cases this
  have hknownS : cellS.vm ≠ .unknown := by
    rw [heS]; intro hu
    rw [show cellS0.vm = .unknown from hu] at hiss
    cases hiss
  have hneS : T.aS ≠ a := Nat.ne_of_lt (Nat.lt_of_lt_of_le (Array.getElem?_eq_some_iff.mp hcS0).1 hnew)
  obtain ⟨iM, hffM⟩ := Yt.msg
  obtain ⟨tyC, dC, hdC, hdnC⟩ := Cond.laysAt hfound hk Yt.cause (a' (.lays cls Bundle.tN "cause" "Ljava/lang/Throwable;") (by simp [zi_own]))
  obtain ⟨tyS, dS, hdS, hdnS⟩ := Cond.laysAt hfound hk Yt.stack (a' (.lays cls Bundle.tN "stackTrace" Bundle.steD) (by simp [zi_own]))
  obtain ⟨tyP, dP, hdP, hdnP⟩ := Cond.laysAt hfound hk Yt.supp (a' (.lays cls Bundle.tN "suppressedExceptions" Bundle.listD) (by simp [zi_own]))
  obtain ⟨tyM, dM, hdM, hdnM⟩ := Cond.laysAt hfound hk hffM (a' (.lays cls Bundle.tN "detailMessage" "Ljava/lang/String;") (by simp [zi_own]))
  obtain ⟨tyB, dB, hdB, hdnB⟩ := Cond.laysAt hfound hk hffB (a' (.lays cls Bundle.tN "backtrace" "Ljava/lang/Object;") (by simp [zi_own]))
  have bC := Cond.laysApart hdB hdC hdnB hdnC (by rw [hnB, Yt.causeName]; decide)
  have bS := Cond.laysApart hdB hdS hdnB hdnS (by rw [hnB, Yt.stackName]; decide)
  have bP := Cond.laysApart hdB hdP hdnB hdnP (by rw [hnB, Yt.suppName]; decide)
  have hskip : SkipFacts T e.platform s (fun u => u) u0 ((preparedCellV T.toThrowableT (freshCell P1.m.cls kX) a u0 sen).withEntry W.cur) :=
    ⟨{ ci198 := ci198, i198 := i198, fBack := fB }, ⟨hk198, hg198, ha198, hsB⟩, by
      have := fresh_default (c := P1.m.cls) tyB
      rw [htB] at this
      simpa [preparedCellV, Cell.setSlot, Cell.withEntry, Array.getElem?_setIfInBounds, bC, bS, bP, bC.symm, bS.symm, bP.symm, defaultValue] using this, fun _ _ => rfl⟩
  obtain ⟨tm, methC, cdC, kC, vm₁, hnC, -, -, -, -, -, -, -, hW₁, st1⟩ := Steps.initColdS (tb := p.tables) (e := e) (below := below) (s := s) (U := W) X.here hexec X.warmed hpl hown (t := Bundle.initS cls) rfl rfl (Bundle.fit_spec hcls).2
    (a' (.methodLink own ic (Bundle.initS cls)) (by simp [zi_own])) (h (.instanceMethod (Bundle.initS cls)) (by simp [zi_own, Bundle.passSAtoms])) (bytes := bs) (maxL := 2) (h (.code (Bundle.initS cls) bs 2 none) (by simp [zi_own, Bundle.passSAtoms]))
    (f := g) hg (a := a) (msg := msg) (rest := .ref a :: rest) hstack hd6
  cases Option.some.inj (hnC.symm.trans hP1m)
  have X₁ := X.noted hW₁
  obtain ⟨vm₂, X₂, st2⟩ := X₁.ctorMessageOffV hexec (g := { g with stack := .ref a :: rest }) hg hsize T L Z LZ M LM (P1 :: P2 :: Ps)
    (fun P hP => by
      rcases List.mem_cons.mp hP with rfl | hP
      · exact L1
      · rcases List.mem_cons.mp hP with rfl | hP
        · exact L2
        · exact hL P hP) ⟨hlink1, hlink2, hlinks⟩ (u0 := u0) (sen := sen) (self := a) hmsg (cell := freshCell P1.m.cls kX) (cellS := cellS)
    hcell (fun _ => by simp) (by simp) rfl rfl hsel0 hselF hcellS hneS hknownS (by rw [hkeep _ (hout' _)]; exact hu0) (by rw [hkeep _ (hout' _)]; exact hsen)
    (Takes.of_laid hk hord tyC (by rw [Yt.causeType]; rfl)) (Takes.of_laid hk hord tyS (by rw [Yt.stackType]; exact fits_refV_array _ u0)) (Takes.of_laid hk hord tyP (by rw [Yt.suppType]; exact fits_refV_object _ sen))
    (Takes.of_laid hk hord tyM (by rw [Yt.msgType]; exact fits_refV_object _ ⟨msg, hmsg⟩)) Yt.objLocals hskip htr [] hd6
    (by simp only [List.length_cons, hlen]; omega) (by simp only [List.length_cons, hlen]; exact hRlocals)
  obtain ⟨hwalk, hrun, hended, hWU, hsame⟩ := X₂.athrowLeaves hexec (g := { g with stack := .ref a :: rest, pc := g.pc + 3 }) hg hlocked hentered hout (a := a) (rest := rest) rfl hd9
  have hlt : a < ((W.setVm vm₁).setVm vm₂).heap.size := (Array.getElem?_eq_some_iff.mp hcell).1
  have hU := heapAt_setCell_self (s := (W.setVm vm₁).setVm vm₂) (plainBareV T.toThrowableT (freshCell P1.m.cls kX) a u0 sen msg) hlt
  refine ⟨_, st1 _ (fun acts => ?_), hrun, hended, hWU, hsame.weaken (fun y hy hlt' => ?_) (Nat.le_refl _) (Nat.le_refl _), _, hU, rfl, hfound⟩
  · rw [doInvoke_state]
    exact st2 _ hwalk
  · rcases List.mem_append.mp hy with h1 | h1
    · exact h1
    · exfalso
      have hb : y.base = a := by
        simp only [List.mem_cons, List.not_mem_nil, or_false] at h1
        rcases h1 with rfl | rfl | rfl | rfl | rfl <;> rfl
      rw [hb] at hlt'
      exact Nat.not_lt.mpr hnew hlt'
end ZX
end
section
section ZX2
variable {p : Program} {l : Launch} {e : Env} {R : Room} {s : State} {m : MethodId} {args : Array Value} {below : List Frame} {meth : Method} {c : Code} {H : Heap} {locs : List Loc} {cells slots : Nat} {free : Addr → Prop} {ls : Array Slot} {rest : List Value} {Qc : Array Value → State → Outcome → State → Prop} {XC : String → State → State → Prop}
set_option maxHeartbeats 2000000 in
/-- new X("text"), thrown; follows the kit's vx_throwSW -/
theorem zi_throwSW {cc : ByteArray} {pc : Nat} (hexec : p.tables.exec = Jvm.exec) (hb : c.code = cc) (hl : l.stackTraces = false) {own cls Y text : String} {r : List String} {ik is ic ix mc ms sa : Nat} {bs : ByteArray} {A : Nat → Prop}
    (b0 : decode bs 0 = .ok (.aload_n 0, 1)) (b1 : decode bs 1 = .ok (.aload_n 1, 1)) (b2 : decode bs 2 = .ok (.invokespecial ix, 3)) (b5 : decode bs 5 = .ok (.return_, 1))
    (hown : s.vm.findClass own = some m.cls) (hcls : Bundle.fit cls = true) (hY : Bundle.fit Y = true) (hr : ∀ n ∈ r, Bundle.fit n = true)
    (hk : (Cond.classLink own ik cls).before args s = true) (hini : (Cond.initialized cls).before args s = true) (hstr : vk_R own is text sa s) (hat : ∀ w ∈ (zi_own own ic cls ix bs Y r).filter vx_no, w.before args s = true)
    (hgood : ∀ w ∈ Cond.classLink own ik cls :: Cond.initialized cls :: (zi_own own ic cls ix bs Y r).filter vx_no, vx_ot w = true)
    (hU : vx_Zq Bundle.tN "UNASSIGNED_STACK" Bundle.steD A s s.heap) (hN : vx_Zq Bundle.tN "SUPPRESSED_SENTINEL" Bundle.listD A s s.heap) (hS : va_S A s.heap H locs) (hsize : ls.size = c.maxLocals)
    (d0 : decode cc pc = .ok (.new ik, 3)) (d3 : decode cc (pc + 3) = .ok (.dup, 1)) (d4 : decode cc (pc + 4) = .ok (.ldc_w is, 3)) (d7 : decode cc (pc + 7) = .ok (.invokespecial ic, 3)) (d10 : decode cc (pc + 10) = .ok (.athrow, 1))
    (hout : ∀ x ∈ c.exceptionTable.toList, covers x (pc + 10) = false)
    (hRframes : r.length + 4 < R.frames) (hRlocals : (rest.map fun v => v.category).sum + (13 * (r.length + 2) + 43) ≤ R.locals) (hRcells : cells + 1 ≤ R.cells) (hRslots : slots + 6 ≤ R.slots) (hlocks : meth.locks = false)
    (hx : ∀ t : State, s.vm.Alike t.vm → H.size ≤ t.heap.size → (∀ q : Nat, q < H.size → t.heap[q]? = H[q]?) → XC cls s t)
    (hf : ∀ z ∈ locs, free z.base) (hc : cells + 1 ≤ mc) (hs : slots + 6 ≤ ms) :
    W p l e R s m args below meth c H locs cells slots (vx_MQ below Qc XC args s mc ms free) (F0 m pc ls rest) := by
  intro T hT X
  have htr : e.platform.stackTraces = false := (show e.platform.stackTraces = l.stackTraces by rw [X.admits.platform]).trans hl
  have Y0 := vx_rebase X (R' := { frames := R.frames, locals := R.locals, cells := 1, slots := 6 }) (Nat.le_refl _) (Nat.le_refl _) hRcells hRslots
  obtain ⟨s', hA⟩ : ∃ z, z = (T.setVm s.vm).setFrames (.invoking m args :: below) := ⟨_, rfl⟩
  rw [← hA] at Y0
  have hvm : s'.vm = s.vm := by rw [hA]; rfl
  have hhp : s'.heap = H := by rw [hA]; exact hT
  have hW0 : s.WarmedH s'.vm := by rw [hvm]; exact State.WarmedH.refl s
  have hat' : ∀ w ∈ (zi_own own ic cls ix bs Y r).filter vx_no, w.before args s' = true := fun w hw => vx_ot_at hW0 hvm.symm (hgood w (List.mem_cons_of_mem _ (List.mem_cons_of_mem _ hw))) (hat w hw)
  have hk' : (Cond.classLink own ik cls).before args s' = true := vx_ot_at hW0 hvm.symm (hgood _ List.mem_cons_self) hk
  have hini' : (Cond.initialized cls).before args s' = true := vx_ot_at hW0 hvm.symm (hgood _ (List.mem_cons_of_mem _ List.mem_cons_self)) hini
  have hU' : vx_Zq Bundle.tN "UNASSIGNED_STACK" Bundle.steD A s' s'.heap := by rw [hhp]; exact vx_Zq.moved hW0.alike (hU.kept hS.2.1)
  have hN' : vx_Zq Bundle.tN "SUPPRESSED_SENTINEL" Bundle.listD A s' s'.heap := by rw [hhp]; exact vx_Zq.moved hW0.alike (hN.kept hS.2.1)
  have h : ∀ w ∈ zi_own own ic cls ix bs Y r, w.before args s' = true := vx_own hat' (vx_isRefq hU'.1) (vx_isRefq hN'.1) hU'.2.word hN'.2.word
  have hown' : s'.vm.findClass own = some m.cls := by rw [hvm]; exact hown
  have hins : (Cond.instantiable cls 6).before args s' = true := h _ (by simp [zi_own])
  obtain ⟨vm₁, cX, kX, hfX, hkX, -, -, X₁, st1⟩ := Y0.newCold hexec (own := own) (C := cls) (index := ik) (n := 6) hown' hk' hins hini'
    (g := F0 m pc ls rest) rfl (by rw [hb]; exact d0) (Nat.le_refl _) (Nat.le_refl _)
  generalize hT1 : (T.setVm vm₁).pushCell { cls := cX, slots := kX.instanceTypes.map defaultValue, vm := .none } = T1 at X₁ st1
  have hcat : (Value.ref T.heap.size).category = 1 := rfl
  have hcellA : T1.heap[T.heap.size]? = some (freshCell cX kX) := by rw [← hT1]; exact State.heap_pushCell_size _ _
  have d3' : decode c.code (pc + 3) = .ok (.dup, 1) := by rw [hb]; exact d3
  have d4' : decode c.code (pc + 4) = .ok (.ldc_w is, 3) := by rw [hb]; exact d4
  have hstr' : vk_R own is text sa s' := vk_R.warm hW0 hstr
  obtain ⟨U, hsteps, hrun, hend, hW, hsame, ce, hce, hcv, hcl0⟩ := zi_ctorThrow X₁ hexec htr (own := own) (cls := cls) (ic := ic) b0 b1 b2 b5 hown' hcls hY hr h (fun x hx => nomatch hx) hfX hkX hcellA (by rw [hhp, hT]; exact Nat.le_refl _) (msg := .ref sa) rfl
    (g := { method := m, pc := pc + 7, locals := ls, stack := .ref sa :: .ref T.heap.size :: .ref T.heap.size :: rest, locked := none }) rfl hsize rfl rfl (rest := rest) rfl
    (by rw [hb]; exact d7) (by rw [hb]; exact d10) hout hRframes (by simp only [List.map_cons, List.sum_cons, hcat]; omega) hlocks
  obtain ⟨f1, f2⟩ := vx_frame hsame
  rw [hhp] at f1 f2
  have hWs : s.WarmedH U.vm := State.WarmedH.trans hW0 hW
  have hcl : s.vm.findClass cls = some ce.cls := by
    rw [hvm] at hcl0
    exact hcl0
  have hall : s.sameButNew ({ U with vm := s.vm } : State) locs mc ms := by
    subst hA
    obtain ⟨e1, e2⟩ := hsame
    rw [State.setFrames_setFrames] at e1
    have h2 : (T.setVm s.vm).sameButNew ({ U with vm := s.vm } : State) [] (0 + 1) (0 + 6) := ⟨e1, e2⟩
    have h3 := X.same.trans h2
    rw [List.append_nil] at h3
    exact h3.mono hc hs
  refine ⟨U, ?_, .threw T.heap.size, hrun, hend, Or.inr ⟨T.heap.size, rfl, cls, ce, locs, hx U hWs.alike f1 (fun q hq => f2 q hq (fun z hz => nomatch hz)), hce, hcv, hcl, hWs, hall, hf⟩⟩
  refine st1 _ ?_
  show Steps p.tables e below (T1.setTop { method := m, pc := pc + 3, locals := ls, stack := .ref T.heap.size :: rest, locked := none }) _
  jvm_step X₁.here [X₁.here.top, hexec, d3', Value.category]
  exact X₁.ldcStringW hexec (own := own) (text := text) (index := is) (a := sa) hown' hstr'.1 hstr'.2
    (g := { method := m, pc := pc + 4, locals := ls, stack := .ref T.heap.size :: .ref T.heap.size :: rest, locked := none }) rfl d4' _ hsteps
end ZX2
def zi_NS : String := "java/util/NoSuchElementException"
def zi_at13 : List Cond := (zi_own "AgreeTold" 345 zi_NS 13 prog_31_method_4_code "java/lang/RuntimeException" ["java/lang/Exception"]).filter vx_no
theorem zi_atS : zi_at13.all (fun w => zi_mem w || decide (w = .castable zi_NS zi_NS) || ([Bundle.initS "java/lang/RuntimeException", Bundle.initS "java/lang/Exception", Bundle.initS Bundle.tN] : List MethodName).any (fun x => decide (w = .declares x))) = true := by decide +kernel
theorem zi_atO : zi_at13.all vx_ot = true := by decide +kernel
theorem zi_b13 : decode prog_31_method_4_code 0 = .ok (.aload_n 0, 1) ∧ decode prog_31_method_4_code 1 = .ok (.aload_n 1, 1) ∧ decode prog_31_method_4_code 2 = .ok (.invokespecial 13, 3) ∧ decode prog_31_method_4_code 5 = .ok (.return_, 1) := ⟨by decide +kernel, by decide +kernel, by decide +kernel, by decide +kernel⟩
end
section
/-! first: it throws on a fresh object, and the law's own method catches it. -/
theorem zi_castr {args : Array Value} {s : State} {C : String} (h : (Cond.initialized C).before args s = true) : (Cond.castable C C).before args s = true := by
  simp only [Cond.before, Cond.holds, Cond.value] at h ⊢
  cases h1 : s.vm.findClass C with
  | none => simp [h1] at h
  | some c => simp [va_asg]
theorem zi_atW : zi_mem (.classLink "AgreeTold" 341 zi_NS) = true ∧ zi_mem (.initialized zi_NS) = true := ⟨by decide +kernel, by decide +kernel⟩
theorem zi_mem_ot {w : Cond} (h : zi_mem w = true) : vx_ot w = true := by
  unfold zi_mem at h
  rw [Bool.and_eq_true] at h
  unfold vx_ot
  rw [h.2, Bool.or_true]
theorem zi_f13 : decode zi_mf.2.1 13 = .ok (.new 341, 3) := by decide +kernel
theorem zi_f16 : decode zi_mf.2.1 16 = .ok (.dup, 1) := by decide +kernel
theorem zi_f17 : decode zi_mf.2.1 17 = .ok (.ldc_w 343, 3) := by decide +kernel
theorem zi_f20 : decode zi_mf.2.1 20 = .ok (.invokespecial 345, 3) := by decide +kernel
theorem zi_f23 : decode zi_mf.2.1 23 = .ok (.athrow, 1) := by decide +kernel
theorem zi_l7 : decode zi_mlf.2.1 7 = .ok (.invokevirtual 7, 3) := by decide +kernel
theorem zi_l15 : decode zi_mlf.2.1 15 = .ok (.astore 5, 2) := by decide +kernel
theorem zi_l17 : decode zi_mlf.2.1 17 = .ok (.iconst 1, 1) := by decide +kernel
theorem zi_l18 : decode zi_mlf.2.1 18 = .ok (.ireturn, 1) := by decide +kernel
theorem zi_d1016 : decode code 1016 = .ok (.invokestatic 118, 3) := by decide +kernel
def zi_dcl : List MethodName := [Bundle.initS "java/lang/RuntimeException", Bundle.initS "java/lang/Exception", Bundle.initS Bundle.tN]
theorem zi_Dc_mv {x : MethodName} {u U : State} (hvm : u.vm.Alike U.vm) (h : (Cond.declares x).before #[] u = true) : (Cond.declares x).before #[] U = true := by
  have h1 : (Cond.declares x).before #[] (u.setVm U.vm) = true := by
    rw [Cond.declares_setVm hvm]
    exact h
  exact va_tabs rfl (rfl : (u.setVm U.vm).vm = U.vm) h1
def zi_Y (B0 : Nat) (U : State) : Prop := (∀ x ∈ zi_dcl, (Cond.declares x).before #[] U = true) ∧ vx_Zq Bundle.tN "UNASSIGNED_STACK" Bundle.steD (fun q => B0 ≤ q) U U.heap ∧ vx_Zq Bundle.tN "SUPPRESSED_SENTINEL" Bundle.listD (fun q => B0 ≤ q) U U.heap
theorem zi_Y_mv {B0 : Nat} {s U : State} {H : Heap} {locs : List Loc} (h : zi_Y B0 s) (hW : s.WarmedH U.vm) (hU : U.heap = H) (hS : va_S (fun q => B0 ≤ q) s.heap H locs) : zi_Y B0 U := by
  subst hU
  exact ⟨fun x hx => zi_Dc_mv hW.alike (h.1 x hx), vx_Zq.moved hW.alike (h.2.1.kept hS.2.1), vx_Zq.moved hW.alike (h.2.2.kept hS.2.1)⟩
theorem zi_Y_cl {B0 : Nat} {U : State} {g : JFrame} {mk : MethodId} {a : Array Value} (h : zi_Y B0 U) : zi_Y B0 (U.calling g mk a) := zi_Y_mv (locs := []) h (U := U.calling g mk a) (State.WarmedH.refl U) rfl va_S.rf
def zi_Pc2 (B0 : Nat) (D : va_G) (dA : Nat → ClassId) (adK adV : Nat → Nat) (ws : va_W) (vs : List Value) : Array Value → State → Prop := va_Pc vs (fun U => (zi_X B0 D dA adK adV U ∧ zi_Y B0 U) ∧ va_P D zi_cl ws U.heap ∧ va_D (fun q => B0 ≤ q) ws)
theorem zi_pre2 {B0 : Nat} {D : va_G} {dA : Nat → ClassId} {adK adV : Nat → Nat} {s : State} {ws : va_W} {H : Heap} {locs : List Loc} {vs : List Value} (hX : zi_X B0 D dA adK adV s) (hY : zi_Y B0 s) (h1 : va_P D zi_cl ws H) (h2 : va_D (fun q => B0 ≤ q) ws) (h3 : va_S (fun q => B0 ≤ q) s.heap H locs) : FrameBlind (zi_Pc2 B0 D dA adK adV ws vs) ∧ ∀ U : State, U.heap = H → s.WarmedH U.vm → zi_Pc2 B0 D dA adK adV ws vs vs.toArray U :=
  ⟨fun a U g mk q => ⟨q.1, ⟨zi_X_cl q.2.1.1, zi_Y_cl q.2.1.2⟩, q.2.2⟩, fun U hU hW => ⟨rfl, ⟨zi_X_mv hX hW hU h3, zi_Y_mv hY hW hU h3⟩, by rw [hU]; exact h1, h2⟩⟩
def zi_px (dA : Nat → ClassId) (adK adV : Nat → Nat) (b : Nat) (ws : va_W) (ws' : va_W) : Prop := zi_ex ws ws' ∧ zi_F2 (zi_cr (zi_ad adK adV b ws') dA) zi_A0 ws'
def zi_bx (B0 : Nat) (D : va_G) (E : String) (ws' : va_W) (t : State) : Prop := E = zi_NS ∧ va_P D zi_cl ws' t.heap ∧ va_D (fun q => B0 ≤ q) ws'
noncomputable def zi_fr (vp : zi_V) : zi_F := (13, zi_ent 0 [.inl (.ref 10), vp, zi_any, zi_any], [], zi_A0, 0, 0)
theorem zi_fr_neg : zi_run zi_call [] zi_mf 7 (0, zi_ent 0 [.inl (.ref 10), .inr (-2147483648, -1), zi_any, zi_any], [], zi_A0, 0, 0) = some (zi_fr (.inr (-2147483648, -1))) := zi_feq_ok (by decide +kernel)
theorem zi_fr_pos : zi_run zi_call [] zi_mf 7 (0, zi_ent 0 [.inl (.ref 10), .inr (0, 2147483647), zi_any, zi_any], [], zi_A0, 0, 0) = some (zi_fr (.inr (0, 2147483647))) := zi_feq_ok (by decide +kernel)
theorem zi_first {l : Launch} (hst : l.stackTraces = false) {B0 : Nat} {D : va_G} {dA : Nat → ClassId} {adK adV : Nat → Nat} {b : Nat} {ws : va_W} {vs : List Value} {vp : zi_V} (hvp : zi_cat vp = 1) (hrun : zi_run zi_call [] zi_mf 7 (0, zi_ent 0 [.inl (.ref 10), vp, zi_any, zi_any], [], zi_A0, 0, 0) = some (zi_fr vp)) (hav : zi_F2 (zi_vr (zi_ad adK adV b ws)) [.inl (.ref 10), vp, zi_any, zi_any] vs) (hA : zi_F2 (zi_cr (zi_ad adK adV b ws) dA) zi_A0 ws) :
    vx_Met l zi_mf.1 (zi_ws zi_mf) (zi_room 50 1 6) (zi_Pc2 B0 D dA adK adV ws vs) (va_Qi (S := Unit) (fun _ _ => False) (fun _ _ => True) (fun q => B0 ≤ q)) (vx_X (zi_px dA adK adV b ws) (zi_bx B0 D) (fun q => B0 ≤ q)) 1 6 (fun q => B0 ≤ q) := by
  refine vx_ofW (cc := zi_mf.2.1) (maxL := zi_mf.2.2.1) (ret := zi_mf.2.2.2.1) zi_mf_ok.1.2.2.2.1 rfl ?_
  intro p e s m args below meth c s₁ B hml htab hv
  obtain ⟨rfl, ⟨hX, hY⟩, hP, hD⟩ := hv
  have hts := atoms_spec (ws := zi_ws zi_mf) B.pre
  have hts' : ∀ w ∈ zi_gd, w.before vs.toArray s = true := fun w hw => hts w (List.mem_cons_of_mem _ hw)
  have hown : s.vm.findClass "AgreeTold" = some m.cls := findClass_of_methodNamed B.named
  have C : zi_Cx p (headSpec (zi_ws zi_mf) (zi_room 50 1 6)).room s m vs.toArray meth c B0 D dA adK adV b zi_mf 40 [] := ⟨⟨B.exec, B.bytes, hml, B.returns, hown, hts', B.notSynchronized, (name_of_methodNamed B.named B.method).1⟩, hX, ⟨Nat.le_of_ble_eq_true rfl, Nat.le_of_ble_eq_true rfl⟩, Or.inl rfl⟩
  have hcat := zi_cats_ok hav
  have hc4 : zi_cats [.inl (.ref 10), vp, zi_any, zi_any] = 4 := by
    show 1 + (zi_cat vp + (1 + (1 + 0))) = 4
    rw [hvp]
  have hl := lv_entry vs (n := zi_mf.2.2.1) (by rw [zi_sl_len, hcat, hc4]; exact Nat.le_of_ble_eq_true rfl)
  rw [lg_entry_eq]
  refine (zi_run_go (l := l) (e := e) (below := below) C zi_call_ok (fun mi N hN => (zi_Ms_ok mi N hN).1) zi_mf_ok.2 7 hrun).1 _ ws s.heap [] _ [] ⟨hP, hD, va_S.rf, hA, ⟨_, hl, zi_ent_ok hav 0⟩, trivial⟩ (Nat.zero_le _) (Nat.zero_le _) (fun ws' H locs ls sc hex hS => ?_)
  obtain ⟨h1, h2, h3, h4, ⟨lv, h5, h7⟩, h6⟩ := hS
  have e0 := zi_F2_nil h6
  subst e0
  have hat : ∀ w ∈ zi_at13, w.before vs.toArray s = true := fun w hw => by
    have hz := List.all_eq_true.mp zi_atS w hw
    rw [Bool.or_eq_true, Bool.or_eq_true] at hz
    rcases hz with (hz | hz) | hz
    · exact hts' w (zi_mem_ok hz)
    · rw [of_decide_eq_true hz]
      exact zi_castr (hts' _ (zi_mem_ok zi_atW.2))
    · obtain ⟨x, hx1, hx2⟩ := List.any_eq_true.mp hz
      rw [of_decide_eq_true hx2]
      exact va_tabs rfl rfl (hY.1 x hx1)
  refine zi_throwSW (rest := []) (Y := "java/lang/RuntimeException") (r := ["java/lang/Exception"]) (ix := 13) (bs := prog_31_method_4_code) (ic := 345) (cls := zi_NS) (text := "no such word") (sa := adK 3) (A := fun q => B0 ≤ q) B.exec B.bytes hst zi_b13.1 zi_b13.2.1 zi_b13.2.2.1 zi_b13.2.2.2 hown (by decide +kernel) (by decide +kernel) (by decide +kernel) (hts' _ (zi_mem_ok zi_atW.1)) (hts' _ (zi_mem_ok zi_atW.2)) (hX.2.2.1 3 ("AgreeTold", 343, "no such word") rfl) hat ?_ hY.2.1 hY.2.2 h3 (by rw [hml]; exact h5.1) zi_f13 zi_f16 zi_f17 zi_f20 zi_f23 (fun x hx => (htab x hx).elim) (Nat.le_of_ble_eq_true rfl) (Nat.le_of_ble_eq_true rfl) (Nat.le_refl _) (Nat.le_refl _) B.notSynchronized (fun t hal hsz hk => ?_) h3.2.2 (Nat.le_refl _) (Nat.le_refl _)
  · intro w hw
    rcases List.mem_cons.mp hw with z | z
    · rw [z]; exact zi_mem_ot zi_atW.1
    · rcases List.mem_cons.mp z with z | z
      · rw [z]; exact zi_mem_ot zi_atW.2
      · exact List.all_eq_true.mp zi_atO w z
  · refine ⟨ws', ⟨hex, h4⟩, ⟨rfl, h1.kept (fun k q hq => hk q.1 ((h1 k q hq).lt)), h2⟩, Nat.le_trans h3.1 hsz, fun q hq1 hq2 => ?_⟩
    rw [hk q (Nat.lt_of_lt_of_le hq1 h3.1)]
    exact h3.2.1 q hq1 hq2
def zi_wlf : List Cond := Cond.codeWith zi_mlf.1 zi_mlf.2.1 6 (some .int) [(0, 12, 15, 13)] :: zi_gd
noncomputable def zi_lfr (vp : zi_V) : zi_F := (7, zi_ent 0 [.inl (.ref 10), vp, zi_any, zi_any, .inl (.ref 109)], [zi_any, zi_any, vp, .inl (.ref 10), .inl (.int 0), .inl (.ref 109)], zi_A0, 0, 0)
theorem zi_lfr_neg : zi_run zi_call [] zi_mlf 6 (0, zi_ent 0 [.inl (.ref 10), .inr (-2147483648, -1), zi_any, zi_any, .inl (.ref 109)], [], zi_A0, 0, 0) = some (zi_lfr (.inr (-2147483648, -1))) := zi_feq_ok (by decide +kernel)
theorem zi_lfr_pos : zi_run zi_call [] zi_mlf 6 (0, zi_ent 0 [.inl (.ref 10), .inr (0, 2147483647), zi_any, zi_any, .inl (.ref 109)], [], zi_A0, 0, 0) = some (zi_lfr (.inr (0, 2147483647))) := zi_feq_ok (by decide +kernel)
/-- the words of the calls around it -/
theorem zi_lfw : zi_mem (.methodLink "AgreeToldLaw" 7 zi_mf.1) = true ∧ zi_mem (.instanceMethod zi_mf.1) = true ∧ zi_mem (.selects "AgreeTold" zi_mf.1 zi_mf.1) = true ∧ zi_mem (.initialized "AgreeTold") = true ∧ zi_mem (.classLink "AgreeToldLaw" 13 zi_NS) = true ∧ zi_mem (.initialized zi_NS) = true ∧ zi_mem (.methodLink "AgreeToldLaw" 118 zi_mlf.1) = true ∧ zi_mem (.static zi_mlf.1) = true ∧ zi_mem (.initialized "AgreeToldLaw") = true ∧ zi_mem (.codeWith zi_mlf.1 zi_mlf.2.1 6 (some .int) [(0, 12, 15, 13)]) = true := ⟨by decide +kernel, by decide +kernel, by decide +kernel, by decide +kernel, by decide +kernel, by decide +kernel, by decide +kernel, by decide +kernel, by decide +kernel, by decide +kernel⟩
theorem zi_cl0 : zi_Fs[0]? = some ("AgreeTold", (zi_Fs.getD 0 ("", [])).2) := rfl
theorem zi_A0_0 : ∃ q : Nat × List zi_V, zi_A0[0]? = some (.inl q) ∧ q.1 = 0 := ⟨_, rfl, rfl⟩
theorem zi_lfirst {l : Launch} (hst : l.stackTraces = false) {B0 : Nat} {D : va_G} {dA : Nat → ClassId} {adK adV : Nat → Nat} {b : Nat} {ws : va_W} {vs : List Value} {vp : zi_V} (hvp : zi_cat vp = 1) (hrun0 : zi_run zi_call [] zi_mf 7 (0, zi_ent 0 [.inl (.ref 10), vp, zi_any, zi_any], [], zi_A0, 0, 0) = some (zi_fr vp)) (hrun : zi_run zi_call [] zi_mlf 6 (0, zi_ent 0 [.inl (.ref 10), vp, zi_any, zi_any, .inl (.ref 109)], [], zi_A0, 0, 0) = some (zi_lfr vp)) (hav : zi_F2 (zi_vr (zi_ad adK adV b ws)) [.inl (.ref 10), vp, zi_any, zi_any, .inl (.ref 109)] vs) (hA : zi_F2 (zi_cr (zi_ad adK adV b ws) dA) zi_A0 ws) :
    Met l zi_mlf.1 zi_wlf (zi_room 60 1 6) (zi_Pc2 B0 D dA adK adV ws vs) (zi_Q B0 D dA adK adV b ws (some (.inl (.int 1))) zi_A0) 1 6 (fun q => B0 ≤ q) := by
  refine va_MetW (cc := zi_mlf.2.1) (maxL := 6) (ret := some .int) (hh := [(0, 12, 15, 13)]) (by decide) rfl ?_
  intro p e s m args below meth c s₁ B hml hv
  obtain ⟨rfl, ⟨hX, hY⟩, hP, hD⟩ := hv
  have hts := atoms_spec (ws := zi_wlf) B.pre
  have hts' : ∀ w ∈ zi_gd, w.before vs.toArray s = true := fun w hw => hts w (List.mem_cons_of_mem _ hw)
  have hown : s.vm.findClass "AgreeToldLaw" = some m.cls := findClass_of_methodNamed B.named
  have C : zi_Cx p (headSpec zi_wlf (zi_room 60 1 6)).room s m vs.toArray meth c B0 D dA adK adV b zi_mlf 40 [] := ⟨⟨B.exec, B.bytes, hml, B.returns, hown, hts', B.notSynchronized, (name_of_methodNamed B.named B.method).1⟩, hX, ⟨Nat.le_of_ble_eq_true rfl, Nat.le_of_ble_eq_true rfl⟩, Or.inl rfl⟩
  have htab := vx_table (x := zi_mlf.1) B (hts _ List.mem_cons_self)
  have hcat := zi_cats_ok hav
  have hc4 : zi_cats [.inl (.ref 10), vp, zi_any, zi_any, .inl (.ref 109)] = 5 := by
    show 1 + (zi_cat vp + (1 + (1 + (1 + 0)))) = 5
    rw [hvp]
  have hl := lv_entry vs (n := 6) (by rw [zi_sl_len, hcat, hc4]; exact Nat.le_of_ble_eq_true rfl)
  rw [lg_entry_eq]
  refine (zi_run_go (l := l) (e := e) (below := below) C zi_call_ok (fun mi N hN => (zi_Ms_ok mi N hN).1) zi_mlf_ok 6 hrun).1 _ ws s.heap [] _ [] ⟨hP, hD, va_S.rf, hA, ⟨_, hl, zi_ent_ok hav 0⟩, trivial⟩ (Nat.zero_le _) (Nat.zero_le _) (fun ws1 H locs ls sc hex hS => ?_)
  obtain ⟨h1, h2, h3, h4, ⟨lv, h5, h7⟩, h6⟩ := hS
  obtain ⟨w3, s3, e3, v3, k3⟩ := zi_F2_cons h6
  obtain ⟨w2, s2, e2, v2, k2⟩ := zi_F2_cons k3
  obtain ⟨w1, s1, e1, v1, k1⟩ := zi_F2_cons k2
  obtain ⟨w0, s0, e0, v0, k0⟩ := zi_F2_cons k1
  obtain ⟨wz, sz, ez, vz, kz⟩ := zi_F2_cons k0
  obtain ⟨wo, so, eo, vo, ko⟩ := zi_F2_cons kz
  have en := zi_F2_nil ko
  subst e3 e2 e1 e0 ez eo en
  have v0' := v0
  obtain ⟨a, had, rfl⟩ := v0
  have hav2 : zi_F2 (zi_vr (zi_ad adK adV b ws1)) [.inl (.ref 10), vp, zi_any, zi_any] [.ref a, w1, w2, w3] := ⟨v0', v1, v2, v3, trivial⟩
  obtain ⟨q0, hq0, hq1⟩ := zi_A0_0
  have hrcv : ∃ cellB : Cell, H[a]? = some cellB ∧ cellB.vm.isStatics = false ∧ s.vm.findClass "AgreeTold" = some cellB.cls := by
    obtain ⟨vv, hvv, -⟩ := zi_cell_obj (r := 10) h4 (Nat.le_refl _) had hq0
    rw [hq1] at hvv
    exact va_recv hX.1 h1 (zi_cl_at zi_cl0) hvv
  have hw8 : (([wz, wo] : List Value).map fun v => v.category).sum ≤ 8 := by
    have z1 := zi_vr_cat vz
    have z2 := zi_vr_cat vo
    show wz.category + (wo.category + 0) ≤ 8
    rw [z1, z2]
    exact Nat.le_of_ble_eq_true rfl
  refine vx_calli (A1 := fun q => B0 ≤ q) (vx_runV (Ts := zi_gd) (C := "AgreeTold") (As := [w1, w2, w3]) (rest := [wz, wo]) ⟨B.exec, B.bytes, hml, hown, hts'⟩ (zi_first hst hvp hrun0 hav2 h4) (cwV 3 hts' (zi_goodL ?_) rfl rfl rfl (by decide) ⟨Nat.le_of_ble_eq_true rfl, Nat.le_of_ble_eq_true rfl⟩) ⟨(zi_pre2 (locs := locs) hX hY h1 h2 h3).1, hrcv, (zi_pre2 hX hY h1 h2 h3).2⟩ rfl rfl h5.1 rfl (lv_room hw8) zi_l7 ⟨Nat.le_refl _, Nat.le_refl _⟩) h3 (fun q _ h => h) (fun q h => h) (fun q _ h => h) (fun E ce q9 ws2 t H1 locs1 ht hvm hpx hbx hz hk hS1 hcell hcv hcc => ?_) (fun r u t H1 locs1 ht hvm hp => hp.elim)
  · intro w hw
    rcases List.mem_append.mp hw with z | z
    · rcases List.mem_cons.mp z with z | z
      · rw [z]; exact zi_mem_ok zi_lfw.1
      · rcases List.mem_cons.mp z with z | z
        · rw [z]; exact zi_mem_ok zi_lfw.2.1
        · rcases List.mem_cons.mp z with z | z
          · rw [z]; exact zi_mem_ok zi_lfw.2.2.1
          · rcases List.mem_cons.mp z with z | z
            · rw [z]; exact zi_mem_ok zi_lfw.2.2.2.1
            · cases z
    · exact (zi_good zi_mf_ok.1 w z).1
  · obtain ⟨hE, hP2, hD2⟩ := hbx
    subst hE
    rw [ht] at hP2
    refine vx_catch (own := "AgreeToldLaw") (name := zi_NS) hown [] ⟨0, 12, 15, 13⟩ [] htab (fun z hz => by cases hz) (show covers ⟨0, 12, 15, 13⟩ 7 = true by decide) (by decide) (hts' _ (zi_mem_ok zi_lfw.2.2.2.2.1)) (zi_castr (hts' _ (zi_mem_ok zi_lfw.2.2.2.2.2.1))) hcell hcv hcc ?_
    refine lv_astore B.exec B.bytes zi_l15 h5 (by decide) rfl (fun ls1 hl1 => ?_)
    refine lv_iconst (v := 1) B.exec B.bytes zi_l17 (by decide) ?_
    exact W.iret B.exec B.bytes B.returns (fun t' ht' hW => ⟨⟨some (.int 1), ws2, rfl, zi_ex_trans hex hpx.1, rfl, hpx.2, by rw [ht']; exact hP2, hD2⟩, hS1.F ht'⟩) hS1.2.2 zi_l18 B.notSynchronized
end
section
theorem zi_yt : Cond.laysStatic Bundle.tN "UNASSIGNED_STACK" Bundle.steD ∈ lw_tbl ∧ Cond.laysStatic Bundle.tN "SUPPRESSED_SENTINEL" Bundle.listD ∈ lw_tbl ∧ Cond.initialized Bundle.tN ∈ lw_tbl ∧ Cond.isRef (.static Bundle.tN "UNASSIGNED_STACK" Bundle.steD) ∈ zi_fl ∧ Cond.isRef (.static Bundle.tN "SUPPRESSED_SENTINEL" Bundle.listD) ∈ zi_fl := ⟨by decide +kernel, by decide +kernel, by decide +kernel, by decide +kernel, by decide +kernel⟩
theorem zi_dcw : ∀ x ∈ zi_dcl, Cond.declares x ∈ lw_tbl := by decide +kernel
theorem zi_Y_ex {args : Array Value} {s : State} (hts : ∀ w ∈ lw_tbl, w.before args s = true) (hgv : (Jvm.Cond.and given_1 narrow_1).before args s = true) : zi_Y s.heap.size s := by
  have hs : ∀ w ∈ zi_fl, w.before args s = true := flat_of_before _ hgv
  have hA : ∀ a : Nat, a < s.heap.size → ¬ s.heap.size ≤ a := fun a h => Nat.not_le.mpr h
  exact ⟨fun x hx => va_tabs rfl rfl (hts _ (zi_dcw x hx)), vx_Zqof (hts _ zi_yt.1) (hts _ zi_yt.2.2.1) (hs _ zi_yt.2.2.2.1) hA, vx_Zqof (hts _ zi_yt.2.1) (hts _ zi_yt.2.2.1) (hs _ zi_yt.2.2.2.2) hA⟩
theorem zi_nt {l : Launch} (h : l.flags = flags0) : l.stackTraces = false := by
  unfold Launch.stackTraces
  rw [h]
  decide
section ZF
variable {p : Program} {l : Launch} {e : Env} {s : State} {m : MethodId} {below : List Frame} {meth : Method} {c : Code} {D : va_G} {dA : Nat → ClassId} {adK adV : Nat → Nat} {b : Nat} {sl : List zi_V} {xs : Nat → Int32}
theorem zi_op22g (hst : l.stackTraces = false) (hY : zi_Y s.heap.size s) {vp : zi_V} (hvp : zi_cat vp = 1) (hr0 : zi_run zi_call [] zi_mf 7 (0, zi_ent 0 [.inl (.ref 10), vp, zi_any, zi_any], [], zi_A0, 0, 0) = some (zi_fr vp)) (hr1 : zi_run zi_call [] zi_mlf 6 (0, zi_ent 0 [.inl (.ref 10), vp, zi_any, zi_any, .inl (.ref 109)], [], zi_A0, 0, 0) = some (zi_lfr vp)) (hrl : zi_run zi_call sl zi_mlaw 17 (996, zi_al0, [], zi_A0, 100, 177797) = some (1016, zi_al0, [.inl (.ref 109), zi_any, zi_any, vp, .inl (.ref 10)], zi_A0, 100, 177797)) (hfin : zi_fin sl 35 (1019, zi_al0, [.inl (.int 1)], zi_A0, 101, 177803) = true)
    (C : zi_Cx p room_1 s m #[Value.ref b] meth c s.heap.size D dA adK adV b zi_mlaw 40 sl) {ws : va_W} {H : Heap} {locs : List Loc} {ls : Array Slot} {sc : List Value} (hS : zi_St s.heap.size D dA adK adV b 7 s zi_f0 ws H locs ls sc) : zi_W p l e room_1 s m #[Value.ref b] below meth c (lw_Z below #[Value.ref b] s) 100 177797 996 H locs ls sc := by
  obtain ⟨⟨hx, hb, hml, hret, hown, hts, hlk, hnm⟩, hX, -⟩ := id C
  refine (zi_run_go (l := l) (e := e) (below := below) C zi_call_ok (fun mi N hN => (zi_Ms_ok mi N hN).1) zi_law_ok 17 hrl).1 _ ws H locs ls sc (zi_f0_at hS) (Nat.le_of_ble_eq_true rfl) (Nat.le_of_ble_eq_true rfl) (fun ws1 H1 locs1 ls1 sc1 hex hS1 => ?_)
  obtain ⟨h1, h2, h3, h4, ⟨lv, h5, h7⟩, h6⟩ := hS1
  obtain ⟨wo, so, eo, vo, ko⟩ := zi_F2_cons h6
  obtain ⟨w3, s3, e3, v3, k3⟩ := zi_F2_cons ko
  obtain ⟨w2, s2, e2, v2, k2⟩ := zi_F2_cons k3
  obtain ⟨w1, s1, e1, v1, k1⟩ := zi_F2_cons k2
  obtain ⟨w0, s0, e0, v0, k0⟩ := zi_F2_cons k1
  have en := zi_F2_nil k0
  subst eo e3 e2 e1 e0 en
  have hav : zi_F2 (zi_vr (zi_ad adK adV b ws1)) [.inl (.ref 10), vp, zi_any, zi_any, .inl (.ref 109)] [w0, w1, w2, w3, wo] := ⟨v0, v1, v2, v3, vo, trivial⟩
  refine zi_callW (ws := ws1) (rv := some (.inl (.int 1))) (A' := zi_A0) (mc := 1) (ms := 6) (vx_runSW (Ts := zi_gd) (own := "AgreeToldLaw") (As := [w0, w1, w2, w3, wo]) (rest := []) ⟨hx, hb, hml, hown, hts⟩ (zi_lfirst hst hvp hr0 hr1 hav h4) (vx_cwSW 5 hts (zi_goodL ?_) rfl rfl rfl (by decide) ⟨Nat.le_of_ble_eq_true rfl, Nat.le_of_ble_eq_true rfl⟩) (zi_pre2 hX hY h1 h2 h3) rfl rfl h5.1 rfl (lv_room (Nat.zero_le _)) zi_d1016 ⟨Nat.le_of_ble_eq_true rfl, Nat.le_of_ble_eq_true rfl⟩) h3 (fun v ws2 H2 locs2 hex2 hro hF hP hD hS2 => ?_)
  · intro w hw
    rcases List.mem_append.mp hw with z | z
    · rcases List.mem_cons.mp z with z | z
      · rw [z]; exact zi_mem_ok zi_lfw.2.2.2.2.2.2.1
      · rcases List.mem_cons.mp z with z | z
        · rw [z]; exact zi_mem_ok zi_lfw.2.2.2.2.2.2.2.1
        · rcases List.mem_cons.mp z with z | z
          · rw [z]; exact zi_mem_ok zi_lfw.2.2.2.2.2.2.2.2.1
          · cases z
    · rcases List.mem_cons.mp z with z | z
      · rw [z]; exact zi_mem_ok zi_lfw.2.2.2.2.2.2.2.2.2
      · exact z
  · cases v with
    | none => exact hro.elim
    | some w =>
      have hw : w = .int 1 := hro
      subst hw
      have hm := zi_ex_mo (adK := adK) (adV := adV) (b := b) hex2
      exact zi_fin_ok C hfin ⟨hP, hD, hS2, hF, ⟨lv, h5, zi_F2_mono (fun _ _ h => ⟨h.1, zi_vr_mo hm h.2⟩) h7⟩, ⟨rfl, trivial⟩⟩
theorem zi_22a_neg : zi_run zi_call [zi_any, .inr (-2147483648, -1), zi_any, zi_any, zi_any, zi_any, zi_any] zi_mlaw 17 (996, zi_al0, [], zi_A0, 100, 177797) = some (1016, zi_al0, [.inl (.ref 109), zi_any, zi_any, .inr (-2147483648, -1), .inl (.ref 10)], zi_A0, 100, 177797) := zi_feq_ok (by decide +kernel)
theorem zi_22a_pos : zi_run zi_call [zi_any, .inr (0, 2147483647), zi_any, zi_any, zi_any, zi_any, zi_any] zi_mlaw 17 (996, zi_al0, [], zi_A0, 100, 177797) = some (1016, zi_al0, [.inl (.ref 109), zi_any, zi_any, .inr (0, 2147483647), .inl (.ref 10)], zi_A0, 100, 177797) := zi_feq_ok (by decide +kernel)
theorem zi_22b_neg : zi_fin [zi_any, .inr (-2147483648, -1), zi_any, zi_any, zi_any, zi_any, zi_any] 35 (1019, zi_al0, [.inl (.int 1)], zi_A0, 101, 177803) = true := by decide +kernel
theorem zi_22b_pos : zi_fin [zi_any, .inr (0, 2147483647), zi_any, zi_any, zi_any, zi_any, zi_any] 35 (1019, zi_al0, [.inl (.int 1)], zi_A0, 101, 177803) = true := by decide +kernel
theorem zi_op22 (hflags : l.flags = flags0) (hY : zi_Y s.heap.size s) (C : zi_Cx p room_1 s m #[Value.ref b] meth c s.heap.size D dA adK adV b zi_mlaw 40 []) (hX : va_X b 7 xs s s.heap) (hbl : b < s.heap.size) {ws : va_W} {H : Heap} {locs : List Loc} {ls : Array Slot} {sc : List Value} (hS : zi_St s.heap.size D dA adK adV b 7 s zi_f0 ws H locs ls sc) : zi_W p l e room_1 s m #[Value.ref b] below meth c (lw_Z below #[Value.ref b] s) 100 177797 996 H locs ls sc := by
  have b1 := zi_bd (xs 1)
  rcases (show (xs 1).toInt ≤ -1 ∨ 0 ≤ (xs 1).toInt by omega) with h | h
  · exact zi_op22g (zi_nt hflags) hY rfl zi_fr_neg zi_lfr_neg zi_22a_neg zi_22b_neg (zi_scr C hX hbl (zi_ra (xs 0)) (zi_ri (a := -2147483648) (z := -1) (by decide) (by decide) (by omega) (by omega)) (zi_ra (xs 2)) (zi_ra (xs 3)) (zi_ra (xs 4)) (zi_ra (xs 5)) (zi_ra (xs 6))) hS
  · exact zi_op22g (zi_nt hflags) hY rfl zi_fr_pos zi_lfr_pos zi_22a_pos zi_22b_pos (zi_scr C hX hbl (zi_ra (xs 0)) (zi_ri (a := 0) (z := 2147483647) (by decide) (by decide) (by omega) (by omega)) (zi_ra (xs 2)) (zi_ra (xs 3)) (zi_ra (xs 4)) (zi_ra (xs 5)) (zi_ra (xs 6))) hS
end ZF
end
section
/-! The law, from its entry. -/
theorem zi_d23 : decode code 23 = .ok (.iload 4, 2) := by decide +kernel
theorem zi_d25 : decode code 25 = .ok (.aload_n 0, 1) := by decide +kernel
theorem zi_d26 : decode code 26 = .ok (.arraylength, 1) := by decide +kernel
theorem zi_d27 : decode code 27 = .ok (.bipush 7, 2) := by decide +kernel
theorem zi_d29 : decode code 29 = .ok (.isub, 1) := by decide +kernel
theorem zi_d30 : decode code 30 = .ok (.if_icmp .gt 1402, 3) := by decide +kernel
theorem zi_d33 : decode code 33 = .ok (.aload_n 0, 1) := by decide +kernel
theorem zi_d34 : decode code 34 = .ok (.iload 4, 2) := by decide +kernel
theorem zi_d36 : decode code 36 = .ok (.iaload, 1) := by decide +kernel
theorem zi_d37 : decode code 37 = .ok (.bipush 63, 2) := by decide +kernel
theorem zi_d39 : decode code 39 = .ok (.iand, 1) := by decide +kernel
theorem zi_d40 : decode code 40 = .ok (.tableswitch 1386 0 32 #[148, 295, 308, 321, 334, 359, 396, 421, 458, 483, 520, 557, 594, 607, 656, 705, 730, 743, 756, 817, 858, 907, 956, 1036, 1073, 1110, 1135, 1184, 1197, 1210, 1259, 1308, 1361], 148) := by decide +kernel
theorem zi_d1432 : decode code 1432 = .ok (.iconst 1, 1) := by decide +kernel
section ZF
variable {p : Program} {l : Launch} {e : Env} {s : State} {m : MethodId} {below : List Frame} {meth : Method} {c : Code} {D : va_G} {dA : Nat → ClassId} {adK adV : Nat → Nat} {b : Nat} {sl : List zi_V} {xs : Nat → Int32}
theorem zi_main (hflags : l.flags = flags0) (hY : zi_Y s.heap.size s) {L : Nat} (hL : L ≤ 7) (C : zi_Cx p room_1 s m #[Value.ref b] meth c s.heap.size D dA adK adV b zi_mlaw 40 []) (hX : va_X b L xs s s.heap) (hbl : b < s.heap.size) {ws : va_W} {H : Heap} {locs : List Loc} {ls : Array Slot} {sc : List Value} (hS : zi_St s.heap.size D dA adK adV b 7 s zi_f0 ws H locs ls sc) : zi_W p l e room_1 s m #[Value.ref b] below meth c (lw_Z below #[Value.ref b] s) 100 177797 23 H locs ls sc := by
  obtain ⟨⟨hx, hb, hml, hret, hown, hts, hlk, hnm⟩, -⟩ := id C
  obtain ⟨h1, h2, h3, h4, ⟨lv, h5, h7⟩, h6⟩ := id hS
  have e0 := zi_F2_nil h6
  subst e0
  obtain ⟨k4, w4, g4, v4⟩ := zi_loc_get (i := 4) (v := .inl (.int 0)) h7 rfl
  obtain ⟨k0, w0, g0, a0, v0, r0⟩ := zi_loc_get (i := 0) (v := .inl (.ref 8)) h7 rfl
  have v4 : w4 = .int 0 := v4
  subst v4
  have ea := zi_ad_scr v0
  subst ea
  subst r0
  have l4 := lv_at h5 k4 g4
  have l0 := lv_at h5 k0 g0
  refine lv_iload hx hb zi_d23 l4 ?_
  refine lv_aload_n hx hb zi_d25 rfl l0 ?_
  refine va_slen hx hb hX hbl (Nat.not_le.mpr hbl) h3 zi_d26 ?_
  refine lv_bipush (v := 7) hx hb zi_d27 (by decide) ?_
  refine lv_isub hx hb zi_d29 ?_
  refine lv_icmp_gt (tgt := 1432) hx hb zi_d30 (by decide) (fun cgt => ?_) (fun cgt => ?_)
  · refine lv_iconst (v := 1) hx hb zi_d1432 (by decide) ?_
    exact zi_end C (Nat.le_of_ble_eq_true rfl) (Nat.le_of_ble_eq_true rfl) h3
  · have e7 : L = 7 := by
      rcases (show L = 0 ∨ L = 1 ∨ L = 2 ∨ L = 3 ∨ L = 4 ∨ L = 5 ∨ L = 6 ∨ L = 7 by omega) with z | z | z | z | z | z | z | z
      · subst z; exact absurd (by decide) cgt
      · subst z; exact absurd (by decide) cgt
      · subst z; exact absurd (by decide) cgt
      · subst z; exact absurd (by decide) cgt
      · subst z; exact absurd (by decide) cgt
      · subst z; exact absurd (by decide) cgt
      · subst z; exact absurd (by decide) cgt
      · exact z
    subst e7
    refine lv_aload_n hx hb zi_d33 rfl l0 ?_
    refine lv_iload hx hb zi_d34 l4 ?_
    refine va_sld hx hb hX hbl (Nat.not_le.mpr hbl) h3 (by unfold vp_in; decide) zi_d36 ?_
    refine lv_bipush (v := 63) hx hb zi_d37 (by decide) ?_
    refine lv_iand hx hb zi_d39 ?_
    obtain ⟨j, hj, ej⟩ := pk_andE (xs (Int32.toNatClampNeg 0)) (m := 63) 6 (by decide)
    rw [ej]
    rcases (show j = 0 ∨ j = 1 ∨ j = 2 ∨ j = 3 ∨ j = 4 ∨ j = 5 ∨ j = 6 ∨ j = 7 ∨ j = 8 ∨ j = 9 ∨ j = 10 ∨ j = 11 ∨ j = 12 ∨ j = 13 ∨ j = 14 ∨ j = 15 ∨ j = 16 ∨ j = 17 ∨ j = 18 ∨ j = 19 ∨ j = 20 ∨ j = 21 ∨ j = 22 ∨ j = 23 ∨ j = 24 ∨ j = 25 ∨ j = 26 ∨ j = 27 ∨ j = 28 ∨ j = 29 ∨ j = 30 ∨ j = 31 ∨ j = 32 ∨ 33 ≤ j by omega) with z | z | z | z | z | z | z | z | z | z | z | z | z | z | z | z | z | z | z | z | z | z | z | z | z | z | z | z | z | z | z | z | z | z
    · subst z
      refine lv_tableIn (tgt := 188) (off := 148) hx hb zi_d40 (by decide) (by decide) (by decide) (by decide) ?_
      exact zi_op0 C hX hbl hS
    · subst z
      refine lv_tableIn (tgt := 335) (off := 295) hx hb zi_d40 (by decide) (by decide) (by decide) (by decide) ?_
      exact zi_op1 C hX hbl hS
    · subst z
      refine lv_tableIn (tgt := 348) (off := 308) hx hb zi_d40 (by decide) (by decide) (by decide) (by decide) ?_
      exact zi_op2 C hX hbl hS
    · subst z
      refine lv_tableIn (tgt := 361) (off := 321) hx hb zi_d40 (by decide) (by decide) (by decide) (by decide) ?_
      exact zi_op3 C hX hbl hS
    · subst z
      refine lv_tableIn (tgt := 374) (off := 334) hx hb zi_d40 (by decide) (by decide) (by decide) (by decide) ?_
      exact zi_op4 C hX hbl hS
    · subst z
      refine lv_tableIn (tgt := 399) (off := 359) hx hb zi_d40 (by decide) (by decide) (by decide) (by decide) ?_
      exact zi_op5 C hX hbl hS
    · subst z
      refine lv_tableIn (tgt := 436) (off := 396) hx hb zi_d40 (by decide) (by decide) (by decide) (by decide) ?_
      exact zi_op6 C hX hbl hS
    · subst z
      refine lv_tableIn (tgt := 461) (off := 421) hx hb zi_d40 (by decide) (by decide) (by decide) (by decide) ?_
      exact zi_op7 C hX hbl hS
    · subst z
      refine lv_tableIn (tgt := 498) (off := 458) hx hb zi_d40 (by decide) (by decide) (by decide) (by decide) ?_
      exact zi_op8 C hX hbl hS
    · subst z
      refine lv_tableIn (tgt := 523) (off := 483) hx hb zi_d40 (by decide) (by decide) (by decide) (by decide) ?_
      exact zi_op9 C hX hbl hS
    · subst z
      refine lv_tableIn (tgt := 560) (off := 520) hx hb zi_d40 (by decide) (by decide) (by decide) (by decide) ?_
      exact zi_op10 C hX hbl hS
    · subst z
      refine lv_tableIn (tgt := 597) (off := 557) hx hb zi_d40 (by decide) (by decide) (by decide) (by decide) ?_
      exact zi_op11 C hX hbl hS
    · subst z
      refine lv_tableIn (tgt := 634) (off := 594) hx hb zi_d40 (by decide) (by decide) (by decide) (by decide) ?_
      exact zi_op12 C hX hbl hS
    · subst z
      refine lv_tableIn (tgt := 647) (off := 607) hx hb zi_d40 (by decide) (by decide) (by decide) (by decide) ?_
      exact zi_op13 C hX hbl hS
    · subst z
      refine lv_tableIn (tgt := 696) (off := 656) hx hb zi_d40 (by decide) (by decide) (by decide) (by decide) ?_
      exact zi_op14 C hX hbl hS
    · subst z
      refine lv_tableIn (tgt := 745) (off := 705) hx hb zi_d40 (by decide) (by decide) (by decide) (by decide) ?_
      exact zi_op15 C hX hbl hS
    · subst z
      refine lv_tableIn (tgt := 770) (off := 730) hx hb zi_d40 (by decide) (by decide) (by decide) (by decide) ?_
      exact zi_op16 C hX hbl hS
    · subst z
      refine lv_tableIn (tgt := 783) (off := 743) hx hb zi_d40 (by decide) (by decide) (by decide) (by decide) ?_
      exact zi_op17 C hX hbl hS
    · subst z
      refine lv_tableIn (tgt := 796) (off := 756) hx hb zi_d40 (by decide) (by decide) (by decide) (by decide) ?_
      exact zi_op18 C hX hbl hS
    · subst z
      refine lv_tableIn (tgt := 857) (off := 817) hx hb zi_d40 (by decide) (by decide) (by decide) (by decide) ?_
      exact zi_op19 C hX hbl hS
    · subst z
      refine lv_tableIn (tgt := 898) (off := 858) hx hb zi_d40 (by decide) (by decide) (by decide) (by decide) ?_
      exact zi_op20 C hX hbl hS
    · subst z
      refine lv_tableIn (tgt := 947) (off := 907) hx hb zi_d40 (by decide) (by decide) (by decide) (by decide) ?_
      exact zi_op21 C hX hbl hS
    · subst z
      refine lv_tableIn (tgt := 996) (off := 956) hx hb zi_d40 (by decide) (by decide) (by decide) (by decide) ?_
      exact zi_op22 hflags hY C hX hbl hS
    · subst z
      refine lv_tableIn (tgt := 1076) (off := 1036) hx hb zi_d40 (by decide) (by decide) (by decide) (by decide) ?_
      exact zi_op23 C hX hbl hS
    · subst z
      refine lv_tableIn (tgt := 1113) (off := 1073) hx hb zi_d40 (by decide) (by decide) (by decide) (by decide) ?_
      exact zi_op24 C hX hbl hS
    · subst z
      refine lv_tableIn (tgt := 1150) (off := 1110) hx hb zi_d40 (by decide) (by decide) (by decide) (by decide) ?_
      exact zi_op25 C hX hbl hS
    · subst z
      refine lv_tableIn (tgt := 1175) (off := 1135) hx hb zi_d40 (by decide) (by decide) (by decide) (by decide) ?_
      exact zi_op26 C hX hbl hS
    · subst z
      refine lv_tableIn (tgt := 1224) (off := 1184) hx hb zi_d40 (by decide) (by decide) (by decide) (by decide) ?_
      exact zi_op27 C hX hbl hS
    · subst z
      refine lv_tableIn (tgt := 1237) (off := 1197) hx hb zi_d40 (by decide) (by decide) (by decide) (by decide) ?_
      exact zi_op28 C hX hbl hS
    · subst z
      refine lv_tableIn (tgt := 1250) (off := 1210) hx hb zi_d40 (by decide) (by decide) (by decide) (by decide) ?_
      exact zi_op29 C hX hbl hS
    · subst z
      refine lv_tableIn (tgt := 1299) (off := 1259) hx hb zi_d40 (by decide) (by decide) (by decide) (by decide) ?_
      exact zi_op30 C hX hbl hS
    · subst z
      refine lv_tableIn (tgt := 1348) (off := 1308) hx hb zi_d40 (by decide) (by decide) (by decide) (by decide) ?_
      exact zi_op31 C hX hbl hS
    · subst z
      refine lv_tableIn (tgt := 1401) (off := 1361) hx hb zi_d40 (by decide) (by decide) (by decide) (by decide) ?_
      exact zi_op32 C hX hbl hS
    · refine lv_tableOut (tgt := 1426) hx hb zi_d40 (Or.inr ?_) (by decide) ?_
      · rw [nI_toInt (by omega)]; omega
      · exact zi_op99 C hX hbl hS
end ZF
theorem whole_start {p : Program} {e : Env} {s : State} {m : MethodId} {below : List Frame} {meth : Method} {c : Code} (l : Launch) (hflags : l.flags = flags0) {b L : Nat} {xs : Nat → Int32} (hL : L ≤ 7) (C0 : lw_At p s m meth c b L xs) : W p l e room_1 s m #[Value.ref b] below meth c s.heap [] 0 0 (lw_Z below #[Value.ref b] s) (entryFrame m ([Value.ref b] : List Value).toArray 7) := by
  obtain ⟨hx, hb, hr, hml, hown, hts, hX, hbl, hlocks, hgv, hname⟩ := C0
  obtain ⟨D, dA, adK, adV, hX0⟩ := zi_X_ex hts hgv
  have C : zi_Cx p room_1 s m #[Value.ref b] meth c s.heap.size D dA adK adV b zi_mlaw 40 [] := ⟨⟨hx, hb, hml, hr, hown, fun w hw => hts w (List.mem_filter.mp hw).1, hlocks, hname⟩, hX0, ⟨Nat.le_of_ble_eq_true rfl, Nat.le_of_ble_eq_true rfl⟩, Or.inl rfl⟩
  have hl := lv_entry ([.ref b]) (n := 7) (Nat.le_of_ble_eq_true rfl)
  rw [lg_entry_eq]
  generalize (lg_sl ([.ref b]) ++ List.replicate (7 - (lg_sl ([.ref b])).length) Slot.unset).toArray = ls at hl ⊢
  have hl : lv_has ls 7 [(0, .ref b)] := hl
  have hS0 : zi_St s.heap.size D dA adK adV b 7 s (0, [(0, .inl (.ref 8))], [], [], 0, 0) [] s.heap [] ls [] := ⟨fun k q h => by simp at h, ⟨fun i j p q h => by simp at h, fun k q h => by simp at h⟩, va_S.rf, trivial, ⟨_, hl, ⟨⟨rfl, ⟨b, rfl, rfl⟩⟩, trivial⟩⟩, trivial⟩
  exact (zi_run_go (l := l) (e := e) (below := below) C zi_call_ok (fun mi N hN => (zi_Ms_ok mi N hN).1) zi_law_ok 13 zi_run0).1 _ [] s.heap [] ls [] hS0 (Nat.le_of_ble_eq_true rfl) (Nat.le_of_ble_eq_true rfl) (fun ws H locs ls sc hex hS => zi_main hflags (zi_Y_ex hts hgv) hL C hX hbl hS)
end
section
-- ===== YOUR PART ENDS =====
set_option maxHeartbeats 4000000 in
theorem lw_walk (l : Launch) (hflags : l.flags = flags0) (b : Addr) (xs : List Int32) : MetFree l x (headSpec (Jvm.Cond.code x code maxLocals ret :: tables_1) room_1) (lw_P b xs) (fun _ _ _ _ _ => True) lw_Q := by
  refine MetFree.of_bodyS (code := code) (maxLocals := maxLocals) (ret := ret) (by decide) ?_ ?_
  · intro args s m h hn
    obtain ⟨meth, c, h1, h2, h3, h4, h5, h6, -, -⟩ := Cond.code_spec hn (atoms_spec (ws := Jvm.Cond.code x code maxLocals ret :: tables_1) h _ List.mem_cons_self)
    exact ⟨meth, c, h1, h2, h3, h4, h5, h6⟩
  · intro p e s m args below meth c s₁ B hml0 hP _
    obtain ⟨rfl, hx, hbd, hgv⟩ := hP
    obtain ⟨scr, harrAt, hlist, hof, hsmall⟩ := hx
    obtain ⟨hcb, hkn, -, -⟩ := State.arrayAt?_spec harrAt
    have hown : s.vm.findClass R_law = some m.cls := findClass_of_methodNamed B.named
    have hts0 : ∀ c ∈ (Jvm.Cond.code x code maxLocals ret :: tables_1), c.before #[Value.ref b] s = true := atoms_spec (ws := Jvm.Cond.code x code maxLocals ret :: tables_1) B.pre
    have hts : ∀ w ∈ lw_tbl, w.before #[Value.ref b] s = true := k2_hts_sels lw_privs (fun w hw => hts0 w (List.mem_cons_of_mem _ hw)) lw_privs_ok
    have hml : c.maxLocals = 7 := B.maxLocals_eq (hts0 _ List.mem_cons_self)
    have X₀ : Stand p l e room_1 s m #[Value.ref b] below meth c s₁ [] 0 0 := Stand.of_body B
    have hh0 : s₁.heap = s.heap := by rw [B.state]; rfl
    have hsz : scr.slots.size = xs.length := by rw [← Array.length_toList, hlist, List.length_map]
    have hval : ∀ j : Nat, j < xs.length → scr.slots[j]? = some (.int (xs.getD j 0)) := fun j hj => by
      rw [← Array.getElem?_toList, hlist]
      simp [hj]
    have hbl : b < s.heap.size := (Array.getElem?_eq_some_iff.mp hcb).1
    have hX : va_X b xs.length (fun j => xs.getD j 0) s s.heap := ⟨scr, hcb, hof, hkn, hsz, hval⟩
    have K : W p l e room_1 s m #[Value.ref b] below meth c s₁.heap [] 0 0 (lw_Z below #[Value.ref b] s) (entryFrame m ([Value.ref b] : List Value).toArray 7) := by
      rw [hh0]
      exact whole_start l hflags hbd ⟨B.exec, B.bytes, B.returns, hml, hown, hts, hX, hbl, B.notSynchronized, hgv, (name_of_methodNamed B.named B.method).1⟩
    obtain ⟨t, a1, o, b1, b2, b3⟩ := K s₁ rfl X₀
    exact ⟨t, o, a1, b1, b2, b3⟩
theorem lw_pre_spec {args : Array Value} {s : State} (h : (Jvm.Cond.and given_1 narrow_1).before args s = true) (hr : rest_1_c.before args s = true) : ∃ (b : Addr) (xs : List Int32), lw_P b xs args s := by
  have hs := flat_of_before _ h
  have hq := flat_of_before _ hr
  have hc : (Cond.count 1).before args s = true := hs _ (by decide +kernel)
  have harr : (Cond.arrayOf (.arg 0) .int).before args s = true := hs _ (by decide +kernel)
  have hle : (Cond.le (.length (.arg 0)) (.int 7)).before args s = true := hs _ (by decide +kernel)
  have hlen : (Cond.isInt (.length (.arg 0))).before args s = true := hq _ (by decide +kernel)
  have hall : (Cond.all (.arg 0) (.isInt (.elem (.arg 0) (.index 0)))).before args s = true := hq _ (by decide +kernel)
  obtain ⟨b, xs, hb, hx⟩ := State.ints_of_pre rfl harr hlen hall
  have hsm : xs.length < 2 ^ 31 := hx.choose_spec.2.2.2
  have hev : (Term.length (.arg 0)).eval args s none [] s = some (.int xs.length.toInt32) := hx.length_eval hb
  have hv := Cond.le_ints hev (show (Term.int 7).eval args s none [] s = some (.int 7) from rfl)
  have hd : xs.length.toInt32 ≤ 7 := by
    simpa [Cond.before, Cond.holds, hv] using hle
  have hN : xs.length ≤ 7 := (Int32.ofNat_le_ofNat hsm (by decide)).mp (show Int32.ofNat xs.length ≤ Int32.ofNat 7 from hd)
  exact ⟨b, xs, Cond.one_arg hc (show args[0]? = some (.ref b) from hb), hx, hN, h⟩
theorem lw_comes (l : Launch) (hflags : l.flags = flags0) : Comes l x (Jvm.Cond.code x code maxLocals ret :: tables_1) room_1 (fun tb e args s => Calls_1 tb e args s ∧ rest_1 tb e args s ∧ Pre_1 tb e args s)
    (fun _ _ args s o t => lw_Q args s o t) := by
  intro p e ha hc hk s m args below hf hfit hheap happ hpre
  obtain ⟨b, xs, hP⟩ := lw_pre_spec hpre.2.2 hpre.2.1
  obtain ⟨k, o, h1, h2, h3, hQ⟩ := lw_walk l hflags b xs p e ha hc hk s m args below hf ((Spec.applies_iff_loose hf).mp happ).1 hP trivial
  exact ⟨k, o, h1, h2, h3, hQ⟩
theorem lw_frame {s t : State} {o : Outcome} {args : Array Value} (h : Framed s o t [] 600002 7302232) :
    Framed s o t (fieldLocs frame_1_writes args s ++ arrayLocs frame_1_arrays args s ++ staticLocs frame_1_statics s) 600002 7302232 := h
theorem lw_limb (L : Cond) (hL : ∀ (args : Array Value) (s t : State), L.after args s (.returned (some (.int 1))) t = true) :
    ArmFor flags0 classFile x code maxLocals ret World_1 tables_1 room_1 Calls_1 rest_1 Pre_1
      (fun tb e a s o t => postC L tb e a s o t ∧ Framed s o t (fieldLocs frame_1_writes a s ++ arrayLocs frame_1_arrays a s ++ staticLocs frame_1_statics s) 600002 7302232) := by
  intro l hflags _ _ p e ha hc hk s m args below hf hfit hheap happ hpre
  obtain ⟨k, o, h1, h2, h3, rfl, hF⟩ := lw_comes l hflags p e ha hc hk s m args below hf hfit hheap happ hpre
  exact ⟨k, _, h1, h2, h3, hL args s _, lw_frame hF⟩
theorem i_vc : Claimed_1_1 ∧ Claimed_1_2 := ⟨lw_limb limb_1_1 (fun args s t => by simp [limb_1_1, Cond.after, Cond.holds, Cond.value]), lw_limb limb_1_2 (fun args s t => Cond.after_iff.mpr (by
  first | (rw [show limb_1_2 = Cond.eq .result (.int 1) from rfl, Cond.eq_ints (x := 1) (y := 1) rfl rfl]; simp; done) | (simp [limb_1_2, Cond.value, Term.eval]; done)))⟩
end
