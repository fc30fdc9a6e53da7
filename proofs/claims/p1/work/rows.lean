section
-- ===== PART A: goes FIRST, ahead of the names: the tables' words, and 'selects' of the private methods out of them =====
/-- a private method of a class that the tables say can be made, by its rows of tables_1 -/
def lw_okq (q : MethodName × Nat) : Prop := (q.1.cls ≠ "java/lang/invoke/MethodHandle" ∧ q.1.cls ≠ "java/lang/invoke/VarHandle") ∧ Cond.instantiable q.1.cls q.2 ∈ tables_1 ∧ Cond.privateMethod q.1 ∈ tables_1 ∧ Cond.instanceMethod q.1 ∈ tables_1
theorem lw_p0 : lw_okq (⟨"AgreeTold", "refreshLeft", "()V"⟩, 19) := ⟨⟨by decide +kernel, by decide +kernel⟩, List.mem_of_getElem? (i := 28) (by decide +kernel), List.mem_of_getElem? (i := 415) (by decide +kernel), List.mem_of_getElem? (i := 416) (by decide +kernel)⟩
theorem lw_p1 : lw_okq (⟨"AgreeTold", "groundInto", "(LAgreeTold$FutureSet;)V"⟩, 19) := ⟨⟨by decide +kernel, by decide +kernel⟩, List.mem_of_getElem? (i := 28) (by decide +kernel), List.mem_of_getElem? (i := 419) (by decide +kernel), List.mem_of_getElem? (i := 420) (by decide +kernel)⟩
theorem lw_p2 : lw_okq (⟨"AgreeTold", "sayingRow", "(I)LAgreeTold$FutureSet;"⟩, 19) := ⟨⟨by decide +kernel, by decide +kernel⟩, List.mem_of_getElem? (i := 28) (by decide +kernel), List.mem_of_getElem? (i := 460) (by decide +kernel), List.mem_of_getElem? (i := 461) (by decide +kernel)⟩
theorem lw_p3 : lw_okq (⟨"AgreeTold$Tape", "cutToken", "(I)I"⟩, 7) := ⟨⟨by decide +kernel, by decide +kernel⟩, List.mem_of_getElem? (i := 42) (by decide +kernel), List.mem_of_getElem? (i := 543) (by decide +kernel), List.mem_of_getElem? (i := 544) (by decide +kernel)⟩
theorem lw_p4 : lw_okq (⟨"AgreeTold$Tape", "signAt", "(I)C"⟩, 7) := ⟨⟨by decide +kernel, by decide +kernel⟩, List.mem_of_getElem? (i := 42) (by decide +kernel), List.mem_of_getElem? (i := 547) (by decide +kernel), List.mem_of_getElem? (i := 548) (by decide +kernel)⟩
theorem lw_p5 : lw_okq (⟨"AgreeTold$Tape", "cutWord", "(I)I"⟩, 7) := ⟨⟨by decide +kernel, by decide +kernel⟩, List.mem_of_getElem? (i := 42) (by decide +kernel), List.mem_of_getElem? (i := 554) (by decide +kernel), List.mem_of_getElem? (i := 555) (by decide +kernel)⟩
theorem lw_p6 : lw_okq (⟨"AgreeTold$Tape", "wordKind", "(J)I"⟩, 7) := ⟨⟨by decide +kernel, by decide +kernel⟩, List.mem_of_getElem? (i := 42) (by decide +kernel), List.mem_of_getElem? (i := 558) (by decide +kernel), List.mem_of_getElem? (i := 559) (by decide +kernel)⟩
theorem lw_p7 : lw_okq (⟨"AgreeTold$Tape", "addToken", "(IIJ)V"⟩, 7) := ⟨⟨by decide +kernel, by decide +kernel⟩, List.mem_of_getElem? (i := 42) (by decide +kernel), List.mem_of_getElem? (i := 562) (by decide +kernel), List.mem_of_getElem? (i := 563) (by decide +kernel)⟩
theorem lw_p8 : lw_okq (⟨"AgreeTold$Tape", "cutNumber", "(I)I"⟩, 7) := ⟨⟨by decide +kernel, by decide +kernel⟩, List.mem_of_getElem? (i := 42) (by decide +kernel), List.mem_of_getElem? (i := 569) (by decide +kernel), List.mem_of_getElem? (i := 570) (by decide +kernel)⟩
theorem lw_p9 : lw_okq (⟨"AgreeTold$Reader", "begin", "(LAgreeTold$Land;)V"⟩, 12) := ⟨⟨by decide +kernel, by decide +kernel⟩, List.mem_of_getElem? (i := 36) (by decide +kernel), List.mem_of_getElem? (i := 635) (by decide +kernel), List.mem_of_getElem? (i := 636) (by decide +kernel)⟩
theorem lw_p10 : lw_okq (⟨"AgreeTold$Reader", "advance", "()V"⟩, 12) := ⟨⟨by decide +kernel, by decide +kernel⟩, List.mem_of_getElem? (i := 36) (by decide +kernel), List.mem_of_getElem? (i := 639) (by decide +kernel), List.mem_of_getElem? (i := 640) (by decide +kernel)⟩
theorem lw_p11 : lw_okq (⟨"AgreeTold$Reader", "readDays", "()V"⟩, 12) := ⟨⟨by decide +kernel, by decide +kernel⟩, List.mem_of_getElem? (i := 36) (by decide +kernel), List.mem_of_getElem? (i := 643) (by decide +kernel), List.mem_of_getElem? (i := 644) (by decide +kernel)⟩
theorem lw_p12 : lw_okq (⟨"AgreeTold$Reader", "takeKind", "(I)V"⟩, 12) := ⟨⟨by decide +kernel, by decide +kernel⟩, List.mem_of_getElem? (i := 36) (by decide +kernel), List.mem_of_getElem? (i := 647) (by decide +kernel), List.mem_of_getElem? (i := 648) (by decide +kernel)⟩
theorem lw_p13 : lw_okq (⟨"AgreeTold$Reader", "wrong", "(I)V"⟩, 12) := ⟨⟨by decide +kernel, by decide +kernel⟩, List.mem_of_getElem? (i := 36) (by decide +kernel), List.mem_of_getElem? (i := 651) (by decide +kernel), List.mem_of_getElem? (i := 652) (by decide +kernel)⟩
theorem lw_p14 : lw_okq (⟨"AgreeTold$Reader", "takeNumber", "(II)I"⟩, 12) := ⟨⟨by decide +kernel, by decide +kernel⟩, List.mem_of_getElem? (i := 36) (by decide +kernel), List.mem_of_getElem? (i := 655) (by decide +kernel), List.mem_of_getElem? (i := 656) (by decide +kernel)⟩
theorem lw_p15 : lw_okq (⟨"AgreeTold$Reader", "readPerson", "()V"⟩, 12) := ⟨⟨by decide +kernel, by decide +kernel⟩, List.mem_of_getElem? (i := 36) (by decide +kernel), List.mem_of_getElem? (i := 659) (by decide +kernel), List.mem_of_getElem? (i := 660) (by decide +kernel)⟩
def lw_privs_1 : List (MethodName × Nat) := [(⟨"AgreeTold", "refreshLeft", "()V"⟩, 19), (⟨"AgreeTold", "groundInto", "(LAgreeTold$FutureSet;)V"⟩, 19), (⟨"AgreeTold", "sayingRow", "(I)LAgreeTold$FutureSet;"⟩, 19), (⟨"AgreeTold$Tape", "cutToken", "(I)I"⟩, 7), (⟨"AgreeTold$Tape", "signAt", "(I)C"⟩, 7), (⟨"AgreeTold$Tape", "cutWord", "(I)I"⟩, 7), (⟨"AgreeTold$Tape", "wordKind", "(J)I"⟩, 7), (⟨"AgreeTold$Tape", "addToken", "(IIJ)V"⟩, 7), (⟨"AgreeTold$Tape", "cutNumber", "(I)I"⟩, 7), (⟨"AgreeTold$Reader", "begin", "(LAgreeTold$Land;)V"⟩, 12), (⟨"AgreeTold$Reader", "advance", "()V"⟩, 12), (⟨"AgreeTold$Reader", "readDays", "()V"⟩, 12), (⟨"AgreeTold$Reader", "takeKind", "(I)V"⟩, 12), (⟨"AgreeTold$Reader", "wrong", "(I)V"⟩, 12), (⟨"AgreeTold$Reader", "takeNumber", "(II)I"⟩, 12), (⟨"AgreeTold$Reader", "readPerson", "()V"⟩, 12)]
theorem lw_r1 : ∀ q ∈ lw_privs_1, lw_okq q := List.forall_mem_cons.mpr ⟨lw_p0, List.forall_mem_cons.mpr ⟨lw_p1, List.forall_mem_cons.mpr ⟨lw_p2, List.forall_mem_cons.mpr ⟨lw_p3, List.forall_mem_cons.mpr ⟨lw_p4, List.forall_mem_cons.mpr ⟨lw_p5, List.forall_mem_cons.mpr ⟨lw_p6, List.forall_mem_cons.mpr ⟨lw_p7, List.forall_mem_cons.mpr ⟨lw_p8, List.forall_mem_cons.mpr ⟨lw_p9, List.forall_mem_cons.mpr ⟨lw_p10, List.forall_mem_cons.mpr ⟨lw_p11, List.forall_mem_cons.mpr ⟨lw_p12, List.forall_mem_cons.mpr ⟨lw_p13, List.forall_mem_cons.mpr ⟨lw_p14, List.forall_mem_cons.mpr ⟨lw_p15, fun _ h => absurd h List.not_mem_nil⟩⟩⟩⟩⟩⟩⟩⟩⟩⟩⟩⟩⟩⟩⟩⟩
theorem lw_p16 : lw_okq (⟨"AgreeTold$Reader", "takeNewName", "()J"⟩, 12) := ⟨⟨by decide +kernel, by decide +kernel⟩, List.mem_of_getElem? (i := 36) (by decide +kernel), List.mem_of_getElem? (i := 671) (by decide +kernel), List.mem_of_getElem? (i := 672) (by decide +kernel)⟩
theorem lw_p17 : lw_okq (⟨"AgreeTold$Reader", "readEvent", "()V"⟩, 12) := ⟨⟨by decide +kernel, by decide +kernel⟩, List.mem_of_getElem? (i := 36) (by decide +kernel), List.mem_of_getElem? (i := 686) (by decide +kernel), List.mem_of_getElem? (i := 687) (by decide +kernel)⟩
theorem lw_p18 : lw_okq (⟨"AgreeTold$Reader", "readProphet", "()V"⟩, 12) := ⟨⟨by decide +kernel, by decide +kernel⟩, List.mem_of_getElem? (i := 36) (by decide +kernel), List.mem_of_getElem? (i := 694) (by decide +kernel), List.mem_of_getElem? (i := 695) (by decide +kernel)⟩
theorem lw_p19 : lw_okq (⟨"AgreeTold$Reader", "readLaw", "()V"⟩, 12) := ⟨⟨by decide +kernel, by decide +kernel⟩, List.mem_of_getElem? (i := 36) (by decide +kernel), List.mem_of_getElem? (i := 702) (by decide +kernel), List.mem_of_getElem? (i := 703) (by decide +kernel)⟩
theorem lw_p20 : lw_okq (⟨"AgreeTold$Reader", "readFormula", "(I)V"⟩, 12) := ⟨⟨by decide +kernel, by decide +kernel⟩, List.mem_of_getElem? (i := 36) (by decide +kernel), List.mem_of_getElem? (i := 706) (by decide +kernel), List.mem_of_getElem? (i := 707) (by decide +kernel)⟩
theorem lw_p21 : lw_okq (⟨"AgreeTold$Reader", "readItem", "(I)V"⟩, 12) := ⟨⟨by decide +kernel, by decide +kernel⟩, List.mem_of_getElem? (i := 36) (by decide +kernel), List.mem_of_getElem? (i := 710) (by decide +kernel), List.mem_of_getElem? (i := 711) (by decide +kernel)⟩
theorem lw_p22 : lw_okq (⟨"AgreeTold$Reader", "emit", "(I)V"⟩, 12) := ⟨⟨by decide +kernel, by decide +kernel⟩, List.mem_of_getElem? (i := 36) (by decide +kernel), List.mem_of_getElem? (i := 715) (by decide +kernel), List.mem_of_getElem? (i := 716) (by decide +kernel)⟩
theorem lw_p23 : lw_okq (⟨"AgreeTold$Reader", "readPair", "()V"⟩, 12) := ⟨⟨by decide +kernel, by decide +kernel⟩, List.mem_of_getElem? (i := 36) (by decide +kernel), List.mem_of_getElem? (i := 719) (by decide +kernel), List.mem_of_getElem? (i := 720) (by decide +kernel)⟩
theorem lw_p24 : lw_okq (⟨"AgreeTold$Reader", "takeName", "([JI)I"⟩, 12) := ⟨⟨by decide +kernel, by decide +kernel⟩, List.mem_of_getElem? (i := 36) (by decide +kernel), List.mem_of_getElem? (i := 723) (by decide +kernel), List.mem_of_getElem? (i := 724) (by decide +kernel)⟩
theorem lw_p25 : lw_okq (⟨"AgreeTold$Reader", "readSingle", "()V"⟩, 12) := ⟨⟨by decide +kernel, by decide +kernel⟩, List.mem_of_getElem? (i := 36) (by decide +kernel), List.mem_of_getElem? (i := 730) (by decide +kernel), List.mem_of_getElem? (i := 731) (by decide +kernel)⟩
theorem lw_p26 : lw_okq (⟨"AgreeTold$Reader", "emitWhen", "(IIII)V"⟩, 12) := ⟨⟨by decide +kernel, by decide +kernel⟩, List.mem_of_getElem? (i := 36) (by decide +kernel), List.mem_of_getElem? (i := 734) (by decide +kernel), List.mem_of_getElem? (i := 735) (by decide +kernel)⟩
theorem lw_p27 : lw_okq (⟨"AgreeTold$Reader", "readWish", "()V"⟩, 12) := ⟨⟨by decide +kernel, by decide +kernel⟩, List.mem_of_getElem? (i := 36) (by decide +kernel), List.mem_of_getElem? (i := 742) (by decide +kernel), List.mem_of_getElem? (i := 743) (by decide +kernel)⟩
theorem lw_p28 : lw_okq (⟨"AgreeTold$Reader", "readPrice", "()V"⟩, 12) := ⟨⟨by decide +kernel, by decide +kernel⟩, List.mem_of_getElem? (i := 36) (by decide +kernel), List.mem_of_getElem? (i := 758) (by decide +kernel), List.mem_of_getElem? (i := 759) (by decide +kernel)⟩
theorem lw_p29 : lw_okq (⟨"AgreeTold$Reader", "readExpression", "(II)V"⟩, 12) := ⟨⟨by decide +kernel, by decide +kernel⟩, List.mem_of_getElem? (i := 36) (by decide +kernel), List.mem_of_getElem? (i := 762) (by decide +kernel), List.mem_of_getElem? (i := 763) (by decide +kernel)⟩
theorem lw_p30 : lw_okq (⟨"AgreeTold$Reader", "readPart", "(I)V"⟩, 12) := ⟨⟨by decide +kernel, by decide +kernel⟩, List.mem_of_getElem? (i := 36) (by decide +kernel), List.mem_of_getElem? (i := 766) (by decide +kernel), List.mem_of_getElem? (i := 767) (by decide +kernel)⟩
theorem lw_p31 : lw_okq (⟨"AgreeTold$Worlds", "buildWords", "(I)V"⟩, 10) := ⟨⟨by decide +kernel, by decide +kernel⟩, List.mem_of_getElem? (i := 268) (by decide +kernel), List.mem_of_getElem? (i := 782) (by decide +kernel), List.mem_of_getElem? (i := 783) (by decide +kernel)⟩
def lw_privs_2 : List (MethodName × Nat) := [(⟨"AgreeTold$Reader", "takeNewName", "()J"⟩, 12), (⟨"AgreeTold$Reader", "readEvent", "()V"⟩, 12), (⟨"AgreeTold$Reader", "readProphet", "()V"⟩, 12), (⟨"AgreeTold$Reader", "readLaw", "()V"⟩, 12), (⟨"AgreeTold$Reader", "readFormula", "(I)V"⟩, 12), (⟨"AgreeTold$Reader", "readItem", "(I)V"⟩, 12), (⟨"AgreeTold$Reader", "emit", "(I)V"⟩, 12), (⟨"AgreeTold$Reader", "readPair", "()V"⟩, 12), (⟨"AgreeTold$Reader", "takeName", "([JI)I"⟩, 12), (⟨"AgreeTold$Reader", "readSingle", "()V"⟩, 12), (⟨"AgreeTold$Reader", "emitWhen", "(IIII)V"⟩, 12), (⟨"AgreeTold$Reader", "readWish", "()V"⟩, 12), (⟨"AgreeTold$Reader", "readPrice", "()V"⟩, 12), (⟨"AgreeTold$Reader", "readExpression", "(II)V"⟩, 12), (⟨"AgreeTold$Reader", "readPart", "(I)V"⟩, 12), (⟨"AgreeTold$Worlds", "buildWords", "(I)V"⟩, 10)]
theorem lw_r2 : ∀ q ∈ lw_privs_2, lw_okq q := List.forall_mem_cons.mpr ⟨lw_p16, List.forall_mem_cons.mpr ⟨lw_p17, List.forall_mem_cons.mpr ⟨lw_p18, List.forall_mem_cons.mpr ⟨lw_p19, List.forall_mem_cons.mpr ⟨lw_p20, List.forall_mem_cons.mpr ⟨lw_p21, List.forall_mem_cons.mpr ⟨lw_p22, List.forall_mem_cons.mpr ⟨lw_p23, List.forall_mem_cons.mpr ⟨lw_p24, List.forall_mem_cons.mpr ⟨lw_p25, List.forall_mem_cons.mpr ⟨lw_p26, List.forall_mem_cons.mpr ⟨lw_p27, List.forall_mem_cons.mpr ⟨lw_p28, List.forall_mem_cons.mpr ⟨lw_p29, List.forall_mem_cons.mpr ⟨lw_p30, List.forall_mem_cons.mpr ⟨lw_p31, fun _ h => absurd h List.not_mem_nil⟩⟩⟩⟩⟩⟩⟩⟩⟩⟩⟩⟩⟩⟩⟩⟩
theorem lw_p32 : lw_okq (⟨"AgreeTold$Worlds", "fillBlocks", "(IIII)V"⟩, 10) := ⟨⟨by decide +kernel, by decide +kernel⟩, List.mem_of_getElem? (i := 268) (by decide +kernel), List.mem_of_getElem? (i := 787) (by decide +kernel), List.mem_of_getElem? (i := 788) (by decide +kernel)⟩
theorem lw_p33 : lw_okq (⟨"AgreeTold$Worlds", "solveCell", "([IIII)J"⟩, 10) := ⟨⟨by decide +kernel, by decide +kernel⟩, List.mem_of_getElem? (i := 268) (by decide +kernel), List.mem_of_getElem? (i := 803) (by decide +kernel), List.mem_of_getElem? (i := 804) (by decide +kernel)⟩
theorem lw_p34 : lw_okq (⟨"AgreeTold$Worlds", "clauseCell", "(II)J"⟩, 10) := ⟨⟨by decide +kernel, by decide +kernel⟩, List.mem_of_getElem? (i := 268) (by decide +kernel), List.mem_of_getElem? (i := 809) (by decide +kernel), List.mem_of_getElem? (i := 810) (by decide +kernel)⟩
theorem lw_p35 : lw_okq (⟨"AgreeTold$Worlds", "pairCell", "(II)J"⟩, 10) := ⟨⟨by decide +kernel, by decide +kernel⟩, List.mem_of_getElem? (i := 268) (by decide +kernel), List.mem_of_getElem? (i := 813) (by decide +kernel), List.mem_of_getElem? (i := 814) (by decide +kernel)⟩
theorem lw_p36 : lw_okq (⟨"AgreeTold$Worlds", "wordCell", "(IIII)J"⟩, 10) := ⟨⟨by decide +kernel, by decide +kernel⟩, List.mem_of_getElem? (i := 268) (by decide +kernel), List.mem_of_getElem? (i := 817) (by decide +kernel), List.mem_of_getElem? (i := 818) (by decide +kernel)⟩
theorem lw_p37 : lw_okq (⟨"AgreeTold$Worlds", "timesCell", "(III)J"⟩, 10) := ⟨⟨by decide +kernel, by decide +kernel⟩, List.mem_of_getElem? (i := 268) (by decide +kernel), List.mem_of_getElem? (i := 821) (by decide +kernel), List.mem_of_getElem? (i := 822) (by decide +kernel)⟩
theorem lw_p38 : lw_okq (⟨"AgreeTold$Worlds", "duringCell", "(III)J"⟩, 10) := ⟨⟨by decide +kernel, by decide +kernel⟩, List.mem_of_getElem? (i := 268) (by decide +kernel), List.mem_of_getElem? (i := 825) (by decide +kernel), List.mem_of_getElem? (i := 826) (by decide +kernel)⟩
theorem lw_p39 : lw_okq (⟨"AgreeTold", "forgetPast", "()V"⟩, 19) := ⟨⟨by decide +kernel, by decide +kernel⟩, List.mem_of_getElem? (i := 28) (by decide +kernel), List.mem_of_getElem? (i := 838) (by decide +kernel), List.mem_of_getElem? (i := 839) (by decide +kernel)⟩
theorem lw_p40 : lw_okq (⟨"AgreeTold", "remember", "()V"⟩, 19) := ⟨⟨by decide +kernel, by decide +kernel⟩, List.mem_of_getElem? (i := 28) (by decide +kernel), List.mem_of_getElem? (i := 862) (by decide +kernel), List.mem_of_getElem? (i := 863) (by decide +kernel)⟩
theorem lw_p41 : lw_okq (⟨"AgreeTold", "gatherAsked", "()Z"⟩, 19) := ⟨⟨by decide +kernel, by decide +kernel⟩, List.mem_of_getElem? (i := 28) (by decide +kernel), List.mem_of_getElem? (i := 1052) (by decide +kernel), List.mem_of_getElem? (i := 1053) (by decide +kernel)⟩
theorem lw_p42 : lw_okq (⟨"AgreeTold$Joint", "gatherCell", "(JI)V"⟩, 3) := ⟨⟨by decide +kernel, by decide +kernel⟩, List.mem_of_getElem? (i := 339) (by decide +kernel), List.mem_of_getElem? (i := 1069) (by decide +kernel), List.mem_of_getElem? (i := 1070) (by decide +kernel)⟩
theorem lw_p43 : lw_okq (⟨"AgreeTold$Joint", "spread", "(I)V"⟩, 3) := ⟨⟨by decide +kernel, by decide +kernel⟩, List.mem_of_getElem? (i := 339) (by decide +kernel), List.mem_of_getElem? (i := 1074) (by decide +kernel), List.mem_of_getElem? (i := 1075) (by decide +kernel)⟩
theorem lw_p44 : lw_okq (⟨"AgreeTold", "grandSayings", "()I"⟩, 19) := ⟨⟨by decide +kernel, by decide +kernel⟩, List.mem_of_getElem? (i := 28) (by decide +kernel), List.mem_of_getElem? (i := 1092) (by decide +kernel), List.mem_of_getElem? (i := 1093) (by decide +kernel)⟩
theorem lw_p45 : lw_okq (⟨"AgreeTold", "findMaking", "(I)I"⟩, 19) := ⟨⟨by decide +kernel, by decide +kernel⟩, List.mem_of_getElem? (i := 28) (by decide +kernel), List.mem_of_getElem? (i := 1105) (by decide +kernel), List.mem_of_getElem? (i := 1106) (by decide +kernel)⟩
theorem lw_p46 : lw_okq (⟨"AgreeTold", "gatherOpen", "()I"⟩, 19) := ⟨⟨by decide +kernel, by decide +kernel⟩, List.mem_of_getElem? (i := 28) (by decide +kernel), List.mem_of_getElem? (i := 1117) (by decide +kernel), List.mem_of_getElem? (i := 1118) (by decide +kernel)⟩
theorem lw_p47 : lw_okq (⟨"AgreeTold", "findPartner", "(III)I"⟩, 19) := ⟨⟨by decide +kernel, by decide +kernel⟩, List.mem_of_getElem? (i := 28) (by decide +kernel), List.mem_of_getElem? (i := 1122) (by decide +kernel), List.mem_of_getElem? (i := 1123) (by decide +kernel)⟩
def lw_privs_3 : List (MethodName × Nat) := [(⟨"AgreeTold$Worlds", "fillBlocks", "(IIII)V"⟩, 10), (⟨"AgreeTold$Worlds", "solveCell", "([IIII)J"⟩, 10), (⟨"AgreeTold$Worlds", "clauseCell", "(II)J"⟩, 10), (⟨"AgreeTold$Worlds", "pairCell", "(II)J"⟩, 10), (⟨"AgreeTold$Worlds", "wordCell", "(IIII)J"⟩, 10), (⟨"AgreeTold$Worlds", "timesCell", "(III)J"⟩, 10), (⟨"AgreeTold$Worlds", "duringCell", "(III)J"⟩, 10), (⟨"AgreeTold", "forgetPast", "()V"⟩, 19), (⟨"AgreeTold", "remember", "()V"⟩, 19), (⟨"AgreeTold", "gatherAsked", "()Z"⟩, 19), (⟨"AgreeTold$Joint", "gatherCell", "(JI)V"⟩, 3), (⟨"AgreeTold$Joint", "spread", "(I)V"⟩, 3), (⟨"AgreeTold", "grandSayings", "()I"⟩, 19), (⟨"AgreeTold", "findMaking", "(I)I"⟩, 19), (⟨"AgreeTold", "gatherOpen", "()I"⟩, 19), (⟨"AgreeTold", "findPartner", "(III)I"⟩, 19)]
theorem lw_r3 : ∀ q ∈ lw_privs_3, lw_okq q := List.forall_mem_cons.mpr ⟨lw_p32, List.forall_mem_cons.mpr ⟨lw_p33, List.forall_mem_cons.mpr ⟨lw_p34, List.forall_mem_cons.mpr ⟨lw_p35, List.forall_mem_cons.mpr ⟨lw_p36, List.forall_mem_cons.mpr ⟨lw_p37, List.forall_mem_cons.mpr ⟨lw_p38, List.forall_mem_cons.mpr ⟨lw_p39, List.forall_mem_cons.mpr ⟨lw_p40, List.forall_mem_cons.mpr ⟨lw_p41, List.forall_mem_cons.mpr ⟨lw_p42, List.forall_mem_cons.mpr ⟨lw_p43, List.forall_mem_cons.mpr ⟨lw_p44, List.forall_mem_cons.mpr ⟨lw_p45, List.forall_mem_cons.mpr ⟨lw_p46, List.forall_mem_cons.mpr ⟨lw_p47, fun _ h => absurd h List.not_mem_nil⟩⟩⟩⟩⟩⟩⟩⟩⟩⟩⟩⟩⟩⟩⟩⟩
theorem lw_p48 : lw_okq (⟨"AgreeTold", "vagueCode", "(III)I"⟩, 19) := ⟨⟨by decide +kernel, by decide +kernel⟩, List.mem_of_getElem? (i := 28) (by decide +kernel), List.mem_of_getElem? (i := 1134) (by decide +kernel), List.mem_of_getElem? (i := 1135) (by decide +kernel)⟩
theorem lw_p49 : lw_okq (⟨"AgreeTold", "leftWith", "(I)I"⟩, 19) := ⟨⟨by decide +kernel, by decide +kernel⟩, List.mem_of_getElem? (i := 28) (by decide +kernel), List.mem_of_getElem? (i := 1140) (by decide +kernel), List.mem_of_getElem? (i := 1141) (by decide +kernel)⟩
theorem lw_p50 : lw_okq (⟨"AgreeTold", "gatherWishes", "()V"⟩, 19) := ⟨⟨by decide +kernel, by decide +kernel⟩, List.mem_of_getElem? (i := 28) (by decide +kernel), List.mem_of_getElem? (i := 1170) (by decide +kernel), List.mem_of_getElem? (i := 1171) (by decide +kernel)⟩
theorem lw_p51 : lw_okq (⟨"AgreeTold", "coinsOf", "(I)I"⟩, 19) := ⟨⟨by decide +kernel, by decide +kernel⟩, List.mem_of_getElem? (i := 28) (by decide +kernel), List.mem_of_getElem? (i := 1174) (by decide +kernel), List.mem_of_getElem? (i := 1175) (by decide +kernel)⟩
theorem lw_p52 : lw_okq (⟨"AgreeTold", "winningWish", "(II)I"⟩, 19) := ⟨⟨by decide +kernel, by decide +kernel⟩, List.mem_of_getElem? (i := 28) (by decide +kernel), List.mem_of_getElem? (i := 1182) (by decide +kernel), List.mem_of_getElem? (i := 1183) (by decide +kernel)⟩
theorem lw_p53 : lw_okq (⟨"AgreeTold", "promisesOutside", "(I)I"⟩, 19) := ⟨⟨by decide +kernel, by decide +kernel⟩, List.mem_of_getElem? (i := 28) (by decide +kernel), List.mem_of_getElem? (i := 1190) (by decide +kernel), List.mem_of_getElem? (i := 1191) (by decide +kernel)⟩
theorem lw_p54 : lw_okq (⟨"AgreeTold", "runYear", "(II)I"⟩, 19) := ⟨⟨by decide +kernel, by decide +kernel⟩, List.mem_of_getElem? (i := 28) (by decide +kernel), List.mem_of_getElem? (i := 1255) (by decide +kernel), List.mem_of_getElem? (i := 1256) (by decide +kernel)⟩
theorem lw_p55 : lw_okq (⟨"AgreeTold", "yearCodes", "(IIII)I"⟩, 19) := ⟨⟨by decide +kernel, by decide +kernel⟩, List.mem_of_getElem? (i := 28) (by decide +kernel), List.mem_of_getElem? (i := 1260) (by decide +kernel), List.mem_of_getElem? (i := 1261) (by decide +kernel)⟩
theorem lw_p56 : lw_okq (⟨"java/lang/Throwable", "fillInStackTrace", "(I)Ljava/lang/Throwable;"⟩, 6) := ⟨⟨by decide +kernel, by decide +kernel⟩, List.mem_of_getElem? (i := 1316) (by decide +kernel), List.mem_of_getElem? (i := 1314) (by decide +kernel), List.mem_of_getElem? (i := 1315) (by decide +kernel)⟩
theorem lw_p57 : lw_okq (⟨"AgreeToldModel", "lay", "(J)V"⟩, 45) := ⟨⟨by decide +kernel, by decide +kernel⟩, List.mem_of_getElem? (i := 1355) (by decide +kernel), List.mem_of_getElem? (i := 1353) (by decide +kernel), List.mem_of_getElem? (i := 1354) (by decide +kernel)⟩
theorem lw_p58 : lw_okq (⟨"AgreeToldModel", "standsAsAlways", "(I)V"⟩, 45) := ⟨⟨by decide +kernel, by decide +kernel⟩, List.mem_of_getElem? (i := 1355) (by decide +kernel), List.mem_of_getElem? (i := 1396) (by decide +kernel), List.mem_of_getElem? (i := 1397) (by decide +kernel)⟩
theorem lw_p59 : lw_okq (⟨"AgreeToldModel", "begins", "()V"⟩, 45) := ⟨⟨by decide +kernel, by decide +kernel⟩, List.mem_of_getElem? (i := 1355) (by decide +kernel), List.mem_of_getElem? (i := 1400) (by decide +kernel), List.mem_of_getElem? (i := 1401) (by decide +kernel)⟩
theorem lw_p60 : lw_okq (⟨"AgreeToldModel", "findsFutures", "()V"⟩, 45) := ⟨⟨by decide +kernel, by decide +kernel⟩, List.mem_of_getElem? (i := 1355) (by decide +kernel), List.mem_of_getElem? (i := 1404) (by decide +kernel), List.mem_of_getElem? (i := 1405) (by decide +kernel)⟩
theorem lw_p61 : lw_okq (⟨"AgreeToldModel", "events", "()I"⟩, 45) := ⟨⟨by decide +kernel, by decide +kernel⟩, List.mem_of_getElem? (i := 1355) (by decide +kernel), List.mem_of_getElem? (i := 1408) (by decide +kernel), List.mem_of_getElem? (i := 1409) (by decide +kernel)⟩
theorem lw_p62 : lw_okq (⟨"AgreeToldModel", "days", "()I"⟩, 45) := ⟨⟨by decide +kernel, by decide +kernel⟩, List.mem_of_getElem? (i := 1355) (by decide +kernel), List.mem_of_getElem? (i := 1412) (by decide +kernel), List.mem_of_getElem? (i := 1413) (by decide +kernel)⟩
theorem lw_p63 : lw_okq (⟨"AgreeToldModel", "people", "()I"⟩, 45) := ⟨⟨by decide +kernel, by decide +kernel⟩, List.mem_of_getElem? (i := 1355) (by decide +kernel), List.mem_of_getElem? (i := 1416) (by decide +kernel), List.mem_of_getElem? (i := 1417) (by decide +kernel)⟩
def lw_privs_4 : List (MethodName × Nat) := [(⟨"AgreeTold", "vagueCode", "(III)I"⟩, 19), (⟨"AgreeTold", "leftWith", "(I)I"⟩, 19), (⟨"AgreeTold", "gatherWishes", "()V"⟩, 19), (⟨"AgreeTold", "coinsOf", "(I)I"⟩, 19), (⟨"AgreeTold", "winningWish", "(II)I"⟩, 19), (⟨"AgreeTold", "promisesOutside", "(I)I"⟩, 19), (⟨"AgreeTold", "runYear", "(II)I"⟩, 19), (⟨"AgreeTold", "yearCodes", "(IIII)I"⟩, 19), (⟨"java/lang/Throwable", "fillInStackTrace", "(I)Ljava/lang/Throwable;"⟩, 6), (⟨"AgreeToldModel", "lay", "(J)V"⟩, 45), (⟨"AgreeToldModel", "standsAsAlways", "(I)V"⟩, 45), (⟨"AgreeToldModel", "begins", "()V"⟩, 45), (⟨"AgreeToldModel", "findsFutures", "()V"⟩, 45), (⟨"AgreeToldModel", "events", "()I"⟩, 45), (⟨"AgreeToldModel", "days", "()I"⟩, 45), (⟨"AgreeToldModel", "people", "()I"⟩, 45)]
theorem lw_r4 : ∀ q ∈ lw_privs_4, lw_okq q := List.forall_mem_cons.mpr ⟨lw_p48, List.forall_mem_cons.mpr ⟨lw_p49, List.forall_mem_cons.mpr ⟨lw_p50, List.forall_mem_cons.mpr ⟨lw_p51, List.forall_mem_cons.mpr ⟨lw_p52, List.forall_mem_cons.mpr ⟨lw_p53, List.forall_mem_cons.mpr ⟨lw_p54, List.forall_mem_cons.mpr ⟨lw_p55, List.forall_mem_cons.mpr ⟨lw_p56, List.forall_mem_cons.mpr ⟨lw_p57, List.forall_mem_cons.mpr ⟨lw_p58, List.forall_mem_cons.mpr ⟨lw_p59, List.forall_mem_cons.mpr ⟨lw_p60, List.forall_mem_cons.mpr ⟨lw_p61, List.forall_mem_cons.mpr ⟨lw_p62, List.forall_mem_cons.mpr ⟨lw_p63, fun _ h => absurd h List.not_mem_nil⟩⟩⟩⟩⟩⟩⟩⟩⟩⟩⟩⟩⟩⟩⟩⟩
theorem lw_p64 : lw_okq (⟨"AgreeToldModel", "clears", "(I)V"⟩, 45) := ⟨⟨by decide +kernel, by decide +kernel⟩, List.mem_of_getElem? (i := 1355) (by decide +kernel), List.mem_of_getElem? (i := 1424) (by decide +kernel), List.mem_of_getElem? (i := 1425) (by decide +kernel)⟩
theorem lw_p65 : lw_okq (⟨"AgreeToldModel", "laysFuture", "(I)V"⟩, 45) := ⟨⟨by decide +kernel, by decide +kernel⟩, List.mem_of_getElem? (i := 1355) (by decide +kernel), List.mem_of_getElem? (i := 1428) (by decide +kernel), List.mem_of_getElem? (i := 1429) (by decide +kernel)⟩
theorem lw_p66 : lw_okq (⟨"AgreeToldModel", "sets", "(II)V"⟩, 45) := ⟨⟨by decide +kernel, by decide +kernel⟩, List.mem_of_getElem? (i := 1355) (by decide +kernel), List.mem_of_getElem? (i := 1432) (by decide +kernel), List.mem_of_getElem? (i := 1433) (by decide +kernel)⟩
theorem lw_p67 : lw_okq (⟨"AgreeToldModel", "worthAt", "(I)I"⟩, 45) := ⟨⟨by decide +kernel, by decide +kernel⟩, List.mem_of_getElem? (i := 1355) (by decide +kernel), List.mem_of_getElem? (i := 1436) (by decide +kernel), List.mem_of_getElem? (i := 1437) (by decide +kernel)⟩
theorem lw_p68 : lw_okq (⟨"AgreeToldModel", "holdsClause", "(I)Z"⟩, 45) := ⟨⟨by decide +kernel, by decide +kernel⟩, List.mem_of_getElem? (i := 1355) (by decide +kernel), List.mem_of_getElem? (i := 1440) (by decide +kernel), List.mem_of_getElem? (i := 1441) (by decide +kernel)⟩
theorem lw_p69 : lw_okq (⟨"AgreeToldModel", "firstDay", "(II)I"⟩, 45) := ⟨⟨by decide +kernel, by decide +kernel⟩, List.mem_of_getElem? (i := 1355) (by decide +kernel), List.mem_of_getElem? (i := 1444) (by decide +kernel), List.mem_of_getElem? (i := 1445) (by decide +kernel)⟩
theorem lw_p70 : lw_okq (⟨"AgreeToldModel", "hasOn", "(III)Z"⟩, 45) := ⟨⟨by decide +kernel, by decide +kernel⟩, List.mem_of_getElem? (i := 1355) (by decide +kernel), List.mem_of_getElem? (i := 1448) (by decide +kernel), List.mem_of_getElem? (i := 1449) (by decide +kernel)⟩
theorem lw_p71 : lw_okq (⟨"AgreeToldModel", "holdsOf", "(IIII)Z"⟩, 45) := ⟨⟨by decide +kernel, by decide +kernel⟩, List.mem_of_getElem? (i := 1355) (by decide +kernel), List.mem_of_getElem? (i := 1452) (by decide +kernel), List.mem_of_getElem? (i := 1453) (by decide +kernel)⟩
theorem lw_p72 : lw_okq (⟨"AgreeToldModel", "kindOf", "(I)I"⟩, 45) := ⟨⟨by decide +kernel, by decide +kernel⟩, List.mem_of_getElem? (i := 1355) (by decide +kernel), List.mem_of_getElem? (i := 1459) (by decide +kernel), List.mem_of_getElem? (i := 1460) (by decide +kernel)⟩
theorem lw_p73 : lw_okq (⟨"AgreeToldModel", "laysFormula", "(III)V"⟩, 45) := ⟨⟨by decide +kernel, by decide +kernel⟩, List.mem_of_getElem? (i := 1355) (by decide +kernel), List.mem_of_getElem? (i := 1463) (by decide +kernel), List.mem_of_getElem? (i := 1464) (by decide +kernel)⟩
theorem lw_p74 : lw_okq (⟨"AgreeToldModel", "isNaming", "(I)Z"⟩, 45) := ⟨⟨by decide +kernel, by decide +kernel⟩, List.mem_of_getElem? (i := 1355) (by decide +kernel), List.mem_of_getElem? (i := 1467) (by decide +kernel), List.mem_of_getElem? (i := 1468) (by decide +kernel)⟩
theorem lw_p75 : lw_okq (⟨"AgreeToldModel", "cutAll", "()V"⟩, 45) := ⟨⟨by decide +kernel, by decide +kernel⟩, List.mem_of_getElem? (i := 1355) (by decide +kernel), List.mem_of_getElem? (i := 1611) (by decide +kernel), List.mem_of_getElem? (i := 1612) (by decide +kernel)⟩
theorem lw_p76 : lw_okq (⟨"AgreeToldModel", "takeWord", "(I)V"⟩, 45) := ⟨⟨by decide +kernel, by decide +kernel⟩, List.mem_of_getElem? (i := 1355) (by decide +kernel), List.mem_of_getElem? (i := 1630) (by decide +kernel), List.mem_of_getElem? (i := 1631) (by decide +kernel)⟩
theorem lw_p77 : lw_okq (⟨"AgreeToldModel", "hasWord", "(I)Z"⟩, 45) := ⟨⟨by decide +kernel, by decide +kernel⟩, List.mem_of_getElem? (i := 1355) (by decide +kernel), List.mem_of_getElem? (i := 1634) (by decide +kernel), List.mem_of_getElem? (i := 1635) (by decide +kernel)⟩
theorem lw_p78 : lw_okq (⟨"AgreeToldModel", "isWord", "(I)Z"⟩, 45) := ⟨⟨by decide +kernel, by decide +kernel⟩, List.mem_of_getElem? (i := 1355) (by decide +kernel), List.mem_of_getElem? (i := 1638) (by decide +kernel), List.mem_of_getElem? (i := 1639) (by decide +kernel)⟩
theorem lw_p79 : lw_okq (⟨"AgreeToldModel", "wrong", "(I)V"⟩, 45) := ⟨⟨by decide +kernel, by decide +kernel⟩, List.mem_of_getElem? (i := 1355) (by decide +kernel), List.mem_of_getElem? (i := 1642) (by decide +kernel), List.mem_of_getElem? (i := 1643) (by decide +kernel)⟩
def lw_privs_5 : List (MethodName × Nat) := [(⟨"AgreeToldModel", "clears", "(I)V"⟩, 45), (⟨"AgreeToldModel", "laysFuture", "(I)V"⟩, 45), (⟨"AgreeToldModel", "sets", "(II)V"⟩, 45), (⟨"AgreeToldModel", "worthAt", "(I)I"⟩, 45), (⟨"AgreeToldModel", "holdsClause", "(I)Z"⟩, 45), (⟨"AgreeToldModel", "firstDay", "(II)I"⟩, 45), (⟨"AgreeToldModel", "hasOn", "(III)Z"⟩, 45), (⟨"AgreeToldModel", "holdsOf", "(IIII)Z"⟩, 45), (⟨"AgreeToldModel", "kindOf", "(I)I"⟩, 45), (⟨"AgreeToldModel", "laysFormula", "(III)V"⟩, 45), (⟨"AgreeToldModel", "isNaming", "(I)Z"⟩, 45), (⟨"AgreeToldModel", "cutAll", "()V"⟩, 45), (⟨"AgreeToldModel", "takeWord", "(I)V"⟩, 45), (⟨"AgreeToldModel", "hasWord", "(I)Z"⟩, 45), (⟨"AgreeToldModel", "isWord", "(I)Z"⟩, 45), (⟨"AgreeToldModel", "wrong", "(I)V"⟩, 45)]
theorem lw_r5 : ∀ q ∈ lw_privs_5, lw_okq q := List.forall_mem_cons.mpr ⟨lw_p64, List.forall_mem_cons.mpr ⟨lw_p65, List.forall_mem_cons.mpr ⟨lw_p66, List.forall_mem_cons.mpr ⟨lw_p67, List.forall_mem_cons.mpr ⟨lw_p68, List.forall_mem_cons.mpr ⟨lw_p69, List.forall_mem_cons.mpr ⟨lw_p70, List.forall_mem_cons.mpr ⟨lw_p71, List.forall_mem_cons.mpr ⟨lw_p72, List.forall_mem_cons.mpr ⟨lw_p73, List.forall_mem_cons.mpr ⟨lw_p74, List.forall_mem_cons.mpr ⟨lw_p75, List.forall_mem_cons.mpr ⟨lw_p76, List.forall_mem_cons.mpr ⟨lw_p77, List.forall_mem_cons.mpr ⟨lw_p78, List.forall_mem_cons.mpr ⟨lw_p79, fun _ h => absurd h List.not_mem_nil⟩⟩⟩⟩⟩⟩⟩⟩⟩⟩⟩⟩⟩⟩⟩⟩
theorem lw_p80 : lw_okq (⟨"AgreeToldModel", "takeNumber", "(II)I"⟩, 45) := ⟨⟨by decide +kernel, by decide +kernel⟩, List.mem_of_getElem? (i := 1355) (by decide +kernel), List.mem_of_getElem? (i := 1646) (by decide +kernel), List.mem_of_getElem? (i := 1647) (by decide +kernel)⟩
theorem lw_p81 : lw_okq (⟨"AgreeToldModel", "takeSign", "(I)V"⟩, 45) := ⟨⟨by decide +kernel, by decide +kernel⟩, List.mem_of_getElem? (i := 1355) (by decide +kernel), List.mem_of_getElem? (i := 1650) (by decide +kernel), List.mem_of_getElem? (i := 1651) (by decide +kernel)⟩
theorem lw_p82 : lw_okq (⟨"AgreeToldModel", "isSign", "(I)Z"⟩, 45) := ⟨⟨by decide +kernel, by decide +kernel⟩, List.mem_of_getElem? (i := 1355) (by decide +kernel), List.mem_of_getElem? (i := 1654) (by decide +kernel), List.mem_of_getElem? (i := 1655) (by decide +kernel)⟩
theorem lw_p83 : lw_okq (⟨"AgreeToldModel", "readLine", "()V"⟩, 45) := ⟨⟨by decide +kernel, by decide +kernel⟩, List.mem_of_getElem? (i := 1355) (by decide +kernel), List.mem_of_getElem? (i := 1658) (by decide +kernel), List.mem_of_getElem? (i := 1659) (by decide +kernel)⟩
theorem lw_p84 : lw_okq (⟨"AgreeToldModel", "readPerson", "()V"⟩, 45) := ⟨⟨by decide +kernel, by decide +kernel⟩, List.mem_of_getElem? (i := 1355) (by decide +kernel), List.mem_of_getElem? (i := 1662) (by decide +kernel), List.mem_of_getElem? (i := 1663) (by decide +kernel)⟩
theorem lw_p85 : lw_okq (⟨"AgreeToldModel", "readName", "(I)V"⟩, 45) := ⟨⟨by decide +kernel, by decide +kernel⟩, List.mem_of_getElem? (i := 1355) (by decide +kernel), List.mem_of_getElem? (i := 1666) (by decide +kernel), List.mem_of_getElem? (i := 1667) (by decide +kernel)⟩
theorem lw_p86 : lw_okq (⟨"AgreeToldModel", "isName", "()Z"⟩, 45) := ⟨⟨by decide +kernel, by decide +kernel⟩, List.mem_of_getElem? (i := 1355) (by decide +kernel), List.mem_of_getElem? (i := 1670) (by decide +kernel), List.mem_of_getElem? (i := 1671) (by decide +kernel)⟩
theorem lw_p87 : lw_okq (⟨"AgreeToldModel", "wordHere", "(II)I"⟩, 45) := ⟨⟨by decide +kernel, by decide +kernel⟩, List.mem_of_getElem? (i := 1355) (by decide +kernel), List.mem_of_getElem? (i := 1674) (by decide +kernel), List.mem_of_getElem? (i := 1675) (by decide +kernel)⟩
theorem lw_p88 : lw_okq (⟨"AgreeToldModel", "find", "()I"⟩, 45) := ⟨⟨by decide +kernel, by decide +kernel⟩, List.mem_of_getElem? (i := 1355) (by decide +kernel), List.mem_of_getElem? (i := 1678) (by decide +kernel), List.mem_of_getElem? (i := 1679) (by decide +kernel)⟩
theorem lw_p89 : lw_okq (⟨"AgreeToldModel", "takeAfter", "(III)I"⟩, 45) := ⟨⟨by decide +kernel, by decide +kernel⟩, List.mem_of_getElem? (i := 1355) (by decide +kernel), List.mem_of_getElem? (i := 1682) (by decide +kernel), List.mem_of_getElem? (i := 1683) (by decide +kernel)⟩
theorem lw_p90 : lw_okq (⟨"AgreeToldModel", "readEvent", "()V"⟩, 45) := ⟨⟨by decide +kernel, by decide +kernel⟩, List.mem_of_getElem? (i := 1355) (by decide +kernel), List.mem_of_getElem? (i := 1686) (by decide +kernel), List.mem_of_getElem? (i := 1687) (by decide +kernel)⟩
theorem lw_p91 : lw_okq (⟨"AgreeToldModel", "readProphet", "()V"⟩, 45) := ⟨⟨by decide +kernel, by decide +kernel⟩, List.mem_of_getElem? (i := 1355) (by decide +kernel), List.mem_of_getElem? (i := 1690) (by decide +kernel), List.mem_of_getElem? (i := 1691) (by decide +kernel)⟩
theorem lw_p92 : lw_okq (⟨"AgreeToldModel", "readLaw", "()V"⟩, 45) := ⟨⟨by decide +kernel, by decide +kernel⟩, List.mem_of_getElem? (i := 1355) (by decide +kernel), List.mem_of_getElem? (i := 1694) (by decide +kernel), List.mem_of_getElem? (i := 1695) (by decide +kernel)⟩
theorem lw_p93 : lw_okq (⟨"AgreeToldModel", "readFormula", "(I)V"⟩, 45) := ⟨⟨by decide +kernel, by decide +kernel⟩, List.mem_of_getElem? (i := 1355) (by decide +kernel), List.mem_of_getElem? (i := 1698) (by decide +kernel), List.mem_of_getElem? (i := 1699) (by decide +kernel)⟩
theorem lw_p94 : lw_okq (⟨"AgreeToldModel", "readTerm", "(I)V"⟩, 45) := ⟨⟨by decide +kernel, by decide +kernel⟩, List.mem_of_getElem? (i := 1355) (by decide +kernel), List.mem_of_getElem? (i := 1702) (by decide +kernel), List.mem_of_getElem? (i := 1703) (by decide +kernel)⟩
theorem lw_p95 : lw_okq (⟨"AgreeToldModel", "readItem", "(I)V"⟩, 45) := ⟨⟨by decide +kernel, by decide +kernel⟩, List.mem_of_getElem? (i := 1355) (by decide +kernel), List.mem_of_getElem? (i := 1706) (by decide +kernel), List.mem_of_getElem? (i := 1707) (by decide +kernel)⟩
def lw_privs_6 : List (MethodName × Nat) := [(⟨"AgreeToldModel", "takeNumber", "(II)I"⟩, 45), (⟨"AgreeToldModel", "takeSign", "(I)V"⟩, 45), (⟨"AgreeToldModel", "isSign", "(I)Z"⟩, 45), (⟨"AgreeToldModel", "readLine", "()V"⟩, 45), (⟨"AgreeToldModel", "readPerson", "()V"⟩, 45), (⟨"AgreeToldModel", "readName", "(I)V"⟩, 45), (⟨"AgreeToldModel", "isName", "()Z"⟩, 45), (⟨"AgreeToldModel", "wordHere", "(II)I"⟩, 45), (⟨"AgreeToldModel", "find", "()I"⟩, 45), (⟨"AgreeToldModel", "takeAfter", "(III)I"⟩, 45), (⟨"AgreeToldModel", "readEvent", "()V"⟩, 45), (⟨"AgreeToldModel", "readProphet", "()V"⟩, 45), (⟨"AgreeToldModel", "readLaw", "()V"⟩, 45), (⟨"AgreeToldModel", "readFormula", "(I)V"⟩, 45), (⟨"AgreeToldModel", "readTerm", "(I)V"⟩, 45), (⟨"AgreeToldModel", "readItem", "(I)V"⟩, 45)]
theorem lw_r6 : ∀ q ∈ lw_privs_6, lw_okq q := List.forall_mem_cons.mpr ⟨lw_p80, List.forall_mem_cons.mpr ⟨lw_p81, List.forall_mem_cons.mpr ⟨lw_p82, List.forall_mem_cons.mpr ⟨lw_p83, List.forall_mem_cons.mpr ⟨lw_p84, List.forall_mem_cons.mpr ⟨lw_p85, List.forall_mem_cons.mpr ⟨lw_p86, List.forall_mem_cons.mpr ⟨lw_p87, List.forall_mem_cons.mpr ⟨lw_p88, List.forall_mem_cons.mpr ⟨lw_p89, List.forall_mem_cons.mpr ⟨lw_p90, List.forall_mem_cons.mpr ⟨lw_p91, List.forall_mem_cons.mpr ⟨lw_p92, List.forall_mem_cons.mpr ⟨lw_p93, List.forall_mem_cons.mpr ⟨lw_p94, List.forall_mem_cons.mpr ⟨lw_p95, fun _ h => absurd h List.not_mem_nil⟩⟩⟩⟩⟩⟩⟩⟩⟩⟩⟩⟩⟩⟩⟩⟩
theorem lw_p96 : lw_okq (⟨"AgreeToldModel", "emit", "(II)V"⟩, 45) := ⟨⟨by decide +kernel, by decide +kernel⟩, List.mem_of_getElem? (i := 1355) (by decide +kernel), List.mem_of_getElem? (i := 1713) (by decide +kernel), List.mem_of_getElem? (i := 1714) (by decide +kernel)⟩
theorem lw_p97 : lw_okq (⟨"AgreeToldModel", "hasSign", "(I)Z"⟩, 45) := ⟨⟨by decide +kernel, by decide +kernel⟩, List.mem_of_getElem? (i := 1355) (by decide +kernel), List.mem_of_getElem? (i := 1717) (by decide +kernel), List.mem_of_getElem? (i := 1718) (by decide +kernel)⟩
theorem lw_p98 : lw_okq (⟨"AgreeToldModel", "readClause", "()I"⟩, 45) := ⟨⟨by decide +kernel, by decide +kernel⟩, List.mem_of_getElem? (i := 1355) (by decide +kernel), List.mem_of_getElem? (i := 1721) (by decide +kernel), List.mem_of_getElem? (i := 1722) (by decide +kernel)⟩
theorem lw_p99 : lw_okq (⟨"AgreeToldModel", "takeTold", "(II)I"⟩, 45) := ⟨⟨by decide +kernel, by decide +kernel⟩, List.mem_of_getElem? (i := 1355) (by decide +kernel), List.mem_of_getElem? (i := 1725) (by decide +kernel), List.mem_of_getElem? (i := 1726) (by decide +kernel)⟩
theorem lw_p100 : lw_okq (⟨"AgreeToldModel", "readWish", "()V"⟩, 45) := ⟨⟨by decide +kernel, by decide +kernel⟩, List.mem_of_getElem? (i := 1355) (by decide +kernel), List.mem_of_getElem? (i := 1732) (by decide +kernel), List.mem_of_getElem? (i := 1733) (by decide +kernel)⟩
theorem lw_p101 : lw_okq (⟨"AgreeToldModel", "readPrice", "()V"⟩, 45) := ⟨⟨by decide +kernel, by decide +kernel⟩, List.mem_of_getElem? (i := 1355) (by decide +kernel), List.mem_of_getElem? (i := 1736) (by decide +kernel), List.mem_of_getElem? (i := 1737) (by decide +kernel)⟩
theorem lw_p102 : lw_okq (⟨"AgreeToldModel", "ors", "(I)V"⟩, 45) := ⟨⟨by decide +kernel, by decide +kernel⟩, List.mem_of_getElem? (i := 1355) (by decide +kernel), List.mem_of_getElem? (i := 1740) (by decide +kernel), List.mem_of_getElem? (i := 1741) (by decide +kernel)⟩
theorem lw_p103 : lw_okq (⟨"AgreeToldModel", "test", "(I)V"⟩, 45) := ⟨⟨by decide +kernel, by decide +kernel⟩, List.mem_of_getElem? (i := 1355) (by decide +kernel), List.mem_of_getElem? (i := 1744) (by decide +kernel), List.mem_of_getElem? (i := 1745) (by decide +kernel)⟩
theorem lw_p104 : lw_okq (⟨"AgreeToldModel", "sums", "(I)V"⟩, 45) := ⟨⟨by decide +kernel, by decide +kernel⟩, List.mem_of_getElem? (i := 1355) (by decide +kernel), List.mem_of_getElem? (i := 1748) (by decide +kernel), List.mem_of_getElem? (i := 1749) (by decide +kernel)⟩
theorem lw_p105 : lw_okq (⟨"AgreeToldModel", "products", "(I)V"⟩, 45) := ⟨⟨by decide +kernel, by decide +kernel⟩, List.mem_of_getElem? (i := 1355) (by decide +kernel), List.mem_of_getElem? (i := 1752) (by decide +kernel), List.mem_of_getElem? (i := 1753) (by decide +kernel)⟩
theorem lw_p106 : lw_okq (⟨"AgreeToldModel", "takePart", "(I)V"⟩, 45) := ⟨⟨by decide +kernel, by decide +kernel⟩, List.mem_of_getElem? (i := 1355) (by decide +kernel), List.mem_of_getElem? (i := 1756) (by decide +kernel), List.mem_of_getElem? (i := 1757) (by decide +kernel)⟩
theorem lw_p107 : lw_okq (⟨"AgreeToldModel", "readAll", "(Z)I"⟩, 45) := ⟨⟨by decide +kernel, by decide +kernel⟩, List.mem_of_getElem? (i := 1355) (by decide +kernel), List.mem_of_getElem? (i := 1764) (by decide +kernel), List.mem_of_getElem? (i := 1765) (by decide +kernel)⟩
theorem lw_p108 : lw_okq (⟨"AgreeToldModel", "findLeft", "()I"⟩, 45) := ⟨⟨by decide +kernel, by decide +kernel⟩, List.mem_of_getElem? (i := 1355) (by decide +kernel), List.mem_of_getElem? (i := 1768) (by decide +kernel), List.mem_of_getElem? (i := 1769) (by decide +kernel)⟩
theorem lw_p109 : lw_okq (⟨"AgreeToldModel", "everySaying", "()I"⟩, 45) := ⟨⟨by decide +kernel, by decide +kernel⟩, List.mem_of_getElem? (i := 1355) (by decide +kernel), List.mem_of_getElem? (i := 1772) (by decide +kernel), List.mem_of_getElem? (i := 1773) (by decide +kernel)⟩
theorem lw_p110 : lw_okq (⟨"AgreeToldModel", "lays", "(IIZ)V"⟩, 45) := ⟨⟨by decide +kernel, by decide +kernel⟩, List.mem_of_getElem? (i := 1355) (by decide +kernel), List.mem_of_getElem? (i := 1776) (by decide +kernel), List.mem_of_getElem? (i := 1777) (by decide +kernel)⟩
theorem lw_p111 : lw_okq (⟨"AgreeToldModel", "copiesRow", "(II)V"⟩, 45) := ⟨⟨by decide +kernel, by decide +kernel⟩, List.mem_of_getElem? (i := 1355) (by decide +kernel), List.mem_of_getElem? (i := 1780) (by decide +kernel), List.mem_of_getElem? (i := 1781) (by decide +kernel)⟩
def lw_privs_7 : List (MethodName × Nat) := [(⟨"AgreeToldModel", "emit", "(II)V"⟩, 45), (⟨"AgreeToldModel", "hasSign", "(I)Z"⟩, 45), (⟨"AgreeToldModel", "readClause", "()I"⟩, 45), (⟨"AgreeToldModel", "takeTold", "(II)I"⟩, 45), (⟨"AgreeToldModel", "readWish", "()V"⟩, 45), (⟨"AgreeToldModel", "readPrice", "()V"⟩, 45), (⟨"AgreeToldModel", "ors", "(I)V"⟩, 45), (⟨"AgreeToldModel", "test", "(I)V"⟩, 45), (⟨"AgreeToldModel", "sums", "(I)V"⟩, 45), (⟨"AgreeToldModel", "products", "(I)V"⟩, 45), (⟨"AgreeToldModel", "takePart", "(I)V"⟩, 45), (⟨"AgreeToldModel", "readAll", "(Z)I"⟩, 45), (⟨"AgreeToldModel", "findLeft", "()I"⟩, 45), (⟨"AgreeToldModel", "everySaying", "()I"⟩, 45), (⟨"AgreeToldModel", "lays", "(IIZ)V"⟩, 45), (⟨"AgreeToldModel", "copiesRow", "(II)V"⟩, 45)]
theorem lw_r7 : ∀ q ∈ lw_privs_7, lw_okq q := List.forall_mem_cons.mpr ⟨lw_p96, List.forall_mem_cons.mpr ⟨lw_p97, List.forall_mem_cons.mpr ⟨lw_p98, List.forall_mem_cons.mpr ⟨lw_p99, List.forall_mem_cons.mpr ⟨lw_p100, List.forall_mem_cons.mpr ⟨lw_p101, List.forall_mem_cons.mpr ⟨lw_p102, List.forall_mem_cons.mpr ⟨lw_p103, List.forall_mem_cons.mpr ⟨lw_p104, List.forall_mem_cons.mpr ⟨lw_p105, List.forall_mem_cons.mpr ⟨lw_p106, List.forall_mem_cons.mpr ⟨lw_p107, List.forall_mem_cons.mpr ⟨lw_p108, List.forall_mem_cons.mpr ⟨lw_p109, List.forall_mem_cons.mpr ⟨lw_p110, List.forall_mem_cons.mpr ⟨lw_p111, fun _ h => absurd h List.not_mem_nil⟩⟩⟩⟩⟩⟩⟩⟩⟩⟩⟩⟩⟩⟩⟩⟩
theorem lw_p112 : lw_okq (⟨"AgreeToldModel", "meets", "(II)V"⟩, 45) := ⟨⟨by decide +kernel, by decide +kernel⟩, List.mem_of_getElem? (i := 1355) (by decide +kernel), List.mem_of_getElem? (i := 1784) (by decide +kernel), List.mem_of_getElem? (i := 1785) (by decide +kernel)⟩
theorem lw_p113 : lw_okq (⟨"AgreeToldModel", "many", "(I)I"⟩, 45) := ⟨⟨by decide +kernel, by decide +kernel⟩, List.mem_of_getElem? (i := 1355) (by decide +kernel), List.mem_of_getElem? (i := 1791) (by decide +kernel), List.mem_of_getElem? (i := 1792) (by decide +kernel)⟩
theorem lw_p114 : lw_okq (⟨"AgreeToldModel", "manyBoth", "(II)I"⟩, 45) := ⟨⟨by decide +kernel, by decide +kernel⟩, List.mem_of_getElem? (i := 1355) (by decide +kernel), List.mem_of_getElem? (i := 1802) (by decide +kernel), List.mem_of_getElem? (i := 1803) (by decide +kernel)⟩
theorem lw_p115 : lw_okq (⟨"AgreeToldModel", "keeps", "()V"⟩, 45) := ⟨⟨by decide +kernel, by decide +kernel⟩, List.mem_of_getElem? (i := 1355) (by decide +kernel), List.mem_of_getElem? (i := 1806) (by decide +kernel), List.mem_of_getElem? (i := 1807) (by decide +kernel)⟩
theorem lw_p116 : lw_okq (⟨"AgreeToldModel", "copies", "(II)V"⟩, 45) := ⟨⟨by decide +kernel, by decide +kernel⟩, List.mem_of_getElem? (i := 1355) (by decide +kernel), List.mem_of_getElem? (i := 1810) (by decide +kernel), List.mem_of_getElem? (i := 1811) (by decide +kernel)⟩
theorem lw_p117 : lw_okq (⟨"AgreeToldModel", "isPerson", "(I)Z"⟩, 45) := ⟨⟨by decide +kernel, by decide +kernel⟩, List.mem_of_getElem? (i := 1355) (by decide +kernel), List.mem_of_getElem? (i := 1823) (by decide +kernel), List.mem_of_getElem? (i := 1824) (by decide +kernel)⟩
theorem lw_p118 : lw_okq (⟨"AgreeToldModel", "isProphet", "(I)Z"⟩, 45) := ⟨⟨by decide +kernel, by decide +kernel⟩, List.mem_of_getElem? (i := 1355) (by decide +kernel), List.mem_of_getElem? (i := 1831) (by decide +kernel), List.mem_of_getElem? (i := 1832) (by decide +kernel)⟩
theorem lw_p119 : lw_okq (⟨"AgreeToldModel", "isSaying", "(I)Z"⟩, 45) := ⟨⟨by decide +kernel, by decide +kernel⟩, List.mem_of_getElem? (i := 1355) (by decide +kernel), List.mem_of_getElem? (i := 1843) (by decide +kernel), List.mem_of_getElem? (i := 1844) (by decide +kernel)⟩
theorem lw_p120 : lw_okq (⟨"AgreeToldModel", "isGrand", "(I)Z"⟩, 45) := ⟨⟨by decide +kernel, by decide +kernel⟩, List.mem_of_getElem? (i := 1355) (by decide +kernel), List.mem_of_getElem? (i := 1851) (by decide +kernel), List.mem_of_getElem? (i := 1852) (by decide +kernel)⟩
theorem lw_p121 : lw_okq (⟨"AgreeToldModel", "isEvent", "(I)Z"⟩, 45) := ⟨⟨by decide +kernel, by decide +kernel⟩, List.mem_of_getElem? (i := 1355) (by decide +kernel), List.mem_of_getElem? (i := 1859) (by decide +kernel), List.mem_of_getElem? (i := 1860) (by decide +kernel)⟩
theorem lw_p122 : lw_okq (⟨"AgreeToldModel", "wordAt", "(III)I"⟩, 45) := ⟨⟨by decide +kernel, by decide +kernel⟩, List.mem_of_getElem? (i := 1355) (by decide +kernel), List.mem_of_getElem? (i := 1863) (by decide +kernel), List.mem_of_getElem? (i := 1864) (by decide +kernel)⟩
theorem lw_p123 : lw_okq (⟨"AgreeToldModel", "isAny", "(II)Z"⟩, 45) := ⟨⟨by decide +kernel, by decide +kernel⟩, List.mem_of_getElem? (i := 1355) (by decide +kernel), List.mem_of_getElem? (i := 1867) (by decide +kernel), List.mem_of_getElem? (i := 1868) (by decide +kernel)⟩
theorem lw_p124 : lw_okq (⟨"AgreeToldModel", "isDay", "(I)Z"⟩, 45) := ⟨⟨by decide +kernel, by decide +kernel⟩, List.mem_of_getElem? (i := 1355) (by decide +kernel), List.mem_of_getElem? (i := 1875) (by decide +kernel), List.mem_of_getElem? (i := 1876) (by decide +kernel)⟩
theorem lw_p125 : lw_okq (⟨"AgreeToldModel", "isWord", "(III)Z"⟩, 45) := ⟨⟨by decide +kernel, by decide +kernel⟩, List.mem_of_getElem? (i := 1355) (by decide +kernel), List.mem_of_getElem? (i := 1891) (by decide +kernel), List.mem_of_getElem? (i := 1892) (by decide +kernel)⟩
theorem lw_p126 : lw_okq (⟨"AgreeToldModel", "findChosen", "(Z)I"⟩, 45) := ⟨⟨by decide +kernel, by decide +kernel⟩, List.mem_of_getElem? (i := 1355) (by decide +kernel), List.mem_of_getElem? (i := 1910) (by decide +kernel), List.mem_of_getElem? (i := 1911) (by decide +kernel)⟩
theorem lw_p127 : lw_okq (⟨"AgreeToldModel", "chooses", "(IIZ)V"⟩, 45) := ⟨⟨by decide +kernel, by decide +kernel⟩, List.mem_of_getElem? (i := 1355) (by decide +kernel), List.mem_of_getElem? (i := 1914) (by decide +kernel), List.mem_of_getElem? (i := 1915) (by decide +kernel)⟩
def lw_privs_8 : List (MethodName × Nat) := [(⟨"AgreeToldModel", "meets", "(II)V"⟩, 45), (⟨"AgreeToldModel", "many", "(I)I"⟩, 45), (⟨"AgreeToldModel", "manyBoth", "(II)I"⟩, 45), (⟨"AgreeToldModel", "keeps", "()V"⟩, 45), (⟨"AgreeToldModel", "copies", "(II)V"⟩, 45), (⟨"AgreeToldModel", "isPerson", "(I)Z"⟩, 45), (⟨"AgreeToldModel", "isProphet", "(I)Z"⟩, 45), (⟨"AgreeToldModel", "isSaying", "(I)Z"⟩, 45), (⟨"AgreeToldModel", "isGrand", "(I)Z"⟩, 45), (⟨"AgreeToldModel", "isEvent", "(I)Z"⟩, 45), (⟨"AgreeToldModel", "wordAt", "(III)I"⟩, 45), (⟨"AgreeToldModel", "isAny", "(II)Z"⟩, 45), (⟨"AgreeToldModel", "isDay", "(I)Z"⟩, 45), (⟨"AgreeToldModel", "isWord", "(III)Z"⟩, 45), (⟨"AgreeToldModel", "findChosen", "(Z)I"⟩, 45), (⟨"AgreeToldModel", "chooses", "(IIZ)V"⟩, 45)]
theorem lw_r8 : ∀ q ∈ lw_privs_8, lw_okq q := List.forall_mem_cons.mpr ⟨lw_p112, List.forall_mem_cons.mpr ⟨lw_p113, List.forall_mem_cons.mpr ⟨lw_p114, List.forall_mem_cons.mpr ⟨lw_p115, List.forall_mem_cons.mpr ⟨lw_p116, List.forall_mem_cons.mpr ⟨lw_p117, List.forall_mem_cons.mpr ⟨lw_p118, List.forall_mem_cons.mpr ⟨lw_p119, List.forall_mem_cons.mpr ⟨lw_p120, List.forall_mem_cons.mpr ⟨lw_p121, List.forall_mem_cons.mpr ⟨lw_p122, List.forall_mem_cons.mpr ⟨lw_p123, List.forall_mem_cons.mpr ⟨lw_p124, List.forall_mem_cons.mpr ⟨lw_p125, List.forall_mem_cons.mpr ⟨lw_p126, List.forall_mem_cons.mpr ⟨lw_p127, fun _ h => absurd h List.not_mem_nil⟩⟩⟩⟩⟩⟩⟩⟩⟩⟩⟩⟩⟩⟩⟩⟩
theorem lw_p128 : lw_okq (⟨"AgreeToldModel", "isBetter", "(I)Z"⟩, 45) := ⟨⟨by decide +kernel, by decide +kernel⟩, List.mem_of_getElem? (i := 1355) (by decide +kernel), List.mem_of_getElem? (i := 1921) (by decide +kernel), List.mem_of_getElem? (i := 1922) (by decide +kernel)⟩
theorem lw_p129 : lw_okq (⟨"AgreeToldModel", "numberOf", "(III)I"⟩, 45) := ⟨⟨by decide +kernel, by decide +kernel⟩, List.mem_of_getElem? (i := 1355) (by decide +kernel), List.mem_of_getElem? (i := 1933) (by decide +kernel), List.mem_of_getElem? (i := 1934) (by decide +kernel)⟩
theorem lw_p130 : lw_okq (⟨"AgreeToldModel", "findMaking", "(I)I"⟩, 45) := ⟨⟨by decide +kernel, by decide +kernel⟩, List.mem_of_getElem? (i := 1355) (by decide +kernel), List.mem_of_getElem? (i := 1937) (by decide +kernel), List.mem_of_getElem? (i := 1938) (by decide +kernel)⟩
theorem lw_p131 : lw_okq (⟨"AgreeToldModel", "findOpen", "()V"⟩, 45) := ⟨⟨by decide +kernel, by decide +kernel⟩, List.mem_of_getElem? (i := 1355) (by decide +kernel), List.mem_of_getElem? (i := 1941) (by decide +kernel), List.mem_of_getElem? (i := 1942) (by decide +kernel)⟩
theorem lw_p132 : lw_okq (⟨"AgreeToldModel", "isNumber", "(I)Z"⟩, 45) := ⟨⟨by decide +kernel, by decide +kernel⟩, List.mem_of_getElem? (i := 1355) (by decide +kernel), List.mem_of_getElem? (i := 1945) (by decide +kernel), List.mem_of_getElem? (i := 1946) (by decide +kernel)⟩
theorem lw_p133 : lw_okq (⟨"AgreeToldModel", "rowOf", "(I)I"⟩, 45) := ⟨⟨by decide +kernel, by decide +kernel⟩, List.mem_of_getElem? (i := 1355) (by decide +kernel), List.mem_of_getElem? (i := 1949) (by decide +kernel), List.mem_of_getElem? (i := 1950) (by decide +kernel)⟩
theorem lw_p134 : lw_okq (⟨"AgreeToldModel", "makes", "(II)Z"⟩, 45) := ⟨⟨by decide +kernel, by decide +kernel⟩, List.mem_of_getElem? (i := 1355) (by decide +kernel), List.mem_of_getElem? (i := 1953) (by decide +kernel), List.mem_of_getElem? (i := 1954) (by decide +kernel)⟩
theorem lw_p135 : lw_okq (⟨"AgreeToldModel", "isAll", "(II)Z"⟩, 45) := ⟨⟨by decide +kernel, by decide +kernel⟩, List.mem_of_getElem? (i := 1355) (by decide +kernel), List.mem_of_getElem? (i := 1957) (by decide +kernel), List.mem_of_getElem? (i := 1958) (by decide +kernel)⟩
theorem lw_p136 : lw_okq (⟨"AgreeToldModel", "findVague", "(II)I"⟩, 45) := ⟨⟨by decide +kernel, by decide +kernel⟩, List.mem_of_getElem? (i := 1355) (by decide +kernel), List.mem_of_getElem? (i := 1970) (by decide +kernel), List.mem_of_getElem? (i := 1971) (by decide +kernel)⟩
theorem lw_p137 : lw_okq (⟨"AgreeToldModel", "vagueMany", "()I"⟩, 45) := ⟨⟨by decide +kernel, by decide +kernel⟩, List.mem_of_getElem? (i := 1355) (by decide +kernel), List.mem_of_getElem? (i := 1974) (by decide +kernel), List.mem_of_getElem? (i := 1975) (by decide +kernel)⟩
theorem lw_p138 : lw_okq (⟨"AgreeToldModel", "isSet", "(II)Z"⟩, 45) := ⟨⟨by decide +kernel, by decide +kernel⟩, List.mem_of_getElem? (i := 1355) (by decide +kernel), List.mem_of_getElem? (i := 1978) (by decide +kernel), List.mem_of_getElem? (i := 1979) (by decide +kernel)⟩
theorem lw_p139 : lw_okq (⟨"AgreeToldModel", "holdsVague", "(III)Z"⟩, 45) := ⟨⟨by decide +kernel, by decide +kernel⟩, List.mem_of_getElem? (i := 1355) (by decide +kernel), List.mem_of_getElem? (i := 1982) (by decide +kernel), List.mem_of_getElem? (i := 1983) (by decide +kernel)⟩
theorem lw_p140 : lw_okq (⟨"AgreeToldModel", "canWish", "(I)Z"⟩, 45) := ⟨⟨by decide +kernel, by decide +kernel⟩, List.mem_of_getElem? (i := 1355) (by decide +kernel), List.mem_of_getElem? (i := 2006) (by decide +kernel), List.mem_of_getElem? (i := 2007) (by decide +kernel)⟩
theorem lw_p141 : lw_okq (⟨"AgreeToldModel", "winsDuel", "(III)Z"⟩, 45) := ⟨⟨by decide +kernel, by decide +kernel⟩, List.mem_of_getElem? (i := 1355) (by decide +kernel), List.mem_of_getElem? (i := 2014) (by decide +kernel), List.mem_of_getElem? (i := 2015) (by decide +kernel)⟩
theorem lw_p142 : lw_okq (⟨"AgreeToldModel", "findsKeeper", "(I)Z"⟩, 45) := ⟨⟨by decide +kernel, by decide +kernel⟩, List.mem_of_getElem? (i := 1355) (by decide +kernel), List.mem_of_getElem? (i := 2022) (by decide +kernel), List.mem_of_getElem? (i := 2023) (by decide +kernel)⟩
theorem lw_p143 : lw_okq (⟨"AgreeToldModel", "mayKeep", "(II)Z"⟩, 45) := ⟨⟨by decide +kernel, by decide +kernel⟩, List.mem_of_getElem? (i := 1355) (by decide +kernel), List.mem_of_getElem? (i := 2026) (by decide +kernel), List.mem_of_getElem? (i := 2027) (by decide +kernel)⟩
def lw_privs_9 : List (MethodName × Nat) := [(⟨"AgreeToldModel", "isBetter", "(I)Z"⟩, 45), (⟨"AgreeToldModel", "numberOf", "(III)I"⟩, 45), (⟨"AgreeToldModel", "findMaking", "(I)I"⟩, 45), (⟨"AgreeToldModel", "findOpen", "()V"⟩, 45), (⟨"AgreeToldModel", "isNumber", "(I)Z"⟩, 45), (⟨"AgreeToldModel", "rowOf", "(I)I"⟩, 45), (⟨"AgreeToldModel", "makes", "(II)Z"⟩, 45), (⟨"AgreeToldModel", "isAll", "(II)Z"⟩, 45), (⟨"AgreeToldModel", "findVague", "(II)I"⟩, 45), (⟨"AgreeToldModel", "vagueMany", "()I"⟩, 45), (⟨"AgreeToldModel", "isSet", "(II)Z"⟩, 45), (⟨"AgreeToldModel", "holdsVague", "(III)Z"⟩, 45), (⟨"AgreeToldModel", "canWish", "(I)Z"⟩, 45), (⟨"AgreeToldModel", "winsDuel", "(III)Z"⟩, 45), (⟨"AgreeToldModel", "findsKeeper", "(I)Z"⟩, 45), (⟨"AgreeToldModel", "mayKeep", "(II)Z"⟩, 45)]
theorem lw_r9 : ∀ q ∈ lw_privs_9, lw_okq q := List.forall_mem_cons.mpr ⟨lw_p128, List.forall_mem_cons.mpr ⟨lw_p129, List.forall_mem_cons.mpr ⟨lw_p130, List.forall_mem_cons.mpr ⟨lw_p131, List.forall_mem_cons.mpr ⟨lw_p132, List.forall_mem_cons.mpr ⟨lw_p133, List.forall_mem_cons.mpr ⟨lw_p134, List.forall_mem_cons.mpr ⟨lw_p135, List.forall_mem_cons.mpr ⟨lw_p136, List.forall_mem_cons.mpr ⟨lw_p137, List.forall_mem_cons.mpr ⟨lw_p138, List.forall_mem_cons.mpr ⟨lw_p139, List.forall_mem_cons.mpr ⟨lw_p140, List.forall_mem_cons.mpr ⟨lw_p141, List.forall_mem_cons.mpr ⟨lw_p142, List.forall_mem_cons.mpr ⟨lw_p143, fun _ h => absurd h List.not_mem_nil⟩⟩⟩⟩⟩⟩⟩⟩⟩⟩⟩⟩⟩⟩⟩⟩
theorem lw_p144 : lw_okq (⟨"AgreeToldModel", "keptBy", "(I)I"⟩, 45) := ⟨⟨by decide +kernel, by decide +kernel⟩, List.mem_of_getElem? (i := 1355) (by decide +kernel), List.mem_of_getElem? (i := 2030) (by decide +kernel), List.mem_of_getElem? (i := 2031) (by decide +kernel)⟩
theorem lw_p145 : lw_okq (⟨"AgreeToldModel", "daysLeft", "()I"⟩, 45) := ⟨⟨by decide +kernel, by decide +kernel⟩, List.mem_of_getElem? (i := 1355) (by decide +kernel), List.mem_of_getElem? (i := 2034) (by decide +kernel), List.mem_of_getElem? (i := 2035) (by decide +kernel)⟩
theorem lw_p146 : lw_okq (⟨"AgreeToldModel", "draw", "(I)I"⟩, 45) := ⟨⟨by decide +kernel, by decide +kernel⟩, List.mem_of_getElem? (i := 1355) (by decide +kernel), List.mem_of_getElem? (i := 2046) (by decide +kernel), List.mem_of_getElem? (i := 2047) (by decide +kernel)⟩
theorem lw_p147 : lw_okq (⟨"AgreeToldModel", "laysWord", "(IIIII)V"⟩, 45) := ⟨⟨by decide +kernel, by decide +kernel⟩, List.mem_of_getElem? (i := 1355) (by decide +kernel), List.mem_of_getElem? (i := 2058) (by decide +kernel), List.mem_of_getElem? (i := 2059) (by decide +kernel)⟩
theorem lw_p148 : lw_okq (⟨"AgreeToldModel", "joins", "(II)V"⟩, 45) := ⟨⟨by decide +kernel, by decide +kernel⟩, List.mem_of_getElem? (i := 1355) (by decide +kernel), List.mem_of_getElem? (i := 2062) (by decide +kernel), List.mem_of_getElem? (i := 2063) (by decide +kernel)⟩
def lw_privs_10 : List (MethodName × Nat) := [(⟨"AgreeToldModel", "keptBy", "(I)I"⟩, 45), (⟨"AgreeToldModel", "daysLeft", "()I"⟩, 45), (⟨"AgreeToldModel", "draw", "(I)I"⟩, 45), (⟨"AgreeToldModel", "laysWord", "(IIIII)V"⟩, 45), (⟨"AgreeToldModel", "joins", "(II)V"⟩, 45)]
theorem lw_r10 : ∀ q ∈ lw_privs_10, lw_okq q := List.forall_mem_cons.mpr ⟨lw_p144, List.forall_mem_cons.mpr ⟨lw_p145, List.forall_mem_cons.mpr ⟨lw_p146, List.forall_mem_cons.mpr ⟨lw_p147, List.forall_mem_cons.mpr ⟨lw_p148, fun _ h => absurd h List.not_mem_nil⟩⟩⟩⟩⟩
def lw_privs : List (MethodName × Nat) := lw_privs_1 ++ (lw_privs_2 ++ (lw_privs_3 ++ (lw_privs_4 ++ (lw_privs_5 ++ (lw_privs_6 ++ (lw_privs_7 ++ (lw_privs_8 ++ (lw_privs_9 ++ (lw_privs_10)))))))))
def lw_tbl : List Cond := k2_sels lw_privs ++ tables_1
theorem lw_privs_ok : ∀ q ∈ lw_privs, lw_okq q := by
  show ∀ q ∈ lw_privs_1 ++ (lw_privs_2 ++ (lw_privs_3 ++ (lw_privs_4 ++ (lw_privs_5 ++ (lw_privs_6 ++ (lw_privs_7 ++ (lw_privs_8 ++ (lw_privs_9 ++ (lw_privs_10))))))))), lw_okq q
  exact List.forall_mem_append.mpr ⟨lw_r1, List.forall_mem_append.mpr ⟨lw_r2, List.forall_mem_append.mpr ⟨lw_r3, List.forall_mem_append.mpr ⟨lw_r4, List.forall_mem_append.mpr ⟨lw_r5, List.forall_mem_append.mpr ⟨lw_r6, List.forall_mem_append.mpr ⟨lw_r7, List.forall_mem_append.mpr ⟨lw_r8, List.forall_mem_append.mpr ⟨lw_r9, lw_r10⟩⟩⟩⟩⟩⟩⟩⟩⟩
-- ===== end of PART A; then your names; then what follows =====
end
section
/-! An interpreter of the bytecode over abstract worlds: values are exact, or ints in an interval; cells are lists. -/
abbrev zi_V : Type := Value ⊕ (Int32 × Int32)
abbrev zi_C : Type := (Nat × List zi_V) ⊕ (Nat × Nat × zi_V × List (Nat × zi_V))
abbrev zi_E : Type := Instr × Nat × List Nat
abbrev zi_T : Type := List (Nat × List (Nat × zi_E))
abbrev zi_M : Type := MethodName × ByteArray × Nat × Option FieldType × zi_T × List Nat
abbrev zi_F : Type := Nat × List (Nat × zi_V) × List zi_V × List zi_C × Nat × Nat
abbrev zi_R : Type := Option zi_V × List zi_C × Nat × Nat
abbrev zi_K : Type := Nat → List zi_V → List zi_C → Option zi_R
/-- relations of lists, place by place -/
def zi_F2 {α β : Type} (r : α → β → Prop) : List α → List β → Prop
  | [], [] => True
  | a :: as, b :: bs => r a b ∧ zi_F2 r as bs
  | _, _ => False
noncomputable def zi_lk (pc : Nat) (l : List (Nat × zi_E)) : Option zi_E := List.rec (motive := fun _ => Option zi_E) none (fun q _ ih => bif Nat.beq q.1 pc then some q.2 else ih) l
noncomputable def zi_lk2 (pc : Nat) (l : zi_T) : Option zi_E := List.rec (motive := fun _ => Option zi_E) none (fun q _ ih => bif Nat.ble q.1 pc then ih else zi_lk pc q.2) l
noncomputable def zi_look (d : zi_V) (us : List (Nat × zi_V)) (j : Nat) : zi_V := List.rec (motive := fun _ => zi_V) d (fun q _ ih => bif Nat.beq q.1 j then q.2 else ih) us
noncomputable def zi_loc (al : List (Nat × zi_V)) (j : Nat) : Option zi_V := List.rec (motive := fun _ => Option zi_V) none (fun q _ ih => bif Nat.beq q.1 j then some q.2 else ih) al
def zi_kd (v : zi_V) : Nat := match v with
  | .inl (.int _) => 0
  | .inl (.long _) => 1
  | .inl (.ref _) => 2
  | .inl .null => 3
  | .inr _ => 0
  | _ => 9
def zi_cat (v : zi_V) : Nat := match v with
  | .inl (.long _) => 2
  | _ => 1
noncomputable def zi_del1 (i : Nat) (al : List (Nat × zi_V)) : List (Nat × zi_V) := List.rec (motive := fun _ => List (Nat × zi_V)) [] (fun q _ ih => bif (!(Nat.beq q.1 i) && !(Nat.beq (q.1 + 1) i && Nat.beq (zi_cat q.2) 2)) then q :: ih else ih) al
noncomputable def zi_del2 (i : Nat) (al : List (Nat × zi_V)) : List (Nat × zi_V) := List.rec (motive := fun _ => List (Nat × zi_V)) [] (fun q _ ih => bif (!(Nat.beq q.1 i) && (!(Nat.beq q.1 (i + 1)) && !(Nat.beq (q.1 + 1) i && Nat.beq (zi_cat q.2) 2))) then q :: ih else ih) al
noncomputable def zi_ent (i : Nat) (vs : List zi_V) : List (Nat × zi_V) := List.rec (motive := fun _ => Nat → List (Nat × zi_V)) (fun _ => []) (fun v _ ih => fun i => (i, v) :: ih (i + zi_cat v)) vs i
noncomputable def zi_cats (vs : List zi_V) : Nat := List.rec (motive := fun _ => Nat) 0 (fun v _ ih => zi_cat v + ih) vs
def zi_iv (v : zi_V) : Option (Int32 × Int32) := match v with
  | .inl (.int x) => some (x, x)
  | .inr p => some p
  | _ => none
def zi_lt (a b : Int32 × Int32) : Option Bool := bif decide (a.2 < b.1) then some true else bif decide (b.2 ≤ a.1) then some false else none
def zi_le (a b : Int32 × Int32) : Option Bool := bif decide (a.2 ≤ b.1) then some true else bif decide (b.2 < a.1) then some false else none
def zi_eq (a b : Int32 × Int32) : Option Bool := bif decide (a.2 < b.1) || decide (b.2 < a.1) then some false else bif decide (a.1 = a.2) && decide (b.1 = b.2) && decide (a.1 = b.1) then some true else none
def zi_cmp (c : ClassFile.Cond) (a b : Int32 × Int32) : Option Bool := match c with
  | .eq => zi_eq a b
  | .ne => (zi_eq a b).map (fun q => !q)
  | .lt => zi_lt a b
  | .ge => zi_le b a
  | .gt => zi_lt b a
  | .le => zi_le a b
def zi_test (c : ClassFile.Cond) (v w : zi_V) : Option Bool := match zi_iv v, zi_iv w with
  | some a, some b => zi_cmp c a b
  | _, _ => none
/-- the types of arrays, by their numbers -/
def zi_ft (t : Nat) : FieldType := match t with
  | 0 => .int
  | 1 => .long
  | 2 => .boolean
  | 3 => .char
  | 4 => .object "AgreeTold$FutureSet"
  | 5 => .object "AgreeTold$Story"
  | _ => .object "AgreeTold$Saying"
def zi_tk (t : Nat) : Nat := match t with
  | 0 => 0
  | 1 => 1
  | 2 => 0
  | 3 => 0
  | _ => 2
def zi_df (t : Nat) : zi_V := match t with
  | 0 => .inl (.int 0)
  | 1 => .inl (.long 0)
  | 2 => .inl (.int 0)
  | 3 => .inl (.int 0)
  | _ => .inl .null
def zi_fit (ty : FieldType) (v : zi_V) : Bool := match v with
  | .inl w => decide (narrow ty w = w) && fits ty w
  | .inr _ => decide (ty = .int)
def zi_rok (ty : FieldType) (v : zi_V) : Bool := match v with
  | .inl (.int x) => decide (narrow ty (.int x) = .int x)
  | .inl (.long _) => decide (ty = .long)
  | .inl (.ref _) => match ty with | .object _ => true | .array _ => true | _ => false
  | .inl .null => match ty with | .object _ => true | .array _ => true | _ => false
  | .inr _ => decide (ty = .int)
  | _ => false
def zi_in (x : Int32) (n : Nat) : Bool := !decide (x < 0) && Nat.ble (x.toNatClampNeg + 1) n
def zi_Fs : List (String × List ((String × String × String × Bool) × FieldType)) := [
  ("AgreeTold", [(("AgreeTold", "reader", "LAgreeTold$Reader;", true), (.object "AgreeTold$Reader")),
    (("AgreeTold", "tape", "LAgreeTold$Tape;", true), (.object "AgreeTold$Tape")),
    (("AgreeTold", "worlds", "LAgreeTold$Worlds;", true), (.object "AgreeTold$Worlds")),
    (("AgreeTold", "priceLaw", "LAgreeTold$PriceLaw;", true), (.object "AgreeTold$PriceLaw")),
    (("AgreeTold", "joint", "LAgreeTold$Joint;", true), (.object "AgreeTold$Joint")),
    (("AgreeTold", "draws", "LAgreeTold$Draws;", true), (.object "AgreeTold$Draws")),
    (("AgreeTold", "story", "LAgreeTold$Story;", true), (.object "AgreeTold$Story")),
    (("AgreeTold", "past", "[LAgreeTold$Story;", true), (.array (.object "AgreeTold$Story"))),
    (("AgreeTold", "marks", "[LAgreeTold$Story;", true), (.array (.object "AgreeTold$Story"))),
    (("AgreeTold", "left", "LAgreeTold$FutureSet;", true), (.object "AgreeTold$FutureSet")),
    (("AgreeTold", "scratch", "LAgreeTold$FutureSet;", true), (.object "AgreeTold$FutureSet")),
    (("AgreeTold", "second", "LAgreeTold$FutureSet;", true), (.object "AgreeTold$FutureSet")),
    (("AgreeTold", "openWords", "[I", true), (.array .int)),
    (("AgreeTold", "small", "[I", true), (.array .int)),
    (("AgreeTold", "tellings", "[I", true), (.array .int)),
    (("AgreeTold", "wins", "[Z", true), (.array .boolean)),
    (("AgreeTold", "land", "LAgreeTold$Land;", false), (.object "AgreeTold$Land")),
    (("AgreeTold", "pastStart", "I", false), .int),
    (("AgreeTold", "pastCount", "I", false), .int)]),
  ("AgreeTold$Reader", [(("AgreeTold$Reader", "tape", "LAgreeTold$Tape;", true), (.object "AgreeTold$Tape")),
    (("AgreeTold$Reader", "facts", "[J", true), (.array .long)),
    (("AgreeTold$Reader", "codes", "[I", true), (.array .int)),
    (("AgreeTold$Reader", "used", "I", false), .int),
    (("AgreeTold$Reader", "teller", "I", false), .int),
    (("AgreeTold$Reader", "naming", "Z", false), .boolean),
    (("AgreeTold$Reader", "land", "LAgreeTold$Land;", false), (.object "AgreeTold$Land")),
    (("AgreeTold$Reader", "softened", "Z", false), .boolean),
    (("AgreeTold$Reader", "at", "I", false), .int),
    (("AgreeTold$Reader", "kind", "I", false), .int),
    (("AgreeTold$Reader", "value", "J", false), .long),
    (("AgreeTold$Reader", "fault", "I", false), .int)]),
  ("AgreeTold$Tape", [(("AgreeTold$Tape", "signs", "[C", true), (.array .char)),
    (("AgreeTold$Tape", "kinds", "[I", true), (.array .int)),
    (("AgreeTold$Tape", "places", "[I", true), (.array .int)),
    (("AgreeTold$Tape", "values", "[J", true), (.array .long)),
    (("AgreeTold$Tape", "keywords", "[J", true), (.array .long)),
    (("AgreeTold$Tape", "length", "I", false), .int),
    (("AgreeTold$Tape", "tokens", "I", false), .int)]),
  ("AgreeTold$Land", [(("AgreeTold$Land", "peopleNames", "[J", true), (.array .long)),
    (("AgreeTold$Land", "eventNames", "[J", true), (.array .long)),
    (("AgreeTold$Land", "prophetNames", "[J", true), (.array .long)),
    (("AgreeTold$Land", "talls", "[I", true), (.array .int)),
    (("AgreeTold$Land", "kinds", "[I", true), (.array .int)),
    (("AgreeTold$Land", "purses", "[I", true), (.array .int)),
    (("AgreeTold$Land", "owners", "[I", true), (.array .int)),
    (("AgreeTold$Land", "coins", "[I", true), (.array .int)),
    (("AgreeTold$Land", "lawBegins", "[I", true), (.array .int)),
    (("AgreeTold$Land", "lawEnds", "[I", true), (.array .int)),
    (("AgreeTold$Land", "wishBegins", "[I", true), (.array .int)),
    (("AgreeTold$Land", "wishEnds", "[I", true), (.array .int)),
    (("AgreeTold$Land", "price", "[I", false), (.array .int)),
    (("AgreeTold$Land", "priced", "Z", false), .boolean),
    (("AgreeTold$Land", "days", "I", false), .int),
    (("AgreeTold$Land", "people", "I", false), .int),
    (("AgreeTold$Land", "events", "I", false), .int),
    (("AgreeTold$Land", "prophets", "I", false), .int),
    (("AgreeTold$Land", "laws", "I", false), .int),
    (("AgreeTold$Land", "wishes", "I", false), .int)]),
  ("AgreeTold$Worlds", [(("AgreeTold$Worlds", "laws", "LAgreeTold$FutureSet;", true), (.object "AgreeTold$FutureSet")),
    (("AgreeTold$Worlds", "nothing", "LAgreeTold$FutureSet;", true), (.object "AgreeTold$FutureSet")),
    (("AgreeTold$Worlds", "total", "I", false), .int),
    (("AgreeTold$Worlds", "words", "[LAgreeTold$FutureSet;", true), (.array (.object "AgreeTold$FutureSet"))),
    (("AgreeTold$Worlds", "wishes", "[LAgreeTold$FutureSet;", true), (.array (.object "AgreeTold$FutureSet"))),
    (("AgreeTold$Worlds", "one", "LAgreeTold$FutureSet;", true), (.object "AgreeTold$FutureSet")),
    (("AgreeTold$Worlds", "stack", "[J", true), (.array .long)),
    (("AgreeTold$Worlds", "days", "I", false), .int),
    (("AgreeTold$Worlds", "people", "I", false), .int),
    (("AgreeTold$Worlds", "length", "I", false), .int)]),
  ("AgreeTold$FutureSet", [(("AgreeTold$FutureSet", "cells", "[J", false), (.array .long)),
    (("AgreeTold$FutureSet", "length", "I", false), .int)]),
  ("AgreeTold$PriceLaw", [(("AgreeTold$PriceLaw", "stack", "[I", true), (.array .int))]),
  ("AgreeTold$Joint", [(("AgreeTold$Joint", "rows", "[LAgreeTold$FutureSet;", true), (.array (.object "AgreeTold$FutureSet"))),
    (("AgreeTold$Joint", "can", "[Z", false), (.array .boolean)),
    (("AgreeTold$Joint", "size", "I", false), .int)]),
  ("AgreeTold$Draws", [(("AgreeTold$Draws", "state", "J", false), .long)]),
  ("AgreeTold$Story", [(("AgreeTold$Story", "sayings", "[LAgreeTold$Saying;", true), (.array (.object "AgreeTold$Saying"))),
    (("AgreeTold$Story", "purses", "[I", true), (.array .int)),
    (("AgreeTold$Story", "cameEvents", "[I", true), (.array .int)),
    (("AgreeTold$Story", "owedTo", "[I", true), (.array .int)),
    (("AgreeTold$Story", "owedTall", "[I", true), (.array .int)),
    (("AgreeTold$Story", "asked", "LAgreeTold$FutureSet;", false), (.object "AgreeTold$FutureSet")),
    (("AgreeTold$Story", "told", "I", false), .int),
    (("AgreeTold$Story", "today", "I", false), .int),
    (("AgreeTold$Story", "promises", "I", false), .int)]),
  ("AgreeTold$Saying", [(("AgreeTold$Saying", "prophet", "I", true), .int),
    (("AgreeTold$Saying", "price", "I", true), .int),
    (("AgreeTold$Saying", "leftThen", "I", true), .int),
    (("AgreeTold$Saying", "row", "LAgreeTold$FutureSet;", true), (.object "AgreeTold$FutureSet"))]),
  ("AgreeToldModel", [(("AgreeToldModel", "thrown", "I", false), .int),
    (("AgreeToldModel", "tape", "[I", true), (.array .int)),
    (("AgreeToldModel", "taped", "I", false), .int),
    (("AgreeToldModel", "size", "I", false), .int),
    (("AgreeToldModel", "sort", "[I", true), (.array .int)),
    (("AgreeToldModel", "place", "[I", true), (.array .int)),
    (("AgreeToldModel", "value", "[J", true), (.array .long)),
    (("AgreeToldModel", "at", "I", false), .int),
    (("AgreeToldModel", "fault", "I", false), .int),
    (("AgreeToldModel", "words", "[J", true), (.array .long)),
    (("AgreeToldModel", "lands", "[I", true), (.array .int)),
    (("AgreeToldModel", "op", "[I", true), (.array .int)),
    (("AgreeToldModel", "arg", "[I", true), (.array .int)),
    (("AgreeToldModel", "codes", "I", false), .int),
    (("AgreeToldModel", "names", "[J", true), (.array .long)),
    (("AgreeToldModel", "readNames", "[J", true), (.array .long)),
    (("AgreeToldModel", "nameOf", "[I", true), (.array .int)),
    (("AgreeToldModel", "readNameOf", "[I", true), (.array .int)),
    (("AgreeToldModel", "namesMany", "I", false), .int),
    (("AgreeToldModel", "readMany", "I", false), .int),
    (("AgreeToldModel", "readFrom", "I", false), .int),
    (("AgreeToldModel", "facts", "[I", true), (.array .int)),
    (("AgreeToldModel", "pile", "[I", true), (.array .int)),
    (("AgreeToldModel", "bits", "[J", true), (.array .long)),
    (("AgreeToldModel", "futures", "I", false), .int),
    (("AgreeToldModel", "longs", "I", false), .int),
    (("AgreeToldModel", "power", "[I", true), (.array .int)),
    (("AgreeToldModel", "has", "[I", true), (.array .int)),
    (("AgreeToldModel", "isVague", "Z", false), .boolean),
    (("AgreeToldModel", "state", "[I", true), (.array .int)),
    (("AgreeToldModel", "undos", "I", false), .int),
    (("AgreeToldModel", "isMarked", "[Z", true), (.array .boolean)),
    (("AgreeToldModel", "isAsked", "[Z", true), (.array .boolean)),
    (("AgreeToldModel", "teller", "I", false), .int),
    (("AgreeToldModel", "bestSet", "I", false), .int),
    (("AgreeToldModel", "bestMany", "I", false), .int),
    (("AgreeToldModel", "open", "[I", true), (.array .int)),
    (("AgreeToldModel", "openMany", "I", false), .int),
    (("AgreeToldModel", "made", "[I", true), (.array .int)),
    (("AgreeToldModel", "vagueLeft", "[I", true), (.array .int)),
    (("AgreeToldModel", "duelWish", "I", false), .int),
    (("AgreeToldModel", "keeper", "[I", true), (.array .int)),
    (("AgreeToldModel", "tried", "[Z", true), (.array .boolean)),
    (("AgreeToldModel", "g", "J", false), .long),
    (("AgreeToldModel", "toldBy", "[I", true), (.array .int))])]
/-- the String constants: whose pool, which entry, the text -/
def zi_sr : List (String × Nat × String) := [("AgreeTold$Tape", 26, "days person tall event prophet purse law wish for price some all together ahead on by from ever never times most plain vague fool grand weather not and or"), ("AgreeTold$Reader", 18, "before after told"), ("AgreeTold$Tape", 77, "()<=+-*;"), ("AgreeTold", 343, "no such word")]
def zi_sn : List Nat := [154, 17, 8, 12]
def zi_sb : List (List Int32) := [[100, 97, 121, 115, 32, 112, 101, 114, 115, 111, 110, 32, 116, 97, 108, 108, 32, 101, 118, 101, 110, 116, 32, 112, 114, 111, 112, 104, 101, 116, 32, 112, 117, 114, 115, 101, 32, 108, 97, 119, 32, 119, 105, 115, 104, 32, 102, 111, 114, 32, 112, 114, 105, 99, 101, 32, 115, 111, 109, 101, 32, 97, 108, 108, 32, 116, 111, 103, 101, 116, 104, 101, 114, 32, 97, 104, 101, 97, 100, 32, 111, 110, 32, 98, 121, 32, 102, 114, 111, 109, 32, 101, 118, 101, 114, 32, 110, 101, 118, 101, 114, 32, 116, 105, 109, 101, 115, 32, 109, 111, 115, 116, 32, 112, 108, 97, 105, 110, 32, 118, 97, 103, 117, 101, 32, 102, 111, 111, 108, 32, 103, 114, 97, 110, 100, 32, 119, 101, 97, 116, 104, 101, 114, 32, 110, 111, 116, 32, 97, 110, 100, 32, 111, 114], [98, 101, 102, 111, 114, 101, 32, 97, 102, 116, 101, 114, 32, 116, 111, 108, 100], [40, 41, 60, 61, 43, 45, 42, 59], [110, 111, 32, 115, 117, 99, 104, 32, 119, 111, 114, 100]]
def zi_nest : List (String × Nat × MethodName × String) := [("AgreeTold", 9, ⟨"AgreeTold$Reader", "<init>", "()V"⟩, "AgreeTold"), ("AgreeTold$Reader", 11, ⟨"AgreeTold$Tape", "<init>", "()V"⟩, "AgreeTold"), ("AgreeTold$Reader", 34, ⟨"AgreeTold$Land", "<init>", "()V"⟩, "AgreeTold"), ("AgreeTold$Worlds", 11, ⟨"AgreeTold$FutureSet", "<init>", "()V"⟩, "AgreeTold"), ("AgreeTold", 30, ⟨"AgreeTold$PriceLaw", "<init>", "()V"⟩, "AgreeTold"), ("AgreeTold", 37, ⟨"AgreeTold$Joint", "<init>", "()V"⟩, "AgreeTold"), ("AgreeTold", 44, ⟨"AgreeTold$Draws", "<init>", "()V"⟩, "AgreeTold"), ("AgreeTold", 65, ⟨"AgreeTold$FutureSet", "<init>", "()V"⟩, "AgreeTold"), ("AgreeTold", 92, ⟨"AgreeTold$Land", "<init>", "()V"⟩, "AgreeTold"), ("AgreeTold$Reader", 197, ⟨"AgreeTold", "clauseCode", "(IIIII)I"⟩, "AgreeTold"), ("AgreeTold$Worlds", 98, ⟨"AgreeTold", "wordNumber", "(III)I"⟩, "AgreeTold")]
end
section
/-! The classes' fields, the String constants, and the interpreter itself. -/
def zi_cl : List vw_C := zi_Fs.map (fun q => (q.1, (fun k => (q.2.getD k (("", "", "", false), .int)).1), q.2.length))
def zi_ty (ci k : Nat) : FieldType := ((zi_Fs.getD ci ("", [])).2.getD k (("", "", "", false), .int)).2
def zi_dfv (ty : FieldType) : zi_V := match ty with
  | .long => .inl (.long 0)
  | .object _ => .inl .null
  | .array _ => .inl .null
  | _ => .inl (.int 0)
def zi_new (ci : Nat) : List zi_V := (zi_Fs.getD ci ("", [])).2.map (fun q => zi_dfv q.2)
abbrev zi_O : Type := Option (zi_F ⊕ Option zi_V)
def zi_ps (pc n : Nat) (al : List (Nat × zi_V)) (st : List zi_V) (A : List zi_C) (nc ns : Nat) (v : zi_V) : zi_O := some (.inl (pc + n, al, v :: st, A, nc, ns))
noncomputable def zi_ld (pc n : Nat) (al : List (Nat × zi_V)) (st : List zi_V) (A : List zi_C) (nc ns : Nat) (i k : Nat) : zi_O := match zi_loc al i with
  | some v => bif Nat.beq (zi_kd v) k then some (.inl (pc + n, al, v :: st, A, nc, ns)) else none
  | none => none
noncomputable def zi_lda (pc n : Nat) (al : List (Nat × zi_V)) (st : List zi_V) (A : List zi_C) (nc ns : Nat) (i : Nat) : zi_O := match zi_loc al i with
  | some v => bif Nat.ble 2 (zi_kd v) then some (.inl (pc + n, al, v :: st, A, nc, ns)) else none
  | none => none
noncomputable def zi_sti (pc n nL : Nat) (al : List (Nat × zi_V)) (st : List zi_V) (A : List zi_C) (nc ns : Nat) (i : Nat) : zi_O := match st with
  | v :: r => bif Nat.beq (zi_kd v) 0 && Nat.ble (i + 1) nL then some (.inl (pc + n, (i, v) :: zi_del1 i al, r, A, nc, ns)) else none
  | [] => none
noncomputable def zi_sta (pc n nL : Nat) (al : List (Nat × zi_V)) (st : List zi_V) (A : List zi_C) (nc ns : Nat) (i : Nat) : zi_O := match st with
  | v :: r => bif Nat.ble 2 (zi_kd v) && Nat.ble (i + 1) nL then some (.inl (pc + n, (i, v) :: zi_del1 i al, r, A, nc, ns)) else none
  | [] => none
noncomputable def zi_stl (pc n nL : Nat) (al : List (Nat × zi_V)) (st : List zi_V) (A : List zi_C) (nc ns : Nat) (i : Nat) : zi_O := match st with
  | v :: r => bif Nat.beq (zi_kd v) 1 && Nat.ble (i + 2) nL then some (.inl (pc + n, (i, v) :: zi_del2 i al, r, A, nc, ns)) else none
  | [] => none
noncomputable def zi_inc (pc n nL : Nat) (al : List (Nat × zi_V)) (st : List zi_V) (A : List zi_C) (nc ns : Nat) (i : Nat) (k : Int) : zi_O := match zi_loc al i with
  | some (.inl (.int x)) => bif Nat.ble (i + 1) nL then some (.inl (pc + n, (i, .inl (.int (x + Int32.ofInt k))) :: zi_del1 i al, st, A, nc, ns)) else none
  | _ => none
def zi_ii (op : Int32 → Int32 → Int32) (pc n : Nat) (al : List (Nat × zi_V)) (st : List zi_V) (A : List zi_C) (nc ns : Nat) : zi_O := match st with
  | .inl (.int y) :: .inl (.int x) :: r => some (.inl (pc + n, al, .inl (.int (op x y)) :: r, A, nc, ns))
  | _ => none
def zi_iz (op : Int32 → Int32 → Int32) (pc n : Nat) (al : List (Nat × zi_V)) (st : List zi_V) (A : List zi_C) (nc ns : Nat) : zi_O := match st with
  | .inl (.int y) :: .inl (.int x) :: r => bif decide (y = 0) then none else some (.inl (pc + n, al, .inl (.int (op x y)) :: r, A, nc, ns))
  | _ => none
def zi_ll (op : Int64 → Int64 → Int64) (pc n : Nat) (al : List (Nat × zi_V)) (st : List zi_V) (A : List zi_C) (nc ns : Nat) : zi_O := match st with
  | .inl (.long y) :: .inl (.long x) :: r => some (.inl (pc + n, al, .inl (.long (op x y)) :: r, A, nc, ns))
  | _ => none
def zi_lc (pc n : Nat) (al : List (Nat × zi_V)) (st : List zi_V) (A : List zi_C) (nc ns : Nat) : zi_O := match st with
  | .inl (.long y) :: .inl (.long x) :: r => some (.inl (pc + n, al, .inl (.int (lg_cmp x y)) :: r, A, nc, ns))
  | _ => none
def zi_lw (op : Int64 → Int32 → Int64) (pc n : Nat) (al : List (Nat × zi_V)) (st : List zi_V) (A : List zi_C) (nc ns : Nat) : zi_O := match st with
  | .inl (.int y) :: .inl (.long x) :: r => some (.inl (pc + n, al, .inl (.long (op x y)) :: r, A, nc, ns))
  | _ => none
def zi_i1 (op : Int32 → Value) (pc n : Nat) (al : List (Nat × zi_V)) (st : List zi_V) (A : List zi_C) (nc ns : Nat) : zi_O := match st with
  | .inl (.int x) :: r => some (.inl (pc + n, al, .inl (op x) :: r, A, nc, ns))
  | _ => none
def zi_l1 (op : Int64 → Value) (pc n : Nat) (al : List (Nat × zi_V)) (st : List zi_V) (A : List zi_C) (nc ns : Nat) : zi_O := match st with
  | .inl (.long x) :: r => some (.inl (pc + n, al, .inl (op x) :: r, A, nc, ns))
  | _ => none
def zi_dup (pc n : Nat) (al : List (Nat × zi_V)) (st : List zi_V) (A : List zi_C) (nc ns : Nat) : zi_O := match st with
  | v :: r => bif Nat.beq (zi_cat v) 1 then some (.inl (pc + n, al, v :: v :: r, A, nc, ns)) else none
  | [] => none
def zi_pop (pc n : Nat) (al : List (Nat × zi_V)) (st : List zi_V) (A : List zi_C) (nc ns : Nat) : zi_O := match st with
  | v :: r => bif Nat.beq (zi_cat v) 1 then some (.inl (pc + n, al, r, A, nc, ns)) else none
  | [] => none
def zi_dup2 (pc n : Nat) (al : List (Nat × zi_V)) (st : List zi_V) (A : List zi_C) (nc ns : Nat) : zi_O := match st with
  | v :: w :: r => bif Nat.beq (zi_cat v) 2 then some (.inl (pc + n, al, v :: v :: w :: r, A, nc, ns)) else bif Nat.beq (zi_cat w) 1 then some (.inl (pc + n, al, v :: w :: v :: w :: r, A, nc, ns)) else none
  | _ => none
def zi_br (pc n : Nat) (al : List (Nat × zi_V)) (st : List zi_V) (A : List zi_C) (nc ns : Nat) (tgt : Nat) (q : Option Bool) : zi_O := match q with
  | some true => some (.inl (tgt, al, st, A, nc, ns))
  | some false => some (.inl (pc + n, al, st, A, nc, ns))
  | none => none
def zi_if1 (c : ClassFile.Cond) (pc n : Nat) (al : List (Nat × zi_V)) (st : List zi_V) (A : List zi_C) (nc ns : Nat) (tgt : Nat) : zi_O := match st with
  | v :: r => zi_br pc n al r A nc ns tgt (zi_test c v (.inl (.int 0)))
  | _ => none
def zi_if2 (c : ClassFile.Cond) (pc n : Nat) (al : List (Nat × zi_V)) (st : List zi_V) (A : List zi_C) (nc ns : Nat) (tgt : Nat) : zi_O := match st with
  | w :: v :: r => zi_br pc n al r A nc ns tgt (zi_test c v w)
  | _ => none
def zi_nul (k : Bool) (pc n : Nat) (al : List (Nat × zi_V)) (st : List zi_V) (A : List zi_C) (nc ns : Nat) (tgt : Nat) : zi_O := match st with
  | .inl .null :: r => zi_br pc n al r A nc ns tgt (some k)
  | .inl (.ref _) :: r => zi_br pc n al r A nc ns tgt (some (!k))
  | _ => none
def zi_tsw (lo hi : Int) (al : List (Nat × zi_V)) (st : List zi_V) (A : List zi_C) (nc ns : Nat) (o : List Nat) : zi_O := match st, o with
  | v :: r, d :: ts => match zi_iv v with
    | some q => bif decide (q.2.toInt < lo) || decide (hi < q.1.toInt) then some (.inl (d, al, r, A, nc, ns)) else
        bif decide (q.1 = q.2) && !decide (q.1.toInt < lo) && !decide (hi < q.1.toInt) then (match ts[(q.1.toInt - lo).toNat]? with
          | some t => some (.inl (t, al, r, A, nc, ns))
          | none => none) else none
    | none => none
  | _, _ => none
noncomputable def zi_get (pc n : Nat) (al : List (Nat × zi_V)) (st : List zi_V) (A : List zi_C) (nc ns : Nat) (ci k : Nat) : zi_O := match st with
  | .inl (.ref r) :: rest => bif Nat.ble 10 r then (match A[r - 10]? with
      | some (.inl q) => bif Nat.beq q.1 ci then (match q.2[k]? with
          | some v => some (.inl (pc + n, al, v :: rest, A, nc, ns))
          | none => none) else none
      | _ => none)
    else bif Nat.ble (r + 1) 4 && Nat.beq ci 100 then (bif Nat.beq k 0 then some (.inl (pc + n, al, .inl (.ref (4 + r)) :: rest, A, nc, ns)) else bif Nat.beq k 1 then some (.inl (pc + n, al, .inl (.int 0) :: rest, A, nc, ns)) else none) else none
  | _ => none
noncomputable def zi_put (pc n : Nat) (al : List (Nat × zi_V)) (st : List zi_V) (A : List zi_C) (nc ns : Nat) (ci k : Nat) : zi_O := match st with
  | v :: .inl (.ref r) :: rest => bif Nat.ble 10 r then (match A[r - 10]? with
      | some (.inl q) => bif Nat.beq q.1 ci && Nat.ble (k + 1) q.2.length && zi_fit (zi_ty ci k) v then some (.inl (pc + n, al, rest, A.set (r - 10) (.inl (ci, q.2.set k v)), nc, ns)) else none
      | _ => none) else none
  | _ => none
def zi_gts (pc n : Nat) (al : List (Nat × zi_V)) (st : List zi_V) (A : List zi_C) (nc ns : Nat) (k : Nat) : zi_O := match k with
  | 0 => some (.inl (pc + n, al, .inl (.int 1) :: st, A, nc, ns))
  | _ => some (.inl (pc + n, al, .inl (.retAddr 0) :: st, A, nc, ns))
noncomputable def zi_len (sl : List zi_V) (pc n : Nat) (al : List (Nat × zi_V)) (st : List zi_V) (A : List zi_C) (nc ns : Nat) : zi_O := match st with
  | .inl (.ref r) :: rest => bif Nat.ble 10 r then (match A[r - 10]? with
      | some (.inr q) => bif Nat.ble q.1 6 then some (.inl (pc + n, al, .inl (.int (Int32.ofNat q.2.1)) :: rest, A, nc, ns)) else none
      | _ => none)
    else bif Nat.beq r 8 then (match sl with | [] => none | _ :: _ => some (.inl (pc + n, al, .inl (.int (Int32.ofNat sl.length)) :: rest, A, nc, ns)))
    else bif Nat.ble 4 r && Nat.ble (r + 1) 8 then some (.inl (pc + n, al, .inl (.int (Int32.ofNat (zi_sn.getD (r - 4) 0))) :: rest, A, nc, ns)) else none
  | _ => none
/-- loads: t the wanted type's number (7: references of any class) -/
noncomputable def zi_ald (t : Nat) (sl : List zi_V) (pc n : Nat) (al : List (Nat × zi_V)) (st : List zi_V) (A : List zi_C) (nc ns : Nat) : zi_O := match st with
  | .inl (.int x) :: .inl (.ref r) :: rest => bif Nat.ble 10 r then (match A[r - 10]? with
      | some (.inr q) => bif ((Nat.beq q.1 t && Nat.ble q.1 6) || (Nat.beq t 7 && Nat.ble 4 q.1 && Nat.ble q.1 6)) && zi_in x q.2.1 then some (.inl (pc + n, al, zi_look q.2.2.1 q.2.2.2 x.toNatClampNeg :: rest, A, nc, ns)) else none
      | _ => none)
    else bif Nat.beq r 8 && Nat.beq t 0 && zi_in x sl.length then (match sl[x.toNatClampNeg]? with
      | some v => some (.inl (pc + n, al, v :: rest, A, nc, ns))
      | none => none)
    else bif Nat.ble 4 r && Nat.ble (r + 1) 8 && Nat.beq t 2 && zi_in x (zi_sn.getD (r - 4) 0) then some (.inl (pc + n, al, .inl (.int ((zi_sb.getD (r - 4) []).getD x.toNatClampNeg 0)) :: rest, A, nc, ns)) else none
  | _ => none
/-- what may be stored: 0 any int, 1 a long, 2 an exact boolean, 3 an exact char -/
def zi_sok (t : Nat) (v : zi_V) : Bool := match t with
  | 0 => Nat.beq (zi_kd v) 0
  | 1 => Nat.beq (zi_kd v) 1
  | 2 => (match v with | .inl (.int x) => decide (narrow .boolean (.int x) = .int x) | _ => false)
  | 3 => (match v with | .inl (.int x) => decide (narrow .char (.int x) = .int x) | _ => false)
  | _ => false
noncomputable def zi_ast (t : Nat) (pc n : Nat) (al : List (Nat × zi_V)) (st : List zi_V) (A : List zi_C) (nc ns : Nat) : zi_O := match st with
  | v :: .inl (.int x) :: .inl (.ref r) :: rest => bif Nat.ble 10 r then (match A[r - 10]? with
      | some (.inr q) => bif Nat.beq q.1 t && zi_in x q.2.1 && zi_sok t v then some (.inl (pc + n, al, rest, A.set (r - 10) (.inr (q.1, q.2.1, q.2.2.1, (x.toNatClampNeg, v) :: q.2.2.2)), nc, ns)) else none
      | _ => none) else none
  | _ => none
/-- a reference into an array: null, or an object of just the array's class -/
noncomputable def zi_aso (A : List zi_C) (t : Nat) (v : zi_V) : Bool := match v with
  | .inl .null => true
  | .inl (.ref r) => Nat.ble 10 r && (match A[r - 10]? with
      | some (.inl q) => decide (some (zi_ft t) = (zi_Fs[q.1]?).map (fun z => FieldType.object z.1))
      | _ => false)
  | _ => false
noncomputable def zi_aas (pc n : Nat) (al : List (Nat × zi_V)) (st : List zi_V) (A : List zi_C) (nc ns : Nat) : zi_O := match st with
  | v :: .inl (.int x) :: .inl (.ref r) :: rest => bif Nat.ble 10 r then (match A[r - 10]? with
      | some (.inr q) => bif Nat.ble 4 q.1 && Nat.ble q.1 6 && zi_in x q.2.1 && zi_aso A q.1 v then some (.inl (pc + n, al, rest, A.set (r - 10) (.inr (q.1, q.2.1, q.2.2.1, (x.toNatClampNeg, v) :: q.2.2.2)), nc, ns)) else none
      | _ => none) else none
  | _ => none
def zi_nw (pc n : Nat) (al : List (Nat × zi_V)) (st : List zi_V) (A : List zi_C) (nc ns : Nat) (ci : Nat) : zi_O :=
  some (.inl (pc + n, al, .inl (.ref (10 + A.length)) :: st, A ++ [.inl (ci, zi_new ci)], nc + 1, ns + (zi_Fs.getD ci ("", [])).2.length))
def zi_nwa (pc n : Nat) (al : List (Nat × zi_V)) (st : List zi_V) (A : List zi_C) (nc ns : Nat) (t : Nat) : zi_O := match st with
  | .inl (.int x) :: r => bif !decide (x < 0) && Nat.ble x.toNatClampNeg 1000000 && Nat.ble t 6 then some (.inl (pc + n, al, .inl (.ref (10 + A.length)) :: r, A ++ [.inr (t, x.toNatClampNeg, zi_df t, [])], nc + 1, ns + x.toNatClampNeg)) else none
  | _ => none
noncomputable def zi_inv (call : zi_K) (pc n : Nat) (al : List (Nat × zi_V)) (st : List zi_V) (A : List zi_C) (nc ns : Nat) (mi k : Nat) : zi_O :=
  bif Nat.ble k st.length && Nat.ble (zi_cats (st.drop k)) 8 then (match call mi (st.take k).reverse A with
    | some q => (match q.1 with
      | some v => some (.inl (pc + n, al, v :: st.drop k, q.2.1, nc + q.2.2.1, ns + q.2.2.2))
      | none => some (.inl (pc + n, al, st.drop k, q.2.1, nc + q.2.2.1, ns + q.2.2.2)))
    | none => none) else none
/-- Math.max, Math.min -/
def zi_mm (z : Nat) (pc n : Nat) (al : List (Nat × zi_V)) (st : List zi_V) (A : List zi_C) (nc ns : Nat) : zi_O := match st with
  | .inl (.int y) :: .inl (.int x) :: r => some (.inl (pc + n, al, .inl (.int (match z with | 0 => (if x < y then y else x) | _ => (if y < x then y else x))) :: r, A, nc, ns))
  | _ => none
noncomputable def zi_obj (pc n : Nat) (al : List (Nat × zi_V)) (st : List zi_V) (A : List zi_C) (nc ns : Nat) : zi_O := match st with
  | .inl (.ref _) :: r => bif Nat.ble (zi_cats r) 8 then some (.inl (pc + n, al, r, A, nc, ns)) else none
  | _ => none
def zi_rk (k : Nat) (v : zi_V) : Bool := match k with
  | 0 => Nat.beq (zi_kd v) 0
  | 1 => Nat.beq (zi_kd v) 1
  | _ => Nat.ble 2 (zi_kd v)
def zi_ret (k : Nat) (ret : Option FieldType) (st : List zi_V) : zi_O := match ret, st with
  | some ty, [v] => bif zi_rok ty v && zi_rk k v then some (.inr (some v)) else none
  | _, _ => none
def zi_rtv (ret : Option FieldType) (st : List zi_V) : zi_O := match ret, st with
  | none, [] => some (.inr none)
  | _, _ => none
/-- receivers of virtual calls: objects of the callee's own class, or String constants -/
noncomputable def zi_rcv (A : List zi_C) (ci : Nat) (v : Option zi_V) : Bool := match v with
  | some (.inl (.ref r)) => bif Nat.ble 10 r then (match A[r - 10]? with
      | some (.inl q) => Nat.beq q.1 ci
      | _ => false) else Nat.ble (r + 1) 4 && Nat.beq ci 100
  | _ => false
noncomputable def zi_do (call : zi_K) (sl : List zi_V) (nL : Nat) (ret : Option FieldType) (pc : Nat) (al : List (Nat × zi_V)) (st : List zi_V) (A : List zi_C) (nc ns : Nat) (i : Instr) (n : Nat) (o : List Nat) : zi_O := match i with
  | .iconst k => zi_ps pc n al st A nc ns (.inl (.int (Int32.ofInt k)))
  | .bipush k => zi_ps pc n al st A nc ns (.inl (.int (Int8.ofInt k).toInt32))
  | .sipush k => zi_ps pc n al st A nc ns (.inl (.int (Int16.ofInt k).toInt32))
  | .lconst k => zi_ps pc n al st A nc ns (.inl (.long (Int64.ofNat k.val)))
  | .aconst_null => zi_ps pc n al st A nc ns (.inl .null)
  | .ldc _ => (match o with
      | 0 :: v :: _ => zi_ps pc n al st A nc ns (.inl (.int (Int32.ofNat v)))
      | 1 :: r :: _ => zi_ps pc n al st A nc ns (.inl (.ref r))
      | _ => none)
  | .ldc_w _ => (match o with
      | 0 :: v :: _ => zi_ps pc n al st A nc ns (.inl (.int (Int32.ofNat v)))
      | _ => none)
  | .ldc2_w _ => (match o with
      | v :: _ => zi_ps pc n al st A nc ns (.inl (.long (Int64.ofNat v)))
      | _ => none)
  | .iload k => zi_ld pc n al st A nc ns k 0
  | .iload_n k => zi_ld pc n al st A nc ns k.val 0
  | .lload k => zi_ld pc n al st A nc ns k 1
  | .lload_n k => zi_ld pc n al st A nc ns k.val 1
  | .aload k => zi_lda pc n al st A nc ns k
  | .aload_n k => zi_lda pc n al st A nc ns k.val
  | .istore k => zi_sti pc n nL al st A nc ns k
  | .istore_n k => zi_sti pc n nL al st A nc ns k.val
  | .lstore k => zi_stl pc n nL al st A nc ns k
  | .lstore_n k => zi_stl pc n nL al st A nc ns k.val
  | .astore k => zi_sta pc n nL al st A nc ns k
  | .astore_n k => zi_sta pc n nL al st A nc ns k.val
  | .iinc k d => zi_inc pc n nL al st A nc ns k d
  | .iadd => zi_ii (fun x y => x + y) pc n al st A nc ns
  | .isub => zi_ii (fun x y => x - y) pc n al st A nc ns
  | .imul => zi_ii (fun x y => x * y) pc n al st A nc ns
  | .iand => zi_ii (fun x y => x &&& y) pc n al st A nc ns
  | .ior => zi_ii (fun x y => x ||| y) pc n al st A nc ns
  | .ixor => zi_ii (fun x y => x ^^^ y) pc n al st A nc ns
  | .ishl => zi_ii (fun x y => x <<< (y &&& 31)) pc n al st A nc ns
  | .ishr => zi_ii (fun x y => x >>> (y &&& 31)) pc n al st A nc ns
  | .iushr => zi_ii (fun x y => (x.toUInt32 >>> (y.toUInt32 &&& Int32.toUInt32 31)).toInt32) pc n al st A nc ns
  | .idiv => zi_iz (fun x y => x / y) pc n al st A nc ns
  | .irem => zi_iz (fun x y => x - x / y * y) pc n al st A nc ns
  | .ladd => zi_ll (fun x y => x + y) pc n al st A nc ns
  | .lsub => zi_ll (fun x y => x - y) pc n al st A nc ns
  | .lmul => zi_ll (fun x y => x * y) pc n al st A nc ns
  | .land => zi_ll (fun x y => x &&& y) pc n al st A nc ns
  | .lor => zi_ll (fun x y => x ||| y) pc n al st A nc ns
  | .lxor => zi_ll (fun x y => x ^^^ y) pc n al st A nc ns
  | .lcmp => zi_lc pc n al st A nc ns
  | .lshl => zi_lw (fun x y => x <<< (y.toInt64 &&& 63)) pc n al st A nc ns
  | .lshr => zi_lw (fun x y => x >>> (y.toInt64 &&& 63)) pc n al st A nc ns
  | .lushr => zi_lw (fun x y => (x.toUInt64 >>> (y.toInt64.toUInt64 &&& Int64.toUInt64 63)).toInt64) pc n al st A nc ns
  | .ineg => zi_i1 (fun x => .int (-x)) pc n al st A nc ns
  | .i2l => zi_i1 (fun x => .long x.toInt64) pc n al st A nc ns
  | .i2c => zi_i1 (fun x => .int (x.toUInt32 % 65536).toInt32) pc n al st A nc ns
  | .i2b => zi_i1 (fun x => .int x.toInt8.toInt32) pc n al st A nc ns
  | .l2i => zi_l1 (fun x => .int x.toInt32) pc n al st A nc ns
  | .lneg => zi_l1 (fun x => .long (-x)) pc n al st A nc ns
  | .dup => zi_dup pc n al st A nc ns
  | .pop => zi_pop pc n al st A nc ns
  | .dup2 => zi_dup2 pc n al st A nc ns
  | .ifCond c _ => (match o with | t :: _ => zi_if1 c pc n al st A nc ns t | _ => none)
  | .if_icmp c _ => (match o with | t :: _ => zi_if2 c pc n al st A nc ns t | _ => none)
  | .goto _ => (match o with | t :: _ => some (.inl (t, al, st, A, nc, ns)) | _ => none)
  | .ifnull _ => (match o with | t :: _ => zi_nul true pc n al st A nc ns t | _ => none)
  | .ifnonnull _ => (match o with | t :: _ => zi_nul false pc n al st A nc ns t | _ => none)
  | .tableswitch _ lo hi _ => zi_tsw lo hi al st A nc ns o
  | .getfield _ => (match o with | ci :: k :: _ => zi_get pc n al st A nc ns ci k | _ => none)
  | .putfield _ => (match o with | ci :: k :: _ => zi_put pc n al st A nc ns ci k | _ => none)
  | .getstatic _ => (match o with | k :: _ => zi_gts pc n al st A nc ns k | _ => none)
  | .arraylength => zi_len sl pc n al st A nc ns
  | .iaload => zi_ald 0 sl pc n al st A nc ns
  | .laload => zi_ald 1 sl pc n al st A nc ns
  | .baload => zi_ald 2 sl pc n al st A nc ns
  | .caload => zi_ald 3 sl pc n al st A nc ns
  | .aaload => zi_ald 7 sl pc n al st A nc ns
  | .iastore => zi_ast 0 pc n al st A nc ns
  | .lastore => zi_ast 1 pc n al st A nc ns
  | .bastore => zi_ast 2 pc n al st A nc ns
  | .castore => zi_ast 3 pc n al st A nc ns
  | .aastore => zi_aas pc n al st A nc ns
  | .new _ => (match o with | ci :: _ => zi_nw pc n al st A nc ns ci | _ => none)
  | .newarray _ => (match o with | t :: _ => zi_nwa pc n al st A nc ns t | _ => none)
  | .anewarray _ => (match o with | t :: _ => zi_nwa pc n al st A nc ns t | _ => none)
  | .invokestatic _ => (match o with
      | [z] => bif Nat.ble (zi_cats st) 10 then zi_mm z pc n al st A nc ns else none
      | mi :: k :: _ => zi_inv call pc n al st A nc ns mi k
      | _ => none)
  | .invokespecial _ => (match o with
      | [] => zi_obj pc n al st A nc ns
      | mi :: k :: _ => (match st[k - 1]? with | some (.inl (.ref _)) => bif Nat.ble 1 k then zi_inv call pc n al st A nc ns mi k else none | _ => none)
      | _ => none)
  | .invokevirtual _ => (match o with | mi :: k :: ci :: _ => bif Nat.ble 1 k && zi_rcv A ci st[k - 1]? then zi_inv call pc n al st A nc ns mi k else none | _ => none)
  | .ireturn => zi_ret 0 ret st
  | .lreturn => zi_ret 1 ret st
  | .areturn => zi_ret 2 ret st
  | .return_ => zi_rtv ret st
  | _ => none
def zi_isr (i : Instr) : Bool := match i with
  | .ireturn => true
  | .lreturn => true
  | .areturn => true
  | .return_ => true
  | _ => false
noncomputable def zi_stp (call : zi_K) (sl : List zi_V) (M : zi_M) (f : zi_F) : zi_O := match zi_lk2 f.1 M.2.2.2.2.1 with
  | some e => (match zi_do call sl M.2.2.1 M.2.2.2.1 f.1 f.2.1 f.2.2.1 f.2.2.2.1 f.2.2.2.2.1 f.2.2.2.2.2 e.1 e.2.1 e.2.2 with
    | some (.inl g) => some (.inl g)
    | some (.inr v) => bif zi_isr e.1 then some (.inr v) else none
    | none => none)
  | none => none
/-- the counts only grow -/
def zi_up (f g : zi_F) : Bool := Nat.ble f.2.2.2.2.1 g.2.2.2.2.1 && Nat.ble f.2.2.2.2.2 g.2.2.2.2.2
/-- a frame's run to its return -/
noncomputable def zi_loop (call : zi_K) (M : zi_M) (n : Nat) (f : zi_F) : Option zi_R := Nat.rec (motive := fun _ => zi_F → Option zi_R) (fun _ => none) (fun _ ih f => match zi_stp call [] M f with
  | some (.inl g) => bif zi_up f g then ih g else none
  | some (.inr v) => some (v, f.2.2.2.1, f.2.2.2.2.1, f.2.2.2.2.2)
  | none => none) n f
noncomputable def zi_ev (Ms : List zi_M) (n d : Nat) : zi_K := Nat.rec (motive := fun _ => zi_K) (fun _ _ _ => none) (fun _ ih mi vs A => match Ms[mi]? with
  | some M => bif Nat.ble (zi_cats vs) M.2.2.1 then zi_loop ih M n (0, zi_ent 0 vs, [], A, 0, 0) else none
  | none => none) d
/-- so many steps of a frame -/
noncomputable def zi_run (call : zi_K) (sl : List zi_V) (M : zi_M) (n : Nat) (f : zi_F) : Option zi_F := Nat.rec (motive := fun _ => zi_F → Option zi_F) (fun f => some f) (fun _ ih f => match zi_stp call sl M f with
  | some (.inl g) => bif zi_up f g then ih g else none
  | _ => none) n f
end
section
/-! The relation between abstract and concrete states. -/
theorem zi_F2_cons {α β : Type} {r : α → β → Prop} {a : α} {as : List α} {l : List β} (h : zi_F2 r (a :: as) l) : ∃ b bs, l = b :: bs ∧ r a b ∧ zi_F2 r as bs := by
  cases l with
  | nil => exact h.elim
  | cons b bs => exact ⟨b, bs, rfl, h.1, h.2⟩
theorem zi_F2_nil {α β : Type} {r : α → β → Prop} {l : List β} (h : zi_F2 r ([] : List α) l) : l = [] := by
  cases l with
  | nil => rfl
  | cons b bs => exact h.elim
theorem zi_F2_len {α β : Type} {r : α → β → Prop} : ∀ {as : List α} {bs : List β}, zi_F2 r as bs → as.length = bs.length
  | [], [], _ => rfl
  | _ :: _, _ :: _, h => by simp [zi_F2_len h.2]
  | [], _ :: _, h => h.elim
  | _ :: _, [], h => h.elim
theorem zi_F2_get {α β : Type} {r : α → β → Prop} : ∀ {as : List α} {bs : List β}, zi_F2 r as bs → ∀ {i : Nat} {a : α}, as[i]? = some a → ∃ b, bs[i]? = some b ∧ r a b
  | [], _, _, _, _, h => by simp at h
  | _ :: _, [], h, _, _, _ => h.elim
  | a :: as, b :: bs, h, 0, x, hx => by
    have e : a = x := by simpa using hx
    rw [← e]
    exact ⟨b, rfl, h.1⟩
  | a :: as, b :: bs, h, i + 1, x, hx => by
    obtain ⟨y, hy, hr⟩ := zi_F2_get h.2 (i := i) (a := x) (by simpa using hx)
    exact ⟨y, by simpa using hy, hr⟩
theorem zi_F2_mono {α β : Type} {r r' : α → β → Prop} (hr : ∀ a b, r a b → r' a b) : ∀ {as : List α} {bs : List β}, zi_F2 r as bs → zi_F2 r' as bs
  | [], [], _ => trivial
  | _ :: _, _ :: _, h => ⟨hr _ _ h.1, zi_F2_mono hr h.2⟩
  | [], _ :: _, h => h.elim
  | _ :: _, [], h => h.elim
theorem zi_F2_set {α β : Type} {r : α → β → Prop} {a : α} {b : β} (hab : r a b) : ∀ {as : List α} {bs : List β}, zi_F2 r as bs → ∀ i : Nat, zi_F2 r (as.set i a) (bs.set i b)
  | [], [], _, _ => by simp [zi_F2]
  | _ :: _, _ :: _, h, 0 => ⟨hab, h.2⟩
  | _ :: _, _ :: _, h, i + 1 => ⟨h.1, zi_F2_set hab h.2 i⟩
  | [], _ :: _, h, _ => h.elim
  | _ :: _, [], h, _ => h.elim
theorem zi_F2_app {α β : Type} {r : α → β → Prop} : ∀ {as : List α} {bs : List β}, zi_F2 r as bs → ∀ {cs : List α} {ds : List β}, zi_F2 r cs ds → zi_F2 r (as ++ cs) (bs ++ ds)
  | [], [], _, _, _, h => h
  | _ :: _, _ :: _, h, _, _, h2 => ⟨h.1, zi_F2_app h.2 h2⟩
  | [], _ :: _, h, _, _, _ => h.elim
  | _ :: _, [], h, _, _, _ => h.elim
theorem zi_F2_take {α β : Type} {r : α → β → Prop} : ∀ {as : List α} {bs : List β}, zi_F2 r as bs → ∀ k : Nat, zi_F2 r (as.take k) (bs.take k)
  | [], [], _, k => by simp [zi_F2]
  | _ :: _, _ :: _, _, 0 => by simp [zi_F2]
  | _ :: _, _ :: _, h, k + 1 => ⟨h.1, zi_F2_take h.2 k⟩
  | [], _ :: _, h, _ => h.elim
  | _ :: _, [], h, _ => h.elim
theorem zi_F2_drop {α β : Type} {r : α → β → Prop} : ∀ {as : List α} {bs : List β}, zi_F2 r as bs → ∀ k : Nat, zi_F2 r (as.drop k) (bs.drop k)
  | [], [], _, k => by simp [zi_F2]
  | _ :: _, _ :: _, h, 0 => h
  | _ :: _, _ :: _, h, k + 1 => zi_F2_drop h.2 k
  | [], _ :: _, h, _ => h.elim
  | _ :: _, [], h, _ => h.elim
theorem zi_F2_rev {α β : Type} {r : α → β → Prop} : ∀ {as : List α} {bs : List β}, zi_F2 r as bs → zi_F2 r as.reverse bs.reverse
  | [], [], _ => trivial
  | a :: as, b :: bs, h => by
    rw [List.reverse_cons, List.reverse_cons]
    exact zi_F2_app (zi_F2_rev h.2) ⟨h.1, trivial⟩
  | [], _ :: _, h => h.elim
  | _ :: _, [], h => h.elim
/-- the address of an abstract place: 4 Strings, their 4 byte rows, the script, none, the cells that were made -/
def zi_ad (adK adV : Nat → Nat) (b : Nat) (ws : va_W) (i : Nat) : Option Nat := if i < 4 then some (adK i) else if i < 8 then some (adV (i - 4)) else if i = 8 then some b else if i = 9 then none else (ws[i - 10]?).map (fun q => q.1)
def zi_vr (ad : Nat → Option Nat) (v : zi_V) (w : Value) : Prop := match v with
  | .inl (.int x) => w = .int x
  | .inl (.long x) => w = .long x
  | .inl .null => w = .null
  | .inl (.ref i) => ∃ a, ad i = some a ∧ w = .ref a
  | .inl (.retAddr _) => w = .null ∨ ∃ a, w = .ref a
  | .inl (.float _) => False
  | .inl (.double _) => False
  | .inr q => ∃ x, w = .int x ∧ q.1 ≤ x ∧ x ≤ q.2
def zi_ar (ad : Nat → Option Nat) (dA : Nat → ClassId) (t n : Nat) (d : zi_V) (us : List (Nat × zi_V)) (e : va_E) : Prop := match zi_tk t with
  | 0 => ∃ f : Nat → Int32, e = .inl (dA t, n, .inl f) ∧ ∀ j, j < n → zi_vr ad (zi_look d us j) (.int (f j))
  | 1 => ∃ f : Nat → Int64, e = .inl (dA t, n, .inr (.inl f)) ∧ ∀ j, j < n → zi_vr ad (zi_look d us j) (.long (f j))
  | _ => ∃ f : Nat → Option Nat, e = .inl (dA t, n, .inr (.inr (.inr (.inr f)))) ∧ ∀ j, j < n → zi_vr ad (zi_look d us j) (va_rf (f j))
def zi_cr (ad : Nat → Option Nat) (dA : Nat → ClassId) (c : zi_C) (q : Nat × va_E) : Prop := match c with
  | .inl (ci, fs) => ∃ vs, q.2 = .inr (ci, vs) ∧ zi_F2 (zi_vr ad) fs vs
  | .inr (t, n, d, us) => zi_ar ad dA t n d us q.2
def zi_mo (ad ad' : Nat → Option Nat) : Prop := ∀ i a, ad i = some a → ad' i = some a
theorem zi_vr_mo {ad ad' : Nat → Option Nat} (h : zi_mo ad ad') {v : zi_V} {w : Value} (hv : zi_vr ad v w) : zi_vr ad' v w := by
  unfold zi_vr at hv ⊢
  split at hv <;> first | exact hv | (obtain ⟨a, h1, h2⟩ := hv; exact ⟨a, h _ _ h1, h2⟩)
theorem zi_cr_mo {ad ad' : Nat → Option Nat} (h : zi_mo ad ad') {dA : Nat → ClassId} {c : zi_C} {q : Nat × va_E} (hc : zi_cr ad dA c q) : zi_cr ad' dA c q := by
  unfold zi_cr at hc ⊢
  split at hc
  · obtain ⟨vs, h1, h2⟩ := hc
    exact ⟨vs, h1, zi_F2_mono (fun _ _ => zi_vr_mo h) h2⟩
  · unfold zi_ar at hc ⊢
    split at hc <;> (obtain ⟨f, h1, h2⟩ := hc; exact ⟨f, h1, fun j hj => zi_vr_mo h (h2 j hj)⟩)
theorem zi_mo_refl {ad : Nat → Option Nat} : zi_mo ad ad := fun _ _ h => h
def zi_ex (ws ws' : va_W) : Prop := ∀ (i q : Nat) (e : va_E), ws[i]? = some (q, e) → ∃ e', ws'[i]? = some (q, e')
theorem zi_ex_refl (ws : va_W) : zi_ex ws ws := fun _ _ e h => ⟨e, h⟩
theorem zi_ex_trans {a b c : va_W} (h1 : zi_ex a b) (h2 : zi_ex b c) : zi_ex a c := fun i q e h => by
  obtain ⟨e', h'⟩ := h1 i q e h
  exact h2 i q e' h'
theorem zi_ex_mo {adK adV : Nat → Nat} {b : Nat} {ws ws' : va_W} (h : zi_ex ws ws') : zi_mo (zi_ad adK adV b ws) (zi_ad adK adV b ws') := by
  intro i a hi
  unfold zi_ad at hi ⊢
  by_cases h1 : i < 4
  · rw [if_pos h1] at hi ⊢; exact hi
  · by_cases h2 : i < 8
    · rw [if_neg h1, if_pos h2] at hi ⊢; exact hi
    · by_cases h3 : i = 8
      · rw [if_neg h1, if_neg h2, if_pos h3] at hi ⊢; exact hi
      · by_cases h4 : i = 9
        · rw [if_neg h1, if_neg h2, if_neg h3, if_pos h4] at hi; cases hi
        · rw [if_neg h1, if_neg h2, if_neg h3, if_neg h4] at hi ⊢
          cases hw : ws[i - 10]? with
          | none => rw [hw] at hi; cases hi
          | some q =>
            rw [hw] at hi
            have e1 : q.1 = a := Option.some.inj hi
            obtain ⟨e', h'⟩ := h (i - 10) q.1 q.2 hw
            rw [h', e1.symm]; rfl
theorem zi_ex_set {ws : va_W} {k a : Nat} {e e' : va_E} (h : ws[k]? = some (a, e)) : zi_ex ws (ws.set k (a, e')) := by
  intro i q x hx
  by_cases hik : i = k
  · subst hik
    rw [h] at hx
    cases hx
    have hl : i < ws.length := (List.getElem?_eq_some_iff.mp h).1
    exact ⟨e', by simp [hl]⟩
  · exact ⟨x, by rw [List.getElem?_set_ne (fun z => hik z.symm)]; exact hx⟩
theorem zi_ex_app {ws l : va_W} : zi_ex ws (ws ++ l) := by
  intro i q x hx
  have hl : i < ws.length := (List.getElem?_eq_some_iff.mp hx).1
  exact ⟨x, by rw [List.getElem?_append_left hl]; exact hx⟩
theorem zi_ad_own {adK adV : Nat → Nat} {b : Nat} {ws : va_W} {r a : Nat} (hr : 10 ≤ r) (h : zi_ad adK adV b ws r = some a) : ∃ e, ws[r - 10]? = some (a, e) := by
  unfold zi_ad at h
  rw [if_neg (by omega), if_neg (by omega), if_neg (by omega), if_neg (by omega)] at h
  cases hw : ws[r - 10]? with
  | none => rw [hw] at h; cases h
  | some q => rw [hw] at h; exact ⟨q.2, by rw [← Option.some.inj h]⟩
theorem zi_ad_str {adK adV : Nat → Nat} {b : Nat} {ws : va_W} {r a : Nat} (hr : r < 4) (h : zi_ad adK adV b ws r = some a) : a = adK r := by
  unfold zi_ad at h
  rw [if_pos hr] at h
  exact (Option.some.inj h).symm
theorem zi_ad_byt {adK adV : Nat → Nat} {b : Nat} {ws : va_W} {r a : Nat} (h4 : 4 ≤ r) (hr : r < 8) (h : zi_ad adK adV b ws r = some a) : a = adV (r - 4) := by
  unfold zi_ad at h
  rw [if_neg (by omega), if_pos hr] at h
  exact (Option.some.inj h).symm
theorem zi_ad_scr {adK adV : Nat → Nat} {b : Nat} {ws : va_W} {a : Nat} (h : zi_ad adK adV b ws 8 = some a) : a = b := by
  unfold zi_ad at h
  exact (Option.some.inj h).symm
theorem zi_vr_cat {ad : Nat → Option Nat} {v : zi_V} {w : Value} (h : zi_vr ad v w) : w.category = zi_cat v := by
  unfold zi_vr at h
  split at h
  · subst h; rfl
  · subst h; rfl
  · subst h; rfl
  · obtain ⟨a, -, rfl⟩ := h; rfl
  · rcases h with rfl | ⟨a, rfl⟩ <;> rfl
  · exact h.elim
  · exact h.elim
  · obtain ⟨x, rfl, -, -⟩ := h; rfl
theorem zi_vr_int {ad : Nat → Option Nat} {v : zi_V} {w : Value} (h : zi_vr ad v w) (hk : zi_kd v = 0) : ∃ x, w = .int x := by
  unfold zi_vr at h
  split at h
  · exact ⟨_, h⟩
  · cases hk
  · cases hk
  · cases hk
  · cases hk
  · exact h.elim
  · exact h.elim
  · obtain ⟨x, e, -, -⟩ := h; exact ⟨x, e⟩
theorem zi_vr_long {ad : Nat → Option Nat} {v : zi_V} {w : Value} (h : zi_vr ad v w) (hk : zi_kd v = 1) : ∃ x, w = .long x := by
  unfold zi_vr at h
  split at h
  · cases hk
  · exact ⟨_, h⟩
  · cases hk
  · cases hk
  · cases hk
  · exact h.elim
  · exact h.elim
  · cases hk
theorem zi_vr_ref {ad : Nat → Option Nat} {v : zi_V} {w : Value} (h : zi_vr ad v w) (hk : 2 ≤ zi_kd v) : w = .null ∨ ∃ a, w = .ref a := by
  unfold zi_vr at h
  split at h
  · exact absurd hk (by simp [zi_kd])
  · exact absurd hk (by simp [zi_kd])
  · exact Or.inl h
  · obtain ⟨a, -, e⟩ := h; exact Or.inr ⟨a, e⟩
  · exact h
  · exact h.elim
  · exact h.elim
  · exact absurd hk (by simp [zi_kd])
theorem zi_vr_iv {ad : Nat → Option Nat} {v : zi_V} {w : Value} (h : zi_vr ad v w) {q : Int32 × Int32} (hq : zi_iv v = some q) : ∃ x, w = .int x ∧ q.1 ≤ x ∧ x ≤ q.2 := by
  unfold zi_vr at h
  split at h
  · cases hq; exact ⟨_, h, Int32.le_refl _, Int32.le_refl _⟩
  · cases hq
  · cases hq
  · cases hq
  · cases hq
  · exact h.elim
  · exact h.elim
  · cases hq; exact h
/-- the locals -/
def zi_lr (ad : Nat → Option Nat) (p : Nat × zi_V) (q : Nat × Value) : Prop := p.1 = q.1 ∧ zi_vr ad p.2 q.2
theorem zi_loc_get {ad : Nat → Option Nat} {i : Nat} {v : zi_V} : ∀ {al : List (Nat × zi_V)} {lv : List (Nat × Value)}, zi_F2 (zi_lr ad) al lv → zi_loc al i = some v → ∃ (k : Nat) (w : Value), lv[k]? = some (i, w) ∧ zi_vr ad v w
  | [], _, _, h => by cases h
  | _ :: _, [], h, _ => h.elim
  | p :: al, q :: lv, h, hv => by
    have hv : (bif Nat.beq p.1 i then some p.2 else zi_loc al i) = some v := hv
    cases hb : Nat.beq p.1 i with
    | true =>
      rw [hb] at hv
      have e1 : p.2 = v := Option.some.inj hv
      have e2 : p.1 = i := Nat.eq_of_beq_eq_true hb
      exact ⟨0, q.2, by rw [← e2, h.1.1]; rfl, by rw [← e1]; exact h.1.2⟩
    | false =>
      rw [hb] at hv
      obtain ⟨k, w, h1, h2⟩ := zi_loc_get h.2 hv
      exact ⟨k + 1, w, by simpa using h1, h2⟩
theorem zi_beq (a b : Nat) : Nat.beq a b = (a == b) := by
  cases h : Nat.beq a b with
  | true => rw [Nat.eq_of_beq_eq_true h]; simp
  | false =>
    have := Nat.ne_of_beq_eq_false h
    simp [this]
theorem zi_del1_ok {ad : Nat → Option Nat} (i : Nat) : ∀ {al : List (Nat × zi_V)} {lv : List (Nat × Value)}, zi_F2 (zi_lr ad) al lv → zi_F2 (zi_lr ad) (zi_del1 i al) (lv.filter (fun q => !(q.1 == i) && !(q.1 + 1 == i && q.2.category == 2)))
  | [], [], _ => trivial
  | [], _ :: _, h => h.elim
  | _ :: _, [], h => h.elim
  | p :: al, q :: lv, h => by
    have ih := zi_del1_ok i h.2
    have e1 : zi_del1 i (p :: al) = bif (!(Nat.beq p.1 i) && !(Nat.beq (p.1 + 1) i && Nat.beq (zi_cat p.2) 2)) then p :: zi_del1 i al else zi_del1 i al := rfl
    have e2 : (!(Nat.beq p.1 i) && !(Nat.beq (p.1 + 1) i && Nat.beq (zi_cat p.2) 2)) = (!(q.1 == i) && !(q.1 + 1 == i && q.2.category == 2)) := by
      rw [zi_beq, zi_beq, zi_beq, h.1.1, zi_vr_cat h.1.2]
    rw [e1, e2, List.filter_cons]
    cases (!(q.1 == i) && !(q.1 + 1 == i && q.2.category == 2)) with
    | true => exact ⟨h.1, ih⟩
    | false => exact ih
theorem zi_del2_ok {ad : Nat → Option Nat} (i : Nat) : ∀ {al : List (Nat × zi_V)} {lv : List (Nat × Value)}, zi_F2 (zi_lr ad) al lv → zi_F2 (zi_lr ad) (zi_del2 i al) (lv.filter (fun q => !(q.1 == i) && (!(q.1 == i + 1) && !(q.1 + 1 == i && q.2.category == 2))))
  | [], [], _ => trivial
  | [], _ :: _, h => h.elim
  | _ :: _, [], h => h.elim
  | p :: al, q :: lv, h => by
    have ih := zi_del2_ok i h.2
    have e1 : zi_del2 i (p :: al) = bif (!(Nat.beq p.1 i) && (!(Nat.beq p.1 (i + 1)) && !(Nat.beq (p.1 + 1) i && Nat.beq (zi_cat p.2) 2))) then p :: zi_del2 i al else zi_del2 i al := rfl
    have e2 : (!(Nat.beq p.1 i) && (!(Nat.beq p.1 (i + 1)) && !(Nat.beq (p.1 + 1) i && Nat.beq (zi_cat p.2) 2))) = (!(q.1 == i) && (!(q.1 == i + 1) && !(q.1 + 1 == i && q.2.category == 2))) := by
      rw [zi_beq, zi_beq, zi_beq, zi_beq, h.1.1, zi_vr_cat h.1.2]
    rw [e1, e2, List.filter_cons]
    cases (!(q.1 == i) && (!(q.1 == i + 1) && !(q.1 + 1 == i && q.2.category == 2))) with
    | true => exact ⟨h.1, ih⟩
    | false => exact ih
theorem zi_ent_ok {ad : Nat → Option Nat} : ∀ {vs : List zi_V} {ws : List Value}, zi_F2 (zi_vr ad) vs ws → ∀ i : Nat, zi_F2 (zi_lr ad) (zi_ent i vs) (lv_args i ws)
  | [], [], _, _ => trivial
  | [], _ :: _, h, _ => h.elim
  | _ :: _, [], h, _ => h.elim
  | v :: vs, w :: ws, h, i => by
    have e1 : zi_ent i (v :: vs) = (i, v) :: zi_ent (i + zi_cat v) vs := rfl
    have e2 : lv_args i (w :: ws) = (i, w) :: lv_args (i + zi_cat v) ws := by
      have hc := zi_vr_cat h.1
      rcases lv_cat w with h1 | h1
      · rw [lv_args, if_neg (by omega), ← hc, h1]
      · rw [lv_args, if_pos h1, ← hc, h1]
    rw [e1, e2]
    exact ⟨⟨rfl, h.1⟩, zi_ent_ok h.2 _⟩
theorem zi_cats_ok {ad : Nat → Option Nat} : ∀ {vs : List zi_V} {ws : List Value}, zi_F2 (zi_vr ad) vs ws → (ws.map fun v => v.category).sum = zi_cats vs
  | [], [], _ => rfl
  | [], _ :: _, h => h.elim
  | _ :: _, [], h => h.elim
  | v :: vs, w :: ws, h => by
    have e1 : zi_cats (v :: vs) = zi_cat v + zi_cats vs := rfl
    rw [e1, List.map_cons, List.sum_cons, zi_cats_ok h.2, zi_vr_cat h.1]
theorem zi_ilt (a b : Int32) : a < b ↔ a.toInt < b.toInt := Int32.lt_iff_toInt_lt
theorem zi_ile (a b : Int32) : a ≤ b ↔ a.toInt ≤ b.toInt := Int32.le_iff_toInt_le
theorem zi_ieq (a b : Int32) : a = b ↔ a.toInt = b.toInt := Int32.toInt_inj.symm
theorem zi_test_eq {x y : Int32} {a b : Int32 × Int32} (ha : a.1 ≤ x ∧ x ≤ a.2) (hb : b.1 ≤ y ∧ y ≤ b.2) {r : Bool} (h : zi_eq a b = some r) : (x = y) ↔ r = true := by
  have hx := (zi_ile _ _).mp ha.1
  have hx' := (zi_ile _ _).mp ha.2
  have hy := (zi_ile _ _).mp hb.1
  have hy' := (zi_ile _ _).mp hb.2
  rw [zi_ieq]
  unfold zi_eq at h
  cases h1 : (decide (a.2 < b.1) || decide (b.2 < a.1)) with
  | true =>
    rw [h1] at h
    cases h
    simp only [Bool.or_eq_true, decide_eq_true_eq, zi_ilt] at h1
    constructor
    · intro e; omega
    · intro e; cases e
  | false =>
    rw [h1] at h
    cases h2 : (decide (a.1 = a.2) && decide (b.1 = b.2) && decide (a.1 = b.1)) with
    | true =>
      rw [h2] at h
      cases h
      simp only [Bool.and_eq_true, decide_eq_true_eq, zi_ieq] at h2
      constructor
      · intro _; rfl
      · intro _; omega
    | false => rw [h2] at h; cases h
theorem zi_test_lt {x y : Int32} {a b : Int32 × Int32} (ha : a.1 ≤ x ∧ x ≤ a.2) (hb : b.1 ≤ y ∧ y ≤ b.2) {r : Bool} (h : zi_lt a b = some r) : (x < y) ↔ r = true := by
  have hx := (zi_ile _ _).mp ha.1
  have hx' := (zi_ile _ _).mp ha.2
  have hy := (zi_ile _ _).mp hb.1
  have hy' := (zi_ile _ _).mp hb.2
  rw [zi_ilt]
  unfold zi_lt at h
  cases h1 : decide (a.2 < b.1) with
  | true =>
    rw [h1] at h
    cases h
    simp only [decide_eq_true_eq, zi_ilt] at h1
    constructor
    · intro _; rfl
    · intro _; omega
  | false =>
    rw [h1] at h
    cases h2 : decide (b.2 ≤ a.1) with
    | true =>
      rw [h2] at h
      cases h
      simp only [decide_eq_true_eq, zi_ile] at h2
      constructor
      · intro e; omega
      · intro e; cases e
    | false => rw [h2] at h; cases h
theorem zi_test_le {x y : Int32} {a b : Int32 × Int32} (ha : a.1 ≤ x ∧ x ≤ a.2) (hb : b.1 ≤ y ∧ y ≤ b.2) {r : Bool} (h : zi_le a b = some r) : (x ≤ y) ↔ r = true := by
  have hx := (zi_ile _ _).mp ha.1
  have hx' := (zi_ile _ _).mp ha.2
  have hy := (zi_ile _ _).mp hb.1
  have hy' := (zi_ile _ _).mp hb.2
  rw [zi_ile]
  unfold zi_le at h
  cases h1 : decide (a.2 ≤ b.1) with
  | true =>
    rw [h1] at h
    cases h
    simp only [decide_eq_true_eq, zi_ile] at h1
    constructor
    · intro _; rfl
    · intro _; omega
  | false =>
    rw [h1] at h
    cases h2 : decide (b.2 < a.1) with
    | true =>
      rw [h2] at h
      cases h
      simp only [decide_eq_true_eq, zi_ilt] at h2
      constructor
      · intro e; omega
      · intro e; cases e
    | false => rw [h2] at h; cases h
end
section
/-! What holds throughout a frame; what a step is to give; steps that touch the stack and the locals alone. -/
def zi_gd : List Cond := lw_tbl.filter goodWord
def zi_at (q : Nat) (w : Cond) : Bool := decide (lw_tbl[q]? = some w) && goodWord w
theorem zi_at_mem {q : Nat} {w : Cond} (h : zi_at q w = true) : w ∈ zi_gd := by
  unfold zi_at at h
  rw [Bool.and_eq_true, decide_eq_true_eq] at h
  exact List.mem_filter.mpr ⟨List.mem_of_getElem? h.1, h.2⟩
def zi_tys (dA : Nat → ClassId) : List (ClassId × FieldType) := (List.range 7).map (fun t => (dA t, zi_ft t))
theorem zi_tys_at (dA : Nat → ClassId) {t : Nat} (h : t < 7) : (zi_tys dA)[t]? = some (dA t, zi_ft t) := by
  unfold zi_tys
  rw [List.getElem?_map, List.getElem?_range h]
  rfl
/-- what a state gives: the classes, the Strings, the statics, the words of the nest -/
def zi_X (B0 : Nat) (D : va_G) (dA : Nat → ClassId) (adK adV : Nat → Nat) (U : State) : Prop :=
  va_K D zi_cl (zi_tys dA) U ∧ vk_S 4 zi_sn zi_sb adK adV (fun q => B0 ≤ q) U U.heap ∧ (∀ (i : Nat) (q : String × Nat × String), zi_sr[i]? = some q → vk_R q.1 q.2.1 q.2.2 (adK i) U) ∧
  va_Z "java/lang/String" "COMPACT_STRINGS" "Z" (.int 1) (fun q => B0 ≤ q) U U.heap ∧ va_Zq "jdk/internal/util/Preconditions" "SIOOBE_FORMATTER" "Ljava/util/function/BiFunction;" (fun q => B0 ≤ q) U U.heap ∧
  (∀ q ∈ zi_nest, va_Nw (.methodLinkNest q.1 q.2.1 q.2.2.1 q.2.2.2) U) ∧ (va_AO "AgreeTold$FutureSet" U ∧ va_AO "AgreeTold$Story" U ∧ va_AO "AgreeTold$Saying" U) ∧ B0 ≤ U.heap.size
theorem zi_X_mv {B0 : Nat} {D : va_G} {dA : Nat → ClassId} {adK adV : Nat → Nat} {s U : State} {H : Heap} {locs : List Loc} (h : zi_X B0 D dA adK adV s) (hW : s.WarmedH U.vm) (hU : U.heap = H) (hS : va_S (fun q => B0 ≤ q) s.heap H locs) : zi_X B0 D dA adK adV U := by
  obtain ⟨h1, h2, h3, h4, h5, h6, h7, h8⟩ := h
  subst hU
  exact ⟨va_K.moved hW.alike h1, vk_S.moved hW.alike (h2.kept hS.2.1), fun i q hq => vk_R.warm hW (h3 i q hq), va_Z.moved hW.alike (h4.kept hS.2.1), va_Zq.moved hW.alike (h5.kept hS.2.1), fun q hq => va_Nw.warmM hW (h6 q hq), ⟨va_AO.moved hW.alike h7.1, va_AO.moved hW.alike h7.2.1, va_AO.moved hW.alike h7.2.2⟩, Nat.le_trans h8 hS.1⟩
theorem zi_X_cl {B0 : Nat} {D : va_G} {dA : Nat → ClassId} {adK adV : Nat → Nat} {U : State} {g : JFrame} {mk : MethodId} {a : Array Value} (h : zi_X B0 D dA adK adV U) : zi_X B0 D dA adK adV (U.calling g mk a) :=
  zi_X_mv (locs := []) h (U := U.calling g mk a) (State.WarmedH.refl U) rfl va_S.rf
def zi_Cx (p : Program) (R : Room) (s : State) (m : MethodId) (args : Array Value) (meth : Method) (c : Code) (B0 : Nat) (D : va_G) (dA : Nat → ClassId) (adK adV : Nat → Nat) (b : Nat) (M : zi_M) (d : Nat) (sl : List zi_V) : Prop :=
  (p.tables.exec = Jvm.exec ∧ c.code = M.2.1 ∧ c.maxLocals = M.2.2.1 ∧ meth.sig.returnType = M.2.2.2.1 ∧ s.vm.findClass M.1.cls = some m.cls ∧ (∀ w ∈ zi_gd, w.before args s = true) ∧ meth.locks = false ∧ meth.name = M.1.name) ∧ zi_X B0 D dA adK adV s ∧ (d + 1 ≤ R.frames ∧ 60 * (d + 1) ≤ R.locals) ∧
  (sl = [] ∨ ∃ xs : Nat → Int32, va_X b sl.length xs s s.heap ∧ b < s.heap.size ∧ b < B0 ∧ ∀ (ad : Nat → Option Nat) (j : Nat) (v : zi_V), sl[j]? = some v → zi_vr ad v (.int (xs j)))
def zi_St (B0 : Nat) (D : va_G) (dA : Nat → ClassId) (adK adV : Nat → Nat) (b nL : Nat) (s : State) (f : zi_F) (ws : va_W) (H : Heap) (locs : List Loc) (ls : Array Slot) (sc : List Value) : Prop :=
  va_P D zi_cl ws H ∧ va_D (fun q => B0 ≤ q) ws ∧ va_S (fun q => B0 ≤ q) s.heap H locs ∧ zi_F2 (zi_cr (zi_ad adK adV b ws) dA) f.2.2.2.1 ws ∧ (∃ lv, lv_has ls nL lv ∧ zi_F2 (zi_lr (zi_ad adK adV b ws)) f.2.1 lv) ∧ zi_F2 (zi_vr (zi_ad adK adV b ws)) f.2.2.1 sc
abbrev zi_W (p : Program) (l : Launch) (e : Env) (R : Room) (s : State) (m : MethodId) (args : Array Value) (below : List Frame) (meth : Method) (c : Code) (Q : State → Prop) (nc ns pc : Nat) (H : Heap) (locs : List Loc) (ls : Array Slot) (sc : List Value) : Prop := W p l e R s m args below meth c H locs nc ns Q (F0 m pc ls sc)
def zi_Go (p : Program) (l : Launch) (e : Env) (R : Room) (s : State) (m : MethodId) (args : Array Value) (below : List Frame) (meth : Method) (c : Code) (B0 : Nat) (D : va_G) (dA : Nat → ClassId) (adK adV : Nat → Nat) (b nL : Nat) (f g : zi_F) : Prop :=
  ∀ (Q : State → Prop) (ws : va_W) (H : Heap) (locs : List Loc) (ls : Array Slot) (sc : List Value), zi_St B0 D dA adK adV b nL s f ws H locs ls sc → g.2.2.2.2.1 ≤ R.cells → g.2.2.2.2.2 ≤ R.slots →
    (∀ (ws' : va_W) (H' : Heap) (locs' : List Loc) (ls' : Array Slot) (sc' : List Value), zi_ex ws ws' → zi_St B0 D dA adK adV b nL s g ws' H' locs' ls' sc' → zi_W p l e R s m args below meth c Q g.2.2.2.2.1 g.2.2.2.2.2 g.1 H' locs' ls' sc') →
    zi_W p l e R s m args below meth c Q f.2.2.2.2.1 f.2.2.2.2.2 f.1 H locs ls sc
section ZG
variable {p : Program} {l : Launch} {e : Env} {R : Room} {s : State} {m : MethodId} {args : Array Value} {below : List Frame} {meth : Method} {c : Code} {B0 : Nat} {D : va_G} {dA : Nat → ClassId} {adK adV : Nat → Nat} {b nL : Nat}
variable {pc n : Nat} {al : List (Nat × zi_V)} {st : List zi_V} {A : List zi_C} {nc ns : Nat} {g : zi_F}
theorem zi_Go.tr {f g h : zi_F} (hm : g.2.2.2.2.1 ≤ h.2.2.2.2.1 ∧ g.2.2.2.2.2 ≤ h.2.2.2.2.2) (h1 : zi_Go p l e R s m args below meth c B0 D dA adK adV b nL f g) (h2 : zi_Go p l e R s m args below meth c B0 D dA adK adV b nL g h) : zi_Go p l e R s m args below meth c B0 D dA adK adV b nL f h := by
  intro Q ws H locs ls sc hS hc hs kk
  refine h1 Q ws H locs ls sc hS (Nat.le_trans hm.1 hc) (Nat.le_trans hm.2 hs) ?_
  intro ws' H' locs' ls' sc' hex hS'
  refine h2 Q ws' H' locs' ls' sc' hS' hc hs ?_
  intro ws2 H2 locs2 ls2 sc2 hex2 hS2
  exact kk ws2 H2 locs2 ls2 sc2 (zi_ex_trans hex hex2) hS2
theorem zi_Go.refl (f : zi_F) : zi_Go p l e R s m args below meth c B0 D dA adK adV b nL f f := fun _ ws H locs ls sc hS _ _ kk => kk ws H locs ls sc (zi_ex_refl ws) hS
end ZG
end
section
/-! Steps that touch the stack and the locals alone. -/
section ZS
variable {p : Program} {l : Launch} {e : Env} {R : Room} {s : State} {m : MethodId} {args : Array Value} {below : List Frame} {meth : Method} {c : Code} {B0 : Nat} {D : va_G} {dA : Nat → ClassId} {adK adV : Nat → Nat} {b nL : Nat}
variable {pc n : Nat} {al : List (Nat × zi_V)} {st : List zi_V} {A : List zi_C} {nc ns : Nat} {g : zi_F}
/-- a value comes onto the stack -/
theorem zi_go_ps {v : zi_V} {w : Value} (hw : ∀ ws, zi_vr (zi_ad adK adV b ws) v w) (row : ∀ (Q : State → Prop) (H : Heap) (locs : List Loc) (ls : Array Slot) (sc : List Value), zi_W p l e R s m args below meth c Q nc ns (pc + n) H locs ls (w :: sc) → zi_W p l e R s m args below meth c Q nc ns pc H locs ls sc) (h : zi_ps pc n al st A nc ns v = some (.inl g)) : zi_Go p l e R s m args below meth c B0 D dA adK adV b nL (pc, al, st, A, nc, ns) g := by
  cases h
  intro Q ws H locs ls sc hS _ _ kk
  obtain ⟨h1, h2, h3, h4, h5, h6⟩ := hS
  exact row Q H locs ls sc (kk ws H locs ls (w :: sc) (zi_ex_refl ws) ⟨h1, h2, h3, h4, h5, ⟨hw ws, h6⟩⟩)
/-- a local's value -/
theorem zi_go_ld {i k : Nat} (row : ∀ (Q : State → Prop) (H : Heap) (locs : List Loc) (ls : Array Slot) (sc : List Value) (w : Value), ls[i]? = some (.val w) → (k = 0 → ∃ x, w = .int x) → (k = 1 → ∃ x, w = .long x) → zi_W p l e R s m args below meth c Q nc ns (pc + n) H locs ls (w :: sc) → zi_W p l e R s m args below meth c Q nc ns pc H locs ls sc) (hk : k < 2) (h : zi_ld pc n al st A nc ns i k = some (.inl g)) : zi_Go p l e R s m args below meth c B0 D dA adK adV b nL (pc, al, st, A, nc, ns) g := by
  unfold zi_ld at h
  cases hv : zi_loc al i with
  | none => rw [hv] at h; cases h
  | some v =>
    rw [hv] at h
    dsimp only at h
    cases hb : Nat.beq (zi_kd v) k with
    | false => rw [hb] at h; cases h
    | true =>
      rw [hb] at h
      cases h
      have hb := Nat.eq_of_beq_eq_true hb
      intro Q ws H locs ls sc hS _ _ kk
      obtain ⟨h1, h2, h3, h4, ⟨lv, h5, h7⟩, h6⟩ := hS
      obtain ⟨j, w, hj, hw⟩ := zi_loc_get h7 hv
      exact row Q H locs ls sc w (lv_at h5 j hj) (fun e0 => zi_vr_int hw (hb.trans e0)) (fun e0 => zi_vr_long hw (hb.trans e0)) (kk ws H locs ls (w :: sc) (zi_ex_refl ws) ⟨h1, h2, h3, h4, ⟨lv, h5, h7⟩, ⟨hw, h6⟩⟩)
theorem zi_go_lda {i : Nat} (row : ∀ (Q : State → Prop) (H : Heap) (locs : List Loc) (ls : Array Slot) (sc : List Value) (w : Value), ls[i]? = some (.val w) → (w = .null ∨ ∃ a, w = .ref a) → zi_W p l e R s m args below meth c Q nc ns (pc + n) H locs ls (w :: sc) → zi_W p l e R s m args below meth c Q nc ns pc H locs ls sc) (h : zi_lda pc n al st A nc ns i = some (.inl g)) : zi_Go p l e R s m args below meth c B0 D dA adK adV b nL (pc, al, st, A, nc, ns) g := by
  unfold zi_lda at h
  cases hv : zi_loc al i with
  | none => rw [hv] at h; cases h
  | some v =>
    rw [hv] at h
    dsimp only at h
    cases hb : Nat.ble 2 (zi_kd v) with
    | false => rw [hb] at h; cases h
    | true =>
      rw [hb] at h
      cases h
      have hb := Nat.le_of_ble_eq_true hb
      intro Q ws H locs ls sc hS _ _ kk
      obtain ⟨h1, h2, h3, h4, ⟨lv, h5, h7⟩, h6⟩ := hS
      obtain ⟨j, w, hj, hw⟩ := zi_loc_get h7 hv
      exact row Q H locs ls sc w (lv_at h5 j hj) (zi_vr_ref hw hb) (kk ws H locs ls (w :: sc) (zi_ex_refl ws) ⟨h1, h2, h3, h4, ⟨lv, h5, h7⟩, ⟨hw, h6⟩⟩)
theorem zi_go_sti {i : Nat} (row : ∀ (Q : State → Prop) (H : Heap) (locs : List Loc) (ls : Array Slot) (sc : List Value) (x : Int32) (lv : List (Nat × Value)), lv_has ls nL lv → i < nL → (∀ ls', lv_has ls' nL ((i, Value.int x) :: lv.filter (fun q => !(q.1 == i) && !(q.1 + 1 == i && q.2.category == 2))) → zi_W p l e R s m args below meth c Q nc ns (pc + n) H locs ls' sc) → zi_W p l e R s m args below meth c Q nc ns pc H locs ls (.int x :: sc)) (h : zi_sti pc n nL al st A nc ns i = some (.inl g)) : zi_Go p l e R s m args below meth c B0 D dA adK adV b nL (pc, al, st, A, nc, ns) g := by
  unfold zi_sti at h
  cases st with
  | nil => cases h
  | cons v r =>
    dsimp only at h
    cases hb : (Nat.beq (zi_kd v) 0 && Nat.ble (i + 1) nL) with
    | false => rw [hb] at h; cases h
    | true =>
      rw [hb] at h
      cases h
      rw [Bool.and_eq_true] at hb
      have hb1 := Nat.eq_of_beq_eq_true hb.1
      have hb2 := Nat.le_of_ble_eq_true hb.2
      intro Q ws H locs ls sc hS _ _ kk
      obtain ⟨h1, h2, h3, h4, ⟨lv, h5, h7⟩, h6⟩ := hS
      obtain ⟨w, sc, rfl, hw, k1⟩ := zi_F2_cons h6
      obtain ⟨x, rfl⟩ := zi_vr_int hw hb1
      exact row Q H locs ls sc x lv h5 hb2 (fun ls' hl => kk ws H locs ls' sc (zi_ex_refl ws) ⟨h1, h2, h3, h4, ⟨_, hl, ⟨⟨rfl, hw⟩, zi_del1_ok i h7⟩⟩, k1⟩)
theorem zi_go_stl {i : Nat} (row : ∀ (Q : State → Prop) (H : Heap) (locs : List Loc) (ls : Array Slot) (sc : List Value) (x : Int64) (lv : List (Nat × Value)), lv_has ls nL lv → i + 1 < nL → (∀ ls', lv_has ls' nL ((i, Value.long x) :: lv.filter (fun q => !(q.1 == i) && (!(q.1 == i + 1) && !(q.1 + 1 == i && q.2.category == 2)))) → zi_W p l e R s m args below meth c Q nc ns (pc + n) H locs ls' sc) → zi_W p l e R s m args below meth c Q nc ns pc H locs ls (.long x :: sc)) (h : zi_stl pc n nL al st A nc ns i = some (.inl g)) : zi_Go p l e R s m args below meth c B0 D dA adK adV b nL (pc, al, st, A, nc, ns) g := by
  unfold zi_stl at h
  cases st with
  | nil => cases h
  | cons v r =>
    dsimp only at h
    cases hb : (Nat.beq (zi_kd v) 1 && Nat.ble (i + 2) nL) with
    | false => rw [hb] at h; cases h
    | true =>
      rw [hb] at h
      cases h
      rw [Bool.and_eq_true] at hb
      have hb1 := Nat.eq_of_beq_eq_true hb.1
      have hb2 := Nat.le_of_ble_eq_true hb.2
      intro Q ws H locs ls sc hS _ _ kk
      obtain ⟨h1, h2, h3, h4, ⟨lv, h5, h7⟩, h6⟩ := hS
      obtain ⟨w, sc, rfl, hw, k2⟩ := zi_F2_cons h6
      obtain ⟨x, rfl⟩ := zi_vr_long hw hb1
      exact row Q H locs ls sc x lv h5 hb2 (fun ls' hl => kk ws H locs ls' sc (zi_ex_refl ws) ⟨h1, h2, h3, h4, ⟨_, hl, ⟨⟨rfl, hw⟩, zi_del2_ok i h7⟩⟩, k2⟩)
theorem zi_go_sta {i : Nat} (row : ∀ (Q : State → Prop) (H : Heap) (locs : List Loc) (ls : Array Slot) (sc : List Value) (w : Value) (lv : List (Nat × Value)), (w = .null ∨ ∃ a, w = .ref a) → lv_has ls nL lv → i < nL → (∀ ls', lv_has ls' nL ((i, w) :: lv.filter (fun q => !(q.1 == i) && !(q.1 + 1 == i && q.2.category == 2))) → zi_W p l e R s m args below meth c Q nc ns (pc + n) H locs ls' sc) → zi_W p l e R s m args below meth c Q nc ns pc H locs ls (w :: sc)) (h : zi_sta pc n nL al st A nc ns i = some (.inl g)) : zi_Go p l e R s m args below meth c B0 D dA adK adV b nL (pc, al, st, A, nc, ns) g := by
  unfold zi_sta at h
  cases st with
  | nil => cases h
  | cons v r =>
    dsimp only at h
    cases hb : (Nat.ble 2 (zi_kd v) && Nat.ble (i + 1) nL) with
    | false => rw [hb] at h; cases h
    | true =>
      rw [hb] at h
      cases h
      rw [Bool.and_eq_true] at hb
      have hb1 := Nat.le_of_ble_eq_true hb.1
      have hb2 := Nat.le_of_ble_eq_true hb.2
      intro Q ws H locs ls sc hS _ _ kk
      obtain ⟨h1, h2, h3, h4, ⟨lv, h5, h7⟩, h6⟩ := hS
      obtain ⟨w, sc, rfl, hw, k3⟩ := zi_F2_cons h6
      exact row Q H locs ls sc w lv (zi_vr_ref hw hb1) h5 hb2 (fun ls' hl => kk ws H locs ls' sc (zi_ex_refl ws) ⟨h1, h2, h3, h4, ⟨_, hl, ⟨⟨rfl, hw⟩, zi_del1_ok i h7⟩⟩, k3⟩)
theorem zi_go_inc {i : Nat} {k : Int} (row : ∀ (Q : State → Prop) (H : Heap) (locs : List Loc) (ls : Array Slot) (sc : List Value) (x : Int32) (lv : List (Nat × Value)) (j : Nat), lv_has ls nL lv → lv[j]? = some (i, .int x) → i < nL → (∀ ls', lv_has ls' nL ((i, Value.int (x + Int32.ofInt k)) :: lv.filter (fun q => !(q.1 == i) && !(q.1 + 1 == i && q.2.category == 2))) → zi_W p l e R s m args below meth c Q nc ns (pc + n) H locs ls' sc) → zi_W p l e R s m args below meth c Q nc ns pc H locs ls sc) (h : zi_inc pc n nL al st A nc ns i k = some (.inl g)) : zi_Go p l e R s m args below meth c B0 D dA adK adV b nL (pc, al, st, A, nc, ns) g := by
  unfold zi_inc at h
  split at h
  · rename_i x hv
    cases hb : Nat.ble (i + 1) nL with
    | false => rw [hb] at h; cases h
    | true =>
      rw [hb] at h
      cases h
      have hb := Nat.le_of_ble_eq_true hb
      intro Q ws H locs ls sc hS _ _ kk
      obtain ⟨h1, h2, h3, h4, ⟨lv, h5, h7⟩, h6⟩ := hS
      obtain ⟨j, w, hj, hw⟩ := zi_loc_get h7 hv
      have hw : w = .int x := hw
      subst hw
      exact row Q H locs ls sc x lv j h5 hj hb (fun ls' hl => kk ws H locs ls' sc (zi_ex_refl ws) ⟨h1, h2, h3, h4, ⟨_, hl, ⟨⟨rfl, rfl⟩, zi_del1_ok i h7⟩⟩, h6⟩)
  · cases h
theorem zi_go_ii {op : Int32 → Int32 → Int32} (row : ∀ (Q : State → Prop) (H : Heap) (locs : List Loc) (ls : Array Slot) (sc : List Value) (x : Int32) (y : Int32), zi_W p l e R s m args below meth c Q nc ns (pc + n) H locs ls (Value.int (op x y) :: sc) → zi_W p l e R s m args below meth c Q nc ns pc H locs ls (Value.int y :: Value.int x :: sc)) (h : zi_ii op pc n al st A nc ns = some (.inl g)) : zi_Go p l e R s m args below meth c B0 D dA adK adV b nL (pc, al, st, A, nc, ns) g := by
  unfold zi_ii at h
  split at h
  · rename_i y x r
    cases h
    intro Q ws H locs ls sc hS _ _ kk
    obtain ⟨h1, h2, h3, h4, h5, h6⟩ := hS
    obtain ⟨w1, sc, rfl, hw1, k4⟩ := zi_F2_cons h6
    obtain ⟨w2, sc, rfl, hw2, k5⟩ := zi_F2_cons k4
    have hw1 : w1 = Value.int y := hw1
    have hw2 : w2 = Value.int x := hw2
    subst hw1 hw2
    exact row Q H locs ls sc x y (kk ws H locs ls _ (zi_ex_refl ws) ⟨h1, h2, h3, h4, h5, ⟨rfl, k5⟩⟩)
  · cases h
theorem zi_go_iz {op : Int32 → Int32 → Int32} (row : ∀ (Q : State → Prop) (H : Heap) (locs : List Loc) (ls : Array Slot) (sc : List Value) (x : Int32) (y : Int32), ¬ y = 0 → zi_W p l e R s m args below meth c Q nc ns (pc + n) H locs ls (Value.int (op x y) :: sc) → zi_W p l e R s m args below meth c Q nc ns pc H locs ls (Value.int y :: Value.int x :: sc)) (h : zi_iz op pc n al st A nc ns = some (.inl g)) : zi_Go p l e R s m args below meth c B0 D dA adK adV b nL (pc, al, st, A, nc, ns) g := by
  unfold zi_iz at h
  split at h
  · rename_i y x r
    cases hz : decide (y = 0) with
    | true => rw [hz] at h; cases h
    | false =>
    rw [hz] at h
    cases h
    have hz : ¬ y = 0 := of_decide_eq_false hz
    intro Q ws H locs ls sc hS _ _ kk
    obtain ⟨h1, h2, h3, h4, h5, h6⟩ := hS
    obtain ⟨w1, sc, rfl, hw1, k6⟩ := zi_F2_cons h6
    obtain ⟨w2, sc, rfl, hw2, k7⟩ := zi_F2_cons k6
    have hw1 : w1 = Value.int y := hw1
    have hw2 : w2 = Value.int x := hw2
    subst hw1 hw2
    exact row Q H locs ls sc x y hz (kk ws H locs ls _ (zi_ex_refl ws) ⟨h1, h2, h3, h4, h5, ⟨rfl, k7⟩⟩)
  · cases h
theorem zi_go_ll {op : Int64 → Int64 → Int64} (row : ∀ (Q : State → Prop) (H : Heap) (locs : List Loc) (ls : Array Slot) (sc : List Value) (x : Int64) (y : Int64), zi_W p l e R s m args below meth c Q nc ns (pc + n) H locs ls (Value.long (op x y) :: sc) → zi_W p l e R s m args below meth c Q nc ns pc H locs ls (Value.long y :: Value.long x :: sc)) (h : zi_ll op pc n al st A nc ns = some (.inl g)) : zi_Go p l e R s m args below meth c B0 D dA adK adV b nL (pc, al, st, A, nc, ns) g := by
  unfold zi_ll at h
  split at h
  · rename_i y x r
    cases h
    intro Q ws H locs ls sc hS _ _ kk
    obtain ⟨h1, h2, h3, h4, h5, h6⟩ := hS
    obtain ⟨w1, sc, rfl, hw1, k8⟩ := zi_F2_cons h6
    obtain ⟨w2, sc, rfl, hw2, k9⟩ := zi_F2_cons k8
    have hw1 : w1 = Value.long y := hw1
    have hw2 : w2 = Value.long x := hw2
    subst hw1 hw2
    exact row Q H locs ls sc x y (kk ws H locs ls _ (zi_ex_refl ws) ⟨h1, h2, h3, h4, h5, ⟨rfl, k9⟩⟩)
  · cases h
theorem zi_go_lw {op : Int64 → Int32 → Int64} (row : ∀ (Q : State → Prop) (H : Heap) (locs : List Loc) (ls : Array Slot) (sc : List Value) (x : Int64) (y : Int32), zi_W p l e R s m args below meth c Q nc ns (pc + n) H locs ls (Value.long (op x y) :: sc) → zi_W p l e R s m args below meth c Q nc ns pc H locs ls (Value.int y :: Value.long x :: sc)) (h : zi_lw op pc n al st A nc ns = some (.inl g)) : zi_Go p l e R s m args below meth c B0 D dA adK adV b nL (pc, al, st, A, nc, ns) g := by
  unfold zi_lw at h
  split at h
  · rename_i y x r
    cases h
    intro Q ws H locs ls sc hS _ _ kk
    obtain ⟨h1, h2, h3, h4, h5, h6⟩ := hS
    obtain ⟨w1, sc, rfl, hw1, k10⟩ := zi_F2_cons h6
    obtain ⟨w2, sc, rfl, hw2, k11⟩ := zi_F2_cons k10
    have hw1 : w1 = Value.int y := hw1
    have hw2 : w2 = Value.long x := hw2
    subst hw1 hw2
    exact row Q H locs ls sc x y (kk ws H locs ls _ (zi_ex_refl ws) ⟨h1, h2, h3, h4, h5, ⟨rfl, k11⟩⟩)
  · cases h
theorem zi_go_lc (row : ∀ (Q : State → Prop) (H : Heap) (locs : List Loc) (ls : Array Slot) (sc : List Value) (x : Int64) (y : Int64), zi_W p l e R s m args below meth c Q nc ns (pc + n) H locs ls (Value.int (lg_cmp x y) :: sc) → zi_W p l e R s m args below meth c Q nc ns pc H locs ls (Value.long y :: Value.long x :: sc)) (h : zi_lc pc n al st A nc ns = some (.inl g)) : zi_Go p l e R s m args below meth c B0 D dA adK adV b nL (pc, al, st, A, nc, ns) g := by
  unfold zi_lc at h
  split at h
  · rename_i y x r
    cases h
    intro Q ws H locs ls sc hS _ _ kk
    obtain ⟨h1, h2, h3, h4, h5, h6⟩ := hS
    obtain ⟨w1, sc, rfl, hw1, k12⟩ := zi_F2_cons h6
    obtain ⟨w2, sc, rfl, hw2, k13⟩ := zi_F2_cons k12
    have hw1 : w1 = Value.long y := hw1
    have hw2 : w2 = Value.long x := hw2
    subst hw1 hw2
    exact row Q H locs ls sc x y (kk ws H locs ls _ (zi_ex_refl ws) ⟨h1, h2, h3, h4, h5, ⟨rfl, k13⟩⟩)
  · cases h
theorem zi_go_i1 {op : Int32 → Value} (hop : ∀ x ad, zi_vr ad (.inl (op x)) (op x)) (row : ∀ (Q : State → Prop) (H : Heap) (locs : List Loc) (ls : Array Slot) (sc : List Value) (x : Int32), zi_W p l e R s m args below meth c Q nc ns (pc + n) H locs ls (op x :: sc) → zi_W p l e R s m args below meth c Q nc ns pc H locs ls (Value.int x :: sc)) (h : zi_i1 op pc n al st A nc ns = some (.inl g)) : zi_Go p l e R s m args below meth c B0 D dA adK adV b nL (pc, al, st, A, nc, ns) g := by
  unfold zi_i1 at h
  split at h
  · rename_i x r
    cases h
    intro Q ws H locs ls sc hS _ _ kk
    obtain ⟨h1, h2, h3, h4, h5, h6⟩ := hS
    obtain ⟨w1, sc, rfl, hw1, k14⟩ := zi_F2_cons h6
    have hw1 : w1 = Value.int x := hw1
    subst hw1
    exact row Q H locs ls sc x (kk ws H locs ls _ (zi_ex_refl ws) ⟨h1, h2, h3, h4, h5, ⟨hop x _, k14⟩⟩)
  · cases h
theorem zi_go_l1 {op : Int64 → Value} (hop : ∀ x ad, zi_vr ad (.inl (op x)) (op x)) (row : ∀ (Q : State → Prop) (H : Heap) (locs : List Loc) (ls : Array Slot) (sc : List Value) (x : Int64), zi_W p l e R s m args below meth c Q nc ns (pc + n) H locs ls (op x :: sc) → zi_W p l e R s m args below meth c Q nc ns pc H locs ls (Value.long x :: sc)) (h : zi_l1 op pc n al st A nc ns = some (.inl g)) : zi_Go p l e R s m args below meth c B0 D dA adK adV b nL (pc, al, st, A, nc, ns) g := by
  unfold zi_l1 at h
  split at h
  · rename_i x r
    cases h
    intro Q ws H locs ls sc hS _ _ kk
    obtain ⟨h1, h2, h3, h4, h5, h6⟩ := hS
    obtain ⟨w1, sc, rfl, hw1, k15⟩ := zi_F2_cons h6
    have hw1 : w1 = Value.long x := hw1
    subst hw1
    exact row Q H locs ls sc x (kk ws H locs ls _ (zi_ex_refl ws) ⟨h1, h2, h3, h4, h5, ⟨hop x _, k15⟩⟩)
  · cases h
theorem zi_go_dup (row : ∀ (Q : State → Prop) (H : Heap) (locs : List Loc) (ls : Array Slot) (sc : List Value) (w : Value), w.category = 1 → zi_W p l e R s m args below meth c Q nc ns (pc + n) H locs ls (w :: w :: sc) → zi_W p l e R s m args below meth c Q nc ns pc H locs ls (w :: sc)) (h : zi_dup pc n al st A nc ns = some (.inl g)) : zi_Go p l e R s m args below meth c B0 D dA adK adV b nL (pc, al, st, A, nc, ns) g := by
  unfold zi_dup at h
  cases st with
  | nil => cases h
  | cons v r =>
    dsimp only at h
    cases hb : Nat.beq (zi_cat v) 1 with
    | false => rw [hb] at h; cases h
    | true =>
      rw [hb] at h
      cases h
      have hb := Nat.eq_of_beq_eq_true hb
      intro Q ws H locs ls sc hS _ _ kk
      obtain ⟨h1, h2, h3, h4, h5, h6⟩ := hS
      obtain ⟨w1, sc, rfl, hw1, k16⟩ := zi_F2_cons h6
      exact row Q H locs ls sc w1 ((zi_vr_cat hw1).trans hb) (kk ws H locs ls _ (zi_ex_refl ws) ⟨h1, h2, h3, h4, h5, ⟨hw1, hw1, k16⟩⟩)
theorem zi_go_pop (row : ∀ (Q : State → Prop) (H : Heap) (locs : List Loc) (ls : Array Slot) (sc : List Value) (w : Value), w.category = 1 → zi_W p l e R s m args below meth c Q nc ns (pc + n) H locs ls sc → zi_W p l e R s m args below meth c Q nc ns pc H locs ls (w :: sc)) (h : zi_pop pc n al st A nc ns = some (.inl g)) : zi_Go p l e R s m args below meth c B0 D dA adK adV b nL (pc, al, st, A, nc, ns) g := by
  unfold zi_pop at h
  cases st with
  | nil => cases h
  | cons v r =>
    dsimp only at h
    cases hb : Nat.beq (zi_cat v) 1 with
    | false => rw [hb] at h; cases h
    | true =>
      rw [hb] at h
      cases h
      have hb := Nat.eq_of_beq_eq_true hb
      intro Q ws H locs ls sc hS _ _ kk
      obtain ⟨h1, h2, h3, h4, h5, h6⟩ := hS
      obtain ⟨w1, sc, rfl, hw1, k17⟩ := zi_F2_cons h6
      exact row Q H locs ls sc w1 ((zi_vr_cat hw1).trans hb) (kk ws H locs ls _ (zi_ex_refl ws) ⟨h1, h2, h3, h4, h5, k17⟩)
theorem zi_cat12 (v : zi_V) (h : Nat.beq (zi_cat v) 2 = false) : zi_cat v = 1 := by
  unfold zi_cat at h ⊢
  split at h
  · cases h
  · rfl
theorem zi_go_dup2 (row2 : ∀ (Q : State → Prop) (H : Heap) (locs : List Loc) (ls : Array Slot) (sc : List Value) (w : Value), w.category = 2 → zi_W p l e R s m args below meth c Q nc ns (pc + n) H locs ls (w :: w :: sc) → zi_W p l e R s m args below meth c Q nc ns pc H locs ls (w :: sc)) (row1 : ∀ (Q : State → Prop) (H : Heap) (locs : List Loc) (ls : Array Slot) (sc : List Value) (v w : Value), v.category = 1 → w.category = 1 → zi_W p l e R s m args below meth c Q nc ns (pc + n) H locs ls (v :: w :: v :: w :: sc) → zi_W p l e R s m args below meth c Q nc ns pc H locs ls (v :: w :: sc)) (h : zi_dup2 pc n al st A nc ns = some (.inl g)) : zi_Go p l e R s m args below meth c B0 D dA adK adV b nL (pc, al, st, A, nc, ns) g := by
  unfold zi_dup2 at h
  split at h
  · rename_i v w r
    cases hb : Nat.beq (zi_cat v) 2 with
    | true =>
      rw [hb] at h
      cases h
      have hb := Nat.eq_of_beq_eq_true hb
      intro Q ws H locs ls sc hS _ _ kk
      obtain ⟨h1, h2, h3, h4, h5, h6⟩ := hS
      obtain ⟨w1, sc, rfl, hw1, k18⟩ := zi_F2_cons h6
      exact row2 Q H locs ls sc w1 ((zi_vr_cat hw1).trans hb) (kk ws H locs ls _ (zi_ex_refl ws) ⟨h1, h2, h3, h4, h5, ⟨hw1, hw1, k18⟩⟩)
    | false =>
      rw [hb] at h
      have hv := zi_cat12 v hb
      cases hb2 : Nat.beq (zi_cat w) 1 with
      | false => rw [hb2] at h; cases h
      | true =>
        rw [hb2] at h
        cases h
        have hb2 := Nat.eq_of_beq_eq_true hb2
        intro Q ws H locs ls sc hS _ _ kk
        obtain ⟨h1, h2, h3, h4, h5, h6⟩ := hS
        obtain ⟨w1, sc, rfl, hw1, k19⟩ := zi_F2_cons h6
        obtain ⟨w2, sc, rfl, hw2, k20⟩ := zi_F2_cons k19
        exact row1 Q H locs ls sc w1 w2 ((zi_vr_cat hw1).trans hv) ((zi_vr_cat hw2).trans hb2) (kk ws H locs ls _ (zi_ex_refl ws) ⟨h1, h2, h3, h4, h5, ⟨hw1, hw2, hw1, hw2, k20⟩⟩)
  · cases h
/-- what a condition says of two ints -/
def zi_says (k : ClassFile.Cond) (x y : Int32) : Prop := match k with
  | .eq => x = y
  | .ne => ¬ x = y
  | .lt => x < y
  | .ge => y ≤ x
  | .gt => y < x
  | .le => x ≤ y
theorem zi_test_ok {k : ClassFile.Cond} {v w : zi_V} {a' b' : Value} {ad : Nat → Option Nat} (hv : zi_vr ad v a') (hw : zi_vr ad w b') {r : Bool} (h : zi_test k v w = some r) : ∃ x y, a' = .int x ∧ b' = .int y ∧ (zi_says k x y ↔ r = true) := by
  unfold zi_test at h
  split at h
  · rename_i qa qb e1 e2
    obtain ⟨x, rfl, hx⟩ := zi_vr_iv hv e1
    obtain ⟨y, rfl, hy⟩ := zi_vr_iv hw e2
    refine ⟨x, y, rfl, rfl, ?_⟩
    cases k with
    | eq => exact zi_test_eq hx hy h
    | ne =>
      have h : (zi_eq qa qb).map (fun q => !q) = some r := h
      cases he : zi_eq qa qb with
      | none => rw [he] at h; cases h
      | some r0 =>
        rw [he] at h
        have e3 : (!r0) = r := Option.some.inj h
        have h0 := zi_test_eq hx hy he
        show (¬ x = y) ↔ _
        rw [h0, ← e3]
        cases r0 <;> simp
    | lt => exact zi_test_lt hx hy h
    | ge => exact zi_test_le hy hx h
    | gt => exact zi_test_lt hy hx h
    | le => exact zi_test_le hx hy h
  · cases h
theorem zi_go_if1 {k : ClassFile.Cond} {tgt : Nat} (rowt : ∀ (Q : State → Prop) (H : Heap) (locs : List Loc) (ls : Array Slot) (sc : List Value) (x : Int32), (zi_says k x 0 → zi_W p l e R s m args below meth c Q nc ns tgt H locs ls sc) → (¬ zi_says k x 0 → zi_W p l e R s m args below meth c Q nc ns (pc + n) H locs ls sc) → zi_W p l e R s m args below meth c Q nc ns pc H locs ls (.int x :: sc)) (h : zi_if1 k pc n al st A nc ns tgt = some (.inl g)) : zi_Go p l e R s m args below meth c B0 D dA adK adV b nL (pc, al, st, A, nc, ns) g := by
  unfold zi_if1 at h
  split at h
  · rename_i v r
    unfold zi_br at h
    split at h
    · rename_i ht
      cases h
      intro Q ws H locs ls sc hS _ _ kk
      obtain ⟨h1, h2, h3, h4, h5, h6⟩ := hS
      obtain ⟨w1, sc, rfl, hw1, k21⟩ := zi_F2_cons h6
      obtain ⟨x, y, rfl, ey, hxy⟩ := zi_test_ok (w := .inl (.int 0)) (b' := .int 0) hw1 rfl ht
      cases ey
      exact rowt Q H locs ls sc x (fun _ => kk ws H locs ls _ (zi_ex_refl ws) ⟨h1, h2, h3, h4, h5, k21⟩) (fun z => absurd (hxy.mpr rfl) z)
    · rename_i ht
      cases h
      intro Q ws H locs ls sc hS _ _ kk
      obtain ⟨h1, h2, h3, h4, h5, h6⟩ := hS
      obtain ⟨w1, sc, rfl, hw1, k22⟩ := zi_F2_cons h6
      obtain ⟨x, y, rfl, ey, hxy⟩ := zi_test_ok (w := .inl (.int 0)) (b' := .int 0) hw1 rfl ht
      cases ey
      exact rowt Q H locs ls sc x (fun z => absurd (hxy.mp z) (by decide)) (fun _ => kk ws H locs ls _ (zi_ex_refl ws) ⟨h1, h2, h3, h4, h5, k22⟩)
    · cases h
  · cases h
theorem zi_go_if2 {k : ClassFile.Cond} {tgt : Nat} (rowt : ∀ (Q : State → Prop) (H : Heap) (locs : List Loc) (ls : Array Slot) (sc : List Value) (x y : Int32), (zi_says k x y → zi_W p l e R s m args below meth c Q nc ns tgt H locs ls sc) → (¬ zi_says k x y → zi_W p l e R s m args below meth c Q nc ns (pc + n) H locs ls sc) → zi_W p l e R s m args below meth c Q nc ns pc H locs ls (.int y :: .int x :: sc)) (h : zi_if2 k pc n al st A nc ns tgt = some (.inl g)) : zi_Go p l e R s m args below meth c B0 D dA adK adV b nL (pc, al, st, A, nc, ns) g := by
  unfold zi_if2 at h
  split at h
  · rename_i w v r
    unfold zi_br at h
    split at h
    · rename_i ht
      cases h
      intro Q ws H locs ls sc hS _ _ kk
      obtain ⟨h1, h2, h3, h4, h5, h6⟩ := hS
      obtain ⟨w1, sc, rfl, hw1, k23⟩ := zi_F2_cons h6
      obtain ⟨w2, sc, rfl, hw2, k24⟩ := zi_F2_cons k23
      obtain ⟨x, y, rfl, rfl, hxy⟩ := zi_test_ok hw2 hw1 ht
      exact rowt Q H locs ls sc x y (fun _ => kk ws H locs ls _ (zi_ex_refl ws) ⟨h1, h2, h3, h4, h5, k24⟩) (fun z => absurd (hxy.mpr rfl) z)
    · rename_i ht
      cases h
      intro Q ws H locs ls sc hS _ _ kk
      obtain ⟨h1, h2, h3, h4, h5, h6⟩ := hS
      obtain ⟨w1, sc, rfl, hw1, k25⟩ := zi_F2_cons h6
      obtain ⟨w2, sc, rfl, hw2, k26⟩ := zi_F2_cons k25
      obtain ⟨x, y, rfl, rfl, hxy⟩ := zi_test_ok hw2 hw1 ht
      exact rowt Q H locs ls sc x y (fun z => absurd (hxy.mp z) (by decide)) (fun _ => kk ws H locs ls _ (zi_ex_refl ws) ⟨h1, h2, h3, h4, h5, k26⟩)
    · cases h
  · cases h
theorem zi_go_nul {k : Bool} {tgt : Nat} (rown : ∀ (Q : State → Prop) (H : Heap) (locs : List Loc) (ls : Array Slot) (sc : List Value), zi_W p l e R s m args below meth c Q nc ns (bif k then tgt else pc + n) H locs ls sc → zi_W p l e R s m args below meth c Q nc ns pc H locs ls (.null :: sc)) (rowr : ∀ (Q : State → Prop) (H : Heap) (locs : List Loc) (ls : Array Slot) (sc : List Value) (a : Nat), zi_W p l e R s m args below meth c Q nc ns (bif k then pc + n else tgt) H locs ls sc → zi_W p l e R s m args below meth c Q nc ns pc H locs ls (.ref a :: sc)) (h : zi_nul k pc n al st A nc ns tgt = some (.inl g)) : zi_Go p l e R s m args below meth c B0 D dA adK adV b nL (pc, al, st, A, nc, ns) g := by
  unfold zi_nul at h
  split at h
  · rename_i r
    cases k with
    | true =>
      cases h
      intro Q ws H locs ls sc hS _ _ kk
      obtain ⟨h1, h2, h3, h4, h5, h6⟩ := hS
      obtain ⟨w1, sc, rfl, hw1, k27⟩ := zi_F2_cons h6
      have hw1 : w1 = .null := hw1
      subst hw1
      exact rown Q H locs ls sc (kk ws H locs ls _ (zi_ex_refl ws) ⟨h1, h2, h3, h4, h5, k27⟩)
    | false =>
      cases h
      intro Q ws H locs ls sc hS _ _ kk
      obtain ⟨h1, h2, h3, h4, h5, h6⟩ := hS
      obtain ⟨w1, sc, rfl, hw1, k28⟩ := zi_F2_cons h6
      have hw1 : w1 = .null := hw1
      subst hw1
      exact rown Q H locs ls sc (kk ws H locs ls _ (zi_ex_refl ws) ⟨h1, h2, h3, h4, h5, k28⟩)
  · rename_i i r
    cases k with
    | true =>
      cases h
      intro Q ws H locs ls sc hS _ _ kk
      obtain ⟨h1, h2, h3, h4, h5, h6⟩ := hS
      obtain ⟨w1, sc, rfl, ⟨a, -, rfl⟩, k29⟩ := zi_F2_cons h6
      exact rowr Q H locs ls sc a (kk ws H locs ls _ (zi_ex_refl ws) ⟨h1, h2, h3, h4, h5, k29⟩)
    | false =>
      cases h
      intro Q ws H locs ls sc hS _ _ kk
      obtain ⟨h1, h2, h3, h4, h5, h6⟩ := hS
      obtain ⟨w1, sc, rfl, ⟨a, -, rfl⟩, k30⟩ := zi_F2_cons h6
      exact rowr Q H locs ls sc a (kk ws H locs ls _ (zi_ex_refl ws) ⟨h1, h2, h3, h4, h5, k30⟩)
  · cases h
theorem zi_go_tsw {lo hi : Int} {o : List Nat} (rowo : ∀ (Q : State → Prop) (H : Heap) (locs : List Loc) (ls : Array Slot) (sc : List Value) (x : Int32) (t : Nat) (ts : List Nat), o = t :: ts → (x.toInt < lo ∨ hi < x.toInt) → zi_W p l e R s m args below meth c Q nc ns t H locs ls sc → zi_W p l e R s m args below meth c Q nc ns pc H locs ls (.int x :: sc)) (rowi : ∀ (Q : State → Prop) (H : Heap) (locs : List Loc) (ls : Array Slot) (sc : List Value) (x : Int32) (t0 t : Nat) (ts : List Nat), o = t0 :: ts → ¬ x.toInt < lo → ¬ hi < x.toInt → ts[(x.toInt - lo).toNat]? = some t → zi_W p l e R s m args below meth c Q nc ns t H locs ls sc → zi_W p l e R s m args below meth c Q nc ns pc H locs ls (.int x :: sc)) (h : zi_tsw lo hi al st A nc ns o = some (.inl g)) : zi_Go p l e R s m args below meth c B0 D dA adK adV b nL (pc, al, st, A, nc, ns) g := by
  unfold zi_tsw at h
  split at h
  · rename_i v r t0 ts
    split at h
    · rename_i q hq
      cases hb : (decide (q.2.toInt < lo) || decide (hi < q.1.toInt)) with
      | true =>
        rw [hb] at h
        cases h
        intro Q ws H locs ls sc hS _ _ kk
        obtain ⟨h1, h2, h3, h4, h5, h6⟩ := hS
        obtain ⟨w1, sc, rfl, hw1, k31⟩ := zi_F2_cons h6
        obtain ⟨x, rfl, hx1, hx2⟩ := zi_vr_iv hw1 hq
        rw [zi_ile] at hx1 hx2
        simp only [Bool.or_eq_true, decide_eq_true_eq] at hb
        exact rowo Q H locs ls sc x t0 ts rfl (by omega) (kk ws H locs ls _ (zi_ex_refl ws) ⟨h1, h2, h3, h4, h5, k31⟩)
      | false =>
        rw [hb] at h
        cases hb2 : (decide (q.1 = q.2) && !decide (q.1.toInt < lo) && !decide (hi < q.1.toInt)) with
        | false => rw [hb2] at h; cases h
        | true =>
          rw [hb2] at h
          simp only [Bool.and_eq_true, decide_eq_true_eq, Bool.not_eq_true', decide_eq_false_iff_not, cond_true, cond_false] at hb2 h
          split at h
          · rename_i t ht
            cases h
            intro Q ws H locs ls sc hS _ _ kk
            obtain ⟨h1, h2, h3, h4, h5, h6⟩ := hS
            obtain ⟨w1, sc, rfl, hw1, k32⟩ := zi_F2_cons h6
            obtain ⟨x, rfl, hx1, hx2⟩ := zi_vr_iv hw1 hq
            have ex : x = q.1 := by
              rw [zi_ieq]
              rw [zi_ile] at hx1 hx2
              rw [← hb2.1.1] at hx2
              omega
            subst ex
            exact rowi Q H locs ls sc q.1 t0 t ts rfl hb2.1.2 hb2.2 ht (kk ws H locs ls _ (zi_ex_refl ws) ⟨h1, h2, h3, h4, h5, k32⟩)
          · cases h
    · cases h
  · cases h
end ZS
end
section
/-! Steps that read and write cells. -/
def zi_ckc (q : String × List ((String × String × String × Bool) × FieldType)) : Bool := (List.range q.2.length).all (fun k => decide (u_lay q.1 (fun k => (q.2.getD k (("", "", "", false), .int)).1) k ∈ lw_tbl) && goodWord (u_lay q.1 (fun k => (q.2.getD k (("", "", "", false), .int)).1) k) && decide (parseFieldDescriptor (q.2.getD k (("", "", "", false), .int)).1.2.2.1 = some (q.2.getD k (("", "", "", false), .int)).2) && !decide ((q.2.getD k (("", "", "", false), .int)).2 = .float) && !decide ((q.2.getD k (("", "", "", false), .int)).2 = .double) && (List.range q.2.length).all (fun j => decide (j = k) || !decide ((q.2.getD j (("", "", "", false), .int)).1.2.1 = (q.2.getD k (("", "", "", false), .int)).1.2.1)))
theorem zi_ckc_all : zi_Fs.all zi_ckc = true := by decide +kernel
end
section
def zi_Tf (q : String × List ((String × String × String × Bool) × FieldType)) : u_T := fun k => (q.2.getD k (("", "", "", false), .int)).1
theorem zi_cl_at {ci : Nat} {q : String × List ((String × String × String × Bool) × FieldType)} (h : zi_Fs[ci]? = some q) : zi_cl[ci]? = some (q.1, zi_Tf q, q.2.length) := by
  unfold zi_cl
  rw [List.getElem?_map, h]
  rfl
theorem zi_ty_at {ci : Nat} {q : String × List ((String × String × String × Bool) × FieldType)} (h : zi_Fs[ci]? = some q) (k : Nat) : zi_ty ci k = (q.2.getD k (("", "", "", false), .int)).2 := by
  have e1 : zi_Fs.getD ci ("", []) = q := by rw [List.getD_eq_getElem?_getD, h]; rfl
  unfold zi_ty
  rw [e1]
theorem zi_cl_ok {ci : Nat} {q : String × List ((String × String × String × Bool) × FieldType)} (h : zi_Fs[ci]? = some q) : (∀ w ∈ u_ws q.1 (zi_Tf q) q.2.length, w ∈ zi_gd) ∧ (∀ k, k < q.2.length → parseFieldDescriptor (zi_Tf q k).2.2.1 = some (zi_ty ci k)) ∧ (∀ a, a < q.2.length → ∀ b, b < q.2.length → a ≠ b → (zi_Tf q a).2.1 ≠ (zi_Tf q b).2.1) ∧ ∀ k, k < q.2.length → zi_ty ci k ≠ .float ∧ zi_ty ci k ≠ .double := by
  have hq := List.all_eq_true.mp zi_ckc_all q (List.mem_of_getElem? h)
  have key : ∀ k, k < q.2.length → _ := fun k hk => List.all_eq_true.mp hq k (List.mem_range.mpr hk)
  simp only [Bool.and_eq_true, decide_eq_true_eq, Bool.not_eq_true', decide_eq_false_iff_not] at key
  refine ⟨?_, ?_, ?_, ?_⟩
  · intro w hw
    obtain ⟨k, hk, rfl⟩ := List.mem_map.mp hw
    have := key k (List.mem_range.mp hk)
    exact List.mem_filter.mpr ⟨this.1.1.1.1.1, this.1.1.1.1.2⟩
  · intro k hk
    rw [zi_ty_at h]
    exact (key k hk).1.1.1.2
  · intro a ha b hb hab e
    have h1 := List.all_eq_true.mp (key b hb).2 a (List.mem_range.mpr ha)
    simp only [Bool.or_eq_true, decide_eq_true_eq, Bool.not_eq_true', decide_eq_false_iff_not] at h1
    rcases h1 with h1 | h1
    · exact hab h1
    · exact h1 e
  · intro k hk
    rw [zi_ty_at h]
    exact ⟨(key k hk).1.1.2, (key k hk).1.2⟩
theorem zi_cl_none : zi_cl[100]? = none := List.getElem?_eq_none_iff.mpr (by decide +kernel)
theorem zi_fit_ok {ad : Nat → Option Nat} {ty : FieldType} {v : zi_V} {w : Value} (h : zi_vr ad v w) (hf : zi_fit ty v = true) : narrow ty w = w ∧ fits ty w = true := by
  unfold zi_vr at h
  split at h
  · subst h
    unfold zi_fit at hf
    simpa using hf
  · subst h
    unfold zi_fit at hf
    simpa using hf
  · subst h
    unfold zi_fit at hf
    simpa using hf
  · obtain ⟨a, -, rfl⟩ := h
    unfold zi_fit at hf
    cases ty <;> first | exact ⟨rfl, rfl⟩ | (simp [fits] at hf)
  · unfold zi_fit at hf
    cases ty <;> simp [fits] at hf
  · exact h.elim
  · exact h.elim
  · obtain ⟨x, rfl, -, -⟩ := h
    unfold zi_fit at hf
    have hf : ty = .int := by simpa using hf
    subst hf
    exact ⟨rfl, rfl⟩
theorem zi_in_ok {x : Int32} {n : Nat} (h : zi_in x n = true) : vp_in x n := by
  unfold zi_in at h
  rw [Bool.and_eq_true, Bool.not_eq_true', decide_eq_false_iff_not] at h
  have h2 := Nat.le_of_ble_eq_true h.2
  intro z
  rcases z with z | z
  · exact h.1 z
  · omega
section ZH
variable {p : Program} {l : Launch} {e : Env} {R : Room} {s : State} {m : MethodId} {args : Array Value} {below : List Frame} {meth : Method} {c : Code} {B0 : Nat} {D : va_G} {dA : Nat → ClassId} {adK adV : Nat → Nat} {b : Nat} {M : zi_M} {d : Nat} {sl : List zi_V}
variable {pc : Nat} {al : List (Nat × zi_V)} {st : List zi_V} {A : List zi_C} {nc ns : Nat} {g : zi_F}
theorem zi_cell_obj {ws : va_W} {r a : Nat} {q : Nat × List zi_V} (h4 : zi_F2 (zi_cr (zi_ad adK adV b ws) dA) A ws) (hr : 10 ≤ r) (had : zi_ad adK adV b ws r = some a) (hA : A[r - 10]? = some (.inl q)) : ∃ vs, ws[r - 10]? = some (a, .inr (q.1, vs)) ∧ zi_F2 (zi_vr (zi_ad adK adV b ws)) q.2 vs := by
  obtain ⟨e0, h1⟩ := zi_ad_own hr had
  obtain ⟨x, h2, vs, h3, h5⟩ := zi_F2_get h4 hA
  rw [h1] at h2
  cases h2
  exact ⟨vs, by rw [h1]; have h3 : e0 = _ := h3; rw [h3], h5⟩
theorem zi_cell_arr {ws : va_W} {r a : Nat} {q : Nat × Nat × zi_V × List (Nat × zi_V)} (h4 : zi_F2 (zi_cr (zi_ad adK adV b ws) dA) A ws) (hr : 10 ≤ r) (had : zi_ad adK adV b ws r = some a) (hA : A[r - 10]? = some (.inr q)) : ∃ e0, ws[r - 10]? = some (a, e0) ∧ zi_ar (zi_ad adK adV b ws) dA q.1 q.2.1 q.2.2.1 q.2.2.2 e0 := by
  obtain ⟨e0, h1⟩ := zi_ad_own hr had
  obtain ⟨x, h2, h3⟩ := zi_F2_get h4 hA
  rw [h1] at h2
  cases h2
  exact ⟨e0, h1, h3⟩
theorem zi_go_get (C : zi_Cx p R s m args meth c B0 D dA adK adV b M d sl) {ci k i : Nat} (hd : decode M.2.1 pc = .ok (.getfield i, 3)) (ho : ci ≠ 100 → ∃ q, zi_Fs[ci]? = some q ∧ k < q.2.length ∧ Cond.fieldLink M.1.cls i (zi_Tf q k).1 (zi_Tf q k).2.1 (zi_Tf q k).2.2.1 ∈ zi_gd) (hs : ci = 100 → (k = 0 → Cond.fieldLink M.1.cls i "java/lang/String" "value" "[B" ∈ zi_gd) ∧ (k = 1 → Cond.fieldLink M.1.cls i "java/lang/String" "coder" "B" ∈ zi_gd)) (h : zi_get pc 3 al st A nc ns ci k = some (.inl g)) : zi_Go p l e R s m args below meth c B0 D dA adK adV b M.2.2.1 (pc, al, st, A, nc, ns) g := by
  obtain ⟨⟨hx, hb, hml, hret, hown, hts, hlk, hnm⟩, hX, -, -⟩ := C
  unfold zi_get at h
  split at h
  · rename_i r rest
    cases hb1 : Nat.ble 10 r with
    | true =>
      rw [hb1] at h
      have hr := Nat.le_of_ble_eq_true hb1
      simp only [cond_true] at h
      split at h
      · rename_i q hA
        cases hb2 : Nat.beq q.1 ci with
        | false => rw [hb2] at h; cases h
        | true =>
          rw [hb2] at h
          have e1 := Nat.eq_of_beq_eq_true hb2
          simp only [cond_true] at h
          split at h
          · rename_i v hv
            cases h
            intro Q ws H locs ls sc hS _ _ kk
            obtain ⟨h1, h2, h3, h4, h5, h6⟩ := hS
            obtain ⟨w1, sc, rfl, ⟨a, had, rfl⟩, k6⟩ := zi_F2_cons h6
            obtain ⟨vs, hvs, hF⟩ := zi_cell_obj h4 hr had hA
            obtain ⟨w, hw, hvr⟩ := zi_F2_get hF hv
            have hci : ci ≠ 100 := by
              intro z
              have hc1 := zi_F2_get h4 hA
              have hP1 := h1 (r - 10) _ hvs
              obtain ⟨rr, hrr, -⟩ := hP1
              rw [show q.1 = 100 from e1.trans z] at hrr
              rw [zi_cl_none] at hrr
              cases hrr
            obtain ⟨qq, hq1, hq2, hq3⟩ := ho hci
            rw [e1] at hvs
            exact va_get hx hb hts (zi_cl_ok hq1).1 hown hX.1 h1 (r - 10) hvs (zi_cl_at hq1) k hq2 (hts _ hq3) (fun x hx => hx) hw hd (kk ws H locs ls _ (zi_ex_refl ws) ⟨h1, h2, h3, h4, h5, ⟨hvr, k6⟩⟩)
          · cases h
      · cases h
    | false =>
      rw [hb1] at h
      simp only [cond_false] at h
      cases hb2 : (Nat.ble (r + 1) 4 && Nat.beq ci 100) with
      | false => rw [hb2] at h; cases h
      | true =>
        rw [hb2] at h
        rw [Bool.and_eq_true] at hb2
        have hr := Nat.le_of_ble_eq_true hb2.1
        obtain ⟨hs0, hs1⟩ := hs (Nat.eq_of_beq_eq_true hb2.2)
        simp only [cond_true] at h
        cases hb3 : Nat.beq k 0 with
        | true =>
          rw [hb3] at h
          cases h
          intro Q ws H locs ls sc hS _ _ kk
          obtain ⟨h1, h2, h3, h4, h5, h6⟩ := hS
          obtain ⟨w1, sc, rfl, ⟨a, had, rfl⟩, k6⟩ := zi_F2_cons h6
          have ha := zi_ad_str (by omega) had
          subst ha
          exact vk_getf hx hb (hX.2.1.1 r (by omega)).2.2.1 h3 hown (hts _ (hs0 (Nat.eq_of_beq_eq_true hb3))) (fun x hx => hx) hd (kk ws H locs ls _ (zi_ex_refl ws) ⟨h1, h2, h3, h4, h5, ⟨⟨adV r, by
            unfold zi_ad
            rw [if_neg (by omega), if_pos (by omega), Nat.add_sub_cancel_left], rfl⟩, k6⟩⟩)
        | false =>
          rw [hb3] at h
          simp only [cond_false] at h
          cases hb4 : Nat.beq k 1 with
          | false => rw [hb4] at h; cases h
          | true =>
            rw [hb4] at h
            cases h
            intro Q ws H locs ls sc hS _ _ kk
            obtain ⟨h1, h2, h3, h4, h5, h6⟩ := hS
            obtain ⟨w1, sc, rfl, ⟨a, had, rfl⟩, k6⟩ := zi_F2_cons h6
            have ha := zi_ad_str (by omega) had
            subst ha
            exact vk_getf hx hb (hX.2.1.1 r (by omega)).2.1 h3 hown (hts _ (hs1 (Nat.eq_of_beq_eq_true hb4))) (fun x hx => hx) hd (kk ws H locs ls _ (zi_ex_refl ws) ⟨h1, h2, h3, h4, h5, ⟨rfl, k6⟩⟩)
  · cases h
end ZH
end
section
section ZH
variable {p : Program} {l : Launch} {e : Env} {R : Room} {s : State} {m : MethodId} {args : Array Value} {below : List Frame} {meth : Method} {c : Code} {B0 : Nat} {D : va_G} {dA : Nat → ClassId} {adK adV : Nat → Nat} {b : Nat} {M : zi_M} {d : Nat} {sl : List zi_V}
variable {pc : Nat} {al : List (Nat × zi_V)} {st : List zi_V} {A : List zi_C} {nc ns : Nat} {g : zi_F}
/-- behind a write: the same addresses -/
theorem zi_st_set {nL : Nat} {ws : va_W} {H1 : Heap} {locs1 : List Loc} {ls : Array Slot} {sc : List Value} {pc' : Nat} {j a : Nat} {e0 e1 : va_E} {cell : zi_C} {lv : List (Nat × Value)} (hj : ws[j]? = some (a, e0)) (h4 : zi_F2 (zi_cr (zi_ad adK adV b ws) dA) A ws) (h5 : lv_has ls nL lv) (h7 : zi_F2 (zi_lr (zi_ad adK adV b ws)) al lv) (h6 : zi_F2 (zi_vr (zi_ad adK adV b ws)) st sc) (hc : zi_cr (zi_ad adK adV b ws) dA cell (a, e1)) (hP : va_P D zi_cl (ws.set j (a, e1)) H1) (hD : va_D (fun q => B0 ≤ q) (ws.set j (a, e1))) (hS : va_S (fun q => B0 ≤ q) s.heap H1 locs1) : zi_St B0 D dA adK adV b nL s (pc', al, st, A.set j cell, nc, ns) (ws.set j (a, e1)) H1 locs1 ls sc := by
  have hm : zi_mo (zi_ad adK adV b ws) (zi_ad adK adV b (ws.set j (a, e1))) := zi_ex_mo (zi_ex_set hj)
  exact ⟨hP, hD, hS, zi_F2_set (zi_cr_mo hm hc) (zi_F2_mono (fun _ _ => zi_cr_mo hm) h4) j, ⟨lv, h5, zi_F2_mono (fun _ _ h => ⟨h.1, zi_vr_mo hm h.2⟩) h7⟩, zi_F2_mono (fun _ _ => zi_vr_mo hm) h6⟩
/-- behind a making: one address more -/
theorem zi_st_new {nL : Nat} {ws : va_W} {H1 : Heap} {locs1 : List Loc} {ls : Array Slot} {sc : List Value} {pc' nc' ns' : Nat} {a : Nat} {e1 : va_E} {cell : zi_C} {lv : List (Nat × Value)} (h4 : zi_F2 (zi_cr (zi_ad adK adV b ws) dA) A ws) (h5 : lv_has ls nL lv) (h7 : zi_F2 (zi_lr (zi_ad adK adV b ws)) al lv) (h6 : zi_F2 (zi_vr (zi_ad adK adV b ws)) st sc) (hc : ∀ ad, zi_cr ad dA cell (a, e1)) (hP : va_P D zi_cl (ws ++ [(a, e1)]) H1) (hD : va_D (fun q => B0 ≤ q) (ws ++ [(a, e1)])) (hS : va_S (fun q => B0 ≤ q) s.heap H1 locs1) : zi_St B0 D dA adK adV b nL s (pc', al, .inl (.ref (10 + A.length)) :: st, A ++ [cell], nc', ns') (ws ++ [(a, e1)]) H1 locs1 ls (.ref a :: sc) := by
  have hm : zi_mo (zi_ad adK adV b ws) (zi_ad adK adV b (ws ++ [(a, e1)])) := zi_ex_mo zi_ex_app
  have hl := zi_F2_len h4
  refine ⟨hP, hD, hS, zi_F2_app (zi_F2_mono (fun _ _ => zi_cr_mo hm) h4) ⟨hc _, trivial⟩, ⟨lv, h5, zi_F2_mono (fun _ _ h => ⟨h.1, zi_vr_mo hm h.2⟩) h7⟩, ⟨⟨a, ?_, rfl⟩, zi_F2_mono (fun _ _ => zi_vr_mo hm) h6⟩⟩
  unfold zi_ad
  rw [if_neg (by omega), if_neg (by omega), if_neg (by omega), if_neg (by omega), Nat.add_sub_cancel_left, hl]
  simp
theorem zi_go_put (C : zi_Cx p R s m args meth c B0 D dA adK adV b M d sl) {ci k i : Nat} (hd : decode M.2.1 pc = .ok (.putfield i, 3)) (ho : ∃ q, zi_Fs[ci]? = some q ∧ k < q.2.length ∧ Cond.fieldLink M.1.cls i (zi_Tf q k).1 (zi_Tf q k).2.1 (zi_Tf q k).2.2.1 ∈ zi_gd ∧ ((zi_Tf q k).2.2.2 = true → M.1.name = "<init>" ∧ (zi_Tf q k).1 = M.1.cls)) (h : zi_put pc 3 al st A nc ns ci k = some (.inl g)) : zi_Go p l e R s m args below meth c B0 D dA adK adV b M.2.2.1 (pc, al, st, A, nc, ns) g := by
  obtain ⟨⟨hx, hb, hml, hret, hown, hts, hlk, hnm⟩, hX, hR, hscr⟩ := C
  obtain ⟨qq, hq1, hq2, hq3, hq4⟩ := ho
  unfold zi_put at h
  split at h
  · rename_i v r rest
    cases hb1 : Nat.ble 10 r with
    | false => rw [hb1] at h; cases h
    | true =>
      rw [hb1] at h
      have hr := Nat.le_of_ble_eq_true hb1
      simp only [cond_true] at h
      split at h
      · rename_i q hA
        cases hb2 : (Nat.beq q.1 ci && Nat.ble (k + 1) q.2.length && zi_fit (zi_ty ci k) v) with
        | false => rw [hb2] at h; cases h
        | true =>
          rw [hb2] at h
          rw [Bool.and_eq_true, Bool.and_eq_true] at hb2
          have e1 := Nat.eq_of_beq_eq_true hb2.1.1
          have e2 := Nat.le_of_ble_eq_true hb2.1.2
          cases h
          intro Q ws H locs ls sc hS _ _ kk
          obtain ⟨h1, h2, h3, h4, ⟨lv, h5, h7⟩, h6⟩ := hS
          obtain ⟨w, sc, rfl, hw, k5⟩ := zi_F2_cons h6
          obtain ⟨w1, sc, rfl, ⟨a, had, rfl⟩, k6⟩ := zi_F2_cons k5
          obtain ⟨vs, hvs, hF⟩ := zi_cell_obj h4 hr had hA
          obtain ⟨hn, hfit⟩ := zi_fit_ok hw hb2.2
          obtain ⟨c1, c2, c3, c4⟩ := zi_cl_ok hq1
          rw [e1] at hvs
          have hl : k < vs.length := by rw [← zi_F2_len hF]; omega
          have post : ∀ (H1 : Heap) (locs1 : List Loc), va_P D zi_cl (ws.set (r - 10) (a, .inr (ci, vs.set k w))) H1 → va_D (fun q => B0 ≤ q) (ws.set (r - 10) (a, .inr (ci, vs.set k w))) → va_S (fun q => B0 ≤ q) s.heap H1 locs1 → zi_W p l e R s m args below meth c Q nc ns (pc + 3) H1 locs1 ls sc := fun H1 locs1 p1 p2 p3 =>
            kk _ H1 locs1 ls sc (zi_ex_set hvs) (zi_st_set hvs h4 h5 h7 k6 ⟨_, rfl, zi_F2_set hw hF k⟩ p1 p2 p3)
          cases hfi : (zi_Tf qq k).2.2.2 with
          | false => exact va_put hx hb hts c1 (zi_ty ci) c2 c3 hown hX.1 h1 h2 h3 (r - 10) hvs (zi_cl_at hq1) k hq2 (hts _ hq3) (fun x hx => hx) hfi (c2 k hq2) hn hfit hl hd post
          | true => exact va_putF hx hb hts c1 (zi_ty ci) c2 c3 hown hX.1 h1 h2 h3 (r - 10) hvs (zi_cl_at hq1) k hq2 (hts _ hq3) (fun x hx => hx) hfi (hnm.trans (hq4 hfi).1) (hq4 hfi).2 (c2 k hq2) hn hfit hl hd post
      · cases h
  · cases h
theorem zi_go_gts (C : zi_Cx p R s m args meth c B0 D dA adK adV b M d sl) {k i : Nat} (hd : decode M.2.1 pc = .ok (.getstatic i, 3)) (h0 : k = 0 → Cond.fieldLink M.1.cls i "java/lang/String" "COMPACT_STRINGS" "Z" ∈ zi_gd) (h1 : k ≠ 0 → Cond.fieldLink M.1.cls i "jdk/internal/util/Preconditions" "SIOOBE_FORMATTER" "Ljava/util/function/BiFunction;" ∈ zi_gd) (h : zi_gts pc 3 al st A nc ns k = some (.inl g)) : zi_Go p l e R s m args below meth c B0 D dA adK adV b M.2.2.1 (pc, al, st, A, nc, ns) g := by
  obtain ⟨⟨hx, hb, hml, hret, hown, hts, hlk, hnm⟩, hX, hR, hscr⟩ := C
  unfold zi_gts at h
  split at h
  · cases h
    intro Q ws H locs ls sc hS _ _ kk
    obtain ⟨g1, g2, g3, g4, g5, g6⟩ := hS
    exact va_gets hx hb hX.2.2.2.1 g3 hown (hts _ (h0 rfl)) (fun x hx => hx) hd (kk ws H locs ls _ (zi_ex_refl ws) ⟨g1, g2, g3, g4, g5, ⟨rfl, g6⟩⟩)
  · rename_i hk
    cases h
    intro Q ws H locs ls sc hS _ _ kk
    obtain ⟨g1, g2, g3, g4, g5, g6⟩ := hS
    rcases hX.2.2.2.2.1 with z | ⟨t, z⟩
    · exact va_gets hx hb z g3 hown (hts _ (h1 hk)) (fun x hx => hx) hd (kk ws H locs ls _ (zi_ex_refl ws) ⟨g1, g2, g3, g4, g5, ⟨Or.inl rfl, g6⟩⟩)
    · exact va_gets hx hb z g3 hown (hts _ (h1 hk)) (fun x hx => hx) hd (kk ws H locs ls _ (zi_ex_refl ws) ⟨g1, g2, g3, g4, g5, ⟨Or.inr ⟨t, rfl⟩, g6⟩⟩)
theorem zi_ar_len {ad : Nat → Option Nat} {t n : Nat} {dv : zi_V} {us : List (Nat × zi_V)} {e0 : va_E} (h : zi_ar ad dA t n dv us e0) : ∃ x : vp_A, e0 = .inl (dA t, x) ∧ x.1 = n := by
  unfold zi_ar at h
  split at h <;> (obtain ⟨f, rfl, -⟩ := h; exact ⟨_, rfl, rfl⟩)
theorem zi_go_len (C : zi_Cx p R s m args meth c B0 D dA adK adV b M d sl) (hd : decode M.2.1 pc = .ok (.arraylength, 1)) (h : zi_len sl pc 1 al st A nc ns = some (.inl g)) : zi_Go p l e R s m args below meth c B0 D dA adK adV b M.2.2.1 (pc, al, st, A, nc, ns) g := by
  obtain ⟨⟨hx, hb, hml, hret, hown, hts, hlk, hnm⟩, hX, hR, hscr⟩ := C
  unfold zi_len at h
  split at h
  · rename_i r rest
    cases hb1 : Nat.ble 10 r with
    | true =>
      rw [hb1] at h
      have hr := Nat.le_of_ble_eq_true hb1
      simp only [cond_true] at h
      split at h
      · rename_i q hA
        cases hb5 : Nat.ble q.1 6 with
        | false => rw [hb5] at h; cases h
        | true =>
        rw [hb5] at h
        have hb5 := Nat.le_of_ble_eq_true hb5
        cases h
        intro Q ws H locs ls sc hS _ _ kk
        obtain ⟨h1, h2, h3, h4, h5, h6⟩ := hS
        obtain ⟨w1, sc, rfl, ⟨a, had, rfl⟩, k6⟩ := zi_F2_cons h6
        obtain ⟨e0, he0, har⟩ := zi_cell_arr h4 hr had hA
        obtain ⟨x, rfl, hxn⟩ := zi_ar_len har
        exact va_alen hx hb hX.1 h1 (r - 10) q.1 he0 (zi_tys_at dA (Nat.lt_succ_of_le hb5)) (by rw [hxn]) hd (kk ws H locs ls _ (zi_ex_refl ws) ⟨h1, h2, h3, h4, h5, ⟨rfl, k6⟩⟩)
      · cases h
    | false =>
      rw [hb1] at h
      simp only [cond_false] at h
      cases hb2 : Nat.beq r 8 with
      | true =>
        rw [hb2] at h
        simp only [cond_true] at h
        have e8 := Nat.eq_of_beq_eq_true hb2
        split at h
        · cases h
        · rename_i v vs
          cases h
          intro Q ws H locs ls sc hS _ _ kk
          obtain ⟨h1, h2, h3, h4, h5, h6⟩ := hS
          obtain ⟨w1, sc, rfl, ⟨a, had, rfl⟩, k6⟩ := zi_F2_cons h6
          rw [e8] at had
          have ha := zi_ad_scr had
          subst ha
          rcases hscr with hz | ⟨xs, s1, s2, s3, s4⟩
          · cases hz
          · exact va_slen hx hb s1 s2 (Nat.not_le.mpr s3) h3 hd (kk ws H locs ls _ (zi_ex_refl ws) ⟨h1, h2, h3, h4, h5, ⟨rfl, k6⟩⟩)
      | false =>
        rw [hb2] at h
        simp only [cond_false] at h
        cases hb3 : (Nat.ble 4 r && Nat.ble (r + 1) 8) with
        | false => rw [hb3] at h; cases h
        | true =>
          rw [hb3] at h
          rw [Bool.and_eq_true] at hb3
          have r4 := Nat.le_of_ble_eq_true hb3.1
          have r8 := Nat.le_of_ble_eq_true hb3.2
          cases h
          intro Q ws H locs ls sc hS _ _ kk
          obtain ⟨h1, h2, h3, h4, h5, h6⟩ := hS
          obtain ⟨w1, sc, rfl, ⟨a, had, rfl⟩, k6⟩ := zi_F2_cons h6
          have ha := zi_ad_byt r4 r8 had
          subst ha
          exact va_tlen hx hb (hX.2.1.1 (r - 4) (by omega)).2.2.2 h3 rfl hd (kk ws H locs ls _ (zi_ex_refl ws) ⟨h1, h2, h3, h4, h5, ⟨rfl, k6⟩⟩)
  · cases h
theorem zi_go_iald (C : zi_Cx p R s m args meth c B0 D dA adK adV b M d sl) (hd : decode M.2.1 pc = .ok (.iaload, 1)) (h : zi_ald 0 sl pc 1 al st A nc ns = some (.inl g)) : zi_Go p l e R s m args below meth c B0 D dA adK adV b M.2.2.1 (pc, al, st, A, nc, ns) g := by
  obtain ⟨⟨hx, hb, hml, hret, hown, hts, hlk, hnm⟩, hX, hR, hscr⟩ := C
  unfold zi_ald at h
  split at h
  · rename_i x r rest
    cases hb1 : Nat.ble 10 r with
    | true =>
      rw [hb1] at h
      have hr := Nat.le_of_ble_eq_true hb1
      simp only [cond_true] at h
      split at h
      · rename_i q hA
        cases hb2 : (((Nat.beq q.1 0 && Nat.ble q.1 6) || (Nat.beq 0 7 && Nat.ble 4 q.1 && Nat.ble q.1 6)) && zi_in x q.2.1) with
        | false => rw [hb2] at h; cases h
        | true =>
          rw [hb2] at h
          rw [Bool.and_eq_true] at hb2
          have hin := zi_in_ok hb2.2
          cases h
          intro Q ws H locs ls sc hS _ _ kk
          obtain ⟨h1, h2, h3, h4, h5, h6⟩ := hS
          obtain ⟨w0, sc, rfl, hw0, k5⟩ := zi_F2_cons h6
          have hw0 : w0 = .int x := hw0
          subst hw0
          obtain ⟨w1, sc, rfl, ⟨a, had, rfl⟩, k6⟩ := zi_F2_cons k5
          obtain ⟨e0, he0, har⟩ := zi_cell_arr h4 hr had hA
          have e1 : q.1 = 0 := by
            have z := hb2.1
            simp only [Bool.or_eq_true, Bool.and_eq_true] at z
            rcases z with z | z
            · exact Nat.eq_of_beq_eq_true z.1
            · exact absurd z.1.1 (by decide)
          rw [e1] at har
          obtain ⟨f, rfl, hf⟩ := har
          have hlt : x.toNatClampNeg < q.2.1 := Nat.lt_of_not_le (fun z => hin (Or.inr z))
          exact va_iald hx hb hX.1 h1 (r - 10) 0 he0 (zi_tys_at dA (by decide)) hin hd (kk ws H locs ls _ (zi_ex_refl ws) ⟨h1, h2, h3, h4, h5, ⟨hf _ hlt, k6⟩⟩)
      · cases h
    | false =>
      rw [hb1] at h
      simp only [cond_false] at h
      cases hb2 : (Nat.beq r 8 && Nat.beq 0 0 && zi_in x sl.length) with
      | true =>
        rw [hb2] at h
        rw [Bool.and_eq_true, Bool.and_eq_true] at hb2
        have e8 := Nat.eq_of_beq_eq_true hb2.1.1
        have hin := zi_in_ok hb2.2
        simp only [cond_true] at h
        split at h
        · rename_i v hv
          cases h
          intro Q ws H locs ls sc hS _ _ kk
          obtain ⟨h1, h2, h3, h4, h5, h6⟩ := hS
          obtain ⟨w0, sc, rfl, hw0, k5⟩ := zi_F2_cons h6
          have hw0 : w0 = .int x := hw0
          subst hw0
          obtain ⟨w1, sc, rfl, ⟨a, had, rfl⟩, k6⟩ := zi_F2_cons k5
          rw [e8] at had
          have ha := zi_ad_scr had
          subst ha
          rcases hscr with hz | ⟨xs, s1, s2, s3, s4⟩
          · rw [hz] at hv; simp at hv
          · exact va_sld hx hb s1 s2 (Nat.not_le.mpr s3) h3 hin hd (kk ws H locs ls _ (zi_ex_refl ws) ⟨h1, h2, h3, h4, h5, ⟨s4 _ _ _ hv, k6⟩⟩)
        · cases h
      | false =>
        rw [hb2] at h
        simp only [cond_false] at h
        cases hb3 : (Nat.ble 4 r && Nat.ble (r + 1) 8 && Nat.beq 0 2 && zi_in x (zi_sn.getD (r - 4) 0)) with
        | false => rw [hb3] at h; cases h
        | true =>
          rw [Bool.and_eq_true, Bool.and_eq_true] at hb3
          exact absurd hb3.1.2 (by decide)
  · cases h
theorem zi_go_lald (C : zi_Cx p R s m args meth c B0 D dA adK adV b M d sl) (hd : decode M.2.1 pc = .ok (.laload, 1)) (h : zi_ald 1 sl pc 1 al st A nc ns = some (.inl g)) : zi_Go p l e R s m args below meth c B0 D dA adK adV b M.2.2.1 (pc, al, st, A, nc, ns) g := by
  obtain ⟨⟨hx, hb, hml, hret, hown, hts, hlk, hnm⟩, hX, hR, hscr⟩ := C
  unfold zi_ald at h
  split at h
  · rename_i x r rest
    cases hb1 : Nat.ble 10 r with
    | true =>
      rw [hb1] at h
      have hr := Nat.le_of_ble_eq_true hb1
      simp only [cond_true] at h
      split at h
      · rename_i q hA
        cases hb2 : (((Nat.beq q.1 1 && Nat.ble q.1 6) || (Nat.beq 1 7 && Nat.ble 4 q.1 && Nat.ble q.1 6)) && zi_in x q.2.1) with
        | false => rw [hb2] at h; cases h
        | true =>
          rw [hb2] at h
          rw [Bool.and_eq_true] at hb2
          have hin := zi_in_ok hb2.2
          cases h
          intro Q ws H locs ls sc hS _ _ kk
          obtain ⟨h1, h2, h3, h4, h5, h6⟩ := hS
          obtain ⟨w0, sc, rfl, hw0, k5⟩ := zi_F2_cons h6
          have hw0 : w0 = .int x := hw0
          subst hw0
          obtain ⟨w1, sc, rfl, ⟨a, had, rfl⟩, k6⟩ := zi_F2_cons k5
          obtain ⟨e0, he0, har⟩ := zi_cell_arr h4 hr had hA
          have e1 : q.1 = 1 := by
            have z := hb2.1
            simp only [Bool.or_eq_true, Bool.and_eq_true] at z
            rcases z with z | z
            · exact Nat.eq_of_beq_eq_true z.1
            · exact absurd z.1.1 (by decide)
          rw [e1] at har
          obtain ⟨f, rfl, hf⟩ := har
          have hlt : x.toNatClampNeg < q.2.1 := Nat.lt_of_not_le (fun z => hin (Or.inr z))
          exact va_lald hx hb hX.1 h1 (r - 10) 1 he0 (zi_tys_at dA (by decide)) hin hd (kk ws H locs ls _ (zi_ex_refl ws) ⟨h1, h2, h3, h4, h5, ⟨hf _ hlt, k6⟩⟩)
      · cases h
    | false =>
      rw [hb1] at h
      simp only [cond_false] at h
      cases hb2 : (Nat.beq r 8 && Nat.beq 1 0 && zi_in x sl.length) with
      | true =>
        rw [Bool.and_eq_true, Bool.and_eq_true] at hb2
        exact absurd hb2.1.2 (by decide)
      | false =>
        rw [hb2] at h
        simp only [cond_false] at h
        cases hb3 : (Nat.ble 4 r && Nat.ble (r + 1) 8 && Nat.beq 1 2 && zi_in x (zi_sn.getD (r - 4) 0)) with
        | false => rw [hb3] at h; cases h
        | true =>
          rw [Bool.and_eq_true, Bool.and_eq_true] at hb3
          exact absurd hb3.1.2 (by decide)
  · cases h
theorem zi_go_bald (C : zi_Cx p R s m args meth c B0 D dA adK adV b M d sl) (hd : decode M.2.1 pc = .ok (.baload, 1)) (h : zi_ald 2 sl pc 1 al st A nc ns = some (.inl g)) : zi_Go p l e R s m args below meth c B0 D dA adK adV b M.2.2.1 (pc, al, st, A, nc, ns) g := by
  obtain ⟨⟨hx, hb, hml, hret, hown, hts, hlk, hnm⟩, hX, hR, hscr⟩ := C
  unfold zi_ald at h
  split at h
  · rename_i x r rest
    cases hb1 : Nat.ble 10 r with
    | true =>
      rw [hb1] at h
      have hr := Nat.le_of_ble_eq_true hb1
      simp only [cond_true] at h
      split at h
      · rename_i q hA
        cases hb2 : (((Nat.beq q.1 2 && Nat.ble q.1 6) || (Nat.beq 2 7 && Nat.ble 4 q.1 && Nat.ble q.1 6)) && zi_in x q.2.1) with
        | false => rw [hb2] at h; cases h
        | true =>
          rw [hb2] at h
          rw [Bool.and_eq_true] at hb2
          have hin := zi_in_ok hb2.2
          cases h
          intro Q ws H locs ls sc hS _ _ kk
          obtain ⟨h1, h2, h3, h4, h5, h6⟩ := hS
          obtain ⟨w0, sc, rfl, hw0, k5⟩ := zi_F2_cons h6
          have hw0 : w0 = .int x := hw0
          subst hw0
          obtain ⟨w1, sc, rfl, ⟨a, had, rfl⟩, k6⟩ := zi_F2_cons k5
          obtain ⟨e0, he0, har⟩ := zi_cell_arr h4 hr had hA
          have e1 : q.1 = 2 := by
            have z := hb2.1
            simp only [Bool.or_eq_true, Bool.and_eq_true] at z
            rcases z with z | z
            · exact Nat.eq_of_beq_eq_true z.1
            · exact absurd z.1.1 (by decide)
          rw [e1] at har
          obtain ⟨f, rfl, hf⟩ := har
          have hlt : x.toNatClampNeg < q.2.1 := Nat.lt_of_not_le (fun z => hin (Or.inr z))
          exact va_zald hx hb hX.1 h1 (r - 10) 2 he0 (zi_tys_at dA (by decide)) hin hd (kk ws H locs ls _ (zi_ex_refl ws) ⟨h1, h2, h3, h4, h5, ⟨hf _ hlt, k6⟩⟩)
      · cases h
    | false =>
      rw [hb1] at h
      simp only [cond_false] at h
      cases hb2 : (Nat.beq r 8 && Nat.beq 2 0 && zi_in x sl.length) with
      | true =>
        rw [Bool.and_eq_true, Bool.and_eq_true] at hb2
        exact absurd hb2.1.2 (by decide)
      | false =>
        rw [hb2] at h
        simp only [cond_false] at h
        cases hb3 : (Nat.ble 4 r && Nat.ble (r + 1) 8 && Nat.beq 2 2 && zi_in x (zi_sn.getD (r - 4) 0)) with
        | false => rw [hb3] at h; cases h
        | true =>
          rw [hb3] at h
          rw [Bool.and_eq_true, Bool.and_eq_true, Bool.and_eq_true] at hb3
          have r4 := Nat.le_of_ble_eq_true hb3.1.1.1
          have r8 := Nat.le_of_ble_eq_true hb3.1.1.2
          have hin := zi_in_ok hb3.2
          cases h
          intro Q ws H locs ls sc hS _ _ kk
          obtain ⟨h1, h2, h3, h4, h5, h6⟩ := hS
          obtain ⟨w0, sc, rfl, hw0, k5⟩ := zi_F2_cons h6
          have hw0 : w0 = .int x := hw0
          subst hw0
          obtain ⟨w1, sc, rfl, ⟨a, had, rfl⟩, k6⟩ := zi_F2_cons k5
          have ha := zi_ad_byt r4 r8 had
          subst ha
          exact va_tb hx hb (hX.2.1.1 (r - 4) (by omega)).2.2.2 h3 hin rfl hd (kk ws H locs ls _ (zi_ex_refl ws) ⟨h1, h2, h3, h4, h5, ⟨rfl, k6⟩⟩)
  · cases h
theorem zi_go_cald (C : zi_Cx p R s m args meth c B0 D dA adK adV b M d sl) (hd : decode M.2.1 pc = .ok (.caload, 1)) (h : zi_ald 3 sl pc 1 al st A nc ns = some (.inl g)) : zi_Go p l e R s m args below meth c B0 D dA adK adV b M.2.2.1 (pc, al, st, A, nc, ns) g := by
  obtain ⟨⟨hx, hb, hml, hret, hown, hts, hlk, hnm⟩, hX, hR, hscr⟩ := C
  unfold zi_ald at h
  split at h
  · rename_i x r rest
    cases hb1 : Nat.ble 10 r with
    | true =>
      rw [hb1] at h
      have hr := Nat.le_of_ble_eq_true hb1
      simp only [cond_true] at h
      split at h
      · rename_i q hA
        cases hb2 : (((Nat.beq q.1 3 && Nat.ble q.1 6) || (Nat.beq 3 7 && Nat.ble 4 q.1 && Nat.ble q.1 6)) && zi_in x q.2.1) with
        | false => rw [hb2] at h; cases h
        | true =>
          rw [hb2] at h
          rw [Bool.and_eq_true] at hb2
          have hin := zi_in_ok hb2.2
          cases h
          intro Q ws H locs ls sc hS _ _ kk
          obtain ⟨h1, h2, h3, h4, h5, h6⟩ := hS
          obtain ⟨w0, sc, rfl, hw0, k5⟩ := zi_F2_cons h6
          have hw0 : w0 = .int x := hw0
          subst hw0
          obtain ⟨w1, sc, rfl, ⟨a, had, rfl⟩, k6⟩ := zi_F2_cons k5
          obtain ⟨e0, he0, har⟩ := zi_cell_arr h4 hr had hA
          have e1 : q.1 = 3 := by
            have z := hb2.1
            simp only [Bool.or_eq_true, Bool.and_eq_true] at z
            rcases z with z | z
            · exact Nat.eq_of_beq_eq_true z.1
            · exact absurd z.1.1 (by decide)
          rw [e1] at har
          obtain ⟨f, rfl, hf⟩ := har
          have hlt : x.toNatClampNeg < q.2.1 := Nat.lt_of_not_le (fun z => hin (Or.inr z))
          exact va_cald hx hb hX.1 h1 (r - 10) 3 he0 (zi_tys_at dA (by decide)) hin hd (kk ws H locs ls _ (zi_ex_refl ws) ⟨h1, h2, h3, h4, h5, ⟨hf _ hlt, k6⟩⟩)
      · cases h
    | false =>
      rw [hb1] at h
      simp only [cond_false] at h
      cases hb2 : (Nat.beq r 8 && Nat.beq 3 0 && zi_in x sl.length) with
      | true =>
        rw [Bool.and_eq_true, Bool.and_eq_true] at hb2
        exact absurd hb2.1.2 (by decide)
      | false =>
        rw [hb2] at h
        simp only [cond_false] at h
        cases hb3 : (Nat.ble 4 r && Nat.ble (r + 1) 8 && Nat.beq 3 2 && zi_in x (zi_sn.getD (r - 4) 0)) with
        | false => rw [hb3] at h; cases h
        | true =>
          rw [Bool.and_eq_true, Bool.and_eq_true] at hb3
          exact absurd hb3.1.2 (by decide)
  · cases h
theorem zi_go_aald (C : zi_Cx p R s m args meth c B0 D dA adK adV b M d sl) (hd : decode M.2.1 pc = .ok (.aaload, 1)) (h : zi_ald 7 sl pc 1 al st A nc ns = some (.inl g)) : zi_Go p l e R s m args below meth c B0 D dA adK adV b M.2.2.1 (pc, al, st, A, nc, ns) g := by
  obtain ⟨⟨hx, hb, hml, hret, hown, hts, hlk, hnm⟩, hX, hR, hscr⟩ := C
  unfold zi_ald at h
  split at h
  · rename_i x r rest
    cases hb1 : Nat.ble 10 r with
    | true =>
      rw [hb1] at h
      have hr := Nat.le_of_ble_eq_true hb1
      simp only [cond_true] at h
      split at h
      · rename_i q hA
        cases hb2 : (((Nat.beq q.1 7 && Nat.ble q.1 6) || (Nat.beq 7 7 && Nat.ble 4 q.1 && Nat.ble q.1 6)) && zi_in x q.2.1) with
        | false => rw [hb2] at h; cases h
        | true =>
          rw [hb2] at h
          rw [Bool.and_eq_true] at hb2
          have hin := zi_in_ok hb2.2
          cases h
          intro Q ws H locs ls sc hS _ _ kk
          obtain ⟨h1, h2, h3, h4, h5, h6⟩ := hS
          obtain ⟨w0, sc, rfl, hw0, k5⟩ := zi_F2_cons h6
          have hw0 : w0 = .int x := hw0
          subst hw0
          obtain ⟨w1, sc, rfl, ⟨a, had, rfl⟩, k6⟩ := zi_F2_cons k5
          obtain ⟨e0, he0, har⟩ := zi_cell_arr h4 hr had hA
          have e1 : 4 ≤ q.1 ∧ q.1 ≤ 6 := by
            have z := hb2.1
            simp only [Bool.or_eq_true, Bool.and_eq_true] at z
            rcases z with z | z
            · exact absurd (Nat.eq_of_beq_eq_true z.1) (by
                have := Nat.le_of_ble_eq_true z.2
                omega)
            · exact ⟨Nat.le_of_ble_eq_true z.1.2, Nat.le_of_ble_eq_true z.2⟩
          have ek : zi_tk q.1 = 2 ∧ ∃ Cn, zi_ft q.1 = .object Cn := by
            rcases (show q.1 = 4 ∨ q.1 = 5 ∨ q.1 = 6 by omega) with z | z | z <;> (rw [z]; exact ⟨rfl, _, rfl⟩)
          obtain ⟨ek, Cn, hCn⟩ := ek
          unfold zi_ar at har
          rw [ek] at har
          obtain ⟨f, rfl, hf⟩ := har
          have hlt : x.toNatClampNeg < q.2.1 := Nat.lt_of_not_le (fun z => hin (Or.inr z))
          exact va_aldq hx hb hX.1 h1 (r - 10) q.1 he0 (by rw [zi_tys_at dA (by omega), hCn]) hin hd (kk ws H locs ls _ (zi_ex_refl ws) ⟨h1, h2, h3, h4, h5, ⟨hf _ hlt, k6⟩⟩)
      · cases h
    | false =>
      rw [hb1] at h
      simp only [cond_false] at h
      cases hb2 : (Nat.beq r 8 && Nat.beq 7 0 && zi_in x sl.length) with
      | true =>
        rw [Bool.and_eq_true, Bool.and_eq_true] at hb2
        exact absurd hb2.1.2 (by decide)
      | false =>
        rw [hb2] at h
        simp only [cond_false] at h
        cases hb3 : (Nat.ble 4 r && Nat.ble (r + 1) 8 && Nat.beq 7 2 && zi_in x (zi_sn.getD (r - 4) 0)) with
        | false => rw [hb3] at h; cases h
        | true =>
          rw [Bool.and_eq_true, Bool.and_eq_true] at hb3
          exact absurd hb3.1.2 (by decide)
  · cases h
end ZH
end
section
section ZH
variable {p : Program} {l : Launch} {e : Env} {R : Room} {s : State} {m : MethodId} {args : Array Value} {below : List Frame} {meth : Method} {c : Code} {B0 : Nat} {D : va_G} {dA : Nat → ClassId} {adK adV : Nat → Nat} {b : Nat} {M : zi_M} {d : Nat} {sl : List zi_V}
variable {pc : Nat} {al : List (Nat × zi_V)} {st : List zi_V} {A : List zi_C} {nc ns : Nat} {g : zi_F}
theorem zi_look_cons (dv v : zi_V) (us : List (Nat × zi_V)) (i j : Nat) : zi_look dv ((i, v) :: us) j = bif Nat.beq i j then v else zi_look dv us j := rfl
theorem zi_look_up {P : Nat → zi_V → Prop} {dv v : zi_V} {us : List (Nat × zi_V)} {i j : Nat} (h1 : j = i → P j v) (h2 : j ≠ i → P j (zi_look dv us j)) : P j (zi_look dv ((i, v) :: us) j) := by
  rw [zi_look_cons]
  cases hb : Nat.beq i j with
  | true => exact h1 (Nat.eq_of_beq_eq_true hb).symm
  | false => exact h2 (fun z => Nat.ne_of_beq_eq_false hb z.symm)
theorem zi_sok_boolean {v : zi_V} (h : zi_sok 2 v = true) : ∃ y, v = .inl (.int y) ∧ narrow .boolean (.int y) = .int y := by
  cases v with
  | inr q => exact Bool.noConfusion (show false = true from h)
  | inl w => cases w with
    | int x => exact ⟨x, rfl, of_decide_eq_true h⟩
    | _ => exact Bool.noConfusion (show false = true from h)
theorem zi_sok_char {v : zi_V} (h : zi_sok 3 v = true) : ∃ y, v = .inl (.int y) ∧ narrow .char (.int y) = .int y := by
  cases v with
  | inr q => exact Bool.noConfusion (show false = true from h)
  | inl w => cases w with
    | int x => exact ⟨x, rfl, of_decide_eq_true h⟩
    | _ => exact Bool.noConfusion (show false = true from h)
theorem zi_nar {ty : FieldType} {x : Int32} (h : narrow ty (.int x) = .int x) : vp_nar ty x = x := by
  unfold vp_nar
  rw [h]
theorem zi_go_iast (C : zi_Cx p R s m args meth c B0 D dA adK adV b M d sl) (hd : decode M.2.1 pc = .ok (.iastore, 1)) (h : zi_ast 0 pc 1 al st A nc ns = some (.inl g)) : zi_Go p l e R s m args below meth c B0 D dA adK adV b M.2.2.1 (pc, al, st, A, nc, ns) g := by
  obtain ⟨⟨hx, hb, hml, hret, hown, hts, hlk, hnm⟩, hX, hR, hscr⟩ := C
  unfold zi_ast at h
  split at h
  · rename_i v x r rest
    cases hb1 : Nat.ble 10 r with
    | false => rw [hb1] at h; cases h
    | true =>
      rw [hb1] at h
      have hr := Nat.le_of_ble_eq_true hb1
      simp only [cond_true] at h
      split at h
      · rename_i q hA
        cases hb2 : (Nat.beq q.1 0 && zi_in x q.2.1 && zi_sok 0 v) with
        | false => rw [hb2] at h; cases h
        | true =>
          rw [hb2] at h
          rw [Bool.and_eq_true, Bool.and_eq_true] at hb2
          have e1 := Nat.eq_of_beq_eq_true hb2.1.1
          have hin := zi_in_ok hb2.1.2
          have hsok := hb2.2
          cases h
          intro Q ws H locs ls sc hS _ _ kk
          obtain ⟨h1, h2, h3, h4, ⟨lv, h5, h7⟩, h6⟩ := hS
          obtain ⟨w, sc, rfl, hw, k4⟩ := zi_F2_cons h6
          obtain ⟨w0, sc, rfl, hw0, k5⟩ := zi_F2_cons k4
          have hw0 : w0 = .int x := hw0
          subst hw0
          obtain ⟨w1, sc, rfl, ⟨a, had, rfl⟩, k6⟩ := zi_F2_cons k5
          obtain ⟨e0, he0, har⟩ := zi_cell_arr h4 hr had hA
          rw [e1] at har
          obtain ⟨f, rfl, hf⟩ := har
          obtain ⟨y, rfl⟩ := zi_vr_int hw (Nat.eq_of_beq_eq_true hsok)
          refine va_iast hx hb hX.1 h1 h2 h3 (r - 10) 0 he0 (zi_tys_at dA (by decide)) hin hd (fun H1 locs1 p1 p2 p3 => ?_)
          refine kk _ H1 locs1 ls sc (zi_ex_set he0) (zi_st_set he0 h4 h5 h7 k6 (?_ : zi_ar _ _ q.1 _ _ _ _) p1 p2 p3)
          rw [e1]
          refine ⟨_, rfl, fun j hj => ?_⟩
          refine zi_look_up (P := fun j z => zi_vr (zi_ad adK adV b ws) z (Value.int (upd f x.toNatClampNeg y j))) (fun ej => ?_) (fun ej => ?_)
          · have e2 : upd f x.toNatClampNeg y j = y := by unfold upd; rw [if_pos ej]
            try dsimp only
            rw [e2]
            first | exact hw | rfl
          · have e2 : upd f x.toNatClampNeg y j = f j := by unfold upd; rw [if_neg ej]
            try dsimp only
            rw [e2]
            exact hf j hj
      · cases h
  · cases h
theorem zi_go_last (C : zi_Cx p R s m args meth c B0 D dA adK adV b M d sl) (hd : decode M.2.1 pc = .ok (.lastore, 1)) (h : zi_ast 1 pc 1 al st A nc ns = some (.inl g)) : zi_Go p l e R s m args below meth c B0 D dA adK adV b M.2.2.1 (pc, al, st, A, nc, ns) g := by
  obtain ⟨⟨hx, hb, hml, hret, hown, hts, hlk, hnm⟩, hX, hR, hscr⟩ := C
  unfold zi_ast at h
  split at h
  · rename_i v x r rest
    cases hb1 : Nat.ble 10 r with
    | false => rw [hb1] at h; cases h
    | true =>
      rw [hb1] at h
      have hr := Nat.le_of_ble_eq_true hb1
      simp only [cond_true] at h
      split at h
      · rename_i q hA
        cases hb2 : (Nat.beq q.1 1 && zi_in x q.2.1 && zi_sok 1 v) with
        | false => rw [hb2] at h; cases h
        | true =>
          rw [hb2] at h
          rw [Bool.and_eq_true, Bool.and_eq_true] at hb2
          have e1 := Nat.eq_of_beq_eq_true hb2.1.1
          have hin := zi_in_ok hb2.1.2
          have hsok := hb2.2
          cases h
          intro Q ws H locs ls sc hS _ _ kk
          obtain ⟨h1, h2, h3, h4, ⟨lv, h5, h7⟩, h6⟩ := hS
          obtain ⟨w, sc, rfl, hw, k4⟩ := zi_F2_cons h6
          obtain ⟨w0, sc, rfl, hw0, k5⟩ := zi_F2_cons k4
          have hw0 : w0 = .int x := hw0
          subst hw0
          obtain ⟨w1, sc, rfl, ⟨a, had, rfl⟩, k6⟩ := zi_F2_cons k5
          obtain ⟨e0, he0, har⟩ := zi_cell_arr h4 hr had hA
          rw [e1] at har
          obtain ⟨f, rfl, hf⟩ := har
          obtain ⟨y, rfl⟩ := zi_vr_long hw (Nat.eq_of_beq_eq_true hsok)
          refine va_last hx hb hX.1 h1 h2 h3 (r - 10) 1 he0 (zi_tys_at dA (by decide)) hin hd (fun H1 locs1 p1 p2 p3 => ?_)
          refine kk _ H1 locs1 ls sc (zi_ex_set he0) (zi_st_set he0 h4 h5 h7 k6 (?_ : zi_ar _ _ q.1 _ _ _ _) p1 p2 p3)
          rw [e1]
          refine ⟨_, rfl, fun j hj => ?_⟩
          refine zi_look_up (P := fun j z => zi_vr (zi_ad adK adV b ws) z (Value.long (vp_updL f x.toNatClampNeg y j))) (fun ej => ?_) (fun ej => ?_)
          · have e2 : vp_updL f x.toNatClampNeg y j = y := by unfold vp_updL; rw [if_pos ej]
            try dsimp only
            rw [e2]
            first | exact hw | rfl
          · have e2 : vp_updL f x.toNatClampNeg y j = f j := by unfold vp_updL; rw [if_neg ej]
            try dsimp only
            rw [e2]
            exact hf j hj
      · cases h
  · cases h
theorem zi_go_zast (C : zi_Cx p R s m args meth c B0 D dA adK adV b M d sl) (hd : decode M.2.1 pc = .ok (.bastore, 1)) (h : zi_ast 2 pc 1 al st A nc ns = some (.inl g)) : zi_Go p l e R s m args below meth c B0 D dA adK adV b M.2.2.1 (pc, al, st, A, nc, ns) g := by
  obtain ⟨⟨hx, hb, hml, hret, hown, hts, hlk, hnm⟩, hX, hR, hscr⟩ := C
  unfold zi_ast at h
  split at h
  · rename_i v x r rest
    cases hb1 : Nat.ble 10 r with
    | false => rw [hb1] at h; cases h
    | true =>
      rw [hb1] at h
      have hr := Nat.le_of_ble_eq_true hb1
      simp only [cond_true] at h
      split at h
      · rename_i q hA
        cases hb2 : (Nat.beq q.1 2 && zi_in x q.2.1 && zi_sok 2 v) with
        | false => rw [hb2] at h; cases h
        | true =>
          rw [hb2] at h
          rw [Bool.and_eq_true, Bool.and_eq_true] at hb2
          have e1 := Nat.eq_of_beq_eq_true hb2.1.1
          have hin := zi_in_ok hb2.1.2
          have hsok := hb2.2
          cases h
          intro Q ws H locs ls sc hS _ _ kk
          obtain ⟨h1, h2, h3, h4, ⟨lv, h5, h7⟩, h6⟩ := hS
          obtain ⟨w, sc, rfl, hw, k4⟩ := zi_F2_cons h6
          obtain ⟨w0, sc, rfl, hw0, k5⟩ := zi_F2_cons k4
          have hw0 : w0 = .int x := hw0
          subst hw0
          obtain ⟨w1, sc, rfl, ⟨a, had, rfl⟩, k6⟩ := zi_F2_cons k5
          obtain ⟨e0, he0, har⟩ := zi_cell_arr h4 hr had hA
          rw [e1] at har
          obtain ⟨f, rfl, hf⟩ := har
          obtain ⟨y, ev, hny⟩ := zi_sok_boolean hsok
          subst ev
          have hw : w = .int y := hw
          subst hw
          refine va_zast hx hb hX.1 h1 h2 h3 (r - 10) 2 he0 (zi_tys_at dA (by decide)) hin hd (fun H1 locs1 p1 p2 p3 => ?_)
          rw [zi_nar hny] at p1 p2
          refine kk _ H1 locs1 ls sc (zi_ex_set he0) (zi_st_set he0 h4 h5 h7 k6 (?_ : zi_ar _ _ q.1 _ _ _ _) p1 p2 p3)
          rw [e1]
          refine ⟨_, rfl, fun j hj => ?_⟩
          refine zi_look_up (P := fun j z => zi_vr (zi_ad adK adV b ws) z (Value.int (upd f x.toNatClampNeg y j))) (fun ej => ?_) (fun ej => ?_)
          · have e2 : upd f x.toNatClampNeg y j = y := by unfold upd; rw [if_pos ej]
            try dsimp only
            rw [e2]
            first | exact hw | rfl
          · have e2 : upd f x.toNatClampNeg y j = f j := by unfold upd; rw [if_neg ej]
            try dsimp only
            rw [e2]
            exact hf j hj
      · cases h
  · cases h
theorem zi_go_cast (C : zi_Cx p R s m args meth c B0 D dA adK adV b M d sl) (hd : decode M.2.1 pc = .ok (.castore, 1)) (h : zi_ast 3 pc 1 al st A nc ns = some (.inl g)) : zi_Go p l e R s m args below meth c B0 D dA adK adV b M.2.2.1 (pc, al, st, A, nc, ns) g := by
  obtain ⟨⟨hx, hb, hml, hret, hown, hts, hlk, hnm⟩, hX, hR, hscr⟩ := C
  unfold zi_ast at h
  split at h
  · rename_i v x r rest
    cases hb1 : Nat.ble 10 r with
    | false => rw [hb1] at h; cases h
    | true =>
      rw [hb1] at h
      have hr := Nat.le_of_ble_eq_true hb1
      simp only [cond_true] at h
      split at h
      · rename_i q hA
        cases hb2 : (Nat.beq q.1 3 && zi_in x q.2.1 && zi_sok 3 v) with
        | false => rw [hb2] at h; cases h
        | true =>
          rw [hb2] at h
          rw [Bool.and_eq_true, Bool.and_eq_true] at hb2
          have e1 := Nat.eq_of_beq_eq_true hb2.1.1
          have hin := zi_in_ok hb2.1.2
          have hsok := hb2.2
          cases h
          intro Q ws H locs ls sc hS _ _ kk
          obtain ⟨h1, h2, h3, h4, ⟨lv, h5, h7⟩, h6⟩ := hS
          obtain ⟨w, sc, rfl, hw, k4⟩ := zi_F2_cons h6
          obtain ⟨w0, sc, rfl, hw0, k5⟩ := zi_F2_cons k4
          have hw0 : w0 = .int x := hw0
          subst hw0
          obtain ⟨w1, sc, rfl, ⟨a, had, rfl⟩, k6⟩ := zi_F2_cons k5
          obtain ⟨e0, he0, har⟩ := zi_cell_arr h4 hr had hA
          rw [e1] at har
          obtain ⟨f, rfl, hf⟩ := har
          obtain ⟨y, ev, hny⟩ := zi_sok_char hsok
          subst ev
          have hw : w = .int y := hw
          subst hw
          refine va_cast hx hb hX.1 h1 h2 h3 (r - 10) 3 he0 (zi_tys_at dA (by decide)) hin hd (fun H1 locs1 p1 p2 p3 => ?_)
          rw [zi_nar hny] at p1 p2
          refine kk _ H1 locs1 ls sc (zi_ex_set he0) (zi_st_set he0 h4 h5 h7 k6 (?_ : zi_ar _ _ q.1 _ _ _ _) p1 p2 p3)
          rw [e1]
          refine ⟨_, rfl, fun j hj => ?_⟩
          refine zi_look_up (P := fun j z => zi_vr (zi_ad adK adV b ws) z (Value.int (upd f x.toNatClampNeg y j))) (fun ej => ?_) (fun ej => ?_)
          · have e2 : upd f x.toNatClampNeg y j = y := by unfold upd; rw [if_pos ej]
            try dsimp only
            rw [e2]
            first | exact hw | rfl
          · have e2 : upd f x.toNatClampNeg y j = f j := by unfold upd; rw [if_neg ej]
            try dsimp only
            rw [e2]
            exact hf j hj
      · cases h
  · cases h
theorem zi_dfv_ok (ty : FieldType) (h1 : ty ≠ .float) (h2 : ty ≠ .double) (ad : Nat → Option Nat) : zi_vr ad (zi_dfv ty) (defaultValue ty) := by
  cases ty <;> first | rfl | exact absurd rfl h1 | exact absurd rfl h2
theorem zi_new_ok (ad : Nat → Option Nat) : ∀ (l : List ((String × String × String × Bool) × FieldType)), (∀ x ∈ l, x.2 ≠ .float ∧ x.2 ≠ .double) → zi_F2 (zi_vr ad) (l.map (fun q => zi_dfv q.2)) (l.map (fun q => defaultValue q.2))
  | [], _ => trivial
  | x :: l, h => ⟨zi_dfv_ok _ (h x List.mem_cons_self).1 (h x List.mem_cons_self).2 ad, zi_new_ok ad l (fun y hy => h y (List.mem_cons_of_mem _ hy))⟩
theorem zi_go_nw (C : zi_Cx p R s m args meth c B0 D dA adK adV b M d sl) {ci i : Nat} (hd : decode M.2.1 pc = .ok (.new i, 3)) (ho : ∃ q, zi_Fs[ci]? = some q ∧ Cond.classLink M.1.cls i q.1 ∈ zi_gd ∧ Cond.instantiable q.1 q.2.length ∈ zi_gd ∧ Cond.initialized q.1 ∈ zi_gd) (h : zi_nw pc 3 al st A nc ns ci = some (.inl g)) : zi_Go p l e R s m args below meth c B0 D dA adK adV b M.2.2.1 (pc, al, st, A, nc, ns) g := by
  obtain ⟨⟨hx, hb, hml, hret, hown, hts, hlk, hnm⟩, hX, hR, hscr⟩ := C
  obtain ⟨q, hq1, hq2, hq3, hq4⟩ := ho
  have eq : zi_Fs.getD ci ("", []) = q := by rw [List.getD_eq_getElem?_getD, hq1]; rfl
  unfold zi_nw zi_new at h
  rw [eq] at h
  cases h
  intro Q ws H locs ls sc hS hc1 hc2 kk
  obtain ⟨h1, h2, h3, h4, ⟨lv, h5, h7⟩, h6⟩ := hS
  obtain ⟨c1, c2, c3, c4⟩ := zi_cl_ok hq1
  have hty : ∀ x ∈ q.2, x.2 ≠ .float ∧ x.2 ≠ .double := by
    intro x hx'
    obtain ⟨k, hk⟩ := List.getElem?_of_mem hx'
    have hl := (List.getElem?_eq_some_iff.mp hk).1
    have := c4 k hl
    rw [zi_ty_at hq1, List.getD_eq_getElem?_getD, hk] at this
    exact this
  refine va_new (fs := q.2.map (fun z => defaultValue z.2)) hx hb hts c1 (zi_ty ci) c2 hown (hts _ hq2) (hts _ hq3) (hts _ hq4) hX.1 h1 h2 h3 (fun z hz => Nat.le_trans hX.2.2.2.2.2.2.2 hz) (zi_cl_at hq1) (fun j hj => ?_) hc1 hc2 hd (fun a H1 p1 p2 p3 => ?_)
  · rw [zi_ty_at hq1]
    unfold vp_V
    rw [List.getD_eq_getElem?_getD, List.getD_eq_getElem?_getD, List.getElem?_map]
    rw [List.getElem?_eq_getElem hj]
    rfl
  · exact kk _ H1 locs ls _ zi_ex_app (zi_st_new h4 h5 h7 h6 (fun ad => ⟨_, rfl, zi_new_ok ad q.2 hty⟩) p1 p2 p3)
theorem zi_cA {t : Nat} {cA : ClassId} (ht : t < 7) (h1 : va_K D zi_cl (zi_tys dA) s) (h2 : va_K D zi_cl (zi_tys dA ++ [(cA, zi_ft t)]) s) : cA = dA t := by
  have g1 := (h1.2 t _ (zi_tys_at dA ht)).2
  have g2 := (h2.2 7 (cA, zi_ft t) (by rw [List.getElem?_append_right (by simp [zi_tys])]; simp [zi_tys])).2
  rcases (show t = 0 ∨ t = 1 ∨ t = 2 ∨ t = 3 ∨ t = 4 ∨ t = 5 ∨ t = 6 by omega) with z | z | z | z | z | z | z <;> subst z
  · exact Option.some.inj ((show s.vm.findClass _ = some cA from g2).symm.trans (show s.vm.findClass _ = some (dA 0) from g1))
  · exact Option.some.inj ((show s.vm.findClass _ = some cA from g2).symm.trans (show s.vm.findClass _ = some (dA 1) from g1))
  · exact Option.some.inj ((show s.vm.findClass _ = some cA from g2).symm.trans (show s.vm.findClass _ = some (dA 2) from g1))
  · exact Option.some.inj ((show s.vm.findClass _ = some cA from g2).symm.trans (show s.vm.findClass _ = some (dA 3) from g1))
  all_goals (
    obtain ⟨k1, c1, -, -, -, e1⟩ := g1
    obtain ⟨k2, c2, -, -, -, e2⟩ := g2
    exact Option.some.inj (e2.symm.trans e1))
theorem zi_cb (t : Nat) (h : t < 4) {n : Nat} (hn : n ≤ 1000000) : n * componentBytes (zi_ft t) ≤ 536870912 := by
  rcases (show t = 0 ∨ t = 1 ∨ t = 2 ∨ t = 3 by omega) with z | z | z | z <;> subst z
  · rw [show componentBytes (zi_ft 0) = 4 from rfl]; omega
  · rw [show componentBytes (zi_ft 1) = 8 from rfl]; omega
  · rw [show componentBytes (zi_ft 2) = 1 from rfl]; omega
  · rw [show componentBytes (zi_ft 3) = 2 from rfl]; omega
theorem zi_go_nwa (C : zi_Cx p R s m args meth c B0 D dA adK adV b M d sl) {t : Nat} {at0 : ArrayType} (hd : decode M.2.1 pc = .ok (.newarray at0, 2)) (hty : newarray.typeOf at0 = zi_ft t) (h4t : t < 4) (harr : Cond.arrayClass (newarray.typeOf at0) ∈ zi_gd) (h : zi_nwa pc 2 al st A nc ns t = some (.inl g)) : zi_Go p l e R s m args below meth c B0 D dA adK adV b M.2.2.1 (pc, al, st, A, nc, ns) g := by
  obtain ⟨⟨hx, hb, hml, hret, hown, hts, hlk, hnm⟩, hX, hR, hscr⟩ := C
  unfold zi_nwa at h
  split at h
  · rename_i x r
    cases hb1 : (!decide (x < 0) && Nat.ble x.toNatClampNeg 1000000 && Nat.ble t 6) with
    | false => rw [hb1] at h; cases h
    | true =>
      rw [hb1] at h
      simp only [Bool.and_eq_true, Bool.not_eq_true', decide_eq_false_iff_not] at hb1
      have hN := Nat.le_of_ble_eq_true hb1.1.2
      cases h
      intro Q ws H locs ls sc hS hc1 hc2 kk
      obtain ⟨h1, h2, h3, h4, ⟨lv, h5, h7⟩, h6⟩ := hS
      obtain ⟨w, sc, rfl, hw, k6⟩ := zi_F2_cons h6
      have hw : w = .int x := hw
      subst hw
      rcases (show t = 0 ∨ t = 1 ∨ t = 2 ∨ t = 3 by omega) with z | z | z | z <;> subst z
      · refine va_newa (atype := at0) (ty := .int) (N' := x.toNatClampNeg) (a0 := (x.toNatClampNeg, .inl (fun _ => 0))) hx hb (hts _ harr) hty hX.1 h1 h2 h3 (fun z hz => Nat.le_trans hX.2.2.2.2.2.2.2 hz) (fun _ => rfl) hb1.1.1 rfl (zi_cb 0 (by decide) hN) hc1 hc2 hd (fun a cA H1 p0 p1 p2 p3 => ?_)
        have e1 := zi_cA (t := 0) (by decide) hX.1 p0
        subst e1
        exact kk _ H1 locs ls _ zi_ex_app (zi_st_new h4 h5 h7 k6 (fun ad => ⟨_, rfl, fun _ _ => rfl⟩) p1 p2 p3)
      · refine va_newa (atype := at0) (ty := .long) (N' := x.toNatClampNeg) (a0 := (x.toNatClampNeg, .inr (.inl (fun _ => 0)))) hx hb (hts _ harr) hty hX.1 h1 h2 h3 (fun z hz => Nat.le_trans hX.2.2.2.2.2.2.2 hz) (fun _ => rfl) hb1.1.1 rfl (zi_cb 1 (by decide) hN) hc1 hc2 hd (fun a cA H1 p0 p1 p2 p3 => ?_)
        have e1 := zi_cA (t := 1) (by decide) hX.1 p0
        subst e1
        exact kk _ H1 locs ls _ zi_ex_app (zi_st_new h4 h5 h7 k6 (fun ad => ⟨_, rfl, fun _ _ => rfl⟩) p1 p2 p3)
      · refine va_newa (atype := at0) (ty := .boolean) (N' := x.toNatClampNeg) (a0 := (x.toNatClampNeg, .inl (fun _ => 0))) hx hb (hts _ harr) hty hX.1 h1 h2 h3 (fun z hz => Nat.le_trans hX.2.2.2.2.2.2.2 hz) (fun _ => rfl) hb1.1.1 rfl (zi_cb 2 (by decide) hN) hc1 hc2 hd (fun a cA H1 p0 p1 p2 p3 => ?_)
        have e1 := zi_cA (t := 2) (by decide) hX.1 p0
        subst e1
        exact kk _ H1 locs ls _ zi_ex_app (zi_st_new h4 h5 h7 k6 (fun ad => ⟨_, rfl, fun _ _ => rfl⟩) p1 p2 p3)
      · refine va_newa (atype := at0) (ty := .char) (N' := x.toNatClampNeg) (a0 := (x.toNatClampNeg, .inl (fun _ => 0))) hx hb (hts _ harr) hty hX.1 h1 h2 h3 (fun z hz => Nat.le_trans hX.2.2.2.2.2.2.2 hz) (fun _ => rfl) hb1.1.1 rfl (zi_cb 3 (by decide) hN) hc1 hc2 hd (fun a cA H1 p0 p1 p2 p3 => ?_)
        have e1 := zi_cA (t := 3) (by decide) hX.1 p0
        subst e1
        exact kk _ H1 locs ls _ zi_ex_app (zi_st_new h4 h5 h7 k6 (fun ad => ⟨_, rfl, fun _ _ => rfl⟩) p1 p2 p3)
  · cases h
theorem zi_go_nwq (C : zi_Cx p R s m args meth c B0 D dA adK adV b M d sl) {t i : Nat} {Cn : String} (hd : decode M.2.1 pc = .ok (.anewarray i, 3)) (hty : zi_ft t = .object Cn) (h4t : 4 ≤ t) (h6t : t < 7) (hcl : Cond.classLink M.1.cls i Cn ∈ zi_gd) (h : zi_nwa pc 3 al st A nc ns t = some (.inl g)) : zi_Go p l e R s m args below meth c B0 D dA adK adV b M.2.2.1 (pc, al, st, A, nc, ns) g := by
  obtain ⟨⟨hx, hb, hml, hret, hown, hts, hlk, hnm⟩, hX, hR, hscr⟩ := C
  unfold zi_nwa at h
  split at h
  · rename_i x r
    cases hb1 : (!decide (x < 0) && Nat.ble x.toNatClampNeg 1000000 && Nat.ble t 6) with
    | false => rw [hb1] at h; cases h
    | true =>
      rw [hb1] at h
      simp only [Bool.and_eq_true, Bool.not_eq_true', decide_eq_false_iff_not] at hb1
      have hN := Nat.le_of_ble_eq_true hb1.1.2
      cases h
      intro Q ws H locs ls sc hS hc1 hc2 kk
      obtain ⟨h1, h2, h3, h4, ⟨lv, h5, h7⟩, h6⟩ := hS
      obtain ⟨w, sc, rfl, hw, k6⟩ := zi_F2_cons h6
      have hw : w = .int x := hw
      subst hw
      have hao : va_AO Cn s := by
        rcases (show t = 4 ∨ t = 5 ∨ t = 6 by omega) with z | z | z <;> (subst z; cases hty)
        · exact hX.2.2.2.2.2.2.1.1
        · exact hX.2.2.2.2.2.2.1.2.1
        · exact hX.2.2.2.2.2.2.1.2.2
      refine va_newq (N' := x.toNatClampNeg) hx hb hown (hts _ hcl) hao hX.1 h1 h2 h3 (fun z hz => Nat.le_trans hX.2.2.2.2.2.2.2 hz) hb1.1.1 rfl (by omega) hc1 hc2 hd (fun a cA H1 p0 p1 p2 p3 => ?_)
      rw [← hty] at p0
      have e1 := zi_cA h6t hX.1 p0
      subst e1
      refine kk _ H1 locs ls _ zi_ex_app (zi_st_new h4 h5 h7 k6 (fun ad => (?_ : zi_ar _ _ _ _ _ _ _)) p1 p2 p3)
      rcases (show t = 4 ∨ t = 5 ∨ t = 6 by omega) with z | z | z <;> (subst z; exact ⟨_, rfl, fun _ _ => rfl⟩)
  · cases h
end ZH
end
section
section ZH
variable {p : Program} {l : Launch} {e : Env} {R : Room} {s : State} {m : MethodId} {args : Array Value} {below : List Frame} {meth : Method} {c : Code} {B0 : Nat} {D : va_G} {dA : Nat → ClassId} {adK adV : Nat → Nat} {b : Nat} {M : zi_M} {d : Nat} {sl : List zi_V}
variable {pc : Nat} {al : List (Nat × zi_V)} {st : List zi_V} {A : List zi_C} {nc ns : Nat} {g : zi_F}
theorem zi_go_aast (C : zi_Cx p R s m args meth c B0 D dA adK adV b M d sl) (hd : decode M.2.1 pc = .ok (.aastore, 1)) (h : zi_aas pc 1 al st A nc ns = some (.inl g)) : zi_Go p l e R s m args below meth c B0 D dA adK adV b M.2.2.1 (pc, al, st, A, nc, ns) g := by
  obtain ⟨⟨hx, hb, hml, hret, hown, hts, hlk, hnm⟩, hX, hR, hscr⟩ := C
  unfold zi_aas at h
  split at h
  · rename_i v x r rest
    cases hb1 : Nat.ble 10 r with
    | false => rw [hb1] at h; cases h
    | true =>
      rw [hb1] at h
      have hr := Nat.le_of_ble_eq_true hb1
      simp only [cond_true] at h
      split at h
      · rename_i q hA
        cases hb2 : (Nat.ble 4 q.1 && Nat.ble q.1 6 && zi_in x q.2.1 && zi_aso A q.1 v) with
        | false => rw [hb2] at h; cases h
        | true =>
          rw [hb2] at h
          rw [Bool.and_eq_true, Bool.and_eq_true, Bool.and_eq_true] at hb2
          have g4 := Nat.le_of_ble_eq_true hb2.1.1.1
          have g6 := Nat.le_of_ble_eq_true hb2.1.1.2
          have hin := zi_in_ok hb2.1.2
          have hso := hb2.2
          cases h
          intro Q ws H locs ls sc hS hc1 hc2 kk
          obtain ⟨h1, h2, h3, h4, ⟨lv, h5, h7⟩, h6⟩ := hS
          obtain ⟨w, sc, rfl, hw, k4⟩ := zi_F2_cons h6
          obtain ⟨w0, sc, rfl, hw0, k5⟩ := zi_F2_cons k4
          have hw0 : w0 = .int x := hw0
          subst hw0
          obtain ⟨w1, sc, rfl, ⟨a, had, rfl⟩, k6⟩ := zi_F2_cons k5
          obtain ⟨e0, he0, har⟩ := zi_cell_arr h4 hr had hA
          have ek : zi_tk q.1 = 2 ∧ ∃ Cn, zi_ft q.1 = .object Cn := by
            rcases (show q.1 = 4 ∨ q.1 = 5 ∨ q.1 = 6 by omega) with z | z | z <;> (rw [z]; exact ⟨rfl, _, rfl⟩)
          obtain ⟨ek, Cn, hCn⟩ := ek
          unfold zi_ar at har
          rw [ek] at har
          obtain ⟨f, rfl, hf⟩ := har
          have fin : ∀ (y : Option Nat), zi_vr (zi_ad adK adV b ws) v (va_rf y) → ∀ (H1 : Heap) (locs1 : List Loc), va_P D zi_cl (ws.set (r - 10) (a, .inl (dA q.1, q.2.1, .inr (.inr (.inr (.inr (va_up f x.toNatClampNeg y))))))) H1 → va_D (fun q => B0 ≤ q) (ws.set (r - 10) (a, .inl (dA q.1, q.2.1, .inr (.inr (.inr (.inr (va_up f x.toNatClampNeg y))))))) → va_S (fun q => B0 ≤ q) s.heap H1 locs1 → zi_W p l e R s m args below meth c Q nc ns (pc + 1) H1 locs1 ls sc := by
            intro y hy H1 locs1 p1 p2 p3
            refine kk _ H1 locs1 ls sc (zi_ex_set he0) (zi_st_set he0 h4 h5 h7 k6 (?_ : zi_ar _ _ _ _ _ _ _) p1 p2 p3)
            unfold zi_ar
            rw [ek]
            refine ⟨_, rfl, fun j hj => ?_⟩
            refine zi_look_up (P := fun j z => zi_vr (zi_ad adK adV b ws) z (va_rf (va_up f x.toNatClampNeg y j))) (fun ej => ?_) (fun ej => ?_)
            · have e2 : va_up f x.toNatClampNeg y j = y := by unfold va_up; rw [if_pos ej]
              try dsimp only
              rw [e2]
              exact hy
            · have e2 : va_up f x.toNatClampNeg y j = f j := by unfold va_up; rw [if_neg ej]
              try dsimp only
              rw [e2]
              exact hf j hj
          unfold zi_aso at hso
          split at hso
          · have hw : w = .null := hw
            subst hw
            have hty : (zi_tys dA)[q.1]? = some (dA q.1, .object Cn) := by rw [zi_tys_at dA (by omega), hCn]
            have hz : zi_vr (zi_ad adK adV b ws) (.inl .null) (va_rf none) := rfl
            have fin2 := fin none hz
            refine va_astqN (C := Cn) (f := f) hx hb hX.1 h1 h2 h3 (r - 10) q.1 he0 hty hin hd ?_
            exact fin2
          · rename_i r2
            rw [Bool.and_eq_true] at hso
            have hr2 := Nat.le_of_ble_eq_true hso.1
            have hso2 := hso.2
            split at hso2
            · rename_i q2 hA2
              have hz := of_decide_eq_true hso2
              have hw' := hw
              obtain ⟨a2, had2, rfl⟩ := hw
              obtain ⟨vs, hvs, -⟩ := zi_cell_obj h4 hr2 had2 hA2
              cases hq3 : zi_Fs[q2.1]? with
              | none => rw [hq3] at hz; cases hz
              | some q3 =>
                rw [hq3] at hz
                have hz : zi_ft q.1 = .object q3.1 := Option.some.inj hz
                obtain ⟨q4, hq4, e4⟩ : ∃ q4 : vw_C, zi_cl[q2.1]? = some q4 ∧ q4.1 = q3.1 := ⟨_, zi_cl_at hq3, rfl⟩
                have hty : (zi_tys dA)[q.1]? = some (dA q.1, .object q4.1) := by rw [zi_tys_at dA (by omega), hz, e4]
                have fin2 := fin (some a2) hw'
                exact va_astq (f := f) (v := a2) (vs := vs) hx hb hX.1 h1 h2 h3 (r - 10) q.1 (r2 - 10) q2.1 (r := q4) he0 hty hvs hq4 hin hd fin2
            · cases hso2
          · cases hso
      · cases h
  · cases h
end ZH
end
section
/-! Calls: the contract that a run gives, and its use. -/
def zi_ws (N : zi_M) : List Cond := Cond.code N.1 N.2.1 N.2.2.1 N.2.2.2.1 :: zi_gd
def zi_room (d nc ns : Nat) : Room := { frames := d, cells := nc, slots := ns, locals := 60 * d }
def zi_Pc (B0 : Nat) (D : va_G) (dA : Nat → ClassId) (adK adV : Nat → Nat) (ws : va_W) (vs : List Value) : Array Value → State → Prop := va_Pc vs (fun U => zi_X B0 D dA adK adV U ∧ va_P D zi_cl ws U.heap ∧ va_D (fun q => B0 ≤ q) ws)
def zi_ro (ad : Nat → Option Nat) (r : Option zi_V) (v : Option Value) : Prop := match r, v with
  | none, none => True
  | some x, some w => zi_vr ad x w
  | _, _ => False
def zi_Q (B0 : Nat) (D : va_G) (dA : Nat → ClassId) (adK adV : Nat → Nat) (b : Nat) (ws : va_W) (rv : Option zi_V) (A' : List zi_C) : Array Value → State → Outcome → State → Prop := fun _ st oc t =>
  (∃ (v : Option Value) (ws' : va_W), oc = .returned v ∧ zi_ex ws ws' ∧ zi_ro (zi_ad adK adV b ws') rv v ∧ zi_F2 (zi_cr (zi_ad adK adV b ws') dA) A' ws' ∧ va_P D zi_cl ws' t.heap ∧ va_D (fun q => B0 ≤ q) ws') ∧ va_F (fun q => B0 ≤ q) st t
def zi_Met (l : Launch) (N : zi_M) (d : Nat) (avs : List zi_V) (A : List zi_C) (rv : Option zi_V) (A' : List zi_C) (nc ns : Nat) : Prop := ∀ (B0 : Nat) (D : va_G) (dA : Nat → ClassId) (adK adV : Nat → Nat) (b : Nat) (ws : va_W) (vs : List Value), zi_F2 (zi_vr (zi_ad adK adV b ws)) avs vs → zi_F2 (zi_cr (zi_ad adK adV b ws) dA) A ws →
  Met l N.1 (zi_ws N) (zi_room d nc ns) (zi_Pc B0 D dA adK adV ws vs) (zi_Q B0 D dA adK adV b ws rv A') nc ns (fun q => B0 ≤ q)
def zi_Ct (l : Launch) (Ms : List zi_M) (d : Nat) (call : zi_K) : Prop := ∀ (mi : Nat) (avs : List zi_V) (A : List zi_C) (r : zi_R), call mi avs A = some r → ∃ N, Ms[mi]? = some N ∧ zi_Met l N d avs A r.1 r.2.1 r.2.2.1 r.2.2.2
def zi_okM (N : zi_M) : Prop := Cond.code N.1 N.2.1 N.2.2.1 N.2.2.2.1 ∈ zi_gd ∧ Cond.initialized N.1.cls ∈ zi_gd ∧ (N.1.cls ≠ "java/lang/invoke/MethodHandle" ∧ N.1.cls ≠ "java/lang/invoke/VarHandle") ∧ plainName N.1.cls = true ∧ N.2.2.1 ≤ 41
theorem zi_good {N : zi_M} (h : zi_okM N) : GoodIn zi_gd (zi_ws N) := by
  intro w hw
  have hm : w ∈ zi_gd := by
    rcases List.mem_cons.mp hw with e | e
    · rw [e]; exact h.1
    · exact e
  exact ⟨hm, good_of_word (List.mem_filter.mp hm).2⟩
theorem zi_goodL {ws : List Cond} (h : ∀ w ∈ ws, w ∈ zi_gd) : GoodIn zi_gd ws := fun w hw => ⟨h w hw, good_of_word (List.mem_filter.mp (h w hw)).2⟩
section ZC
variable {p : Program} {l : Launch} {e : Env} {R : Room} {s : State} {m : MethodId} {args : Array Value} {below : List Frame} {meth : Method} {c : Code} {B0 : Nat} {D : va_G} {dA : Nat → ClassId} {adK adV : Nat → Nat} {b : Nat} {M : zi_M} {d : Nat} {sl : List zi_V}
variable {pc : Nat} {al : List (Nat × zi_V)} {st : List zi_V} {A : List zi_C} {nc ns : Nat} {g : zi_F} {Ms : List zi_M} {call : zi_K}
theorem zi_callW {H : Heap} {locs : List Loc} {ls : Array Slot} {st0 rest : List Value} {Q : State → Prop} {mc ms : Nat} {ws : va_W} {rv : Option zi_V} {A' : List zi_C} {a : Array Value} (hr : va_Run p l e R s m args below meth c H locs nc ns mc ms (F0 m pc ls st0) rest (zi_Q B0 D dA adK adV b ws rv A' a) (fun q => B0 ≤ q)) (hS : va_S (fun q => B0 ≤ q) s.heap H locs)
    (kk : ∀ (v : Option Value) (ws' : va_W) (H1 : Heap) (locs1 : List Loc), zi_ex ws ws' → zi_ro (zi_ad adK adV b ws') rv v → zi_F2 (zi_cr (zi_ad adK adV b ws') dA) A' ws' → va_P D zi_cl ws' H1 → va_D (fun q => B0 ≤ q) ws' → va_S (fun q => B0 ≤ q) s.heap H1 locs1 → zi_W p l e R s m args below meth c Q (nc + mc) (ns + ms) (pc + 3) H1 locs1 ls (v.toList ++ rest)) : zi_W p l e R s m args below meth c Q nc ns pc H locs ls st0 := by
  intro T hT X
  obtain ⟨v, st₀, t, T', L, h0, X', hL, e1, e2, ⟨⟨v', ws', hv, hex, hro, hF, hP, hD⟩, hz, hk⟩, stp⟩ := hr T hT X
  cases hv
  rw [h0] at hz hk
  obtain ⟨t2, a1, b1⟩ := kk v ws' T'.heap (locs ++ L) hex hro hF (by rw [e1]; exact hP) hD
    ⟨Nat.le_trans hS.1 (by rw [e1]; exact hz), fun q h1 h2 => by rw [e1, hk q (Nat.lt_of_lt_of_le h1 hS.1) h2]; exact hS.2.1 q h1 h2, fun q hq => by
      rcases List.mem_append.mp hq with h | h
      · exact hS.2.2 q h
      · exact hL q h⟩ T' rfl X'
  exact ⟨t2, stp t2 a1, b1⟩
theorem zi_go_inv (hct : zi_Ct l Ms d call) {mi k : Nat}
    (hrun : ∀ (N : zi_M), Ms[mi]? = some N → ∀ (rv : Option zi_V) (A' : List zi_C) (mc ms : Nat) (ws : va_W) (H : Heap) (locs : List Loc) (ls : Array Slot) (vs rest : List Value), Met l N.1 (zi_ws N) (zi_room d mc ms) (zi_Pc B0 D dA adK adV ws vs) (zi_Q B0 D dA adK adV b ws rv A') mc ms (fun q => B0 ≤ q) → va_P D zi_cl ws H → va_D (fun q => B0 ≤ q) ws → va_S (fun q => B0 ≤ q) s.heap H locs → zi_F2 (zi_cr (zi_ad adK adV b ws) dA) A ws → zi_F2 (zi_vr (zi_ad adK adV b ws)) (st.take k).reverse vs → vs.length = k → ls.size = M.2.2.1 → (rest.map fun v => v.category).sum ≤ 8 → nc + mc ≤ R.cells → ns + ms ≤ R.slots →
      va_Run p l e R s m args below meth c H locs nc ns mc ms (F0 m pc ls (vs.reverse ++ rest)) rest (zi_Q B0 D dA adK adV b ws rv A' vs.toArray) (fun q => B0 ≤ q))
    (h : zi_inv call pc 3 al st A nc ns mi k = some (.inl g)) : zi_Go p l e R s m args below meth c B0 D dA adK adV b M.2.2.1 (pc, al, st, A, nc, ns) g := by
  unfold zi_inv at h
  cases hb1 : (Nat.ble k st.length && Nat.ble (zi_cats (st.drop k)) 8) with
  | false => rw [hb1] at h; cases h
  | true =>
    rw [hb1] at h
    rw [Bool.and_eq_true] at hb1
    have hk := Nat.le_of_ble_eq_true hb1.1
    have h8 := Nat.le_of_ble_eq_true hb1.2
    simp only [cond_true] at h
    split at h
    · rename_i r hr
      obtain ⟨N, hN, hM⟩ := hct mi _ _ r hr
      have main : ∀ (Q : State → Prop) (ws : va_W) (H : Heap) (locs : List Loc) (ls : Array Slot) (sc : List Value), zi_St B0 D dA adK adV b M.2.2.1 s (pc, al, st, A, nc, ns) ws H locs ls sc → nc + r.2.2.1 ≤ R.cells → ns + r.2.2.2 ≤ R.slots → (∀ (v : Option Value) (ws' : va_W) (H' : Heap) (locs' : List Loc) (ls' : Array Slot) (sc' : List Value), zi_ex ws ws' → zi_ro (zi_ad adK adV b ws') r.1 v → zi_F2 (zi_cr (zi_ad adK adV b ws') dA) r.2.1 ws' → va_P D zi_cl ws' H' → va_D (fun q => B0 ≤ q) ws' → va_S (fun q => B0 ≤ q) s.heap H' locs' → (∃ lv, lv_has ls' M.2.2.1 lv ∧ zi_F2 (zi_lr (zi_ad adK adV b ws')) al lv) → zi_F2 (zi_vr (zi_ad adK adV b ws')) (st.drop k) sc' → zi_W p l e R s m args below meth c Q (nc + r.2.2.1) (ns + r.2.2.2) (pc + 3) H' locs' ls' (v.toList ++ sc')) → zi_W p l e R s m args below meth c Q nc ns pc H locs ls sc := by
        intro Q ws H locs ls sc hS hc1 hc2 kk
        obtain ⟨h1, h2, h3, h4, ⟨lv, h5, h7⟩, h6⟩ := hS
        have hlen := zi_F2_len h6
        have hlen : st.length = sc.length := hlen
        have hav := zi_F2_rev (zi_F2_take h6 k)
        have hdr := zi_F2_drop h6 k
        have hcat := zi_cats_ok hdr
        have run := hrun N hN r.1 r.2.1 r.2.2.1 r.2.2.2 ws H locs ls (sc.take k).reverse (sc.drop k) (hM B0 D dA adK adV b ws _ hav h4) h1 h2 h3 h4 hav (by rw [List.length_reverse, List.length_take]; omega) h5.1 (by
          rw [hcat]
          exact h8) hc1 hc2
        rw [List.reverse_reverse, List.take_append_drop] at run
        refine zi_callW run h3 (fun v ws' H1 locs1 hex hro hF hP hD hS => ?_)
        have hm := zi_ex_mo (adK := adK) (adV := adV) (b := b) hex
        exact kk v ws' H1 locs1 ls _ hex hro hF hP hD hS ⟨lv, h5, zi_F2_mono (fun _ _ h => ⟨h.1, zi_vr_mo hm h.2⟩) h7⟩ (zi_F2_mono (fun _ _ => zi_vr_mo hm) hdr)
      split at h
      · rename_i v hv
        cases h
        intro Q ws H locs ls sc hS hc1 hc2 kk
        refine main Q ws H locs ls sc hS hc1 hc2 (fun w ws' H1 locs1 ls1 sc1 hex hro hF hP hD hS hl hst => ?_)
        rw [hv] at hro
        cases w with
        | none => exact hro.elim
        | some w => exact kk ws' H1 locs1 ls1 _ hex ⟨hP, hD, hS, hF, hl, ⟨hro, hst⟩⟩
      · rename_i hv
        cases h
        intro Q ws H locs ls sc hS hc1 hc2 kk
        refine main Q ws H locs ls sc hS hc1 hc2 (fun w ws' H1 locs1 ls1 sc1 hex hro hF hP hD hS hl hst => ?_)
        rw [hv] at hro
        cases w with
        | some w => exact hro.elim
        | none => exact kk ws' H1 locs1 ls1 _ hex ⟨hP, hD, hS, hF, hl, hst⟩
    · cases h
theorem zi_pre {ws : va_W} {H : Heap} {locs : List Loc} {vs : List Value} (hX : zi_X B0 D dA adK adV s) (h1 : va_P D zi_cl ws H) (h2 : va_D (fun q => B0 ≤ q) ws) (h3 : va_S (fun q => B0 ≤ q) s.heap H locs) : FrameBlind (zi_Pc B0 D dA adK adV ws vs) ∧ ∀ U : State, U.heap = H → s.WarmedH U.vm → zi_Pc B0 D dA adK adV ws vs vs.toArray U :=
  ⟨fun a U g mk q => ⟨q.1, zi_X_cl q.2.1, q.2.2⟩, fun U hU hW => ⟨rfl, zi_X_mv hX hW hU h3, by rw [hU]; exact h1, h2⟩⟩
theorem zi_rm {N : zi_M} {mc ms : Nat} (hN : zi_okM N) (hR : d + 1 ≤ R.frames ∧ 60 * (d + 1) ≤ R.locals) : (zi_room d mc ms).frames + 1 ≤ R.frames ∧ 8 + (N.2.2.1 + 11) + (zi_room d mc ms).locals ≤ R.locals := by
  have h := hN.2.2.2.2
  exact ⟨hR.1, by show 8 + (N.2.2.1 + 11) + 60 * d ≤ R.locals; omega⟩
end ZC
end
section
/-! The kinds of calls. -/
section ZK
variable {p : Program} {l : Launch} {e : Env} {R : Room} {s : State} {m : MethodId} {args : Array Value} {below : List Frame} {meth : Method} {c : Code} {B0 : Nat} {D : va_G} {dA : Nat → ClassId} {adK adV : Nat → Nat} {b : Nat} {M : zi_M} {d : Nat} {sl : List zi_V}
variable {pc : Nat} {al : List (Nat × zi_V)} {st : List zi_V} {A : List zi_C} {nc ns : Nat} {g : zi_F} {Ms : List zi_M} {call : zi_K}
theorem zi_go_invS (C : zi_Cx p R s m args meth c B0 D dA adK adV b M d sl) (hct : zi_Ct l Ms d call) {mi k i : Nat} (hd : decode M.2.1 pc = .ok (.invokestatic i, 3)) (ho : ∀ N, Ms[mi]? = some N → zi_okM N ∧ (Cond.methodLink M.1.cls i N.1 ∈ zi_gd ∨ (M.1.cls, i, N.1, "AgreeTold") ∈ zi_nest) ∧ Cond.static N.1 ∈ zi_gd ∧ (parseMethodDescriptor N.1.desc).map (fun d => d.parameters.length) = some k) (h : zi_inv call pc 3 al st A nc ns mi k = some (.inl g)) : zi_Go p l e R s m args below meth c B0 D dA adK adV b M.2.2.1 (pc, al, st, A, nc, ns) g := by
  obtain ⟨⟨hx, hb, hml, hret, hown, hts, hlk, hnm⟩, hX, hR, hscr⟩ := C
  refine zi_go_inv hct (fun N hN rv A' mc ms ws H locs ls vs rest hM h1 h2 h3 h4 hF hlen hsz hcat hc1 hc2 => ?_) h
  obtain ⟨o1, o2, o3, o4⟩ := ho N hN
  rcases o2 with o2 | o2
  · refine va_runS (Ts := zi_gd) ⟨hx, hb, hml, hown, hts⟩ hM (va_cwS k hts (zi_goodL ?_) rfl rfl rfl ⟨o1.2.2.1.1, o1.2.2.1.2, o4⟩ (zi_rm o1 hR)) (zi_pre hX h1 h2 h3) rfl hlen hsz rfl (lv_room hcat) hd ⟨hc1, hc2⟩
    intro w hw
    rcases List.mem_append.mp hw with z | z
    · rcases List.mem_cons.mp z with z | z
      · rw [z]; exact o2
      · rcases List.mem_cons.mp z with z | z
        · rw [z]; exact o3
        · rcases List.mem_cons.mp z with z | z
          · rw [z]; exact o1.2.1
          · cases z
    · exact (zi_good o1 w z).1
  · exact va_runSN (Ts := zi_gd) ⟨hx, hb, hml, hown, hts⟩ hM ⟨va_cnB k hts (zi_good o1) rfl rfl rfl (hX.2.2.2.2.2.1 _ o2) (hts _ o1.2.1) ⟨o1.2.2.1.1, o1.2.2.1.2, o4⟩ (zi_rm o1 hR), hts _ o3, trivial⟩ (zi_pre hX h1 h2 h3) rfl hlen hsz rfl (lv_room hcat) hd ⟨hc1, hc2⟩
theorem zi_take_last {k r : Nat} (hk : 1 ≤ k) (hs : k ≤ st.length) (h : st[k - 1]? = some (.inl (.ref r))) : ∃ as : List zi_V, (st.take k).reverse = .inl (.ref r) :: as := by
  obtain ⟨k, rfl⟩ : ∃ j, k = j + 1 := ⟨k - 1, by omega⟩
  have hl : k < st.length := by omega
  refine ⟨(st.take k).reverse, ?_⟩
  have h : st[k]? = some (.inl (.ref r)) := h
  rw [List.take_add_one, h]
  simp
theorem zi_go_invI (C : zi_Cx p R s m args meth c B0 D dA adK adV b M d sl) (hct : zi_Ct l Ms d call) {mi k i r : Nat} (hd : decode M.2.1 pc = .ok (.invokespecial i, 3)) (ho : ∀ N, Ms[mi]? = some N → zi_okM N ∧ (Cond.methodLink M.1.cls i N.1 ∈ zi_gd ∨ (M.1.cls, i, N.1, "AgreeTold") ∈ zi_nest) ∧ Cond.instanceMethod N.1 ∈ zi_gd ∧ N.1.name = "<init>" ∧ N.2.2.2.1 = none ∧ (parseMethodDescriptor N.1.desc).map (fun d => d.parameters.length + 1) = some k) (hk : 1 ≤ k) (hrec : st[k - 1]? = some (.inl (.ref r))) (h : zi_inv call pc 3 al st A nc ns mi k = some (.inl g)) : zi_Go p l e R s m args below meth c B0 D dA adK adV b M.2.2.1 (pc, al, st, A, nc, ns) g := by
  obtain ⟨⟨hx, hb, hml, hret, hown, hts, hlk, hnm⟩, hX, hR, hscr⟩ := C
  have hst : k ≤ st.length := by
    have := (List.getElem?_eq_some_iff.mp hrec).1
    omega
  obtain ⟨as, has⟩ := zi_take_last hk hst hrec
  refine zi_go_inv hct (fun N hN rv A' mc ms ws H locs ls vs rest hM h1 h2 h3 h4 hF hlen hsz hcat hc1 hc2 => ?_) h
  obtain ⟨o1, o2, o3, o4, o5, o6⟩ := ho N hN
  rw [has] at hF
  obtain ⟨w, vs, rfl, ⟨a, -, rfl⟩, -⟩ := zi_F2_cons hF
  have hlen : vs.length + 1 = k := hlen
  have o6' : (parseMethodDescriptor N.1.desc).map (fun d => d.parameters.length) = some (k - 1) := by
    cases hp : parseMethodDescriptor N.1.desc with
    | none => rw [hp] at o6; cases o6
    | some sg =>
      rw [hp] at o6
      have : sg.parameters.length + 1 = k := Option.some.inj o6
      show some sg.parameters.length = some (k - 1)
      rw [← this]
      rfl
  have hst2 : (Value.ref a :: vs).reverse ++ rest = vs.reverse ++ .ref a :: rest := by simp
  rw [hst2]
  obtain ⟨ny, nb, nL, nr, nt⟩ := N
  have o5 : nr = none := o5
  subst o5
  rcases o2 with o2 | o2
  · exact va_runI (Ts := zi_gd) ⟨hx, hb, hml, hown, hts⟩ hM (cwI (k - 1) hts (zi_good o1) rfl rfl rfl (hts _ o1.2.1) (hts _ o2) (hts _ o3) o4 ⟨o1.2.2.1.1, o1.2.2.1.2, o6'⟩ (zi_rm o1 hR)) (zi_pre hX h1 h2 h3) rfl (by omega) hsz rfl (lv_room hcat) hd ⟨hc1, hc2⟩
  · exact va_runIN (Ts := zi_gd) ⟨hx, hb, hml, hown, hts⟩ hM ⟨va_cnB (k - 1) hts (zi_good o1) rfl rfl rfl (hX.2.2.2.2.2.1 _ o2) (hts _ o1.2.1) ⟨o1.2.2.1.1, o1.2.2.1.2, o6'⟩ (zi_rm o1 hR), o4, hts _ o3⟩ (zi_pre hX h1 h2 h3) rfl (by omega) hsz rfl (lv_room hcat) hd ⟨hc1, hc2⟩
theorem zi_go_invV (C : zi_Cx p R s m args meth c B0 D dA adK adV b M d sl) (hct : zi_Ct l Ms d call) {mi k i ci : Nat} (hd : decode M.2.1 pc = .ok (.invokevirtual i, 3)) (ho : ∀ N, Ms[mi]? = some N → zi_okM N ∧ Cond.methodLink M.1.cls i N.1 ∈ zi_gd ∧ Cond.instanceMethod N.1 ∈ zi_gd ∧ Cond.selects N.1.cls N.1 N.1 ∈ zi_gd ∧ ((ci = 100 ∧ N.1.cls = "java/lang/String") ∨ (ci ≠ 100 ∧ ∃ q, zi_Fs[ci]? = some q ∧ q.1 = N.1.cls)) ∧ (parseMethodDescriptor N.1.desc).map (fun d => d.parameters.length + 1) = some k) (hk : 1 ≤ k) (hrec : zi_rcv A ci st[k - 1]? = true) (h : zi_inv call pc 3 al st A nc ns mi k = some (.inl g)) : zi_Go p l e R s m args below meth c B0 D dA adK adV b M.2.2.1 (pc, al, st, A, nc, ns) g := by
  obtain ⟨⟨hx, hb, hml, hret, hown, hts, hlk, hnm⟩, hX, hR, hscr⟩ := C
  unfold zi_rcv at hrec
  split at hrec
  · rename_i r hr
    have hst : k ≤ st.length := by
      have := (List.getElem?_eq_some_iff.mp hr).1
      omega
    obtain ⟨as, has⟩ := zi_take_last hk hst hr
    refine zi_go_inv hct (fun N hN rv A' mc ms ws H locs ls vs rest hM h1 h2 h3 h4 hF hlen hsz hcat hc1 hc2 => ?_) h
    obtain ⟨o1, o2, o3, o4, o5, o6⟩ := ho N hN
    rw [has] at hF
    obtain ⟨w, vs, rfl, ⟨a, had, rfl⟩, -⟩ := zi_F2_cons hF
    have hlen : vs.length + 1 = k := hlen
    have o6' : (parseMethodDescriptor N.1.desc).map (fun d => d.parameters.length) = some (k - 1) := by
      cases hp : parseMethodDescriptor N.1.desc with
      | none => rw [hp] at o6; cases o6
      | some sg =>
        rw [hp] at o6
        have : sg.parameters.length + 1 = k := Option.some.inj o6
        show some sg.parameters.length = some (k - 1)
        rw [← this]
        rfl
    have hst2 : (Value.ref a :: vs).reverse ++ rest = vs.reverse ++ .ref a :: rest := by simp
    rw [hst2]
    have hrcv : ∃ cellB : Cell, H[a]? = some cellB ∧ cellB.vm.isStatics = false ∧ s.vm.findClass N.1.cls = some cellB.cls := by
      cases hb1 : Nat.ble 10 r with
      | true =>
        rw [hb1] at hrec
        have hr10 := Nat.le_of_ble_eq_true hb1
        simp only [cond_true] at hrec
        split at hrec
        · rename_i q hA
          have e1 := Nat.eq_of_beq_eq_true hrec
          obtain ⟨vv, hvv, -⟩ := zi_cell_obj h4 hr10 had hA
          rw [e1] at hvv
          rcases o5 with ⟨z, -⟩ | ⟨-, qq, z1, z2⟩
          · have hP1 := h1 _ _ hvv
            obtain ⟨rr, hrr, -⟩ := hP1
            rw [z, zi_cl_none] at hrr
            cases hrr
          · have := va_recv hX.1 h1 (zi_cl_at z1) hvv
            rw [← z2]
            exact this
        · cases hrec
      | false =>
        rw [hb1] at hrec
        simp only [cond_false, Bool.and_eq_true] at hrec
        have hr4 := Nat.le_of_ble_eq_true hrec.1
        have e1 := Nat.eq_of_beq_eq_true hrec.2
        rcases o5 with ⟨-, z⟩ | ⟨z, -⟩
        · have ha := zi_ad_str (by omega) had
          subst ha
          rw [z]
          exact vk_recv hX.2.1 (by omega) h3
        · exact absurd e1 z
    refine va_runV (Ts := zi_gd) (C := N.1.cls) ⟨hx, hb, hml, hown, hts⟩ hM (cwV (k - 1) hts (zi_goodL ?_) rfl rfl rfl ⟨rfl, o1.2.2.1.1, o1.2.2.1.2, o6'⟩ (zi_rm o1 hR)) ⟨(zi_pre hX h1 h2 h3).1, hrcv, (zi_pre hX h1 h2 h3).2⟩ rfl (by omega) hsz rfl (lv_room hcat) hd ⟨hc1, hc2⟩
    intro w hw
    rcases List.mem_append.mp hw with z | z
    · rcases List.mem_cons.mp z with z | z
      · rw [z]; exact o2
      · rcases List.mem_cons.mp z with z | z
        · rw [z]; exact o3
        · rcases List.mem_cons.mp z with z | z
          · rw [z]; exact o4
          · rcases List.mem_cons.mp z with z | z
            · rw [z]; exact o1.2.1
            · cases z
    · exact (zi_good o1 w z).1
  · cases hrec
theorem zi_go_obj (C : zi_Cx p R s m args meth c B0 D dA adK adV b M d sl) {i : Nat} (hd : decode M.2.1 pc = .ok (.invokespecial i, 3)) (o1 : Cond.methodLink M.1.cls i objectInit ∈ zi_gd) (o2 : Cond.instanceMethod objectInit ∈ zi_gd) (o3 : Cond.code objectInit ⟨#[0xb1]⟩ 1 none ∈ zi_gd) (h : zi_obj pc 3 al st A nc ns = some (.inl g)) : zi_Go p l e R s m args below meth c B0 D dA adK adV b M.2.2.1 (pc, al, st, A, nc, ns) g := by
  obtain ⟨⟨hx, hb, hml, hret, hown, hts, hlk, hnm⟩, hX, hR, hscr⟩ := C
  unfold zi_obj at h
  split at h
  · rename_i i0 r
    cases hb1 : Nat.ble (zi_cats r) 8 with
    | false => rw [hb1] at h; cases h
    | true =>
      rw [hb1] at h
      have h8 := Nat.le_of_ble_eq_true hb1
      cases h
      intro Q ws H locs ls sc hS _ _ kk
      obtain ⟨h1, h2, h3, h4, ⟨lv, h5, h7⟩, h6⟩ := hS
      obtain ⟨w, sc, rfl, ⟨a, -, rfl⟩, k6⟩ := zi_F2_cons h6
      have hcat := zi_cats_ok k6
      refine W.objInit (rest := sc) hx hb hown (hts _ o1) (hts _ o2) (hts _ o3) rfl (by rw [hml]; exact h5.1) rfl hd (by omega) ?_ (kk ws H locs ls sc (zi_ex_refl ws) ⟨h1, h2, h3, h4, ⟨lv, h5, h7⟩, k6⟩)
      show 2 * 0 + _ + 12 ≤ _
      rw [hcat]
      omega
  · cases h
end ZK
end
section
/-! The check of an entry, and the step. -/
def zi_ln (i : Instr) : Nat := match i with
  | .bipush _ => 2
  | .ldc _ => 2
  | .iload _ => 2
  | .lload _ => 2
  | .aload _ => 2
  | .istore _ => 2
  | .lstore _ => 2
  | .astore _ => 2
  | .newarray _ => 2
  | .sipush _ => 3
  | .ldc_w _ => 3
  | .ldc2_w _ => 3
  | .iinc _ _ => 3
  | .ifCond _ _ => 3
  | .if_icmp _ _ => 3
  | .goto _ => 3
  | .ifnull _ => 3
  | .ifnonnull _ => 3
  | .getfield _ => 3
  | .putfield _ => 3
  | .getstatic _ => 3
  | .new _ => 3
  | .anewarray _ => 3
  | .invokestatic _ => 3
  | .invokespecial _ => 3
  | .invokevirtual _ => 3
  | _ => 1
def zi_tg (pc : Nat) (off : Int) (o : List Nat) : Bool := match o with
  | t :: _ => decide ((pc : Int) + off = (t : Int))
  | [] => false
def zi_mem (w : Cond) : Bool := decide (w ∈ lw_tbl) && goodWord w
theorem zi_mem_ok {w : Cond} (h : zi_mem w = true) : w ∈ zi_gd := by
  unfold zi_mem at h
  rw [Bool.and_eq_true, decide_eq_true_eq] at h
  exact List.mem_filter.mpr h
def zi_kl (M : zi_M) (pc : Nat) (Ms : List zi_M) (i : Instr) (o : List Nat) : Bool := match i with
  | .ldc i => (match o with
      | 0 :: v :: q :: _ => zi_at q (.constant M.1.cls i (Int32.ofNat v))
      | 1 :: r :: _ => Nat.ble (r + 1) 4 && (match zi_sr[r]? with | some z => decide (z.1 = M.1.cls) && decide (z.2.1 = i) | none => false)
      | _ => false)
  | .ldc_w i => (match o with
      | 0 :: v :: q :: _ => zi_at q (.constant M.1.cls i (Int32.ofNat v))
      | _ => false)
  | .ldc2_w i => (match o with
      | v :: q :: _ => zi_at q (.constantLong M.1.cls i (Int64.ofNat v))
      | _ => false)
  | .ifCond _ off => zi_tg pc off o
  | .if_icmp _ off => zi_tg pc off o
  | .goto off => zi_tg pc off o
  | .ifnull off => zi_tg pc off o
  | .ifnonnull off => zi_tg pc off o
  | .tableswitch d _ _ offs => zi_tg pc d o && decide (offs.toList.map (fun x => (pc : Int) + x) = o.tail.map (fun (t : Nat) => (t : Int)))
  | .getfield i => (match o with
      | ci :: k :: q :: _ => bif Nat.beq ci 100 then (bif Nat.beq k 0 then zi_at q (.fieldLink M.1.cls i "java/lang/String" "value" "[B") else Nat.beq k 1 && zi_at q (.fieldLink M.1.cls i "java/lang/String" "coder" "B"))
          else (match zi_Fs[ci]? with | some z => Nat.ble (k + 1) z.2.length && zi_at q (.fieldLink M.1.cls i (zi_Tf z k).1 (zi_Tf z k).2.1 (zi_Tf z k).2.2.1) | none => false)
      | _ => false)
  | .putfield i => (match o with
      | ci :: k :: q :: _ => (match zi_Fs[ci]? with | some z => Nat.ble (k + 1) z.2.length && zi_at q (.fieldLink M.1.cls i (zi_Tf z k).1 (zi_Tf z k).2.1 (zi_Tf z k).2.2.1) && (!(zi_Tf z k).2.2.2 || (decide (M.1.name = "<init>") && decide ((zi_Tf z k).1 = M.1.cls))) | none => false)
      | _ => false)
  | .getstatic i => (match o with
      | k :: q :: _ => bif Nat.beq k 0 then zi_at q (.fieldLink M.1.cls i "java/lang/String" "COMPACT_STRINGS" "Z") else zi_at q (.fieldLink M.1.cls i "jdk/internal/util/Preconditions" "SIOOBE_FORMATTER" "Ljava/util/function/BiFunction;")
      | _ => false)
  | .new i => (match o with
      | ci :: q1 :: q2 :: q3 :: _ => (match zi_Fs[ci]? with | some z => zi_at q1 (.classLink M.1.cls i z.1) && zi_at q2 (.instantiable z.1 z.2.length) && zi_at q3 (.initialized z.1) | none => false)
      | _ => false)
  | .newarray a => (match o with
      | t :: q :: _ => decide (newarray.typeOf a = zi_ft t) && Nat.ble (t + 1) 4 && zi_at q (.arrayClass (newarray.typeOf a))
      | _ => false)
  | .anewarray i => (match o with
      | t :: q :: _ => Nat.ble 4 t && Nat.ble t 6 && (match zi_ft t with | .object C => zi_at q (.classLink M.1.cls i C) | _ => false)
      | _ => false)
  | .invokestatic i => (match o with
      | [z] => bif Nat.beq z 0 then zi_mem (.methodLink M.1.cls i Lib.Math.max.name) else zi_mem (.methodLink M.1.cls i Lib.Math.min.name)
      | mi :: k :: z :: q1 :: q2 :: _ => (match Ms[mi]? with | some N => (bif Nat.beq z 0 then zi_at q1 (.methodLink M.1.cls i N.1) else decide ((M.1.cls, i, N.1, "AgreeTold") ∈ zi_nest)) && zi_at q2 (.static N.1) && decide ((parseMethodDescriptor N.1.desc).map (fun d => d.parameters.length) = some k) | none => false)
      | _ => false)
  | .invokespecial i => (match o with
      | [] => zi_mem (.methodLink M.1.cls i objectInit)
      | mi :: k :: z :: q1 :: q2 :: _ => (match Ms[mi]? with | some N => (bif Nat.beq z 0 then zi_at q1 (.methodLink M.1.cls i N.1) else decide ((M.1.cls, i, N.1, "AgreeTold") ∈ zi_nest)) && zi_at q2 (.instanceMethod N.1) && decide (N.1.name = "<init>") && decide (N.2.2.2.1 = none) && decide ((parseMethodDescriptor N.1.desc).map (fun d => d.parameters.length + 1) = some k) | none => false)
      | _ => false)
  | .invokevirtual i => (match o with
      | mi :: k :: ci :: q1 :: q2 :: q3 :: _ => (match Ms[mi]? with | some N => zi_at q1 (.methodLink M.1.cls i N.1) && zi_at q2 (.instanceMethod N.1) && zi_at q3 (.selects N.1.cls N.1 N.1) && (bif Nat.beq ci 100 then decide (N.1.cls = "java/lang/String") else (match zi_Fs[ci]? with | some z => decide (z.1 = N.1.cls) | none => false)) && decide ((parseMethodDescriptor N.1.desc).map (fun d => d.parameters.length + 1) = some k) | none => false)
      | _ => false)
  | _ => true
def zi_sw (i : Instr) : Bool := match i with
  | .tableswitch _ _ _ _ => true
  | _ => false
def zi_ok (Ms : List zi_M) (M : zi_M) (pc : Nat) (e : zi_E) : Bool := decide (decode M.2.1 pc = .ok (e.1, e.2.1)) && (zi_sw e.1 || Nat.beq e.2.1 (zi_ln e.1)) && zi_kl M pc Ms e.1 e.2.2
theorem zi_tg_ok {pc : Nat} {off : Int} {t : Nat} {ts : List Nat} (h : zi_tg pc off (t :: ts) = true) : (pc : Int) + off = (t : Int) := of_decide_eq_true h
/-- the words of Object's constructor -/
theorem zi_objw : Cond.instanceMethod objectInit ∈ zi_gd ∧ Cond.code objectInit ⟨#[0xb1]⟩ 1 none ∈ zi_gd := ⟨zi_mem_ok (by decide +kernel), zi_mem_ok (by decide +kernel)⟩
theorem zi_ret_no {k : Nat} {g : zi_F} : ∀ (r : Option FieldType) (st : List zi_V), ¬ zi_ret k r st = some (.inl g)
  | none, _, h => by cases h
  | some _, [], h => by cases h
  | some _, _ :: _ :: _, h => by cases h
  | some ty, [v], h => by
    have h : (bif zi_rok ty v && zi_rk k v then some (.inr (some v)) else none) = (some (.inl g) : zi_O) := h
    cases hz : (zi_rok ty v && zi_rk k v) with
    | true => rw [hz] at h; cases h
    | false => rw [hz] at h; cases h
theorem zi_rtv_no {g : zi_F} : ∀ (r : Option FieldType) (st : List zi_V), ¬ zi_rtv r st = some (.inl g)
  | none, [], h => by cases h
  | none, _ :: _, h => by cases h
  | some _, _, h => by cases h
/-- the words of Math's two -/
theorem zi_mxw : Cond.static Lib.Math.max.name ∈ zi_gd ∧ Cond.initialized "java/lang/Math" ∈ zi_gd ∧ Cond.code Lib.Math.max.name Lib.Math.max.code 2 (some .int) ∈ zi_gd ∧ Cond.static Lib.Math.min.name ∈ zi_gd ∧ Cond.code Lib.Math.min.name Lib.Math.min.code 2 (some .int) ∈ zi_gd := ⟨zi_mem_ok (by decide +kernel), zi_mem_ok (by decide +kernel), zi_mem_ok (by decide +kernel), zi_mem_ok (by decide +kernel), zi_mem_ok (by decide +kernel)⟩
section ZT
variable {p : Program} {l : Launch} {e : Env} {R : Room} {s : State} {m : MethodId} {args : Array Value} {below : List Frame} {meth : Method} {c : Code} {B0 : Nat} {D : va_G} {dA : Nat → ClassId} {adK adV : Nat → Nat} {b : Nat} {M : zi_M} {d : Nat} {sl : List zi_V}
variable {pc : Nat} {al : List (Nat × zi_V)} {st : List zi_V} {A : List zi_C} {nc ns : Nat} {g : zi_F} {Ms : List zi_M} {call : zi_K}
theorem zi_go_mm (C : zi_Cx p R s m args meth c B0 D dA adK adV b M d sl) {i z : Nat} (hd : decode M.2.1 pc = .ok (.invokestatic i, 3)) (h0 : z = 0 → Cond.methodLink M.1.cls i Lib.Math.max.name ∈ zi_gd) (h1 : z ≠ 0 → Cond.methodLink M.1.cls i Lib.Math.min.name ∈ zi_gd) (hcat : zi_cats st ≤ 10) (h : zi_mm z pc 3 al st A nc ns = some (.inl g)) : zi_Go p l e R s m args below meth c B0 D dA adK adV b M.2.2.1 (pc, al, st, A, nc, ns) g := by
  obtain ⟨⟨hx, hb, hml, hret, hown, hts, hlk, hnm⟩, hX, hR, hscr⟩ := C
  unfold zi_mm at h
  split at h
  · rename_i y x r
    cases h
    intro Q ws H locs ls sc hS hc1 hc2 kk
    obtain ⟨g1, g2, g3, g4, ⟨lv, g5, g7⟩, g6⟩ := hS
    have hsum := zi_cats_ok g6
    obtain ⟨w1, s1, e1, v1, k1⟩ := zi_F2_cons g6
    obtain ⟨w2, s2, e2, v2, k2⟩ := zi_F2_cons k1
    have v1 : w1 = .int y := v1
    have v2 : w2 = .int x := v2
    subst e1 e2 v1 v2
    have hl : (s2.map fun v => v.category).sum + 13 ≤ R.locals := by
      have hs2 := zi_cats_ok k2
      have e3 : zi_cats (.inl (.int y) :: .inl (.int x) :: r) = 1 + (1 + zi_cats r) := rfl
      rw [e3] at hcat
      rw [hs2]
      omega
    cases z with
    | zero => exact va_mmax hx hb (hml.trans g5.1.symm) hown (hts _ (h0 rfl)) (hts _ zi_mxw.1) (hts _ zi_mxw.2.1) (hts _ zi_mxw.2.2.1) (by omega) hl hc1 hc2 hd (kk ws H locs ls _ (zi_ex_refl ws) ⟨g1, g2, g3, g4, ⟨lv, g5, g7⟩, ⟨rfl, k2⟩⟩)
    | succ z => exact va_mmin hx hb (hml.trans g5.1.symm) hown (hts _ (h1 (Nat.succ_ne_zero z))) (hts _ zi_mxw.2.2.2.1) (hts _ zi_mxw.2.1) (hts _ zi_mxw.2.2.2.2) (by omega) hl hc1 hc2 hd (kk ws H locs ls _ (zi_ex_refl ws) ⟨g1, g2, g3, g4, ⟨lv, g5, g7⟩, ⟨rfl, k2⟩⟩)
  · cases h
set_option maxHeartbeats 4000000 in
theorem zi_step (C : zi_Cx p R s m args meth c B0 D dA adK adV b M d sl) (hct : zi_Ct l Ms d call) (hMs : ∀ (mi : Nat) (N : zi_M), Ms[mi]? = some N → zi_okM N) {i : Instr} {n : Nat} {o : List Nat} (hok : zi_ok Ms M pc (i, n, o) = true) (h : zi_do call sl M.2.2.1 M.2.2.2.1 pc al st A nc ns i n o = some (.inl g)) : zi_Go p l e R s m args below meth c B0 D dA adK adV b M.2.2.1 (pc, al, st, A, nc, ns) g := by
  have C0 := C
  obtain ⟨⟨hx, hb, hml, hret, hown, hts, hlk, hnm⟩, hX, hR, hscr⟩ := C
  unfold zi_ok at hok
  rw [Bool.and_eq_true, Bool.and_eq_true] at hok
  obtain ⟨⟨hd0, hn0⟩, hkl0⟩ := hok
  have hd : decode M.2.1 pc = .ok (i, n) := of_decide_eq_true hd0
  rw [Bool.or_eq_true] at hn0
  have hn : zi_sw i = true ∨ n = zi_ln i := hn0.imp id (fun z => Nat.eq_of_beq_eq_true z)
  have hkl : zi_kl M pc Ms i o = true := hkl0
  clear hd0 hn0 hkl0
  cases i with
  | iconst k =>
    have hn : n = 1 := hn.elim (fun z => Bool.noConfusion (show false = true from z)) id
    subst hn
    exact zi_go_ps (v := .inl (.int (Int32.ofInt k))) (w := .int (Int32.ofInt k)) (fun _ => rfl) (fun Q H locs ls sc kk => lv_iconst hx hb hd rfl kk) h
  | bipush k =>
    have hn : n = 2 := hn.elim (fun z => Bool.noConfusion (show false = true from z)) id
    subst hn
    exact zi_go_ps (v := .inl (.int (Int8.ofInt k).toInt32)) (w := .int (Int8.ofInt k).toInt32) (fun _ => rfl) (fun Q H locs ls sc kk => lv_bipush hx hb hd rfl kk) h
  | sipush k =>
    have hn : n = 3 := hn.elim (fun z => Bool.noConfusion (show false = true from z)) id
    subst hn
    exact zi_go_ps (v := .inl (.int (Int16.ofInt k).toInt32)) (w := .int (Int16.ofInt k).toInt32) (fun _ => rfl) (fun Q H locs ls sc kk => lv_sipush hx hb hd rfl kk) h
  | lconst k =>
    have hn : n = 1 := hn.elim (fun z => Bool.noConfusion (show false = true from z)) id
    subst hn
    exact zi_go_ps (v := .inl (.long (Int64.ofNat k.val))) (w := .long (Int64.ofNat k.val)) (fun _ => rfl) (fun Q H locs ls sc kk => lv_lconst hx hb hd rfl kk) h
  | aconst_null =>
    have hn : n = 1 := hn.elim (fun z => Bool.noConfusion (show false = true from z)) id
    subst hn
    exact zi_go_ps (v := .inl (.null)) (w := .null) (fun _ => rfl) (fun Q H locs ls sc kk => lv_null hx hb hd kk) h
  | ldc k =>
    have hn : n = 2 := hn.elim (fun z => Bool.noConfusion (show false = true from z)) id
    subst hn
    match o, h, hkl with
    | 0 :: v :: q :: _, h, hkl => exact zi_go_ps (v := .inl (.int (Int32.ofNat v))) (w := .int (Int32.ofNat v)) (fun _ => rfl) (fun Q H locs ls sc kk => lv_ldc hx hb hown (hts _ (zi_at_mem hkl)) hd kk) h
    | 1 :: r :: _, h, hkl =>
      have hkl : (Nat.ble (r + 1) 4 && (match zi_sr[r]? with | some z => decide (z.1 = M.1.cls) && decide (z.2.1 = k) | none => false)) = true := hkl
      rw [Bool.and_eq_true] at hkl
      have hr := Nat.le_of_ble_eq_true hkl.1
      have hkl := hkl.2
      cases hz : zi_sr[r]? with
      | none => rw [hz] at hkl; cases hkl
      | some z =>
        rw [hz] at hkl
        simp only [Bool.and_eq_true, decide_eq_true_eq] at hkl
        have hR0 := hX.2.2.1 r z hz
        rw [hkl.1, hkl.2] at hR0
        exact zi_go_ps (v := .inl (.ref r)) (w := .ref (adK r)) (fun _ => ⟨adK r, by unfold zi_ad; rw [if_pos (by omega)], rfl⟩) (fun Q H locs ls sc kk => va_ldcS hx hb hown hR0 hd kk) h
    | [], h, _ => cases h
    | [_], h, hkl => simp [zi_kl] at hkl
    | 0 :: _ :: [], _, hkl => simp [zi_kl] at hkl
    | (_ + 2) :: _ :: _, _, hkl => simp [zi_kl] at hkl
  | ldc_w k =>
    have hn : n = 3 := hn.elim (fun z => Bool.noConfusion (show false = true from z)) id
    subst hn
    match o, h, hkl with
    | 0 :: v :: q :: _, h, hkl => exact zi_go_ps (v := .inl (.int (Int32.ofNat v))) (w := .int (Int32.ofNat v)) (fun _ => rfl) (fun Q H locs ls sc kk => lv_ldcw hx hb hown (hts _ (zi_at_mem hkl)) hd kk) h
    | [], h, _ => cases h
    | [_], h, hkl => simp [zi_kl] at hkl
    | 0 :: _ :: [], _, hkl => simp [zi_kl] at hkl
    | (_ + 1) :: _ :: _, _, hkl => simp [zi_kl] at hkl
  | ldc2_w k =>
    have hn : n = 3 := hn.elim (fun z => Bool.noConfusion (show false = true from z)) id
    subst hn
    match o, h, hkl with
    | v :: q :: _, h, hkl => exact zi_go_ps (v := .inl (.long (Int64.ofNat v))) (w := .long (Int64.ofNat v)) (fun _ => rfl) (fun Q H locs ls sc kk => lv_ldc2 hx hb hown (hts _ (zi_at_mem hkl)) hd kk) h
    | [], h, _ => cases h
    | [_], h, hkl => simp [zi_kl] at hkl
  | iload k =>
    have hn : n = 2 := hn.elim (fun z => Bool.noConfusion (show false = true from z)) id
    subst hn
    exact zi_go_ld (k := 0) (fun Q H locs ls sc w hw h0 h1 kk => by
      obtain ⟨x, rfl⟩ := h0 rfl
      exact lv_iload hx hb hd hw kk) (by decide) h
  | iload_n k =>
    have hn : n = 1 := hn.elim (fun z => Bool.noConfusion (show false = true from z)) id
    subst hn
    exact zi_go_ld (k := 0) (fun Q H locs ls sc w hw h0 h1 kk => by
      obtain ⟨x, rfl⟩ := h0 rfl
      exact lv_iload_n hx hb hd rfl hw kk) (by decide) h
  | lload k =>
    have hn : n = 2 := hn.elim (fun z => Bool.noConfusion (show false = true from z)) id
    subst hn
    exact zi_go_ld (k := 1) (fun Q H locs ls sc w hw h0 h1 kk => by
      obtain ⟨x, rfl⟩ := h1 rfl
      exact lv_lload hx hb hd hw kk) (by decide) h
  | lload_n k =>
    have hn : n = 1 := hn.elim (fun z => Bool.noConfusion (show false = true from z)) id
    subst hn
    exact zi_go_ld (k := 1) (fun Q H locs ls sc w hw h0 h1 kk => by
      obtain ⟨x, rfl⟩ := h1 rfl
      exact lv_lload_n hx hb hd rfl hw kk) (by decide) h
  | aload k =>
    have hn : n = 2 := hn.elim (fun z => Bool.noConfusion (show false = true from z)) id
    subst hn
    exact zi_go_lda (fun Q H locs ls sc w hw hk kk => by
      rcases hk with rfl | ⟨a, rfl⟩
      · exact lv_aloadN hx hb hd hw kk
      · exact lv_aload hx hb hd hw kk) h
  | aload_n k =>
    have hn : n = 1 := hn.elim (fun z => Bool.noConfusion (show false = true from z)) id
    subst hn
    exact zi_go_lda (fun Q H locs ls sc w hw hk kk => by
      rcases hk with rfl | ⟨a, rfl⟩
      · exact lv_aload_nN hx hb hd rfl hw kk
      · exact lv_aload_n hx hb hd rfl hw kk) h
  | istore k =>
    have hn : n = 2 := hn.elim (fun z => Bool.noConfusion (show false = true from z)) id
    subst hn
    exact zi_go_sti (fun Q H locs ls sc x lv hl hi kk => lv_istore hx hb hd hl hi rfl kk) h
  | istore_n k =>
    have hn : n = 1 := hn.elim (fun z => Bool.noConfusion (show false = true from z)) id
    subst hn
    exact zi_go_sti (fun Q H locs ls sc x lv hl hi kk => lv_istore_n hx hb hd rfl hl hi rfl kk) h
  | lstore k =>
    have hn : n = 2 := hn.elim (fun z => Bool.noConfusion (show false = true from z)) id
    subst hn
    exact zi_go_stl (fun Q H locs ls sc x lv hl hi kk => lv_lstore hx hb hd hl hi rfl kk) h
  | lstore_n k =>
    have hn : n = 1 := hn.elim (fun z => Bool.noConfusion (show false = true from z)) id
    subst hn
    exact zi_go_stl (fun Q H locs ls sc x lv hl hi kk => lv_lstore_n hx hb hd rfl hl hi rfl kk) h
  | astore k =>
    have hn : n = 2 := hn.elim (fun z => Bool.noConfusion (show false = true from z)) id
    subst hn
    exact zi_go_sta (fun Q H locs ls sc w lv hk hl hi kk => by
      rcases hk with rfl | ⟨a, rfl⟩
      · exact lv_astoreN hx hb hd hl hi rfl kk
      · exact lv_astore hx hb hd hl hi rfl kk) h
  | astore_n k =>
    have hn : n = 1 := hn.elim (fun z => Bool.noConfusion (show false = true from z)) id
    subst hn
    exact zi_go_sta (fun Q H locs ls sc w lv hk hl hi kk => by
      rcases hk with rfl | ⟨a, rfl⟩
      · exact lv_astore_nN hx hb hd rfl hl hi rfl kk
      · exact lv_astore_n hx hb hd rfl hl hi rfl kk) h
  | iinc k z =>
    have hn : n = 3 := hn.elim (fun z => Bool.noConfusion (show false = true from z)) id
    subst hn
    exact zi_go_inc (fun Q H locs ls sc x lv j hl hj hi kk => lv_iinc hx hb hd hl hj rfl hi rfl kk) h
  | iadd =>
    have hn : n = 1 := hn.elim (fun z => Bool.noConfusion (show false = true from z)) id
    subst hn
    exact zi_go_ii (fun Q H locs ls sc x y kk => lv_iadd hx hb hd kk) h
  | isub =>
    have hn : n = 1 := hn.elim (fun z => Bool.noConfusion (show false = true from z)) id
    subst hn
    exact zi_go_ii (fun Q H locs ls sc x y kk => lv_isub hx hb hd kk) h
  | imul =>
    have hn : n = 1 := hn.elim (fun z => Bool.noConfusion (show false = true from z)) id
    subst hn
    exact zi_go_ii (fun Q H locs ls sc x y kk => lv_imul hx hb hd kk) h
  | iand =>
    have hn : n = 1 := hn.elim (fun z => Bool.noConfusion (show false = true from z)) id
    subst hn
    exact zi_go_ii (fun Q H locs ls sc x y kk => lv_iand hx hb hd kk) h
  | ior =>
    have hn : n = 1 := hn.elim (fun z => Bool.noConfusion (show false = true from z)) id
    subst hn
    exact zi_go_ii (fun Q H locs ls sc x y kk => lv_ior hx hb hd kk) h
  | ixor =>
    have hn : n = 1 := hn.elim (fun z => Bool.noConfusion (show false = true from z)) id
    subst hn
    exact zi_go_ii (fun Q H locs ls sc x y kk => lv_ixor hx hb hd kk) h
  | ishl =>
    have hn : n = 1 := hn.elim (fun z => Bool.noConfusion (show false = true from z)) id
    subst hn
    exact zi_go_ii (fun Q H locs ls sc x y kk => lv_ishl hx hb hd kk) h
  | ishr =>
    have hn : n = 1 := hn.elim (fun z => Bool.noConfusion (show false = true from z)) id
    subst hn
    exact zi_go_ii (fun Q H locs ls sc x y kk => lv_ishr hx hb hd kk) h
  | iushr =>
    have hn : n = 1 := hn.elim (fun z => Bool.noConfusion (show false = true from z)) id
    subst hn
    exact zi_go_ii (fun Q H locs ls sc x y kk => lv_iushr hx hb hd rfl kk) h
  | idiv =>
    have hn : n = 1 := hn.elim (fun z => Bool.noConfusion (show false = true from z)) id
    subst hn
    exact zi_go_iz (fun Q H locs ls sc x y hz kk => lv_idiv hx hb hd hz kk) h
  | irem =>
    have hn : n = 1 := hn.elim (fun z => Bool.noConfusion (show false = true from z)) id
    subst hn
    exact zi_go_iz (fun Q H locs ls sc x y hz kk => lv_irem hx hb hd hz kk) h
  | ladd =>
    have hn : n = 1 := hn.elim (fun z => Bool.noConfusion (show false = true from z)) id
    subst hn
    exact zi_go_ll (fun Q H locs ls sc x y kk => lv_ladd hx hb hd kk) h
  | lsub =>
    have hn : n = 1 := hn.elim (fun z => Bool.noConfusion (show false = true from z)) id
    subst hn
    exact zi_go_ll (fun Q H locs ls sc x y kk => lv_lsub hx hb hd kk) h
  | lmul =>
    have hn : n = 1 := hn.elim (fun z => Bool.noConfusion (show false = true from z)) id
    subst hn
    exact zi_go_ll (fun Q H locs ls sc x y kk => lv_lmul hx hb hd kk) h
  | land =>
    have hn : n = 1 := hn.elim (fun z => Bool.noConfusion (show false = true from z)) id
    subst hn
    exact zi_go_ll (fun Q H locs ls sc x y kk => lv_land hx hb hd kk) h
  | lor =>
    have hn : n = 1 := hn.elim (fun z => Bool.noConfusion (show false = true from z)) id
    subst hn
    exact zi_go_ll (fun Q H locs ls sc x y kk => lv_lor hx hb hd kk) h
  | lxor =>
    have hn : n = 1 := hn.elim (fun z => Bool.noConfusion (show false = true from z)) id
    subst hn
    exact zi_go_ll (fun Q H locs ls sc x y kk => lv_lxor hx hb hd kk) h
  | lcmp =>
    have hn : n = 1 := hn.elim (fun z => Bool.noConfusion (show false = true from z)) id
    subst hn
    exact zi_go_lc (fun Q H locs ls sc x y kk => W.lcmp hx hb hd kk) h
  | lshl =>
    have hn : n = 1 := hn.elim (fun z => Bool.noConfusion (show false = true from z)) id
    subst hn
    exact zi_go_lw (fun Q H locs ls sc x y kk => lv_lshl hx hb hd rfl kk) h
  | lshr =>
    have hn : n = 1 := hn.elim (fun z => Bool.noConfusion (show false = true from z)) id
    subst hn
    exact zi_go_lw (fun Q H locs ls sc x y kk => lv_lshr hx hb hd rfl kk) h
  | lushr =>
    have hn : n = 1 := hn.elim (fun z => Bool.noConfusion (show false = true from z)) id
    subst hn
    exact zi_go_lw (fun Q H locs ls sc x y kk => lv_lushr hx hb hd rfl kk) h
  | ineg =>
    have hn : n = 1 := hn.elim (fun z => Bool.noConfusion (show false = true from z)) id
    subst hn
    exact zi_go_i1 (op := fun x => .int (-x)) (fun _ _ => rfl) (fun Q H locs ls sc x kk => lv_ineg hx hb hd kk) h
  | i2l =>
    have hn : n = 1 := hn.elim (fun z => Bool.noConfusion (show false = true from z)) id
    subst hn
    exact zi_go_i1 (op := fun x => .long x.toInt64) (fun _ _ => rfl) (fun Q H locs ls sc x kk => lv_i2l hx hb hd rfl kk) h
  | i2c =>
    have hn : n = 1 := hn.elim (fun z => Bool.noConfusion (show false = true from z)) id
    subst hn
    exact zi_go_i1 (op := fun x => .int (x.toUInt32 % 65536).toInt32) (fun _ _ => rfl) (fun Q H locs ls sc x kk => lv_i2c hx hb hd rfl kk) h
  | i2b =>
    have hn : n = 1 := hn.elim (fun z => Bool.noConfusion (show false = true from z)) id
    subst hn
    exact zi_go_i1 (op := fun x => .int x.toInt8.toInt32) (fun _ _ => rfl) (fun Q H locs ls sc x kk => lv_i2b hx hb hd rfl kk) h
  | l2i =>
    have hn : n = 1 := hn.elim (fun z => Bool.noConfusion (show false = true from z)) id
    subst hn
    exact zi_go_l1 (op := fun x => .int x.toInt32) (fun _ _ => rfl) (fun Q H locs ls sc x kk => lv_l2i hx hb hd rfl kk) h
  | lneg =>
    have hn : n = 1 := hn.elim (fun z => Bool.noConfusion (show false = true from z)) id
    subst hn
    exact zi_go_l1 (op := fun x => .long (-x)) (fun _ _ => rfl) (fun Q H locs ls sc x kk => lv_lneg hx hb hd kk) h
  | dup =>
    have hn : n = 1 := hn.elim (fun z => Bool.noConfusion (show false = true from z)) id
    subst hn
    exact zi_go_dup (fun Q H locs ls sc w hw kk => lv_dup hx hb hd hw kk) h
  | pop =>
    have hn : n = 1 := hn.elim (fun z => Bool.noConfusion (show false = true from z)) id
    subst hn
    exact zi_go_pop (fun Q H locs ls sc w hw kk => lv_pop hx hb hd hw kk) h
  | dup2 =>
    have hn : n = 1 := hn.elim (fun z => Bool.noConfusion (show false = true from z)) id
    subst hn
    exact zi_go_dup2 (fun Q H locs ls sc w hw kk => lv_dup2_2 hx hb hd hw kk) (fun Q H locs ls sc v w hv hw kk => lv_dup2_11 hx hb hd hv hw kk) h
  | ifCond k off =>
    have hn : n = 3 := hn.elim (fun z => Bool.noConfusion (show false = true from z)) id
    subst hn
    match o, h, hkl with
    | [], h, _ => cases h
    | t :: ts, h, hkl =>
      have ht := zi_tg_ok (ts := ts) hkl
      refine zi_go_if1 (fun Q H locs ls sc x kt kf => ?_) h
      cases k with
      | eq => exact lv_if_eq hx hb hd ht kt kf
      | ne => exact lv_if_ne hx hb hd ht kt (fun z => kf (fun w => w z))
      | lt => exact lv_if_lt hx hb hd ht kt kf
      | ge => exact lv_if_ge hx hb hd ht kt kf
      | gt => exact lv_if_gt hx hb hd ht kt kf
      | le => exact lv_if_le hx hb hd ht kt kf
  | if_icmp k off =>
    have hn : n = 3 := hn.elim (fun z => Bool.noConfusion (show false = true from z)) id
    subst hn
    match o, h, hkl with
    | [], h, _ => cases h
    | t :: ts, h, hkl =>
      have ht := zi_tg_ok (ts := ts) hkl
      refine zi_go_if2 (fun Q H locs ls sc x y kt kf => ?_) h
      cases k with
      | eq => exact lv_icmp_eq hx hb hd ht kt kf
      | ne => exact lv_icmp_ne hx hb hd ht kt (fun z => kf (fun w => w z))
      | lt => exact lv_icmp_lt hx hb hd ht kt kf
      | ge => exact lv_icmp_ge hx hb hd ht kt kf
      | gt => exact lv_icmp_gt hx hb hd ht kt kf
      | le => exact lv_icmp_le hx hb hd ht kt kf
  | goto off =>
    have hn : n = 3 := hn.elim (fun z => Bool.noConfusion (show false = true from z)) id
    subst hn
    match o, h, hkl with
    | [], h, _ => cases h
    | t :: ts, h, hkl =>
      have ht := zi_tg_ok (ts := ts) hkl
      cases h
      intro Q ws H locs ls sc hS _ _ kk
      exact lv_goto hx hb hd ht (kk ws H locs ls sc (zi_ex_refl ws) hS)
  | ifnull off =>
    have hn : n = 3 := hn.elim (fun z => Bool.noConfusion (show false = true from z)) id
    subst hn
    match o, h, hkl with
    | [], h, _ => cases h
    | t :: ts, h, hkl =>
      have ht := zi_tg_ok (ts := ts) hkl
      exact zi_go_nul (k := true) (tgt := t) (n := 3) (fun Q H locs ls sc kk => lv_ifnullN hx hb hd ht kk) (fun Q H locs ls sc a kk => lv_ifnull hx hb hd kk) h
  | ifnonnull off =>
    have hn : n = 3 := hn.elim (fun z => Bool.noConfusion (show false = true from z)) id
    subst hn
    match o, h, hkl with
    | [], h, _ => cases h
    | t :: ts, h, hkl =>
      have ht := zi_tg_ok (ts := ts) hkl
      exact zi_go_nul (k := false) (tgt := t) (n := 3) (fun Q H locs ls sc kk => lv_ifnonnullN hx hb hd kk) (fun Q H locs ls sc a kk => lv_ifnonnull hx hb hd ht kk) h
  | tableswitch dd lo hi offs =>
    have hkl : (zi_tg pc dd o && decide (offs.toList.map (fun x => (pc : Int) + x) = o.tail.map (fun (t : Nat) => (t : Int)))) = true := hkl
    rw [Bool.and_eq_true, decide_eq_true_eq] at hkl
    refine zi_go_tsw (fun Q H locs ls sc x t ts eo hlo kk => ?_) (fun Q H locs ls sc x t0 t ts eo h1 h2 ht kk => ?_) h
    · subst eo
      exact lv_tableOut hx hb hd hlo (zi_tg_ok hkl.1) kk
    · subst eo
      have e1 : (offs.toList.map (fun x => (pc : Int) + x))[(x.toInt - lo).toNat]? = some (t : Int) := by
        rw [hkl.2]
        show (ts.map (fun (t : Nat) => (t : Int)))[(x.toInt - lo).toNat]? = _
        rw [List.getElem?_map, ht]
        rfl
      rw [List.getElem?_map] at e1
      cases ho : offs.toList[(x.toInt - lo).toNat]? with
      | none => rw [ho] at e1; cases e1
      | some off =>
        rw [ho] at e1
        exact lv_tableIn hx hb hd h1 h2 (by rw [← Array.getElem?_toList]; exact ho) (Option.some.inj e1) kk
  | getfield k0 =>
    have hn : n = 3 := hn.elim (fun z => Bool.noConfusion (show false = true from z)) id
    subst hn
    match o, h, hkl with
    | [], h, _ => cases h
    | [_], h, _ => cases h
    | [_, _], _, hkl => cases hkl
    | ci :: k :: q :: _, h, hkl =>
      have hkl : (bif Nat.beq ci 100 then (bif Nat.beq k 0 then zi_at q (.fieldLink M.1.cls k0 "java/lang/String" "value" "[B") else Nat.beq k 1 && zi_at q (.fieldLink M.1.cls k0 "java/lang/String" "coder" "B")) else (match zi_Fs[ci]? with | some z => Nat.ble (k + 1) z.2.length && zi_at q (.fieldLink M.1.cls k0 (zi_Tf z k).1 (zi_Tf z k).2.1 (zi_Tf z k).2.2.1) | none => false)) = true := hkl
      refine zi_go_get C0 hd (fun hci => ?_) (fun hci => ?_) h
      · rw [show Nat.beq ci 100 = false from by
          cases hz : Nat.beq ci 100 with
          | false => rfl
          | true => exact absurd (Nat.eq_of_beq_eq_true hz) hci] at hkl
        simp only [cond_false] at hkl
        cases hz : zi_Fs[ci]? with
        | none => rw [hz] at hkl; cases hkl
        | some z =>
          rw [hz] at hkl
          simp only [Bool.and_eq_true] at hkl
          exact ⟨z, rfl, Nat.le_of_ble_eq_true hkl.1, zi_at_mem hkl.2⟩
      · subst hci
        refine ⟨fun hk => ?_, fun hk => ?_⟩
        · subst hk
          exact zi_at_mem (show zi_at q _ = true from hkl)
        · subst hk
          exact zi_at_mem (show zi_at q _ = true from hkl)
  | putfield k0 =>
    have hn : n = 3 := hn.elim (fun z => Bool.noConfusion (show false = true from z)) id
    subst hn
    match o, h, hkl with
    | [], h, _ => cases h
    | [_], h, _ => cases h
    | [_, _], _, hkl => cases hkl
    | ci :: k :: q :: _, h, hkl =>
      have hkl : (match zi_Fs[ci]? with | some z => Nat.ble (k + 1) z.2.length && zi_at q (.fieldLink M.1.cls k0 (zi_Tf z k).1 (zi_Tf z k).2.1 (zi_Tf z k).2.2.1) && (!(zi_Tf z k).2.2.2 || (decide (M.1.name = "<init>") && decide ((zi_Tf z k).1 = M.1.cls))) | none => false) = true := hkl
      cases hz : zi_Fs[ci]? with
      | none => rw [hz] at hkl; cases hkl
      | some z =>
        rw [hz] at hkl
        simp only [Bool.and_eq_true, Bool.or_eq_true, Bool.not_eq_true', decide_eq_true_eq] at hkl
        refine zi_go_put C0 hd ⟨z, hz, Nat.le_of_ble_eq_true hkl.1.1, zi_at_mem hkl.1.2, fun hf => ?_⟩ h
        rcases hkl.2 with w | w
        · rw [hf] at w; cases w
        · exact w
  | getstatic k0 =>
    have hn : n = 3 := hn.elim (fun z => Bool.noConfusion (show false = true from z)) id
    subst hn
    match o, h, hkl with
    | [], h, _ => cases h
    | [_], _, hkl => cases hkl
    | k :: q :: _, h, hkl =>
      have hkl : (bif Nat.beq k 0 then zi_at q (.fieldLink M.1.cls k0 "java/lang/String" "COMPACT_STRINGS" "Z") else zi_at q (.fieldLink M.1.cls k0 "jdk/internal/util/Preconditions" "SIOOBE_FORMATTER" "Ljava/util/function/BiFunction;")) = true := hkl
      refine zi_go_gts C0 hd (fun hk => ?_) (fun hk => ?_) h
      · subst hk
        exact zi_at_mem (show zi_at q _ = true from hkl)
      · rw [show Nat.beq k 0 = false from by
          cases hz : Nat.beq k 0 with
          | false => rfl
          | true => exact absurd (Nat.eq_of_beq_eq_true hz) hk] at hkl
        exact zi_at_mem (show zi_at q _ = true from hkl)
  | arraylength =>
    have hn : n = 1 := hn.elim (fun z => Bool.noConfusion (show false = true from z)) id
    subst hn
    exact zi_go_len C0 hd h
  | iaload =>
    have hn : n = 1 := hn.elim (fun z => Bool.noConfusion (show false = true from z)) id
    subst hn
    exact zi_go_iald C0 hd h
  | laload =>
    have hn : n = 1 := hn.elim (fun z => Bool.noConfusion (show false = true from z)) id
    subst hn
    exact zi_go_lald C0 hd h
  | baload =>
    have hn : n = 1 := hn.elim (fun z => Bool.noConfusion (show false = true from z)) id
    subst hn
    exact zi_go_bald C0 hd h
  | caload =>
    have hn : n = 1 := hn.elim (fun z => Bool.noConfusion (show false = true from z)) id
    subst hn
    exact zi_go_cald C0 hd h
  | aaload =>
    have hn : n = 1 := hn.elim (fun z => Bool.noConfusion (show false = true from z)) id
    subst hn
    exact zi_go_aald C0 hd h
  | iastore =>
    have hn : n = 1 := hn.elim (fun z => Bool.noConfusion (show false = true from z)) id
    subst hn
    exact zi_go_iast C0 hd h
  | lastore =>
    have hn : n = 1 := hn.elim (fun z => Bool.noConfusion (show false = true from z)) id
    subst hn
    exact zi_go_last C0 hd h
  | bastore =>
    have hn : n = 1 := hn.elim (fun z => Bool.noConfusion (show false = true from z)) id
    subst hn
    exact zi_go_zast C0 hd h
  | castore =>
    have hn : n = 1 := hn.elim (fun z => Bool.noConfusion (show false = true from z)) id
    subst hn
    exact zi_go_cast C0 hd h
  | aastore =>
    have hn : n = 1 := hn.elim (fun z => Bool.noConfusion (show false = true from z)) id
    subst hn
    exact zi_go_aast C0 hd h
  | new k0 =>
    have hn : n = 3 := hn.elim (fun z => Bool.noConfusion (show false = true from z)) id
    subst hn
    match o, h, hkl with
    | [], h, _ => cases h
    | [_], _, hkl => cases hkl
    | [_, _], _, hkl => cases hkl
    | [_, _, _], _, hkl => cases hkl
    | ci :: q1 :: q2 :: q3 :: _, h, hkl =>
      have hkl : (match zi_Fs[ci]? with | some z => zi_at q1 (.classLink M.1.cls k0 z.1) && zi_at q2 (.instantiable z.1 z.2.length) && zi_at q3 (.initialized z.1) | none => false) = true := hkl
      cases hz : zi_Fs[ci]? with
      | none => rw [hz] at hkl; cases hkl
      | some z =>
        rw [hz] at hkl
        simp only [Bool.and_eq_true] at hkl
        exact zi_go_nw C0 hd ⟨z, hz, zi_at_mem hkl.1.1, zi_at_mem hkl.1.2, zi_at_mem hkl.2⟩ h
  | newarray a0 =>
    have hn : n = 2 := hn.elim (fun z => Bool.noConfusion (show false = true from z)) id
    subst hn
    match o, h, hkl with
    | [], h, _ => cases h
    | [_], _, hkl => cases hkl
    | t :: q :: _, h, hkl =>
      have hkl : (decide (newarray.typeOf a0 = zi_ft t) && Nat.ble (t + 1) 4 && zi_at q (.arrayClass (newarray.typeOf a0))) = true := hkl
      simp only [Bool.and_eq_true, decide_eq_true_eq] at hkl
      exact zi_go_nwa C0 hd hkl.1.1 (Nat.le_of_ble_eq_true hkl.1.2) (zi_at_mem hkl.2) h
  | anewarray k0 =>
    have hn : n = 3 := hn.elim (fun z => Bool.noConfusion (show false = true from z)) id
    subst hn
    match o, h, hkl with
    | [], h, _ => cases h
    | [_], _, hkl => cases hkl
    | t :: q :: _, h, hkl =>
      have hkl : (Nat.ble 4 t && Nat.ble t 6 && (match zi_ft t with | .object Cn => zi_at q (.classLink M.1.cls k0 Cn) | _ => false)) = true := hkl
      simp only [Bool.and_eq_true] at hkl
      have h4 := Nat.le_of_ble_eq_true hkl.1.1
      have h6 := Nat.le_of_ble_eq_true hkl.1.2
      obtain ⟨Cn, hCn⟩ : ∃ Cn, zi_ft t = .object Cn := by
        rcases (show t = 4 ∨ t = 5 ∨ t = 6 by omega) with z | z | z <;> (rw [z]; exact ⟨_, rfl⟩)
      have hq := hkl.2
      rw [hCn] at hq
      exact zi_go_nwq C0 hd hCn h4 (by omega) (zi_at_mem hq) h
  | invokestatic k0 =>
    have hn : n = 3 := hn.elim (fun z => Bool.noConfusion (show false = true from z)) id
    subst hn
    match o, h, hkl with
    | [], h, _ => cases h
    | [z], h, hkl =>
      have h : (bif Nat.ble (zi_cats st) 10 then zi_mm z pc 3 al st A nc ns else none) = some (.inl g) := h
      have hkl : (bif Nat.beq z 0 then zi_mem (.methodLink M.1.cls k0 Lib.Math.max.name) else zi_mem (.methodLink M.1.cls k0 Lib.Math.min.name)) = true := hkl
      cases hb1 : Nat.ble (zi_cats st) 10 with
      | false => rw [hb1] at h; cases h
      | true =>
        rw [hb1] at h
        refine zi_go_mm C0 hd (fun hz => ?_) (fun hz => ?_) (Nat.le_of_ble_eq_true hb1) h
        · subst hz
          exact zi_mem_ok hkl
        · rw [show Nat.beq z 0 = false from by
            cases hq : Nat.beq z 0 with
            | false => rfl
            | true => exact absurd (Nat.eq_of_beq_eq_true hq) hz] at hkl
          exact zi_mem_ok hkl
    | [_, _], _, hkl => cases hkl
    | [_, _, _], _, hkl => cases hkl
    | [_, _, _, _], _, hkl => cases hkl
    | mi :: k :: z :: q1 :: q2 :: _, h, hkl =>
      refine zi_go_invS C0 hct hd (fun N hN => ?_) h
      have hkl : (match Ms[mi]? with | some N => (bif Nat.beq z 0 then zi_at q1 (.methodLink M.1.cls k0 N.1) else decide ((M.1.cls, k0, N.1, "AgreeTold") ∈ zi_nest)) && zi_at q2 (.static N.1) && decide ((parseMethodDescriptor N.1.desc).map (fun d => d.parameters.length) = some k) | none => false) = true := hkl
      rw [hN] at hkl
      simp only [Bool.and_eq_true, decide_eq_true_eq] at hkl
      refine ⟨hMs mi N hN, ?_, zi_at_mem hkl.1.2, hkl.2⟩
      have h1 := hkl.1.1
      cases hz : Nat.beq z 0 with
      | true => rw [hz] at h1; exact Or.inl (zi_at_mem h1)
      | false => rw [hz] at h1; exact Or.inr (of_decide_eq_true h1)
  | invokespecial k0 =>
    have hn : n = 3 := hn.elim (fun z => Bool.noConfusion (show false = true from z)) id
    subst hn
    match o, h, hkl with
    | [], h, hkl => exact zi_go_obj C0 hd (zi_mem_ok hkl) zi_objw.1 zi_objw.2 h
    | [_], h, _ => cases h
    | [_, _], _, hkl => cases hkl
    | [_, _, _], _, hkl => cases hkl
    | [_, _, _, _], _, hkl => cases hkl
    | mi :: k :: z :: q1 :: q2 :: _, h, hkl =>
      have h : (match st[k - 1]? with | some (.inl (.ref _)) => bif Nat.ble 1 k then zi_inv call pc 3 al st A nc ns mi k else none | _ => none) = some (.inl g) := h
      split at h
      · rename_i r hr
        cases hb1 : Nat.ble 1 k with
        | false => rw [hb1] at h; cases h
        | true =>
          rw [hb1] at h
          refine zi_go_invI C0 hct hd (fun N hN => ?_) (Nat.le_of_ble_eq_true hb1) hr h
          have hkl : (match Ms[mi]? with | some N => (bif Nat.beq z 0 then zi_at q1 (.methodLink M.1.cls k0 N.1) else decide ((M.1.cls, k0, N.1, "AgreeTold") ∈ zi_nest)) && zi_at q2 (.instanceMethod N.1) && decide (N.1.name = "<init>") && decide (N.2.2.2.1 = none) && decide ((parseMethodDescriptor N.1.desc).map (fun d => d.parameters.length + 1) = some k) | none => false) = true := hkl
          rw [hN] at hkl
          simp only [Bool.and_eq_true, decide_eq_true_eq] at hkl
          refine ⟨hMs mi N hN, ?_, zi_at_mem hkl.1.1.1.2, hkl.1.1.2, hkl.1.2, hkl.2⟩
          have h1 := hkl.1.1.1.1
          cases hz : Nat.beq z 0 with
          | true => rw [hz] at h1; exact Or.inl (zi_at_mem h1)
          | false => rw [hz] at h1; exact Or.inr (of_decide_eq_true h1)
      · cases h
  | invokevirtual k0 =>
    have hn : n = 3 := hn.elim (fun z => Bool.noConfusion (show false = true from z)) id
    subst hn
    match o, h, hkl with
    | [], h, _ => cases h
    | [_], h, _ => cases h
    | [_, _], h, _ => cases h
    | [_, _, _], _, hkl => cases hkl
    | [_, _, _, _], _, hkl => cases hkl
    | [_, _, _, _, _], _, hkl => cases hkl
    | mi :: k :: ci :: q1 :: q2 :: q3 :: _, h, hkl =>
      have h : (bif Nat.ble 1 k && zi_rcv A ci st[k - 1]? then zi_inv call pc 3 al st A nc ns mi k else none) = some (.inl g) := h
      cases hb1 : (Nat.ble 1 k && zi_rcv A ci st[k - 1]?) with
      | false => rw [hb1] at h; cases h
      | true =>
        rw [hb1] at h
        rw [Bool.and_eq_true] at hb1
        refine zi_go_invV C0 hct hd (fun N hN => ?_) (Nat.le_of_ble_eq_true hb1.1) hb1.2 h
        have hkl : (match Ms[mi]? with | some N => zi_at q1 (.methodLink M.1.cls k0 N.1) && zi_at q2 (.instanceMethod N.1) && zi_at q3 (.selects N.1.cls N.1 N.1) && (bif Nat.beq ci 100 then decide (N.1.cls = "java/lang/String") else (match zi_Fs[ci]? with | some z => decide (z.1 = N.1.cls) | none => false)) && decide ((parseMethodDescriptor N.1.desc).map (fun d => d.parameters.length + 1) = some k) | none => false) = true := hkl
        rw [hN] at hkl
        simp only [Bool.and_eq_true, decide_eq_true_eq] at hkl
        refine ⟨hMs mi N hN, zi_at_mem hkl.1.1.1.1, zi_at_mem hkl.1.1.1.2, zi_at_mem hkl.1.1.2, ?_, hkl.2⟩
        have h1 := hkl.1.2
        cases hz : Nat.beq ci 100 with
        | true =>
          rw [hz] at h1
          exact Or.inl ⟨Nat.eq_of_beq_eq_true hz, of_decide_eq_true h1⟩
        | false =>
          rw [hz] at h1
          simp only [cond_false] at h1
          cases hq : zi_Fs[ci]? with
          | none => rw [hq] at h1; cases h1
          | some q =>
            rw [hq] at h1
            exact Or.inr ⟨Nat.ne_of_beq_eq_false hz, q, rfl, of_decide_eq_true h1⟩
  | ireturn =>
    exact absurd h (zi_ret_no _ _)
  | lreturn =>
    exact absurd h (zi_ret_no _ _)
  | areturn =>
    exact absurd h (zi_ret_no _ _)
  | return_ =>
    exact absurd h (zi_rtv_no _ _)
  | _ => cases h
end ZT
end
section
/-! Runs: a frame to its return is a contract; so many steps of a frame. -/
section ZR
variable {p : Program} {l : Launch} {e : Env} {R : Room} {s : State} {m : MethodId} {args : Array Value} {below : List Frame} {meth : Method} {c : Code} {B0 : Nat} {D : va_G} {dA : Nat → ClassId} {adK adV : Nat → Nat} {b : Nat} {M : zi_M} {d : Nat} {sl : List zi_V} {Ms : List zi_M} {call : zi_K}
def zi_okT (Ms : List zi_M) (M : zi_M) : Prop := ∀ (pc : Nat) (e : zi_E), zi_lk2 pc M.2.2.2.2.1 = some e → zi_ok Ms M pc e = true
theorem zi_stp_go (C : zi_Cx p R s m args meth c B0 D dA adK adV b M d sl) (hct : zi_Ct l Ms d call) (hMs : ∀ (mi : Nat) (N : zi_M), Ms[mi]? = some N → zi_okM N) (hT : zi_okT Ms M) {f g : zi_F} (h : zi_stp call sl M f = some (.inl g)) : zi_Go p l e R s m args below meth c B0 D dA adK adV b M.2.2.1 f g := by
  unfold zi_stp at h
  split at h
  · rename_i en hen
    obtain ⟨i, n, o⟩ := en
    obtain ⟨pc, al, st, A, nc, ns⟩ := f
    split at h
    · rename_i g' hg
      cases h
      exact zi_step C hct hMs (hT pc _ hen) hg
    · cases hi : zi_isr i with
      | true => rw [hi] at h; cases h
      | false => rw [hi] at h; cases h
    · cases h
  · cases h
theorem zi_ret_inv {k : Nat} {v : Option zi_V} : ∀ (r : Option FieldType) (st : List zi_V), zi_ret k r st = some (.inr v) → ∃ ty x, r = some ty ∧ st = [x] ∧ v = some x ∧ zi_rok ty x = true ∧ zi_rk k x = true
  | none, _, h => by cases h
  | some _, [], h => by cases h
  | some _, _ :: _ :: _, h => by cases h
  | some ty, [x], h => by
    have h : (bif zi_rok ty x && zi_rk k x then some (.inr (some x)) else none) = (some (.inr v) : zi_O) := h
    cases hz : (zi_rok ty x && zi_rk k x) with
    | true =>
      rw [hz] at h
      cases h
      rw [Bool.and_eq_true] at hz
      exact ⟨ty, x, rfl, rfl, rfl, hz.1, hz.2⟩
    | false => rw [hz] at h; cases h
theorem zi_rtv_inv {v : Option zi_V} : ∀ (r : Option FieldType) (st : List zi_V), zi_rtv r st = some (.inr v) → r = none ∧ st = [] ∧ v = none
  | none, [], h => by cases h; exact ⟨rfl, rfl, rfl⟩
  | none, _ :: _, h => by cases h
  | some _, _, h => by cases h
theorem zi_run_go (C : zi_Cx p R s m args meth c B0 D dA adK adV b M d sl) (hct : zi_Ct l Ms d call) (hMs : ∀ (mi : Nat) (N : zi_M), Ms[mi]? = some N → zi_okM N) (hT : zi_okT Ms M) : ∀ (n : Nat) {f g : zi_F}, zi_run call sl M n f = some g → zi_Go p l e R s m args below meth c B0 D dA adK adV b M.2.2.1 f g ∧ f.2.2.2.2.1 ≤ g.2.2.2.2.1 ∧ f.2.2.2.2.2 ≤ g.2.2.2.2.2
  | 0, f, g, h => by
    have h : some f = some g := h
    cases h
    exact ⟨zi_Go.refl f, Nat.le_refl _, Nat.le_refl _⟩
  | n + 1, f, g, h => by
    have h : (match zi_stp call sl M f with | some (.inl g) => bif zi_up f g then zi_run call sl M n g else none | _ => none) = some g := h
    split at h
    · rename_i x hx
      cases hu : zi_up f x with
      | false => rw [hu] at h; cases h
      | true =>
        rw [hu] at h
        obtain ⟨h1, h2, h3⟩ := zi_run_go C hct hMs hT n h
        unfold zi_up at hu
        rw [Bool.and_eq_true] at hu
        have u1 := Nat.le_of_ble_eq_true hu.1
        have u2 := Nat.le_of_ble_eq_true hu.2
        exact ⟨zi_Go.tr ⟨h2, h3⟩ (zi_stp_go C hct hMs hT hx) h1, Nat.le_trans u1 h2, Nat.le_trans u2 h3⟩
    · cases h
theorem zi_rok_int {ty : FieldType} {v : zi_V} {ad : Nat → Option Nat} {x : Int32} (h : zi_rok ty v = true) (hv : zi_vr ad v (.int x)) : narrow ty (.int x) = .int x := by
  unfold zi_vr at hv
  split at hv
  · cases hv; exact of_decide_eq_true h
  · cases hv
  · cases hv
  · obtain ⟨a, -, z⟩ := hv; cases z
  · rcases hv with z | ⟨a, z⟩ <;> cases z
  · exact hv.elim
  · exact hv.elim
  · have : ty = .int := of_decide_eq_true h
    rw [this]; rfl
theorem zi_rok_long {ty : FieldType} {v : zi_V} (h : zi_rok ty v = true) (hv : zi_kd v = 1) : ty = .long := by
  cases v with
  | inr q => cases hv
  | inl w => cases w with
    | long x => exact of_decide_eq_true h
    | _ => cases hv
theorem zi_rok_ref {ty : FieldType} {v : zi_V} (h : zi_rok ty v = true) (hv : 2 ≤ zi_kd v) : (∃ n, ty = .object n) ∨ ∃ t, ty = .array t := by
  cases v with
  | inr q => exact absurd hv (by simp [zi_kd])
  | inl w => cases w with
    | ref x =>
      cases ty with
      | object n => exact Or.inl ⟨n, rfl⟩
      | array t => exact Or.inr ⟨t, rfl⟩
      | _ => cases h
    | null =>
      cases ty with
      | object n => exact Or.inl ⟨n, rfl⟩
      | array t => exact Or.inr ⟨t, rfl⟩
      | _ => cases h
    | int x => exact absurd hv (by simp [zi_kd])
    | long x => exact absurd hv (by simp [zi_kd])
    | _ => cases h
theorem zi_stp_ret (C : zi_Cx p R s m args meth c B0 D dA adK adV b M d []) (hT : zi_okT Ms M) {f : zi_F} {v : Option zi_V} (h : zi_stp call [] M f = some (.inr v)) {ws0 ws : va_W} {H : Heap} {locs : List Loc} {ls : Array Slot} {sc : List Value} (hex : zi_ex ws0 ws) (hS : zi_St B0 D dA adK adV b M.2.2.1 s f ws H locs ls sc) :
    zi_W p l e R s m args below meth c (MQ below (zi_Q B0 D dA adK adV b ws0 v f.2.2.2.1) args s f.2.2.2.2.1 f.2.2.2.2.2 (fun q => B0 ≤ q)) f.2.2.2.2.1 f.2.2.2.2.2 f.1 H locs ls sc := by
  obtain ⟨⟨hx, hb, hml, hret, hown, hts, hlk, hnm⟩, hX, hR, hscr⟩ := C
  obtain ⟨pc, al, st, A, nc, ns⟩ := f
  obtain ⟨h1, h2, h3, h4, h5, h6⟩ := hS
  unfold zi_stp at h
  split at h
  · rename_i en hen
    obtain ⟨i, n, o⟩ := en
    have hok := hT pc _ hen
    unfold zi_ok at hok
    rw [Bool.and_eq_true, Bool.and_eq_true] at hok
    have hd : decode M.2.1 pc = .ok (i, n) := of_decide_eq_true hok.1.1
    have hn0 := hok.1.2
    rw [Bool.or_eq_true] at hn0
    have hn : zi_sw i = true ∨ n = zi_ln i := hn0.imp id (fun z => Nat.eq_of_beq_eq_true z)
    have post : ∀ (w : Option Value), zi_ro (zi_ad adK adV b ws) v w → ∀ t : State, t.heap = H → s.WarmedH t.vm → zi_Q B0 D dA adK adV b ws0 v A args s (.returned w) t := by
      intro w hw t ht _
      exact ⟨⟨w, ws, rfl, hex, hw, h4, by rw [ht]; exact h1, h2⟩, h3.F ht⟩
    have hf : ∀ q ∈ locs, B0 ≤ q.base := h3.2.2
    have hh : zi_do call [] M.2.2.1 M.2.2.2.1 pc al st A nc ns i n o = some (.inr v) ∧ zi_isr i = true := by
      split at h
      · cases h
      · rename_i v' hv
        cases hi : zi_isr i with
        | true => rw [hi] at h; cases h; exact ⟨hv, rfl⟩
        | false => rw [hi] at h; cases h
      · cases h
    clear h
    obtain ⟨h, hisr⟩ := hh
    have rets : ∀ k : Nat, zi_ret k M.2.2.2.1 st = some (.inr v) → ∃ ty x w, M.2.2.2.1 = some ty ∧ v = some x ∧ sc = [w] ∧ zi_rok ty x = true ∧ zi_rk k x = true ∧ zi_vr (zi_ad adK adV b ws) x w := by
      intro k hk
      obtain ⟨ty, x, e1, e2, e3, e4, e5⟩ := zi_ret_inv _ _ hk
      have h6 : zi_F2 (zi_vr (zi_ad adK adV b ws)) st sc := h6
      rw [e2] at h6
      obtain ⟨w, sc1, e6, hw, h7⟩ := zi_F2_cons h6
      have e7 := zi_F2_nil h7
      exact ⟨ty, x, w, e1, e3, by rw [e6, e7], e4, e5, hw⟩
    cases i with
    | ireturn =>
      have hn : n = 1 := hn.elim (fun z => Bool.noConfusion (show false = true from z)) id
      subst hn
      obtain ⟨ty, x, w, e1, rfl, rfl, hr1, hr2, hw⟩ := rets 0 h
      obtain ⟨y, rfl⟩ := zi_vr_int hw (Nat.eq_of_beq_eq_true hr2)
      exact W.zret hx hb (hret.trans e1) (zi_rok_int hr1 hw) (post (some (.int y)) hw) hf hd hlk
    | lreturn =>
      have hn : n = 1 := hn.elim (fun z => Bool.noConfusion (show false = true from z)) id
      subst hn
      obtain ⟨ty, x, w, e1, rfl, rfl, hr1, hr2, hw⟩ := rets 1 h
      have hk := Nat.eq_of_beq_eq_true hr2
      obtain ⟨y, rfl⟩ := zi_vr_long hw hk
      have := zi_rok_long hr1 hk
      subst this
      exact W.lret hx hb (hret.trans e1) (post (some (.long y)) hw) hf hd hlk
    | areturn =>
      have hn : n = 1 := hn.elim (fun z => Bool.noConfusion (show false = true from z)) id
      subst hn
      obtain ⟨ty, x, w, e1, rfl, rfl, hr1, hr2, hw⟩ := rets 2 h
      have hk := Nat.le_of_ble_eq_true hr2
      exact W.aret hx hb (hret.trans e1) (zi_rok_ref hr1 hk) (zi_vr_ref hw hk) (post (some w) hw) hf hd hlk
    | return_ =>
      have hn : n = 1 := hn.elim (fun z => Bool.noConfusion (show false = true from z)) id
      subst hn
      obtain ⟨e1, e2, e3⟩ := zi_rtv_inv _ _ h
      subst e3
      have h6 : zi_F2 (zi_vr (zi_ad adK adV b ws)) st sc := h6
      rw [e2] at h6
      have := zi_F2_nil h6
      subst this
      exact W.vret hx hb (hret.trans e1) (post none trivial) hf hd hlk
    | _ => cases hisr
  · cases h
theorem zi_loop_ok (C : zi_Cx p R s m args meth c B0 D dA adK adV b M d []) (hct : zi_Ct l Ms d call) (hMs : ∀ (mi : Nat) (N : zi_M), Ms[mi]? = some N → zi_okM N) (hT : zi_okT Ms M) {ws0 : va_W} : ∀ (n : Nat) {f : zi_F} {r : zi_R}, zi_loop call M n f = some r → r.2.2.1 ≤ R.cells → r.2.2.2 ≤ R.slots → (f.2.2.2.2.1 ≤ r.2.2.1 ∧ f.2.2.2.2.2 ≤ r.2.2.2) ∧ ∀ (ws : va_W) (H : Heap) (locs : List Loc) (ls : Array Slot) (sc : List Value), zi_ex ws0 ws → zi_St B0 D dA adK adV b M.2.2.1 s f ws H locs ls sc →
    zi_W p l e R s m args below meth c (MQ below (zi_Q B0 D dA adK adV b ws0 r.1 r.2.1) args s r.2.2.1 r.2.2.2 (fun q => B0 ≤ q)) f.2.2.2.2.1 f.2.2.2.2.2 f.1 H locs ls sc
  | 0, f, r, h, _, _ => by cases h
  | n + 1, f, r, h, hc, hs => by
    have h : (match zi_stp call [] M f with | some (.inl g) => bif zi_up f g then zi_loop call M n g else none | some (.inr v) => some (v, f.2.2.2.1, f.2.2.2.2.1, f.2.2.2.2.2) | none => none) = some r := h
    split at h
    · rename_i x hx
      cases hu : zi_up f x with
      | false => rw [hu] at h; cases h
      | true =>
        rw [hu] at h
        obtain ⟨h1, h2⟩ := zi_loop_ok C hct hMs hT n h hc hs
        unfold zi_up at hu
        rw [Bool.and_eq_true] at hu
        have u1 := Nat.le_of_ble_eq_true hu.1
        have u2 := Nat.le_of_ble_eq_true hu.2
        refine ⟨⟨Nat.le_trans u1 h1.1, Nat.le_trans u2 h1.2⟩, fun ws H locs ls sc hex hS => ?_⟩
        exact zi_stp_go C hct hMs hT hx _ ws H locs ls sc hS (Nat.le_trans h1.1 hc) (Nat.le_trans h1.2 hs) (fun ws' H' locs' ls' sc' hex' hS' => h2 ws' H' locs' ls' sc' (zi_ex_trans hex hex') hS')
    · rename_i v hv
      cases h
      exact ⟨⟨Nat.le_refl _, Nat.le_refl _⟩, fun ws H locs ls sc hex hS => zi_stp_ret C hT hv hex hS⟩
    · cases h
end ZR
theorem zi_sl_len : ∀ vs : List Value, (lg_sl vs).length = (vs.map fun v => v.category).sum
  | [] => rfl
  | v :: vs => by
    have e1 : lg_sl (v :: vs) = (if v.category = 2 then [Slot.val v, Slot.second] else [Slot.val v]) ++ lg_sl vs := rfl
    rw [e1, List.length_append, zi_sl_len vs, List.map_cons, List.sum_cons]
    rcases lv_cat v with h | h
    · rw [h, if_neg (by decide)]; rfl
    · rw [h, if_pos rfl]; rfl
theorem zi_ev_ok {l : Launch} {Ms : List zi_M} (hMs : ∀ (mi : Nat) (N : zi_M), Ms[mi]? = some N → zi_okM N ∧ zi_okT Ms N) (n : Nat) : ∀ d : Nat, zi_Ct l Ms d (zi_ev Ms n d)
  | 0 => fun mi avs A r h => by cases h
  | d + 1 => fun mi avs A r h => by
    have ih := zi_ev_ok (l := l) hMs n d
    have h : (match Ms[mi]? with | some M => bif Nat.ble (zi_cats avs) M.2.2.1 then zi_loop (zi_ev Ms n d) M n (0, zi_ent 0 avs, [], A, 0, 0) else none | none => none) = some r := h
    cases hM : Ms[mi]? with
    | none => rw [hM] at h; cases h
    | some M =>
      rw [hM] at h
      dsimp only at h
      cases hb : Nat.ble (zi_cats avs) M.2.2.1 with
      | false => rw [hb] at h; cases h
      | true =>
        rw [hb] at h
        have hb := Nat.le_of_ble_eq_true hb
        have h : zi_loop (zi_ev Ms n d) M n (0, zi_ent 0 avs, [], A, 0, 0) = some r := h
        obtain ⟨hok, hT⟩ := hMs mi M hM
        refine ⟨M, rfl, ?_⟩
        intro B0 D dA adK adV b ws vs hvs hA
        refine Met.ofW (cc := M.2.1) (maxL := M.2.2.1) (ret := M.2.2.2.1) hok.2.2.2.1 rfl ?_
        intro p e s m args below meth c s₁ B hml hv
        obtain ⟨rfl, hX, hP, hD⟩ := hv
        have hts := atoms_spec (ws := zi_ws M) B.pre
        have hcat := zi_cats_ok hvs
        have hl := lv_entry vs (n := M.2.2.1) (by rw [zi_sl_len, hcat]; exact hb)
        rw [lg_entry_eq]
        have C : zi_Cx p (headSpec (zi_ws M) (zi_room (d + 1) r.2.2.1 r.2.2.2)).room s m vs.toArray meth c B0 D dA adK adV b M d [] :=
          ⟨⟨B.exec, B.bytes, hml, B.returns, findClass_of_methodNamed B.named, fun w hw => hts w (List.mem_cons_of_mem _ hw), B.notSynchronized, (name_of_methodNamed B.named B.method).1⟩, hX, ⟨Nat.le_refl _, Nat.le_refl _⟩, Or.inl rfl⟩
        exact (zi_loop_ok C ih (fun mi N hN => (hMs mi N hN).1) hT n h (Nat.le_refl _) (Nat.le_refl _)).2 ws s.heap [] _ [] (zi_ex_refl ws) ⟨hP, hD, va_S.rf, hA, ⟨_, hl, zi_ent_ok hvs 0⟩, trivial⟩
end
section
/-! What the Statement gives of the start. -/
theorem zi_inst_all : zi_Fs.all (fun q => zi_mem (.instantiable q.1 q.2.length)) = true := by decide +kernel
theorem zi_ex_int : zi_mem (.arrayClass .int) = true := by decide +kernel
theorem zi_ex_long : zi_mem (.arrayClass .long) = true := by decide +kernel
theorem zi_ex_boolean : zi_mem (.arrayClass .boolean) = true := by decide +kernel
theorem zi_ex_char : zi_mem (.arrayClass .char) = true := by decide +kernel
theorem zi_ao4 : Cond.arrayOver (.object "AgreeTold$FutureSet") ∈ lw_tbl := by decide +kernel
theorem zi_ao5 : Cond.arrayOver (.object "AgreeTold$Story") ∈ lw_tbl := by decide +kernel
theorem zi_ao6 : Cond.arrayOver (.object "AgreeTold$Saying") ∈ lw_tbl := by decide +kernel
theorem zi_prim {args : Array Value} {s : State} {ty : FieldType} (h : (Cond.arrayClass ty).before args s = true) : ∃ cA : ClassId, ArrOfT s cA ty ∧ s.vm.findClass ("[" ++ ty.toString) = some cA := by
  obtain ⟨c, k, comp, h1, h2, h3⟩ := Cond.arrayClass_spec h
  exact ⟨c, fun n z => ⟨fun k h => (by cases h), k, h2, comp, h3⟩, h1⟩
theorem zi_refs {args : Array Value} {s : State} {C : String} (h : (Cond.arrayOver (.object C)).before args s = true) : ∃ cA : ClassId, ArrOfT s cA (.object C) ∧ va_RA s cA (.object C) := by
  obtain ⟨comp, c, k, h1, h2, h3, h4, h5⟩ := Cond.arrayOver_spec h
  exact ⟨c, fun n z => ⟨fun k h => (by cases h), k, h3, comp, h4⟩, k, comp, h3, h4, h1, h5⟩
theorem zi_K_ex {args : Array Value} {s : State} (hts : ∀ w ∈ lw_tbl, w.before args s = true) : ∃ (D : va_G) (dA : Nat → ClassId), va_K D zi_cl (zi_tys dA) s := by
  have h0 : ∀ ci : Nat, ∃ q : ClassId × (Nat → Nat), ∀ z, zi_Fs[ci]? = some z → u_Kn s z.1 (zi_Tf z) z.2.length q.1 q.2 := by
    intro ci
    cases hz : zi_Fs[ci]? with
    | none => exact ⟨(0, fun _ => 0), fun z h => by cases h⟩
    | some z =>
      have h1 := List.all_eq_true.mp zi_inst_all z (List.mem_of_getElem? hz)
      obtain ⟨cC, iS, h⟩ := u_known (C := z.1) (T := zi_Tf z) (N := z.2.length) (n := z.2.length) (ws := lw_tbl) hts (fun w hw => (List.mem_filter.mp ((zi_cl_ok hz).1 w hw)).1) (hts _ (List.mem_filter.mp (zi_mem_ok h1)).1)
      exact ⟨(cC, iS), fun z' h' => by cases h'; exact h⟩
  have h1 : ∀ t : Nat, ∃ cA : ClassId, t < 7 → ArrOfT s cA (zi_ft t) ∧ va_RA s cA (zi_ft t) := by
    intro t
    by_cases ht : t < 7
    · rcases (show t = 0 ∨ t = 1 ∨ t = 2 ∨ t = 3 ∨ t = 4 ∨ t = 5 ∨ t = 6 by omega) with z | z | z | z | z | z | z <;> subst z
      · obtain ⟨cA, a1, a2⟩ := zi_prim (hts _ (List.mem_filter.mp (zi_mem_ok zi_ex_int)).1)
        exact ⟨cA, fun _ => ⟨a1, a2⟩⟩
      · obtain ⟨cA, a1, a2⟩ := zi_prim (hts _ (List.mem_filter.mp (zi_mem_ok zi_ex_long)).1)
        exact ⟨cA, fun _ => ⟨a1, a2⟩⟩
      · obtain ⟨cA, a1, a2⟩ := zi_prim (hts _ (List.mem_filter.mp (zi_mem_ok zi_ex_boolean)).1)
        exact ⟨cA, fun _ => ⟨a1, a2⟩⟩
      · obtain ⟨cA, a1, a2⟩ := zi_prim (hts _ (List.mem_filter.mp (zi_mem_ok zi_ex_char)).1)
        exact ⟨cA, fun _ => ⟨a1, a2⟩⟩
      · obtain ⟨cA, a1, a2⟩ := zi_refs (hts _ zi_ao4)
        exact ⟨cA, fun _ => ⟨a1, a2⟩⟩
      · obtain ⟨cA, a1, a2⟩ := zi_refs (hts _ zi_ao5)
        exact ⟨cA, fun _ => ⟨a1, a2⟩⟩
      · obtain ⟨cA, a1, a2⟩ := zi_refs (hts _ zi_ao6)
        exact ⟨cA, fun _ => ⟨a1, a2⟩⟩
    · exact ⟨0, fun h => absurd h ht⟩
  obtain ⟨f, hf⟩ := Classical.axiomOfChoice h0
  obtain ⟨dA, hdA⟩ := Classical.axiomOfChoice h1
  refine ⟨(fun ci => (f ci).1, fun ci => (f ci).2), dA, ⟨fun ci q hq => ?_, fun k q hk => ?_⟩⟩
  · cases hz : zi_Fs[ci]? with
    | none =>
      unfold zi_cl at hq
      rw [List.getElem?_map, hz] at hq
      cases hq
    | some z =>
      rw [zi_cl_at hz] at hq
      cases hq
      exact hf ci z hz
  · have hl : k < 7 := by
      have := (List.getElem?_eq_some_iff.mp hk).1
      simpa [zi_tys] using this
    rw [zi_tys_at dA hl] at hk
    cases hk
    exact hdA k hl
/-! the String constants -/
def zi_fl : List Cond := flatC (Jvm.Cond.and given_1 narrow_1)
def zi_tm (i : Nat) : Term := match i with
  | 0 => .string "AgreeTold$Tape" 26
  | 1 => .string "AgreeTold$Reader" 18
  | 2 => .string "AgreeTold$Tape" 77
  | _ => .string "AgreeTold" 343
theorem zi_s_all : (List.range 4).all (fun i => decide (Cond.exactly (zi_tm i) "java/lang/String" ∈ zi_fl) && decide (Cond.eq (.field (zi_tm i) "java/lang/String" "coder" "B") (.int 0) ∈ zi_fl) && decide (Cond.arrayOf (.field (zi_tm i) "java/lang/String" "value" "[B") .byte ∈ zi_fl) && decide (Cond.eq (.length (.field (zi_tm i) "java/lang/String" "value" "[B")) (.int (Int32.ofNat (zi_sn.getD i 0))) ∈ zi_fl) && Nat.ble (zi_sn.getD i 0) 1000) = true := by decide +kernel
def zi_bs (i : Nat) : Nat := match i with
  | 0 => 27
  | 1 => 185
  | 2 => 207
  | _ => 221
def zi_el (i j : Nat) : Cond := Cond.eq (.elem (.field (zi_tm i) "java/lang/String" "value" "[B") (.int (Int32.ofNat j))) (.int ((zi_sb.getD i []).getD j 0))
theorem zi_e0 : (zi_fl.drop 27).take 154 = (List.range 154).map (zi_el 0) := by decide +kernel
theorem zi_e1 : (zi_fl.drop 185).take 17 = (List.range 17).map (zi_el 1) := by decide +kernel
theorem zi_e2 : (zi_fl.drop 207).take 8 = (List.range 8).map (zi_el 2) := by decide +kernel
theorem zi_e3 : (zi_fl.drop 221).take 12 = (List.range 12).map (zi_el 3) := by decide +kernel
theorem zi_e_of {a n i : Nat} (h : (zi_fl.drop a).take n = (List.range n).map (zi_el i)) {j : Nat} (hj : j < n) : zi_el i j ∈ zi_fl := by
  have h1 : zi_el i j ∈ (List.range n).map (zi_el i) := List.mem_map.mpr ⟨j, List.mem_range.mpr hj, rfl⟩
  rw [← h] at h1
  exact List.mem_of_mem_drop (List.mem_of_mem_take h1)
theorem zi_e_all (i : Nat) (hi : i < 4) (j : Nat) (hj : j < zi_sn.getD i 0) : zi_el i j ∈ zi_fl := by
  rcases (show i = 0 ∨ i = 1 ∨ i = 2 ∨ i = 3 by omega) with z | z | z | z <;> subst z
  · exact zi_e_of zi_e0 hj
  · exact zi_e_of zi_e1 hj
  · exact zi_e_of zi_e2 hj
  · exact zi_e_of zi_e3 hj
theorem zi_n_all : (List.range 4).all (fun i => (List.range 4).all (fun j => decide (i = j) || decide (Cond.not (Cond.eq (zi_tm i) (zi_tm j)) ∈ zi_fl) || decide (Cond.not (Cond.eq (zi_tm j) (zi_tm i)) ∈ zi_fl))) = true := by decide +kernel
theorem zi_r_all : ((List.range 4).zip zi_sr).all (fun q => decide (zi_tm q.1 = .string q.2.1 q.2.2.1) && decide (Cond.stringRef q.2.1 q.2.2.1 q.2.2.2 ∈ lw_tbl)) = true := by decide +kernel
theorem zi_nest_all : zi_nest.all (fun q => decide (Cond.methodLinkNest q.1 q.2.1 q.2.2.1 q.2.2.2 ∈ lw_tbl)) = true := by decide +kernel
theorem zi_st0 : Cond.laysStatic "java/lang/String" "COMPACT_STRINGS" "Z" ∈ lw_tbl ∧ Cond.initialized "java/lang/String" ∈ lw_tbl ∧ Cond.eq (.static "java/lang/String" "COMPACT_STRINGS" "Z") (.int 1) ∈ zi_fl := ⟨by decide +kernel, by decide +kernel, by decide +kernel⟩
theorem zi_st1 : Cond.laysStatic "jdk/internal/util/Preconditions" "SIOOBE_FORMATTER" "Ljava/util/function/BiFunction;" ∈ lw_tbl ∧ Cond.initialized "jdk/internal/util/Preconditions" ∈ lw_tbl ∧ Cond.isRef (.static "jdk/internal/util/Preconditions" "SIOOBE_FORMATTER" "Ljava/util/function/BiFunction;") ∈ zi_fl := ⟨by decide +kernel, by decide +kernel, by decide +kernel⟩
theorem zi_X_ex {args : Array Value} {s : State} (hts : ∀ w ∈ lw_tbl, w.before args s = true) (hgv : (Jvm.Cond.and given_1 narrow_1).before args s = true) : ∃ (D : va_G) (dA : Nat → ClassId) (adK adV : Nat → Nat), zi_X s.heap.size D dA adK adV s := by
  have hs : ∀ w ∈ zi_fl, w.before args s = true := flat_of_before _ hgv
  have hA : ∀ a : Nat, a < s.heap.size → ¬ s.heap.size ≤ a := fun a h => Nat.not_le.mpr h
  obtain ⟨D, dA, hK⟩ := zi_K_ex hts
  have sa : ∀ i : Nat, i < 4 → _ := fun i hi => List.all_eq_true.mp zi_s_all i (List.mem_range.mpr hi)
  simp only [Bool.and_eq_true, decide_eq_true_eq] at sa
  have na : ∀ i : Nat, i < 4 → ∀ j : Nat, j < 4 → _ := fun i hi j hj => List.all_eq_true.mp (List.all_eq_true.mp zi_n_all i (List.mem_range.mpr hi)) j (List.mem_range.mpr hj)
  simp only [Bool.or_eq_true, decide_eq_true_eq] at na
  obtain ⟨adK, adV, hS, hev⟩ := vk_Sof (N := 4) (tm := zi_tm) (len := zi_sn) (byt := zi_sb) (A := fun q => s.heap.size ≤ q) (args := args) (s := s) (fun i hi => Nat.lt_of_le_of_lt (Nat.le_of_ble_eq_true (sa i hi).2) (by decide)) (fun i hi => hs _ (sa i hi).1.1.1.1) (fun i hi => hs _ (sa i hi).1.1.1.2) (fun i hi => hs _ (sa i hi).1.1.2) (fun i hi => hs _ (sa i hi).1.2) (fun i hi j hj => hs _ (zi_e_all i hi j hj)) (fun i j hi hj hij => by
    rcases na i hi j hj with (z | z) | z
    · exact absurd z hij
    · exact Or.inl (hs _ z)
    · exact Or.inr (hs _ z)) hA
  refine ⟨D, dA, adK, adV, hK, hS, fun i q hq => ?_, va_Zof (hts _ zi_st0.1) (hts _ zi_st0.2.1) (va_eqi (hs _ zi_st0.2.2)) hA, va_Zqof (hts _ zi_st1.1) (hts _ zi_st1.2.1) (hs _ zi_st1.2.2) hA, fun q hq => ?_, ⟨va_AO.of (hts _ zi_ao4), va_AO.of (hts _ zi_ao5), va_AO.of (hts _ zi_ao6)⟩, Nat.le_refl _⟩
  · have hi : i < 4 := (List.getElem?_eq_some_iff.mp hq).1
    have hm : (i, q) ∈ (List.range 4).zip zi_sr := by
      refine List.mem_of_getElem? (i := i) ?_
      rw [List.getElem?_zip_eq_some]
      exact ⟨by rw [List.getElem?_range hi], hq⟩
    have hz := List.all_eq_true.mp zi_r_all _ hm
    simp only [Bool.and_eq_true, decide_eq_true_eq] at hz
    have he := hev i hi
    rw [hz.1] at he
    refine vk_R.of (A := args) (hts _ hz.2) he
  · have hz := List.all_eq_true.mp zi_nest_all q hq
    exact va_Nw.of rfl (hts _ (of_decide_eq_true hz))
end
section
/-! ===== BEGIN words of one list among another's, by their places ===== -/
theorem goodIn_r {big : List Cond} (ws : List Cond) (ps : List Nat) (hp : ws = ps.filterMap (fun i => big[i]?)) (h : ws.all goodWord = true) : GoodIn big ws := by
  intro w hw
  have h1 := List.all_eq_true.mp h w hw
  rw [hp] at hw
  obtain ⟨i, -, hi⟩ := List.mem_filterMap.mp hw
  have hm : w ∈ big := by first | exact List.mem_of_getElem? hi | exact List.getElem?_mem hi
  exact ⟨hm, good_of_word h1⟩
theorem goodIn_app {big a b : List Cond} (ha : GoodIn big a) (hb : GoodIn big b) : GoodIn big (a ++ b) := fun w h => (List.mem_append.mp h).elim (ha w) (hb w)
theorem goodIn_ca {big a b : List Cond} {c : Cond} (ha : GoodIn big (c :: a)) (hb : GoodIn big b) : GoodIn big (c :: (a ++ b)) := fun w h => (List.mem_cons.mp h).elim (fun e => ha w (List.mem_cons.mpr (Or.inl e))) (fun h => (List.mem_append.mp h).elim (fun h => ha w (List.mem_cons.mpr (Or.inr h))) (hb w))
theorem goodIn_sub {big ws : List Cond} (hm : ∀ w ∈ ws, w ∈ big) (h : ws.all goodWord = true) : GoodIn big ws := fun w hw => ⟨hm w hw, good_of_word (List.all_eq_true.mp h w hw)⟩
/-! ===== END ===== -/
/-! ===== BEGIN exceptions that leave a method, and their catching by the caller (launches without stack traces) ===== -/
section VXA
/-! The laws vx_back, vx_callV, vx_callS, vx_callSW, vx_throw0, vx_throwS follow proofs of the library, with one case more: JvmDerived/Free/Laws.lean (Back.of_free), Shelf42/LK1.lean (callV, callS), Shelf/KitTraced.lean (throwNew0V, throwNewS). -/
/-- where a method has thrown q: the class by its name, the cell, what was written, the world -/
def vx_T (XC : String → State → State → Prop) (st : State) (q : Addr) (t : State) (mc ms : Nat) (free : Addr → Prop) : Prop :=
  ∃ (E : String) (ce : Cell) (L : List Loc), XC E st t ∧ t.heap[q]? = some ce ∧ ce.vm = .none ∧ st.vm.findClass E = some ce.cls ∧ st.WarmedH t.vm ∧ st.sameButNew ({ t with vm := st.vm } : State) L mc ms ∧ ∀ z ∈ L, free z.base
def vx_Q (Qc : Array Value → State → Outcome → State → Prop) (XC : String → State → State → Prop) (mc ms : Nat) (free : Addr → Prop) : Array Value → State → Outcome → State → Prop := fun a st o t =>
  (Qc a st o t ∧ ∃ L, FrameEnd st o t L mc ms ∧ ∀ q ∈ L, free q.base) ∨ ∃ q, o = .threw q ∧ vx_T XC st q t mc ms free
/-- a callee that returns or throws -/
def vx_Met (l : Launch) (y : MethodName) (ws : List Cond) (rm : Room) (Pc : Array Value → State → Prop) (Qc : Array Value → State → Outcome → State → Prop) (XC : String → State → State → Prop) (mc ms : Nat) (free : Addr → Prop) : Prop :=
  MetFree l y (headSpec ws rm) Pc (fun _ _ _ _ _ => True) (vx_Q Qc XC mc ms free)
def vx_Post (XC : String → State → State → Prop) (mc ms : Nat) (free : Addr → Prop) : Pt → Array Value → Addr → Pt → Prop := fun A a q B =>
  ∃ (g : JFrame) (mk : MethodId) (t : State) (L : List Loc) (E : String) (ce : Cell), B.U.heap = t.heap ∧ B.U.vm = t.vm ∧ XC E (A.U.calling g mk a) t ∧ t.heap[q]? = some ce ∧ ce.vm = .none ∧ A.U.vm.findClass E = some ce.cls ∧ B.locs = A.locs ++ L ∧ (∀ z ∈ L, free z.base) ∧ B.cells = A.cells + mc ∧ B.slots = A.slots + ms
def vx_Back (l : Launch) (R : Room) (p : Program) (e : Env) (below : List Frame) (s : State) (sargs : Array Value) (y : MethodName) (len W9 : Nat)
    (Pre : Pt → Array Value → Prop) (Post : Pt → Array Value → Option Value → Pt → Prop) (PostX : Pt → Array Value → Addr → Pt → Prop) : Prop :=
  ∀ (m : MethodId) (meth : Method) (c : Code) (A : Pt) (g : JFrame) (ig : Instr) (mk : MethodId) (a : Array Value),
    Stand p l e R s m sargs below meth c A.U A.locs A.cells A.slots → g.method = m → g.locals.size = c.maxLocals → decode c.code g.pc = .ok (ig, len) →
    2 * g.monitorRoom + (g.stack.map fun v => v.category).sum ≤ W9 → A.U.methodNamed? y = some mk → Pre A a →
    (∃ (v : Option Value) (B : Pt), Stand p l e R s m sargs below meth c B.U B.locs B.cells B.slots ∧ Post A a v B ∧
      Steps p.tables e below (doInvoke e (A.U.setTop g) [] mk a).1 (B.U.setTop { g with pc := g.pc + len, stack := v.toList ++ g.stack })) ∨
    (∃ (q : Addr) (B : Pt), Stand p l e R s m sargs below meth c B.U B.locs B.cells B.slots ∧ PostX A a q B ∧
      Steps p.tables e below (doInvoke e (A.U.setTop g) [] mk a).1 ((B.U.setTop g).pushFrame (.throwing q)))
section Payer
variable {l : Launch} {R : Room} {p : Program} {e : Env} {below : List Frame} {s : State} {sargs : Array Value} {y : MethodName} {len W9 : Nat}
theorem vx_back {ws : List Cond} {rm : Room} {Pc : Array Value → State → Prop} {Qc : Array Value → State → Outcome → State → Prop} {XC : String → State → State → Prop} {mc ms : Nat} {free : Addr → Prop} {bytes : ByteArray} {maxL : Nat} {ret : Option FieldType}
    (hM : vx_Met l y ws rm Pc Qc XC mc ms free) (hblind : FrameBlind Pc) (hrc : rm.cells = mc) (hrs : rm.slots = ms)
    (hframes : rm.frames + 1 ≤ R.frames) (hlocals : W9 + (maxL + 11) + rm.locals ≤ R.locals)
    (hws : ∀ w ∈ ws, ∀ a' U, s.WarmedH U.vm → w.before a' U = true) (hcode : Cond.code y bytes maxL ret ∈ ws) (hinit : ∀ a' U, s.WarmedH U.vm → (Cond.initialized y.cls).before a' U = true) :
    vx_Back l R p e below s sargs y len W9 (PreOf R mc ms Pc) (PostOf Qc mc ms free) (vx_Post XC mc ms free) := by
  intro m meth c A g ig mk a X hg hsize hdg hW hn hp
  have h1 : (headSpec ws rm).pre.before a A.U = true := atoms_intro fun w hw => hws w hw _ _ X.warmed
  have h2 : (Cond.code y bytes maxL ret).before a A.U = true := hws _ hcode _ _ X.warmed
  have h3 : (Cond.initialized y.cls).before a A.U = true := hinit _ _ X.warmed
  have h4 : A.cells + (headSpec ws rm).room.cells ≤ R.cells := by rw [show (headSpec ws rm).room.cells = mc from hrc]; exact hp.1
  have h5 : A.slots + (headSpec ws rm).room.slots ≤ R.slots := by rw [show (headSpec ws rm).room.slots = ms from hrs]; exact hp.2.1
  have hPc : Pc a (A.U.calling g mk a) := hblind _ _ _ _ hp.2.2
  obtain ⟨U, Ls, c0, s0⟩ := A
  dsimp only [Pt.U, Pt.locs, Pt.cells, Pt.slots] at h1 h2 h3 h4 h5 X hn hPc ⊢
  obtain ⟨methY, cY, hmY, hcY, -, hlY, -, -, -, -⟩ := Cond.code_spec hn h2
  obtain ⟨kY, hkY, -⟩ := className_of_methodNamed hn
  have hinitY : kY.init = .initialized := Cond.initialized_spec (findClass_of_methodNamed hn) hkY h3
  have h : At U g.method c below := by rw [hg]; exact X.here
  have hlocals9 : W9 + (maxL + 11) + (headSpec ws rm).room.locals ≤ R.locals := hlocals
  have happ : (headSpec ws rm).appliesLoose y e.platform (U.calling g mk a) = true :=
    Spec.appliesLoose_calling (g := g) h hdg hn hkY hinitY
      (X.room_calling (g := g) (R' := (headSpec ws rm).room) hsize hmY hcY hframes (by rw [hlY]; omega) h4 h5) h1
  obtain ⟨mid, hmid⟩ := h.above
  have hfr : (U.setTop g).frames = (.java g :: mid) ++ below := by rw [State.frames_setTop' g h.top, hmid]; rfl
  obtain ⟨o, s₂, hsteps, -, hend, hq⟩ := Steps.callFree hM p X.admits X.cas X.clock (acts := []) hfr happ hPc trivial
  have hq' : vx_Q Qc XC mc ms free a (U.calling g mk a) o s₂ := hq
  rw [State.frames_setTop' g h.top] at hend
  obtain ⟨g₀, hg0⟩ := Option.isSome_iff_exists.mp h.top
  obtain ⟨r, hr⟩ := State.topJava?_eq_some.mp hg0
  have hr' : (({ U with heap := s₂.heap, slotsUsed := s₂.slotsUsed } : State).setVm s₂.vm).frames = .java g₀ :: r := hr
  rcases hq' with ⟨hqc, L, hfe, hL⟩ | ⟨q, rfl, E, ce, L, hx, hce, hcv, hcl, hW₂, hsm, hL⟩
  · obtain ⟨⟨v, rfl⟩, hW₂, e2, q2, q3, q4, q5, q6⟩ := id hfe
    have e3 : s₂ = ({ (U.calling g mk a).setFrames s₂.frames with heap := s₂.heap, slotsUsed := s₂.slotsUsed } : State).setVm s₂.vm := by
      have : s₂ = ({ s₂ with vm := (U.calling g mk a).vm } : State).setVm s₂.vm := rfl
      rw [e2] at this
      exact this
    obtain ⟨c₂, i₂, len₂, hc₂, hd₂, hf₂⟩ := hend
    have hW' : U.WarmedH s₂.vm := hW₂
    have hcc : c₂ = c := by
      have h1 : s₂.code? g.method = U.code? g.method := by
        rw [State.code?_eq, State.code?_eq, hW'.alike.method?]
      exact Option.some.inj (hc₂.symm.trans (h1.trans h.code))
    subst hcc
    have hlen : len₂ = len := by rw [hdg] at hd₂; cases hd₂; rfl
    subst hlen
    have hs₂ : s₂ = (({ U with heap := s₂.heap, slotsUsed := s₂.slotsUsed } : State).setVm s₂.vm).setTop { g with pc := g.pc + len₂, stack := v.toList ++ g.stack } := by
      refine e3.trans ?_
      rw [hf₂, State.calling_eq h.top, State.setFrames_setFrames, State.setTop_of_frames _ hr', hr]
      rfl
    have hsame : U.sameButNew ({ U with heap := s₂.heap, slotsUsed := s₂.slotsUsed } : State) L mc ms := by
      refine ⟨?_, q2, q3, q4, q5, q6⟩
      obtain ⟨t, ht, -⟩ := State.frames_cons hr
      show ({ U with heap := s₂.heap, slotsUsed := s₂.slotsUsed } : State) = { U.setFrames U.frames with heap := s₂.heap, slotsUsed := s₂.slotsUsed }
      rw [State.setFrames_self ht]
    subst hg
    refine Or.inl ⟨v, ⟨(({ U with heap := s₂.heap, slotsUsed := s₂.slotsUsed } : State).setVm s₂.vm), Ls ++ L, c0 + mc, s0 + ms⟩,
      ⟨X.admits, X.cas, X.clock, X.frames, X.room, X.hears, X.method, X.code, (X.here.setHeapUsed s₂.heap s₂.slotsUsed).setVm hW'.alike, X.tail, State.WarmedH.trans X.warmed hW', X.limits, X.bytes, X.same.trans (hsame.setVm s.vm)⟩,
      ⟨g, mk, s₂, L, rfl, rfl, hqc, rfl, hL, rfl, rfl⟩, ?_⟩
    show Steps p.tables e below _ ((({ U with heap := s₂.heap, slotsUsed := s₂.slotsUsed } : State).setVm s₂.vm).setTop { g with pc := g.pc + len₂, stack := v.toList ++ g.stack })
    rw [← hs₂]
    exact hsteps
  · obtain ⟨e2, q2, q3, q4, q5, q6⟩ := id hsm
    have e3 : s₂ = ({ (U.calling g mk a).setFrames s₂.frames with heap := s₂.heap, slotsUsed := s₂.slotsUsed } : State).setVm s₂.vm := by
      have : s₂ = ({ s₂ with vm := (U.calling g mk a).vm } : State).setVm s₂.vm := rfl
      rw [e2] at this
      exact this
    have hf₂ : s₂.frames = .throwing q :: .java g :: U.frames.tail := hend
    have hW' : U.WarmedH s₂.vm := hW₂
    have hs₂ : s₂ = ((({ U with heap := s₂.heap, slotsUsed := s₂.slotsUsed } : State).setVm s₂.vm).setTop g).pushFrame (.throwing q) := by
      refine e3.trans ?_
      rw [hf₂, State.calling_eq h.top, State.setFrames_setFrames, State.pushFrame, State.frames_setTop _ hr', State.setTop_of_frames _ hr', State.setFrames_setFrames, hr]
      rfl
    have hsame : U.sameButNew ({ U with heap := s₂.heap, slotsUsed := s₂.slotsUsed } : State) L mc ms := by
      refine ⟨?_, q2, q3, q4, q5, q6⟩
      obtain ⟨t, ht, -⟩ := State.frames_cons hr
      show ({ U with heap := s₂.heap, slotsUsed := s₂.slotsUsed } : State) = { U.setFrames U.frames with heap := s₂.heap, slotsUsed := s₂.slotsUsed }
      rw [State.setFrames_self ht]
    subst hg
    refine Or.inr ⟨q, ⟨(({ U with heap := s₂.heap, slotsUsed := s₂.slotsUsed } : State).setVm s₂.vm), Ls ++ L, c0 + mc, s0 + ms⟩,
      ⟨X.admits, X.cas, X.clock, X.frames, X.room, X.hears, X.method, X.code, (X.here.setHeapUsed s₂.heap s₂.slotsUsed).setVm hW'.alike, X.tail, State.WarmedH.trans X.warmed hW', X.limits, X.bytes, X.same.trans (hsame.setVm s.vm)⟩,
      ⟨g, mk, s₂, L, E, ce, rfl, rfl, hx, hce, hcv, hcl, rfl, hL, rfl, rfl⟩, ?_⟩
    show Steps p.tables e below _ (((({ U with heap := s₂.heap, slotsUsed := s₂.slotsUsed } : State).setVm s₂.vm).setTop g).pushFrame (.throwing q))
    rw [← hs₂]
    exact hsteps
end Payer
section Calls
variable {p : Program} {l : Launch} {e : Env} {R : Room} {s : State} {m : MethodId} {args : Array Value} {below : List Frame} {meth : Method} {c : Code} {T : State} {locs : List Loc} {cells slots : Nat}
theorem vx_callV (X : Stand p l e R s m args below meth c T locs cells slots) (hexec : p.tables.exec = Jvm.exec) {own C : String} {index : Nat} {y : MethodName} {bytes : ByteArray} {maxL : Nat} {ret : Option FieldType}
    (hown : s.vm.findClass own = some m.cls) (hlink : (Cond.methodLink own index y).before args s = true) (hinst : (Cond.instanceMethod y).before args s = true) (hsel : (Cond.selects C y y).before args s = true)
    (hcode : (Cond.code y bytes maxL ret).before args s = true) (hy : y.cls ≠ "java/lang/invoke/MethodHandle" ∧ y.cls ≠ "java/lang/invoke/VarHandle")
    {W9 : Nat} {Pre : Pt → Array Value → Prop} {Post : Pt → Array Value → Option Value → Pt → Prop} {PostX : Pt → Array Value → Addr → Pt → Prop} (hK : vx_Back l R p e below s args y 3 W9 Pre Post PostX)
    {b : Addr} {cellB : Cell} (hcell : T.heap[b]? = some cellB) (hobj : cellB.vm.isStatics = false) (hcls : s.vm.findClass C = some cellB.cls)
    {g : JFrame} (hg : g.method = m) (hsize : g.locals.size = c.maxLocals) {argsL rest : List Value} (hlen : ∀ sig, parseMethodDescriptor y.desc = some sig → argsL.length = sig.parameters.length)
    (hstack : g.stack = argsL.reverse ++ .ref b :: rest) (hW : 2 * g.monitorRoom + (rest.map fun v => v.category).sum ≤ W9) (hdg : decode c.code g.pc = .ok (.invokevirtual index, 3))
    (hpre : ∀ vm₁, s.WarmedH vm₁ → Pre ⟨T.setVm vm₁, locs, cells, slots⟩ (Value.ref b :: argsL).toArray) :
    (∃ (v : Option Value) (vm₁ : Vm) (B : Pt), s.WarmedH vm₁ ∧ Stand p l e R s m args below meth c B.U B.locs B.cells B.slots ∧ Post ⟨T.setVm vm₁, locs, cells, slots⟩ (Value.ref b :: argsL).toArray v B ∧
      ∀ target, Steps p.tables e below (B.U.setTop { g with pc := g.pc + 3, stack := v.toList ++ rest }) target → Steps p.tables e below (T.setTop g) target) ∨
    (∃ (q : Addr) (vm₁ : Vm) (B : Pt), s.WarmedH vm₁ ∧ Stand p l e R s m args below meth c B.U B.locs B.cells B.slots ∧ PostX ⟨T.setVm vm₁, locs, cells, slots⟩ (Value.ref b :: argsL).toArray q B ∧
      Steps p.tables e below (T.setTop g) ((B.U.setTop { g with stack := rest }).pushFrame (.throwing q))) := by
  obtain ⟨mk, methM, hnamed, hmethM, hstM, habM⟩ := Cond.instanceMethod_spec hinst
  obtain ⟨methM', cM, hmethM', -, -, -, -, -, -, hsigM⟩ := Cond.code_spec hnamed hcode
  cases hmethM.symm.trans hmethM'
  obtain ⟨c2, r2, m2, q1, q2, q3, q4, kP, hkP, hkPi⟩ := Cond.selects_spec hsel
  cases hcls.symm.trans q1
  cases (State.methodFound?_of_named hnamed hy).symm.trans q2
  cases hnamed.symm.trans q3
  have hselP : selectMethod e.platform s.vm cellB.cls mk = .method mk := by rw [Launch.admits_selectMethod X.admits]; exact q4
  obtain ⟨vm₁, X₁, hstep₁⟩ := X.invokevirtual hexec hown hlink hnamed hmethM hstM hkP hkPi hy (a := b) (cell := cellB) hcell
    (fun z h => by rw [h] at hobj; cases hobj) hselP hmethM habM hkP hkPi (g := g) hg (argsL := argsL) (rest := rest) (hlen _ hsigM) hstack hdg
  rcases hK m meth c ⟨T.setVm vm₁, locs, cells, slots⟩ { g with stack := rest } (.invokevirtual index) mk (Value.ref b :: argsL).toArray X₁ hg hsize hdg hW (X₁.named hnamed) (hpre vm₁ X₁.warmed) with ⟨v, B, X', hpost, hsteps⟩ | ⟨q, B, X', hpost, hsteps⟩
  · exact Or.inl ⟨v, vm₁, B, X₁.warmed, X', hpost, fun target h => hstep₁ _ fun acts => by rw [doInvoke_state]; exact hsteps.trans h⟩
  · exact Or.inr ⟨q, vm₁, B, X₁.warmed, X', hpost, hstep₁ _ fun acts => by rw [doInvoke_state]; exact hsteps⟩
theorem vx_callS (X : Stand p l e R s m args below meth c T locs cells slots) (hexec : p.tables.exec = Jvm.exec) {own : String} {index : Nat} {y : MethodName} {bytes : ByteArray} {maxL : Nat} {ret : Option FieldType}
    (hown : s.vm.findClass own = some m.cls) (hlink : (Cond.methodLink own index y).before args s = true) (hstat : (Cond.static y).before args s = true) (hinit : (Cond.initialized y.cls).before args s = true)
    (hcode : (Cond.code y bytes maxL ret).before args s = true) (hy : y.cls ≠ "java/lang/invoke/MethodHandle" ∧ y.cls ≠ "java/lang/invoke/VarHandle")
    {W9 : Nat} {Pre : Pt → Array Value → Prop} {Post : Pt → Array Value → Option Value → Pt → Prop} {PostX : Pt → Array Value → Addr → Pt → Prop} (hK : vx_Back l R p e below s args y 3 W9 Pre Post PostX)
    {g : JFrame} (hg : g.method = m) (hsize : g.locals.size = c.maxLocals) {argsL rest : List Value} (hlen : ∀ sig, parseMethodDescriptor y.desc = some sig → argsL.length = sig.parameters.length)
    (hstack : g.stack = argsL.reverse ++ rest) (hW : 2 * g.monitorRoom + (rest.map fun v => v.category).sum ≤ W9) (hdg : decode c.code g.pc = .ok (.invokestatic index, 3))
    (hpre : ∀ vm₁, s.WarmedH vm₁ → Pre ⟨T.setVm vm₁, locs, cells, slots⟩ argsL.toArray) :
    (∃ (v : Option Value) (vm₁ : Vm) (B : Pt), s.WarmedH vm₁ ∧ Stand p l e R s m args below meth c B.U B.locs B.cells B.slots ∧ Post ⟨T.setVm vm₁, locs, cells, slots⟩ argsL.toArray v B ∧
      ∀ target, Steps p.tables e below (B.U.setTop { g with pc := g.pc + 3, stack := v.toList ++ rest }) target → Steps p.tables e below (T.setTop g) target) ∨
    (∃ (q : Addr) (vm₁ : Vm) (B : Pt), s.WarmedH vm₁ ∧ Stand p l e R s m args below meth c B.U B.locs B.cells B.slots ∧ PostX ⟨T.setVm vm₁, locs, cells, slots⟩ argsL.toArray q B ∧
      Steps p.tables e below (T.setTop g) ((B.U.setTop { g with stack := rest }).pushFrame (.throwing q))) := by
  obtain ⟨mk, hnamed⟩ := Cond.code_named hcode
  obtain ⟨methM, cM, hmethM, -, -, -, -, -, -, hsigM⟩ := Cond.code_spec hnamed hcode
  have hstatic : methM.isStatic = true := Cond.static_spec hnamed hmethM hstat
  obtain ⟨kP, hkP, -⟩ := className_of_methodNamed hnamed
  have hinitP : kP.init = .initialized := Cond.initialized_spec (findClass_of_methodNamed hnamed) hkP hinit
  obtain ⟨vm₁, X₁, hstep₁⟩ := X.invokestatic hexec hown hlink hnamed hmethM hstatic hkP hinitP hy (g := g) hg (argsL := argsL) (rest := rest) (hlen _ hsigM) hstack hdg
  rcases hK m meth c ⟨T.setVm vm₁, locs, cells, slots⟩ { g with stack := rest } (.invokestatic index) mk argsL.toArray X₁ hg hsize hdg hW (X₁.named hnamed) (hpre vm₁ X₁.warmed) with ⟨v, B, X', hpost, hsteps⟩ | ⟨q, B, X', hpost, hsteps⟩
  · exact Or.inl ⟨v, vm₁, B, X₁.warmed, X', hpost, fun target h => hstep₁ _ fun acts => by rw [doInvoke_state]; exact hsteps.trans h⟩
  · exact Or.inr ⟨q, vm₁, B, X₁.warmed, X', hpost, hstep₁ _ fun acts => by rw [doInvoke_state]; exact hsteps⟩
end Calls
theorem vx_cls {s : State} {T : State} {vm₁ : Vm} {E : String} {k : ClassId} (hW : s.WarmedH vm₁) (h : (T.setVm vm₁).vm.findClass E = some k) : s.vm.findClass E = some k := by
  have h1 : vm₁.findClass E = some k := h
  rw [hW.alike.findClass] at h1
  exact h1
/-- the method's frame g, with q thrown over it -/
def vx_W (p : Program) (l : Launch) (e : Env) (R : Room) (s : State) (m : MethodId) (args : Array Value) (below : List Frame) (meth : Method) (c : Code) (H : Heap) (locs : List Loc) (cells slots : Nat) (Q : State → Prop) (g : JFrame) (q : Addr) : Prop :=
  ∀ T : State, T.heap = H → Stand p l e R s m args below meth c T locs cells slots → ∃ t, Steps p.tables e below ((T.setTop g).pushFrame (.throwing q)) t ∧ Q t
def vx_Run (p : Program) (l : Launch) (e : Env) (R : Room) (s : State) (m : MethodId) (args : Array Value) (below : List Frame) (meth : Method) (c : Code) (H : Heap) (locs : List Loc) (cells slots mc ms : Nat) (g : JFrame) (rest : List Value) (Qa : State → Outcome → State → Prop) (XC : String → State → State → Prop) (free : Addr → Prop) : Prop :=
  ∀ T : State, T.heap = H → Stand p l e R s m args below meth c T locs cells slots →
    (∃ (v : Option Value) (st₀ t T' : State) (L : List Loc), st₀.heap = H ∧ Stand p l e R s m args below meth c T' (locs ++ L) (cells + mc) (slots + ms) ∧ (∀ q ∈ L, free q.base) ∧ T'.heap = t.heap ∧ T'.vm = t.vm ∧ Qa st₀ (.returned v) t ∧
      Goes p e below T g T' { g with pc := g.pc + 3, stack := v.toList ++ rest }) ∨
    (∃ (q : Addr) (st₀ t T' : State) (L : List Loc) (E : String) (ce : Cell), st₀.heap = H ∧ Stand p l e R s m args below meth c T' (locs ++ L) (cells + mc) (slots + ms) ∧ (∀ z ∈ L, free z.base) ∧ T'.heap = t.heap ∧ T'.vm = t.vm ∧ XC E st₀ t ∧ t.heap[q]? = some ce ∧ ce.vm = .none ∧ s.vm.findClass E = some ce.cls ∧
      Steps p.tables e below (T.setTop g) ((T'.setTop { g with stack := rest }).pushFrame (.throwing q)))
def vx_X {S : Type} (px : S → Prop) (B : String → S → State → Prop) (A : Nat → Prop) : String → State → State → Prop := fun E st t => ∃ u : S, px u ∧ B E u t ∧ va_F A st t
section Runs
variable {p : Program} {l : Launch} {e : Env} {R : Room} {s : State} {m : MethodId} {args : Array Value} {below : List Frame} {meth : Method} {c : Code} {H : Heap} {locs : List Loc} {cells slots : Nat}
variable {y : MethodName} {bytes cc : ByteArray} {maxL nL mc ms n index : Nat} {ret : Option FieldType} {ws : List Cond} {rm : Room} {Pc : Array Value → State → Prop} {Qc : Array Value → State → Outcome → State → Prop} {XC : String → State → State → Prop} {free : Addr → Prop} {Ts : List Cond} {own C : String} {b : Addr} {As rest : List Value} {g : JFrame}
theorem vx_callBack (cb : CallB R s args own index y bytes maxL ret ws rm mc ms n) (hM : vx_Met l y ws rm Pc Qc XC mc ms free) (hbl : FrameBlind Pc) : vx_Back l R p e below s args y 3 8 (PreOf R mc ms Pc) (PostOf Qc mc ms free) (vx_Post XC mc ms free) := by
  obtain ⟨hrc, hrs, hfr, hlo, hws, hcw, -, hini, -⟩ := cb
  exact vx_back (bytes := bytes) (maxL := maxL) (ret := ret) hM hbl hrc hrs hfr hlo hws hcw (fun a' U hW => word_at hW (Or.inl (by first | rfl | simp [Cond.onTables, Cond.keeps, Cond.steady])) hini)
theorem vx_runV (S : CallFix p m c cc nL s args Ts own) (hM : vx_Met l y ws rm Pc Qc XC mc ms free) (cw : CallW R s args own C index y bytes maxL ret ws rm mc ms n) (hp : PreV s H C b Pc As)
    (hg : g.method = m) (hn : As.length = n) (hsize : g.locals.size = nL) (hstack : g.stack = As.reverse ++ .ref b :: rest) (hW : 2 * g.monitorRoom + (rest.map fun v => v.category).sum ≤ 8) (hdg : decode cc g.pc = .ok (.invokevirtual index, 3)) (hf : cells + mc ≤ R.cells ∧ slots + ms ≤ R.slots) :
    vx_Run p l e R s m args below meth c H locs cells slots mc ms g rest (Qc (Value.ref b :: As).toArray) XC free := by
  have hK : vx_Back l R p e below s args y 3 8 (PreOf R mc ms Pc) (PostOf Qc mc ms free) (vx_Post XC mc ms free) := vx_callBack cw.1 hM hp.1
  obtain ⟨⟨-, -, -, -, -, -, hcode, -, hy, hlen, hl⟩, hin, hse⟩ := cw
  obtain ⟨hx, hb, hml, ho, -⟩ := S
  obtain ⟨-, ⟨cellB, hcB, hoB, hclB⟩, hPc⟩ := hp
  intro T hT X
  rcases vx_callV X hx (C := C) (bytes := bytes) (maxL := maxL) (ret := ret) ho hl hin hse hcode hy hK (by rw [hT]; exact hcB) hoB hclB hg (hsize.trans hml.symm) (argsL := As) (rest := rest) (fun sig h => hn.trans (hlen sig h)) hstack hW (by rw [hb]; exact hdg)
    (fun vm₁ hW₁ => ⟨hf.1, hf.2, hPc (T.setVm vm₁) hT hW₁⟩) with ⟨v, vm₁, ⟨U', l2, c2, s2⟩, hW₁, X', ⟨g', mk, t, L, e1, e2, hq, h1, hL, h2, h3⟩, st⟩ | ⟨q, vm₁, ⟨U', l2, c2, s2⟩, hW₁, X', ⟨g', mk, t, L, E, ce, e1, e2, hq, hce, hcv, hcl, h1, hL, h2, h3⟩, st⟩
  · dsimp only [Pt.U, Pt.locs, Pt.cells, Pt.slots] at X' e1 e2 h1 h2 h3 st
    subst h1; subst h2; subst h3
    exact Or.inl ⟨v, (T.setVm vm₁).calling g' mk (Value.ref b :: As).toArray, t, U', L, hT, X', hL, e1, e2, hq, st⟩
  · dsimp only [Pt.U, Pt.locs, Pt.cells, Pt.slots] at X' e1 e2 h1 h2 h3 st hcl
    subst h1; subst h2; subst h3
    exact Or.inr ⟨q, (T.setVm vm₁).calling g' mk (Value.ref b :: As).toArray, t, U', L, E, ce, hT, X', hL, e1, e2, hq, hce, hcv, vx_cls hW₁ hcl, st⟩
theorem vx_runS (S : CallFix p m c cc nL s args Ts own) (hM : vx_Met l y ws rm Pc Qc XC mc ms free) (cw : CallB R s args own index y bytes maxL ret ws rm mc ms n ∧ (Cond.static y).before args s = true) (hp : PreS s H Pc As)
    (hg : g.method = m) (hn : As.length = n) (hsize : g.locals.size = nL) (hstack : g.stack = As.reverse ++ rest) (hW : 2 * g.monitorRoom + (rest.map fun v => v.category).sum ≤ 8) (hdg : decode cc g.pc = .ok (.invokestatic index, 3)) (hf : cells + mc ≤ R.cells ∧ slots + ms ≤ R.slots) :
    vx_Run p l e R s m args below meth c H locs cells slots mc ms g rest (Qc As.toArray) XC free := by
  have hK : vx_Back l R p e below s args y 3 8 (PreOf R mc ms Pc) (PostOf Qc mc ms free) (vx_Post XC mc ms free) := vx_callBack cw.1 hM hp.1
  obtain ⟨⟨-, -, -, -, -, -, hcode, hini, hy, hlen, hl⟩, hstt⟩ := cw
  obtain ⟨hx, hb, hml, ho, -⟩ := S
  intro T hT X
  rcases vx_callS X hx (bytes := bytes) (maxL := maxL) (ret := ret) ho hl hstt hini hcode hy hK hg (hsize.trans hml.symm) (argsL := As) (rest := rest) (fun sig h => hn.trans (hlen sig h)) hstack hW (by rw [hb]; exact hdg)
    (fun vm₁ hW₁ => ⟨hf.1, hf.2, hp.2 (T.setVm vm₁) hT hW₁⟩) with ⟨v, vm₁, ⟨U', l2, c2, s2⟩, hW₁, X', ⟨g', mk, t, L, e1, e2, hq, h1, hL, h2, h3⟩, st⟩ | ⟨q, vm₁, ⟨U', l2, c2, s2⟩, hW₁, X', ⟨g', mk, t, L, E, ce, e1, e2, hq, hce, hcv, hcl, h1, hL, h2, h3⟩, st⟩
  · dsimp only [Pt.U, Pt.locs, Pt.cells, Pt.slots] at X' e1 e2 h1 h2 h3 st
    subst h1; subst h2; subst h3
    exact Or.inl ⟨v, (T.setVm vm₁).calling g' mk As.toArray, t, U', L, hT, X', hL, e1, e2, hq, st⟩
  · dsimp only [Pt.U, Pt.locs, Pt.cells, Pt.slots] at X' e1 e2 h1 h2 h3 st hcl
    subst h1; subst h2; subst h3
    exact Or.inr ⟨q, (T.setVm vm₁).calling g' mk As.toArray, t, U', L, E, ce, hT, X', hL, e1, e2, hq, hce, hcv, vx_cls hW₁ hcl, st⟩
end Runs
section Rows
variable {p : Program} {l : Launch} {e : Env} {R : Room} {s : State} {m : MethodId} {args : Array Value} {below : List Frame} {meth : Method} {c : Code} {H : Heap} {locs : List Loc} {cells slots : Nat} {Q : State → Prop}
variable {mc ms : Nat} {free : Addr → Prop} {A0 A1 : Nat → Prop} {H0 : Heap} {a : Array Value} {pc : Nat} {ls : Array Slot} {st0 rest : List Value}
theorem vx_keep {st₀ t T' : State} {L : List Loc} (h0 : st₀.heap = H) (e1 : T'.heap = t.heap) (hS : va_S A0 H0 H locs) (hA : ∀ q, q < H.size → A1 q → A0 q) (hf : ∀ q, free q → A0 q) (hL : ∀ q ∈ L, free q.base) (hF : va_F A1 st₀ t) :
    H.size ≤ T'.heap.size ∧ (∀ q : Nat, q < H.size → ¬ A1 q → T'.heap[q]? = H[q]?) ∧ va_S A0 H0 T'.heap (locs ++ L) := by
  obtain ⟨hz, hk⟩ := hF
  rw [h0] at hz hk
  exact ⟨by rw [e1]; exact hz, fun q h1 h2 => by rw [e1]; exact hk q h1 h2,
    ⟨Nat.le_trans hS.1 (by rw [e1]; exact hz), fun q h1 h2 => by rw [e1, hk q (Nat.lt_of_lt_of_le h1 hS.1) (fun z => h2 (hA q (Nat.lt_of_lt_of_le h1 hS.1) z))]; exact hS.2.1 q h1 h2, fun q hq => by
      rcases List.mem_append.mp hq with h | h
      · exact hS.2.2 q h
      · exact hf _ (hL q h)⟩⟩
theorem vx_calli {S SX : Type} {post : Int32 → S → Prop} {px : SX → Prop} {B : S → State → Prop} {BX : String → SX → State → Prop} {AX : Nat → Prop} (hr : vx_Run p l e R s m args below meth c H locs cells slots mc ms (F0 m pc ls st0) rest (va_Qi post B A1 a) (vx_X px BX AX) free) (hS : va_S A0 H0 H locs) (hA : ∀ q, q < H.size → A1 q → A0 q) (hf : ∀ q, free q → A0 q) (hAX : ∀ q, q < H.size → AX q → A0 q)
    (kx : ∀ (E : String) (ce : Cell) (q9 : Addr) (u : SX) (t : State) (H1 : Heap) (locs1 : List Loc), t.heap = H1 → s.vm.Alike t.vm → px u → BX E u t → H.size ≤ H1.size → (∀ q : Nat, q < H.size → ¬ AX q → H1[q]? = H[q]?) → va_S A0 H0 H1 locs1 → H1[q9]? = some ce → ce.vm = .none → s.vm.findClass E = some ce.cls → vx_W p l e R s m args below meth c H1 locs1 (cells + mc) (slots + ms) Q (F0 m pc ls rest) q9)
    (kk : ∀ (r : Int32) (u : S) (t : State) (H1 : Heap) (locs1 : List Loc), t.heap = H1 → s.vm.Alike t.vm → post r u → B u t → H.size ≤ H1.size → (∀ q : Nat, q < H.size → ¬ A1 q → H1[q]? = H[q]?) → va_S A0 H0 H1 locs1 → W p l e R s m args below meth c H1 locs1 (cells + mc) (slots + ms) Q (F0 m (pc + 3) ls (.int r :: rest))) : W p l e R s m args below meth c H locs cells slots Q (F0 m pc ls st0) := by
  intro T hT X
  rcases hr T hT X with ⟨v, st₀, t, T', L, h0, X', hL, e1, e2, ⟨⟨r, u, hv, hp, hb⟩, hF⟩, st⟩ | ⟨q, st₀, t, T', L, E, ce, h0, X', hL, e1, e2, ⟨u, hp, hb, hF⟩, hce, hcv, hcl, st⟩
  · cases hv
    obtain ⟨k1, k2, k3⟩ := vx_keep h0 e1 hS hA hf hL hF
    obtain ⟨t2, a1, b1⟩ := kk r u t T'.heap (locs ++ L) e1.symm (by rw [← e2]; exact X'.warmed.alike) hp hb k1 k2 k3 T' rfl X'
    exact ⟨t2, st t2 a1, b1⟩
  · obtain ⟨k1, k2, k3⟩ := vx_keep h0 e1 hS hAX hf hL hF
    obtain ⟨t2, a1, b1⟩ := kx E ce q u t T'.heap (locs ++ L) e1.symm (by rw [← e2]; exact X'.warmed.alike) hp hb k1 k2 k3 (by rw [e1]; exact hce) hcv hcl T' rfl X'
    exact ⟨t2, st.trans a1, b1⟩
theorem vx_calll {S SX : Type} {post : Int64 → S → Prop} {px : SX → Prop} {B : S → State → Prop} {BX : String → SX → State → Prop} {AX : Nat → Prop} (hr : vx_Run p l e R s m args below meth c H locs cells slots mc ms (F0 m pc ls st0) rest (va_Ql post B A1 a) (vx_X px BX AX) free) (hS : va_S A0 H0 H locs) (hA : ∀ q, q < H.size → A1 q → A0 q) (hf : ∀ q, free q → A0 q) (hAX : ∀ q, q < H.size → AX q → A0 q)
    (kx : ∀ (E : String) (ce : Cell) (q9 : Addr) (u : SX) (t : State) (H1 : Heap) (locs1 : List Loc), t.heap = H1 → s.vm.Alike t.vm → px u → BX E u t → H.size ≤ H1.size → (∀ q : Nat, q < H.size → ¬ AX q → H1[q]? = H[q]?) → va_S A0 H0 H1 locs1 → H1[q9]? = some ce → ce.vm = .none → s.vm.findClass E = some ce.cls → vx_W p l e R s m args below meth c H1 locs1 (cells + mc) (slots + ms) Q (F0 m pc ls rest) q9)
    (kk : ∀ (r : Int64) (u : S) (t : State) (H1 : Heap) (locs1 : List Loc), t.heap = H1 → s.vm.Alike t.vm → post r u → B u t → H.size ≤ H1.size → (∀ q : Nat, q < H.size → ¬ A1 q → H1[q]? = H[q]?) → va_S A0 H0 H1 locs1 → W p l e R s m args below meth c H1 locs1 (cells + mc) (slots + ms) Q (F0 m (pc + 3) ls (.long r :: rest))) : W p l e R s m args below meth c H locs cells slots Q (F0 m pc ls st0) := by
  intro T hT X
  rcases hr T hT X with ⟨v, st₀, t, T', L, h0, X', hL, e1, e2, ⟨⟨r, u, hv, hp, hb⟩, hF⟩, st⟩ | ⟨q, st₀, t, T', L, E, ce, h0, X', hL, e1, e2, ⟨u, hp, hb, hF⟩, hce, hcv, hcl, st⟩
  · cases hv
    obtain ⟨k1, k2, k3⟩ := vx_keep h0 e1 hS hA hf hL hF
    obtain ⟨t2, a1, b1⟩ := kk r u t T'.heap (locs ++ L) e1.symm (by rw [← e2]; exact X'.warmed.alike) hp hb k1 k2 k3 T' rfl X'
    exact ⟨t2, st t2 a1, b1⟩
  · obtain ⟨k1, k2, k3⟩ := vx_keep h0 e1 hS hAX hf hL hF
    obtain ⟨t2, a1, b1⟩ := kx E ce q u t T'.heap (locs ++ L) e1.symm (by rw [← e2]; exact X'.warmed.alike) hp hb k1 k2 k3 (by rw [e1]; exact hce) hcv hcl T' rfl X'
    exact ⟨t2, st.trans a1, b1⟩
theorem vx_callf {S SX : Type} {post : UInt32 → S → Prop} {px : SX → Prop} {B : S → State → Prop} {BX : String → SX → State → Prop} {AX : Nat → Prop} (hr : vx_Run p l e R s m args below meth c H locs cells slots mc ms (F0 m pc ls st0) rest (va_Qf post B A1 a) (vx_X px BX AX) free) (hS : va_S A0 H0 H locs) (hA : ∀ q, q < H.size → A1 q → A0 q) (hf : ∀ q, free q → A0 q) (hAX : ∀ q, q < H.size → AX q → A0 q)
    (kx : ∀ (E : String) (ce : Cell) (q9 : Addr) (u : SX) (t : State) (H1 : Heap) (locs1 : List Loc), t.heap = H1 → s.vm.Alike t.vm → px u → BX E u t → H.size ≤ H1.size → (∀ q : Nat, q < H.size → ¬ AX q → H1[q]? = H[q]?) → va_S A0 H0 H1 locs1 → H1[q9]? = some ce → ce.vm = .none → s.vm.findClass E = some ce.cls → vx_W p l e R s m args below meth c H1 locs1 (cells + mc) (slots + ms) Q (F0 m pc ls rest) q9)
    (kk : ∀ (r : UInt32) (u : S) (t : State) (H1 : Heap) (locs1 : List Loc), t.heap = H1 → s.vm.Alike t.vm → post r u → B u t → H.size ≤ H1.size → (∀ q : Nat, q < H.size → ¬ A1 q → H1[q]? = H[q]?) → va_S A0 H0 H1 locs1 → W p l e R s m args below meth c H1 locs1 (cells + mc) (slots + ms) Q (F0 m (pc + 3) ls (.float r :: rest))) : W p l e R s m args below meth c H locs cells slots Q (F0 m pc ls st0) := by
  intro T hT X
  rcases hr T hT X with ⟨v, st₀, t, T', L, h0, X', hL, e1, e2, ⟨⟨r, u, hv, hp, hb⟩, hF⟩, st⟩ | ⟨q, st₀, t, T', L, E, ce, h0, X', hL, e1, e2, ⟨u, hp, hb, hF⟩, hce, hcv, hcl, st⟩
  · cases hv
    obtain ⟨k1, k2, k3⟩ := vx_keep h0 e1 hS hA hf hL hF
    obtain ⟨t2, a1, b1⟩ := kk r u t T'.heap (locs ++ L) e1.symm (by rw [← e2]; exact X'.warmed.alike) hp hb k1 k2 k3 T' rfl X'
    exact ⟨t2, st t2 a1, b1⟩
  · obtain ⟨k1, k2, k3⟩ := vx_keep h0 e1 hS hAX hf hL hF
    obtain ⟨t2, a1, b1⟩ := kx E ce q u t T'.heap (locs ++ L) e1.symm (by rw [← e2]; exact X'.warmed.alike) hp hb k1 k2 k3 (by rw [e1]; exact hce) hcv hcl T' rfl X'
    exact ⟨t2, st.trans a1, b1⟩
theorem vx_calld {S SX : Type} {post : UInt64 → S → Prop} {px : SX → Prop} {B : S → State → Prop} {BX : String → SX → State → Prop} {AX : Nat → Prop} (hr : vx_Run p l e R s m args below meth c H locs cells slots mc ms (F0 m pc ls st0) rest (va_Qd post B A1 a) (vx_X px BX AX) free) (hS : va_S A0 H0 H locs) (hA : ∀ q, q < H.size → A1 q → A0 q) (hf : ∀ q, free q → A0 q) (hAX : ∀ q, q < H.size → AX q → A0 q)
    (kx : ∀ (E : String) (ce : Cell) (q9 : Addr) (u : SX) (t : State) (H1 : Heap) (locs1 : List Loc), t.heap = H1 → s.vm.Alike t.vm → px u → BX E u t → H.size ≤ H1.size → (∀ q : Nat, q < H.size → ¬ AX q → H1[q]? = H[q]?) → va_S A0 H0 H1 locs1 → H1[q9]? = some ce → ce.vm = .none → s.vm.findClass E = some ce.cls → vx_W p l e R s m args below meth c H1 locs1 (cells + mc) (slots + ms) Q (F0 m pc ls rest) q9)
    (kk : ∀ (r : UInt64) (u : S) (t : State) (H1 : Heap) (locs1 : List Loc), t.heap = H1 → s.vm.Alike t.vm → post r u → B u t → H.size ≤ H1.size → (∀ q : Nat, q < H.size → ¬ A1 q → H1[q]? = H[q]?) → va_S A0 H0 H1 locs1 → W p l e R s m args below meth c H1 locs1 (cells + mc) (slots + ms) Q (F0 m (pc + 3) ls (.double r :: rest))) : W p l e R s m args below meth c H locs cells slots Q (F0 m pc ls st0) := by
  intro T hT X
  rcases hr T hT X with ⟨v, st₀, t, T', L, h0, X', hL, e1, e2, ⟨⟨r, u, hv, hp, hb⟩, hF⟩, st⟩ | ⟨q, st₀, t, T', L, E, ce, h0, X', hL, e1, e2, ⟨u, hp, hb, hF⟩, hce, hcv, hcl, st⟩
  · cases hv
    obtain ⟨k1, k2, k3⟩ := vx_keep h0 e1 hS hA hf hL hF
    obtain ⟨t2, a1, b1⟩ := kk r u t T'.heap (locs ++ L) e1.symm (by rw [← e2]; exact X'.warmed.alike) hp hb k1 k2 k3 T' rfl X'
    exact ⟨t2, st t2 a1, b1⟩
  · obtain ⟨k1, k2, k3⟩ := vx_keep h0 e1 hS hAX hf hL hF
    obtain ⟨t2, a1, b1⟩ := kx E ce q u t T'.heap (locs ++ L) e1.symm (by rw [← e2]; exact X'.warmed.alike) hp hb k1 k2 k3 (by rw [e1]; exact hce) hcv hcl T' rfl X'
    exact ⟨t2, st.trans a1, b1⟩
theorem vx_callv {S SX : Type} {post : S → Prop} {px : SX → Prop} {B : S → State → Prop} {BX : String → SX → State → Prop} {AX : Nat → Prop} (hr : vx_Run p l e R s m args below meth c H locs cells slots mc ms (F0 m pc ls st0) rest (va_Qv post B A1 a) (vx_X px BX AX) free) (hS : va_S A0 H0 H locs) (hA : ∀ q, q < H.size → A1 q → A0 q) (hf : ∀ q, free q → A0 q) (hAX : ∀ q, q < H.size → AX q → A0 q)
    (kx : ∀ (E : String) (ce : Cell) (q9 : Addr) (u : SX) (t : State) (H1 : Heap) (locs1 : List Loc), t.heap = H1 → s.vm.Alike t.vm → px u → BX E u t → H.size ≤ H1.size → (∀ q : Nat, q < H.size → ¬ AX q → H1[q]? = H[q]?) → va_S A0 H0 H1 locs1 → H1[q9]? = some ce → ce.vm = .none → s.vm.findClass E = some ce.cls → vx_W p l e R s m args below meth c H1 locs1 (cells + mc) (slots + ms) Q (F0 m pc ls rest) q9)
    (kk : ∀ (u : S) (t : State) (H1 : Heap) (locs1 : List Loc), t.heap = H1 → s.vm.Alike t.vm → post u → B u t → H.size ≤ H1.size → (∀ q : Nat, q < H.size → ¬ A1 q → H1[q]? = H[q]?) → va_S A0 H0 H1 locs1 → W p l e R s m args below meth c H1 locs1 (cells + mc) (slots + ms) Q (F0 m (pc + 3) ls (rest))) : W p l e R s m args below meth c H locs cells slots Q (F0 m pc ls st0) := by
  intro T hT X
  rcases hr T hT X with ⟨v, st₀, t, T', L, h0, X', hL, e1, e2, ⟨⟨u, hv, hp, hb⟩, hF⟩, st⟩ | ⟨q, st₀, t, T', L, E, ce, h0, X', hL, e1, e2, ⟨u, hp, hb, hF⟩, hce, hcv, hcl, st⟩
  · cases hv
    obtain ⟨k1, k2, k3⟩ := vx_keep h0 e1 hS hA hf hL hF
    obtain ⟨t2, a1, b1⟩ := kk u t T'.heap (locs ++ L) e1.symm (by rw [← e2]; exact X'.warmed.alike) hp hb k1 k2 k3 T' rfl X'
    exact ⟨t2, st t2 a1, b1⟩
  · obtain ⟨k1, k2, k3⟩ := vx_keep h0 e1 hS hAX hf hL hF
    obtain ⟨t2, a1, b1⟩ := kx E ce q u t T'.heap (locs ++ L) e1.symm (by rw [← e2]; exact X'.warmed.alike) hp hb k1 k2 k3 (by rw [e1]; exact hce) hcv hcl T' rfl X'
    exact ⟨t2, st.trans a1, b1⟩
/-- caught by the row x of this method's table; the rows ahead don't take it -/
theorem vx_catch {own name : String} {E : String} {ce : Cell} {q : Addr} (hown : s.vm.findClass own = some m.cls) (pre : List ExceptionTableEntry) (x : ExceptionTableEntry) (suf : List ExceptionTableEntry) (hsplit : c.exceptionTable.toList = pre ++ x :: suf)
    (hpass : ∀ z ∈ pre, covers z pc = false ∨ (z.catchType ≠ 0 ∧ ∃ nm : String, (Cond.classLink own z.catchType nm).before args s = true ∧ va_Nc E nm s)) (hx : covers x pc = true) (h0 : x.catchType ≠ 0)
    (hlink : (Cond.classLink own x.catchType name).before args s = true) (hcast : (Cond.castable E name).before args s = true) (hcell : H[q]? = some ce) (hv : ce.vm = .none) (hcl : s.vm.findClass E = some ce.cls)
    (kk : W p l e R s m args below meth c H locs cells slots Q (F0 m x.handlerPc ls [.ref q])) : vx_W p l e R s m args below meth c H locs cells slots Q (F0 m pc ls rest) q := by
  intro T hT X
  have hpl : e.platform.magicAccessors = ({} : Platform).magicAccessors := by rw [X.admits.platform]
  obtain ⟨c3, c4, hc3, hc4, hasg⟩ := Cond.castable_spec hcast
  cases Option.some.inj (hc3.symm.trans hcl)
  obtain ⟨c5, hc5, hcl5⟩ := Cond.classLink_spec hown hlink e.platform hpl
  cases Option.some.inj (hc4.symm.trans hc5)
  obtain ⟨vm', X', st⟩ := X.thenCaughtThrough q (g := F0 m pc ls rest) rfl (Steps.refl _) (by rw [hT]; exact hcell) (by rw [hv]; rfl) (by obtain ⟨k9, h9, -⟩ := Vm.findClass_spec hcl; exact ⟨k9, h9⟩) pre x suf hsplit
    (fun z hz => by
      rcases hpass z hz with h | ⟨hz0, nm, hl1, hn1⟩
      · exact Or.inl h
      · obtain ⟨c6, hc6, hcl6⟩ := Cond.classLink_spec hown hl1 e.platform hpl
        obtain ⟨a8, b8, h1, h2, h3⟩ := hn1
        cases Option.some.inj (h1.symm.trans hcl)
        cases Option.some.inj (h2.symm.trans hc6)
        exact Or.inr ⟨hz0, _, hcl6, h3⟩) hx (Or.inr ⟨h0, c4, hcl5, hasg⟩)
  obtain ⟨t, a1, b1⟩ := kk (T.setVm vm') hT X'
  exact ⟨t, st.trans a1, b1⟩
end Rows
section Ends
variable {p : Program} {l : Launch} {e : Env} {R : Room} {s : State} {m : MethodId} {args : Array Value} {below : List Frame} {meth : Method} {c : Code} {H : Heap} {locs : List Loc} {cells slots : Nat} {Q : State → Prop}
variable {mc ms : Nat} {free : Addr → Prop} {A0 A1 : Nat → Prop} {H0 : Heap} {a : Array Value} {ls : Array Slot} {st0 rest : List Value}
variable {Qc : Array Value → State → Outcome → State → Prop} {XC : String → State → State → Prop}
/-- what a body that may throw owes at its end -/
def vx_MQ (below : List Frame) (Qc : Array Value → State → Outcome → State → Prop) (XC : String → State → State → Prop) (a : Array Value) (s : State) (mc ms : Nat) (free : Addr → Prop) : State → Prop := fun t =>
  ∃ o, t.status = .running ∧ Ended t below o ∧ vx_Q Qc XC mc ms free a s o t
theorem vx_ret {g : JFrame} {mc ms : Nat} (k : W p l e R s m args below meth c H locs cells slots (MQ below Qc args s mc ms free) g) : W p l e R s m args below meth c H locs cells slots (vx_MQ below Qc XC args s mc ms free) g := by
  intro T hT X
  obtain ⟨t, a1, o, b1, b2, b3, b4⟩ := k T hT X
  exact ⟨t, a1, o, b1, b2, Or.inl ⟨b3, b4⟩⟩
/-- not caught here: it goes on to the caller -/
theorem vx_widen {g : JFrame} {q : Addr} {k n : Nat} (h1 : cells ≤ k) (h2 : slots ≤ n) (kk : vx_W p l e R s m args below meth c H locs k n Q g q) : vx_W p l e R s m args below meth c H locs cells slots Q g q := fun T hT X => kk T hT (stand_widen X h1 h2)
theorem vx_out {pc : Nat} {E : String} {ce : Cell} {q : Addr} {mc ms : Nat} (hout : ∀ x ∈ c.exceptionTable.toList, covers x pc = false) (hlocks : meth.locks = false) (hcell : H[q]? = some ce) (hv : ce.vm = .none) (hcl : s.vm.findClass E = some ce.cls)
    (hx : ∀ t : State, t.heap = H → s.vm.Alike t.vm → XC E s t) (hf : ∀ z ∈ locs, free z.base) (hc : cells ≤ mc) (hs : slots ≤ ms) :
    vx_W p l e R s m args below meth c H locs cells slots (vx_MQ below Qc XC args s mc ms free) (F0 m pc ls rest) q := by
  intro T hT X
  obtain ⟨st1, hrun, hend, hW, hsm⟩ := X.leaveThrown q (g := F0 m pc ls rest) rfl rfl rfl hout hlocks
  have hcell9 : (T.setFrames (.throwing q :: below)).heap[q]? = some ce := by
    show T.heap[q]? = some ce
    rw [hT]; exact hcell
  exact ⟨_, st1, .threw q, hrun, hend, Or.inr ⟨q, rfl, E, ce, locs, hx _ hT hW.alike, hcell9, hv, hcl, hW, hsm.mono hc hs, hf⟩⟩
theorem vx_frame {U : State} {k n : Nat} (h : s.sameButNew ({ U with vm := s.vm } : State) locs k n) : s.heap.size ≤ U.heap.size ∧ ∀ q : Nat, q < s.heap.size → (∀ z ∈ locs, z.base ≠ q) → U.heap[q]? = s.heap[q]? := by
  obtain ⟨-, h2, -, -, -, h6⟩ := h
  refine ⟨h2, fun q hq hz => ?_⟩
  obtain ⟨c9, e1, e2, e3, e4⟩ := h6 q _ (Array.getElem?_eq_getElem hq)
  have hs : c9.slots = (s.heap[q]).slots := Array.ext_getElem? fun i => e4 i fun hm => hz _ hm rfl
  have h9 : c9 = s.heap[q] := by
    rw [hs] at e2
    exact e2
  have e5 : U.heap[q]? = some c9 := e1
  rw [e5, h9, Array.getElem?_eq_getElem hq]
/-- the words of a throw but the four that speak of the heap -/
def vx_no (w : Cond) : Bool := decide (w ≠ .isRef (.static Bundle.tN "UNASSIGNED_STACK" Bundle.steD)) && decide (w ≠ .isRef (.static Bundle.tN "SUPPRESSED_SENTINEL" Bundle.listD)) && decide (w ≠ .laysStatic Bundle.tN "UNASSIGNED_STACK" Bundle.steD) && decide (w ≠ .laysStatic Bundle.tN "SUPPRESSED_SENTINEL" Bundle.listD)
def vx_at0 (own : String) (ic : Nat) (X : String) (names : List String) : List Cond := (Bundle.ownAtoms0 own ic X names).filter vx_no
def vx_atS (own : String) (ic : Nat) (X : String) (names : List String) : List Cond := (Bundle.ownAtoms own ic X names).filter vx_no
/-- a word that the tables alone decide, or a good one -/
def vx_ot (w : Cond) : Bool := w.onTables || goodWord w
theorem vx_ot_at {args a' : Array Value} {s U : State} {w : Cond} (hW : s.WarmedH U.vm) (hvm : s.vm = U.vm) (hg : vx_ot w = true) (h : w.before args s = true) : w.before a' U = true := by
  simp only [vx_ot, Bool.or_eq_true] at hg
  rcases hg with hg | hg
  · exact va_tabs hg hvm h
  · exact word_at hW (good_of_word hg) h
/-- a list's words: the good ones out of the method's own list, the others by premises of their own -/
theorem vx_hat {args : Array Value} {s : State} {L B : List Cond} (h1 : ∀ w ∈ L.filter goodWord, w.before args s = true) (h2 : ∀ w ∈ L.filter (fun w => !goodWord w), w ∈ B) (h3 : ∀ w ∈ B, w.before args s = true) : ∀ w ∈ L, w.before args s = true := by
  intro w hw
  by_cases g : goodWord w = true
  · exact h1 w (List.mem_filter.mpr ⟨hw, g⟩)
  · refine h3 w (h2 w (List.mem_filter.mpr ⟨hw, ?_⟩))
    show (!goodWord w) = true
    cases hgw : goodWord w
    · rfl
    · exact absurd hgw g
theorem vx_c {args : Array Value} {s : State} {w : Cond} {B : List Cond} (h : w.before args s = true) (t : ∀ w ∈ B, w.before args s = true) : ∀ w' ∈ w :: B, w'.before args s = true := fun w' h' => (List.mem_cons.mp h').elim (fun e => by rw [e]; exact h) (t w')
theorem vx_n {args : Array Value} {s : State} : ∀ w ∈ ([] : List Cond), w.before args s = true := fun _ h => nomatch h
theorem vx_own {args : Array Value} {s : State} {L : List Cond} (h1 : ∀ w ∈ L.filter vx_no, w.before args s = true)
    (hU : (Cond.isRef (.static Bundle.tN "UNASSIGNED_STACK" Bundle.steD)).before args s = true) (hN : (Cond.isRef (.static Bundle.tN "SUPPRESSED_SENTINEL" Bundle.listD)).before args s = true)
    (lU : (Cond.laysStatic Bundle.tN "UNASSIGNED_STACK" Bundle.steD).before args s = true) (lN : (Cond.laysStatic Bundle.tN "SUPPRESSED_SENTINEL" Bundle.listD).before args s = true) : ∀ w ∈ L, w.before args s = true := by
  intro w hw
  by_cases e1 : w = .isRef (.static Bundle.tN "UNASSIGNED_STACK" Bundle.steD)
  · rw [e1]; exact hU
  · by_cases e2 : w = .isRef (.static Bundle.tN "SUPPRESSED_SENTINEL" Bundle.listD)
    · rw [e2]; exact hN
    · by_cases e3 : w = .laysStatic Bundle.tN "UNASSIGNED_STACK" Bundle.steD
      · rw [e3]; exact lU
      · by_cases e4 : w = .laysStatic Bundle.tN "SUPPRESSED_SENTINEL" Bundle.listD
        · rw [e4]; exact lN
        · exact h1 w (List.mem_filter.mpr ⟨hw, by unfold vx_no; rw [decide_eq_true e1, decide_eq_true e2, decide_eq_true e3, decide_eq_true e4]; rfl⟩)
/-- where a static field lies, its class's statics cell in H -/
def vx_L (C n d : String) (A : Nat → Prop) (U : State) (H : Heap) : Prop := ∃ (c : ClassId) (k : Class) (i : Nat) (f : Field) (a : Nat) (cell : Cell), U.vm.findClass C = some c ∧ U.fieldFound? C n d = some (c, k, i, f) ∧ f.isStatic = true ∧ k.statics = some a ∧ H[a]? = some cell ∧ cell.vm.isStatics = true ∧ cell.cls = c ∧ f.slot < cell.slots.size ∧ k.staticTypes[f.slot]? = some f.type ∧ ¬ A a
theorem vx_L.moved {C n d : String} {A : Nat → Prop} {u U : State} {H : Heap} (hvm : u.vm.Alike U.vm) (h : vx_L C n d A u H) : vx_L C n d A U H := by
  obtain ⟨c, k, i, f, a, cell, h1, h2, h3, h4, h5, h6, h7, h8, h9, h10⟩ := h
  obtain ⟨k', hi', he⟩ := State.fieldFound?_setVm hvm h2
  exact ⟨c, k', i, f, a, cell, by rw [hvm.findClass]; exact h1, hi', h3, by rw [he]; exact h4, h5, h6, h7, h8, by rw [he]; exact h9, h10⟩
theorem vx_L.kept {C n d : String} {A : Nat → Prop} {U : State} {H H1 : Heap} (h : vx_L C n d A U H) (hq : ∀ a : Nat, a < H.size → ¬ A a → H1[a]? = H[a]?) : vx_L C n d A U H1 := by
  obtain ⟨c, k, i, f, a, cell, h1, h2, h3, h4, h5, h6, h7, h8, h9, h10⟩ := h
  exact ⟨c, k, i, f, a, cell, h1, h2, h3, h4, by rw [hq a (Array.getElem?_eq_some_iff.mp h5).1 h10]; exact h5, h6, h7, h8, h9, h10⟩
theorem vx_L.narrow {C n d : String} {A B : Nat → Prop} {U : State} {H : Heap} (h : vx_L C n d A U H) (hAB : ∀ q, B q → A q) : vx_L C n d B U H := by
  obtain ⟨c, k, i, f, a, cell, h1, h2, h3, h4, h5, h6, h7, h8, h9, h10⟩ := h
  exact ⟨c, k, i, f, a, cell, h1, h2, h3, h4, h5, h6, h7, h8, h9, fun z => h10 (hAB _ z)⟩
theorem vx_L.word {C n d : String} {A : Nat → Prop} {s : State} {args : Array Value} (h : vx_L C n d A s s.heap) : (Cond.laysStatic C n d).before args s = true := by
  obtain ⟨c, k, i, f, a, cell, h1, h2, h3, h4, h5, h6, h7, h8, h9, -⟩ := h
  show (Cond.laysStatic C n d).holds args s none s [] = true
  exact Cond.laysStatic_of h1 h2 h3 h4 h5 h6 h7 h8 h9
/-- .. and what it holds: null or some reference -/
def vx_Zq (C n d : String) (A : Nat → Prop) (U : State) (H : Heap) : Prop := va_Zq C n d A U H ∧ vx_L C n d A U H
theorem vx_Zq.moved {C n d : String} {A : Nat → Prop} {u U : State} {H : Heap} (hvm : u.vm.Alike U.vm) (h : vx_Zq C n d A u H) : vx_Zq C n d A U H := ⟨va_Zq.moved hvm h.1, vx_L.moved hvm h.2⟩
theorem vx_Zq.kept {C n d : String} {A : Nat → Prop} {U : State} {H H1 : Heap} (h : vx_Zq C n d A U H) (hq : ∀ a : Nat, a < H.size → ¬ A a → H1[a]? = H[a]?) : vx_Zq C n d A U H1 := ⟨va_Zq.kept h.1 hq, vx_L.kept h.2 hq⟩
theorem vx_Zq.narrow {C n d : String} {A B : Nat → Prop} {U : State} {H : Heap} (h : vx_Zq C n d A U H) (hAB : ∀ q, B q → A q) : vx_Zq C n d B U H := ⟨va_Zq.narrow h.1 hAB, vx_L.narrow h.2 hAB⟩
theorem vx_Zqof {args : Array Value} {s : State} {C n d : String} {A : Nat → Prop} (hl : (Cond.laysStatic C n d).before args s = true) (hini : (Cond.initialized C).before args s = true) (h : (Cond.isRef (.static C n d)).before args s = true) (hA : ∀ a : Nat, a < s.heap.size → ¬ A a) : vx_Zq C n d A s s.heap := by
  refine ⟨va_Zqof hl hini h hA, ?_⟩
  obtain ⟨c, k, i, f, a, cell, h1, h2, h3, h4, h5, h6, h7, h8, h9⟩ := Cond.laysStatic_spec hl
  exact ⟨c, k, i, f, a, cell, h1, h2, h3, h4, h5, h6, h7, h8, h9, hA a (Array.getElem?_eq_some_iff.mp h5).1⟩
theorem vx_isRef {C n d : String} {v : Value} {A : Nat → Prop} {s : State} {args : Array Value} (h : va_Z C n d v A s s.heap) (hv : v.isRef = true) : (Cond.isRef (.static C n d)).before args s = true := by
  obtain ⟨cf, kf, fi, f, a, cell, h1, h2, h3, h4, h5, h6, h7, -⟩ := h
  have he : (Term.static C n d).eval args s none [] s = some v := by
    simp [Term.eval, State.fieldNamed?, h1, h2, h4, h5, h6, h7]
  simp only [Cond.before, Cond.holds, Cond.value, he]
  cases v <;> simp_all [Value.isRef]
theorem vx_isRefq {C n d : String} {A : Nat → Prop} {s : State} {args : Array Value} (h : va_Zq C n d A s s.heap) : (Cond.isRef (.static C n d)).before args s = true := by
  rcases h with h | ⟨t, h⟩
  · exact vx_isRef h rfl
  · exact vx_isRef h rfl
/-- the same frame, seen from here: as if the method were called anew in this heap -/
theorem vx_rebase {T : State} (X : Stand p l e R s m args below meth c T locs cells slots) {R' : Room} (hf : R'.frames ≤ R.frames) (hl : R'.locals ≤ R.locals) (hc : cells + R'.cells ≤ R.cells) (hs : slots + R'.slots ≤ R.slots) :
    Stand p l e R' ((T.setVm s.vm).setFrames (.invoking m args :: below)) m args below meth c T [] 0 0 := by
  have htop : (T.setVm s.vm).topJava?.isSome := X.here.top
  have hF : ((T.setVm s.vm).setFrames (.invoking m args :: below)).frames = .invoking m args :: below := State.frames_setFrames _ (State.cur_lt_of_top htop)
  obtain ⟨g₀, hg0⟩ := Option.isSome_iff_exists.mp htop
  obtain ⟨r, hr⟩ := State.topJava?_eq_some.mp hg0
  have hl9 : e.platform.stackLimits (T.setVm s.vm).me = e.platform.stackLimits s.me := X.limits
  have hb9 : (T.setVm s.vm).me.stackBytes = s.me.stackBytes := X.bytes
  refine ⟨X.admits, X.cas, X.clock, hF, ?_, X.hears, X.method, X.code, X.here, X.tail, X.warmed, ?_, ?_, ?_⟩
  · have h := X.room
    have hU : ((T.setVm s.vm).setFrames (.invoking m args :: below)).localsInUse = s.localsInUse := by
      rw [State.localsInUse_invoking hF (meth := meth) (c := c) X.method X.code, State.localsInUse_invoking X.frames X.method X.code]
    simp only [State.hasRoom, Bool.and_eq_true, decide_eq_true_eq] at h ⊢
    obtain ⟨⟨⟨⟨h1, h2, h3, h4, h5, h6⟩, h7⟩, h8⟩, h9⟩ := h
    rw [X.frames, List.length_cons] at h2 h3
    have q1 := X.heapSize
    have q2 := X.used
    simp only [hF, hU, List.length_cons, State.stackLimits_setFrames, State.stackBytes_setFrames, hl9, hb9]
    refine ⟨⟨⟨⟨by omega, by omega, by omega, by omega, by omega, h6⟩, ?_⟩, ?_⟩, X.book⟩
    · show T.heap.size + R'.cells ≤ e.platform.maxCells
      omega
    · show T.slotsUsed + R'.slots ≤ e.platform.maxSlots
      omega
  · rw [State.stackLimits_setFrames]; rfl
  · rw [State.stackBytes_setFrames]; rfl
  · refine ⟨?_, Nat.le_refl _, Nat.le_refl _, ?_, ?_, fun a c9 h9 => ⟨c9, h9, rfl, rfl, fun _ _ => rfl⟩⟩
    · obtain ⟨t, ht, -⟩ := State.frames_cons hr
      show T.setVm s.vm = { ((T.setVm s.vm).setFrames (.invoking m args :: below)).setFrames (T.setVm s.vm).frames with heap := T.heap, slotsUsed := T.slotsUsed }
      rw [State.setFrames_setFrames, State.setFrames_self ht]
      rfl
    · show T.slotsUsed = T.slotsUsed + ((T.heap.toList.drop T.heap.size).map (·.slots.size)).sum
      rw [List.drop_eq_nil_of_le (Nat.le_of_eq Array.length_toList)]
      rfl
    · show ((T.heap.toList.drop T.heap.size).map (·.slots.size)).sum ≤ 0
      rw [List.drop_eq_nil_of_le (Nat.le_of_eq Array.length_toList)]
      exact Nat.le_refl _
/-- 'throw new E()': new; dup; invokespecial; athrow -/
theorem vx_throw0 {cc : ByteArray} {pc : Nat} (hexec : p.tables.exec = Jvm.exec) (hb : c.code = cc) (hl : l.stackTraces = false) {own cls : String} {names : List String} {ik ic mc ms : Nat} {A : Nat → Prop}
    (hown : s.vm.findClass own = some m.cls) (hcls : Bundle.fit cls = true) (hnames : ∀ n ∈ names, Bundle.fit n = true)
    (hk : (Cond.classLink own ik cls).before args s = true) (hini : (Cond.initialized cls).before args s = true) (hat : ∀ w ∈ vx_at0 own ic cls names, w.before args s = true)
    (hgood : ∀ w ∈ Cond.classLink own ik cls :: Cond.initialized cls :: vx_at0 own ic cls names, vx_ot w = true)
    (hU : vx_Zq Bundle.tN "UNASSIGNED_STACK" Bundle.steD A s s.heap) (hN : vx_Zq Bundle.tN "SUPPRESSED_SENTINEL" Bundle.listD A s s.heap) (hS : va_S A s.heap H locs) (hsize : ls.size = c.maxLocals)
    (d0 : decode cc pc = .ok (.new ik, 3)) (d3 : decode cc (pc + 3) = .ok (.dup, 1)) (d4 : decode cc (pc + 4) = .ok (.invokespecial ic, 3)) (d7 : decode cc (pc + 7) = .ok (.athrow, 1))
    (hout : ∀ x ∈ c.exceptionTable.toList, covers x (pc + 7) = false)
    (hRframes : names.length + 3 < R.frames) (hRlocals : (rest.map fun v => v.category).sum + (13 * (names.length + 1) + 42) ≤ R.locals) (hRcells : cells + 1 ≤ R.cells) (hRslots : slots + 6 ≤ R.slots) (hlocks : meth.locks = false)
    (hx : ∀ t : State, s.vm.Alike t.vm → H.size ≤ t.heap.size → (∀ q : Nat, q < H.size → t.heap[q]? = H[q]?) → XC cls s t)
    (hf : ∀ z ∈ locs, free z.base) (hc : cells + 1 ≤ mc) (hs : slots + 6 ≤ ms) :
    W p l e R s m args below meth c H locs cells slots (vx_MQ below Qc XC args s mc ms free) (F0 m pc ls rest) := by
  intro T hT X
  have htr : e.platform.stackTraces = false := (show e.platform.stackTraces = l.stackTraces by rw [X.admits.platform]).trans hl
  have Y := vx_rebase X (R' := { frames := R.frames, locals := R.locals, cells := 1, slots := 6 }) (Nat.le_refl _) (Nat.le_refl _) hRcells hRslots
  obtain ⟨s', hA⟩ : ∃ z, z = (T.setVm s.vm).setFrames (.invoking m args :: below) := ⟨_, rfl⟩
  rw [← hA] at Y
  have hvm : s'.vm = s.vm := by rw [hA]; rfl
  have hhp : s'.heap = H := by rw [hA]; exact hT
  have hW0 : s.WarmedH s'.vm := by rw [hvm]; exact State.WarmedH.refl s
  have hat' : ∀ w ∈ vx_at0 own ic cls names, w.before args s' = true := fun w hw => vx_ot_at hW0 hvm.symm (hgood w (List.mem_cons_of_mem _ (List.mem_cons_of_mem _ hw))) (hat w hw)
  have hk' : (Cond.classLink own ik cls).before args s' = true := vx_ot_at hW0 hvm.symm (hgood _ List.mem_cons_self) hk
  have hini' : (Cond.initialized cls).before args s' = true := vx_ot_at hW0 hvm.symm (hgood _ (List.mem_cons_of_mem _ List.mem_cons_self)) hini
  have hU' : vx_Zq Bundle.tN "UNASSIGNED_STACK" Bundle.steD A s' s'.heap := by rw [hhp]; exact vx_Zq.moved hW0.alike (hU.kept hS.2.1)
  have hN' : vx_Zq Bundle.tN "SUPPRESSED_SENTINEL" Bundle.listD A s' s'.heap := by rw [hhp]; exact vx_Zq.moved hW0.alike (hN.kept hS.2.1)
  have h : ∀ w ∈ Bundle.ownAtoms0 own ic cls names, w.before args s' = true := vx_own hat' (vx_isRefq hU'.1) (vx_isRefq hN'.1) hU'.2.word hN'.2.word
  have hown' : s'.vm.findClass own = some m.cls := by rw [hvm]; exact hown
  have hins : (Cond.instantiable cls 6).before args s' = true := h _ (by simp [Bundle.ownAtoms0])
  obtain ⟨vm₁, cX, kX, hfX, hkX, -, -, X₁, st1⟩ := Y.newCold hexec (own := own) (C := cls) (index := ik) (n := 6) hown' hk' hins hini'
    (g := F0 m pc ls rest) rfl (by rw [hb]; exact d0) (Nat.le_refl _) (Nat.le_refl _)
  generalize hT1 : (T.setVm vm₁).pushCell { cls := cX, slots := kX.instanceTypes.map defaultValue, vm := .none } = T1 at X₁ st1
  have hcat : (Value.ref T.heap.size).category = 1 := rfl
  have hcellA : T1.heap[T.heap.size]? = some (freshCell cX kX) := by rw [← hT1]; exact State.heap_pushCell_size _ _
  have d3' : decode c.code (pc + 3) = .ok (.dup, 1) := by rw [hb]; exact d3
  obtain ⟨U, hsteps, hrun, hend, hW, hsame, ce, hce, hO⟩ := X₁.ctorThrow0 hexec htr (own := own) (cls := cls) (names := names) (ic := ic) hown' hcls hnames h (fun x hx => nomatch hx) hfX hkX hcellA (by rw [hhp, hT]; exact Nat.le_refl _)
    (g := { method := m, pc := pc + 4, locals := ls, stack := .ref T.heap.size :: .ref T.heap.size :: rest, locked := none }) rfl hsize rfl rfl (rest := rest) rfl
    (by rw [hb]; exact d4) (by rw [hb]; exact d7) hout hRframes (by simp only [List.map_cons, List.sum_cons, hcat]; omega) hlocks
  obtain ⟨f1, f2⟩ := vx_frame hsame
  rw [hhp] at f1 f2
  have hWs : s.WarmedH U.vm := State.WarmedH.trans hW0 hW
  have hcl : s.vm.findClass cls = some ce.cls := by
    have h9 := hO.cls
    rw [hvm] at h9
    exact h9
  have hall : s.sameButNew ({ U with vm := s.vm } : State) locs mc ms := by
    subst hA
    obtain ⟨e1, e2⟩ := hsame
    rw [State.setFrames_setFrames] at e1
    have h2 : (T.setVm s.vm).sameButNew ({ U with vm := s.vm } : State) [] (0 + 1) (0 + 6) := ⟨e1, e2⟩
    have h3 := X.same.trans h2
    rw [List.append_nil] at h3
    exact h3.mono hc hs
  refine ⟨U, ?_, .threw T.heap.size, hrun, hend, Or.inr ⟨T.heap.size, rfl, cls, ce, locs, hx U hWs.alike f1 (fun q hq => f2 q hq (fun z hz => nomatch hz)), hce, hO.vm, hcl, hWs, hall, hf⟩⟩
  refine st1 _ ?_
  show Steps p.tables e below (T1.setTop { method := m, pc := pc + 3, locals := ls, stack := .ref T.heap.size :: rest, locked := none }) _
  jvm_step X₁.here [X₁.here.top, hexec, d3', Value.category]
  exact hsteps
/-- 'throw new E("text")': new; dup; ldc; invokespecial; athrow -/
theorem vx_throwS {cc : ByteArray} {pc : Nat} (hexec : p.tables.exec = Jvm.exec) (hb : c.code = cc) (hl : l.stackTraces = false) {own cls text : String} {names : List String} {ik is ic mc ms sa : Nat} {A : Nat → Prop}
    (hown : s.vm.findClass own = some m.cls) (hcls : Bundle.fit cls = true) (hnames : ∀ n ∈ names, Bundle.fit n = true)
    (hk : (Cond.classLink own ik cls).before args s = true) (hini : (Cond.initialized cls).before args s = true) (hstr : vk_R own is text sa s) (hat : ∀ w ∈ vx_atS own ic cls names, w.before args s = true)
    (hgood : ∀ w ∈ Cond.classLink own ik cls :: Cond.initialized cls :: vx_atS own ic cls names, vx_ot w = true)
    (hU : vx_Zq Bundle.tN "UNASSIGNED_STACK" Bundle.steD A s s.heap) (hN : vx_Zq Bundle.tN "SUPPRESSED_SENTINEL" Bundle.listD A s s.heap) (hS : va_S A s.heap H locs) (hsize : ls.size = c.maxLocals)
    (d0 : decode cc pc = .ok (.new ik, 3)) (d3 : decode cc (pc + 3) = .ok (.dup, 1)) (d4 : decode cc (pc + 4) = .ok (.ldc is, 2)) (d6 : decode cc (pc + 6) = .ok (.invokespecial ic, 3)) (d9 : decode cc (pc + 9) = .ok (.athrow, 1))
    (hout : ∀ x ∈ c.exceptionTable.toList, covers x (pc + 9) = false)
    (hRframes : names.length + 3 < R.frames) (hRlocals : (rest.map fun v => v.category).sum + (13 * (names.length + 1) + 43) ≤ R.locals) (hRcells : cells + 1 ≤ R.cells) (hRslots : slots + 6 ≤ R.slots) (hlocks : meth.locks = false)
    (hx : ∀ t : State, s.vm.Alike t.vm → H.size ≤ t.heap.size → (∀ q : Nat, q < H.size → t.heap[q]? = H[q]?) → XC cls s t)
    (hf : ∀ z ∈ locs, free z.base) (hc : cells + 1 ≤ mc) (hs : slots + 6 ≤ ms) :
    W p l e R s m args below meth c H locs cells slots (vx_MQ below Qc XC args s mc ms free) (F0 m pc ls rest) := by
  intro T hT X
  have htr : e.platform.stackTraces = false := (show e.platform.stackTraces = l.stackTraces by rw [X.admits.platform]).trans hl
  have Y := vx_rebase X (R' := { frames := R.frames, locals := R.locals, cells := 1, slots := 6 }) (Nat.le_refl _) (Nat.le_refl _) hRcells hRslots
  obtain ⟨s', hA⟩ : ∃ z, z = (T.setVm s.vm).setFrames (.invoking m args :: below) := ⟨_, rfl⟩
  rw [← hA] at Y
  have hvm : s'.vm = s.vm := by rw [hA]; rfl
  have hhp : s'.heap = H := by rw [hA]; exact hT
  have hW0 : s.WarmedH s'.vm := by rw [hvm]; exact State.WarmedH.refl s
  have hat' : ∀ w ∈ vx_atS own ic cls names, w.before args s' = true := fun w hw => vx_ot_at hW0 hvm.symm (hgood w (List.mem_cons_of_mem _ (List.mem_cons_of_mem _ hw))) (hat w hw)
  have hk' : (Cond.classLink own ik cls).before args s' = true := vx_ot_at hW0 hvm.symm (hgood _ List.mem_cons_self) hk
  have hini' : (Cond.initialized cls).before args s' = true := vx_ot_at hW0 hvm.symm (hgood _ (List.mem_cons_of_mem _ List.mem_cons_self)) hini
  have hU' : vx_Zq Bundle.tN "UNASSIGNED_STACK" Bundle.steD A s' s'.heap := by rw [hhp]; exact vx_Zq.moved hW0.alike (hU.kept hS.2.1)
  have hN' : vx_Zq Bundle.tN "SUPPRESSED_SENTINEL" Bundle.listD A s' s'.heap := by rw [hhp]; exact vx_Zq.moved hW0.alike (hN.kept hS.2.1)
  have h : ∀ w ∈ Bundle.ownAtoms own ic cls names, w.before args s' = true := vx_own hat' (vx_isRefq hU'.1) (vx_isRefq hN'.1) hU'.2.word hN'.2.word
  have hown' : s'.vm.findClass own = some m.cls := by rw [hvm]; exact hown
  have hins : (Cond.instantiable cls 6).before args s' = true := h _ (by simp [Bundle.ownAtoms])
  obtain ⟨vm₁, cX, kX, hfX, hkX, -, -, X₁, st1⟩ := Y.newCold hexec (own := own) (C := cls) (index := ik) (n := 6) hown' hk' hins hini'
    (g := F0 m pc ls rest) rfl (by rw [hb]; exact d0) (Nat.le_refl _) (Nat.le_refl _)
  generalize hT1 : (T.setVm vm₁).pushCell { cls := cX, slots := kX.instanceTypes.map defaultValue, vm := .none } = T1 at X₁ st1
  have hcat : (Value.ref T.heap.size).category = 1 := rfl
  have hcellA : T1.heap[T.heap.size]? = some (freshCell cX kX) := by rw [← hT1]; exact State.heap_pushCell_size _ _
  have d3' : decode c.code (pc + 3) = .ok (.dup, 1) := by rw [hb]; exact d3
  have d4' : decode c.code (pc + 4) = .ok (.ldc is, 2) := by rw [hb]; exact d4
  have hstr' : vk_R own is text sa s' := vk_R.warm hW0 hstr
  obtain ⟨U, hsteps, hrun, hend, hW, hsame, ce, hce, hO⟩ := X₁.ctorThrowS hexec htr (own := own) (cls := cls) (names := names) (ic := ic) hown' hcls hnames h (fun x hx => nomatch hx) hfX hkX hcellA (by rw [hhp, hT]; exact Nat.le_refl _) (msg := .ref sa) rfl
    (g := { method := m, pc := pc + 6, locals := ls, stack := .ref sa :: .ref T.heap.size :: .ref T.heap.size :: rest, locked := none }) rfl hsize rfl rfl (rest := rest) rfl
    (by rw [hb]; exact d6) (by rw [hb]; exact d9) hout hRframes (by simp only [List.map_cons, List.sum_cons, hcat]; omega) hlocks
  obtain ⟨f1, f2⟩ := vx_frame hsame
  rw [hhp] at f1 f2
  have hWs : s.WarmedH U.vm := State.WarmedH.trans hW0 hW
  have hcl : s.vm.findClass cls = some ce.cls := by
    have h9 := hO.cls
    rw [hvm] at h9
    exact h9
  have hall : s.sameButNew ({ U with vm := s.vm } : State) locs mc ms := by
    subst hA
    obtain ⟨e1, e2⟩ := hsame
    rw [State.setFrames_setFrames] at e1
    have h2 : (T.setVm s.vm).sameButNew ({ U with vm := s.vm } : State) [] (0 + 1) (0 + 6) := ⟨e1, e2⟩
    have h3 := X.same.trans h2
    rw [List.append_nil] at h3
    exact h3.mono hc hs
  refine ⟨U, ?_, .threw T.heap.size, hrun, hend, Or.inr ⟨T.heap.size, rfl, cls, ce, locs, hx U hWs.alike f1 (fun q hq => f2 q hq (fun z hz => nomatch hz)), hce, hO.vm, hcl, hWs, hall, hf⟩⟩
  refine st1 _ ?_
  show Steps p.tables e below (T1.setTop { method := m, pc := pc + 3, locals := ls, stack := .ref T.heap.size :: rest, locked := none }) _
  jvm_step X₁.here [X₁.here.top, hexec, d3', Value.category]
  exact X₁.ldcString hexec (own := own) (text := text) (index := is) (a := sa) hown' hstr'.1 hstr'.2
    (g := { method := m, pc := pc + 4, locals := ls, stack := .ref T.heap.size :: .ref T.heap.size :: rest, locked := none }) rfl d4' _ hsteps
/-- 'throw new E("text")', the text by a wide index -/
theorem vx_throwSW {cc : ByteArray} {pc : Nat} (hexec : p.tables.exec = Jvm.exec) (hb : c.code = cc) (hl : l.stackTraces = false) {own cls text : String} {names : List String} {ik is ic mc ms sa : Nat} {A : Nat → Prop}
    (hown : s.vm.findClass own = some m.cls) (hcls : Bundle.fit cls = true) (hnames : ∀ n ∈ names, Bundle.fit n = true)
    (hk : (Cond.classLink own ik cls).before args s = true) (hini : (Cond.initialized cls).before args s = true) (hstr : vk_R own is text sa s) (hat : ∀ w ∈ vx_atS own ic cls names, w.before args s = true)
    (hgood : ∀ w ∈ Cond.classLink own ik cls :: Cond.initialized cls :: vx_atS own ic cls names, vx_ot w = true)
    (hU : vx_Zq Bundle.tN "UNASSIGNED_STACK" Bundle.steD A s s.heap) (hN : vx_Zq Bundle.tN "SUPPRESSED_SENTINEL" Bundle.listD A s s.heap) (hS : va_S A s.heap H locs) (hsize : ls.size = c.maxLocals)
    (d0 : decode cc pc = .ok (.new ik, 3)) (d3 : decode cc (pc + 3) = .ok (.dup, 1)) (d4 : decode cc (pc + 4) = .ok (.ldc_w is, 3)) (d7 : decode cc (pc + 7) = .ok (.invokespecial ic, 3)) (d10 : decode cc (pc + 10) = .ok (.athrow, 1))
    (hout : ∀ x ∈ c.exceptionTable.toList, covers x (pc + 10) = false)
    (hRframes : names.length + 3 < R.frames) (hRlocals : (rest.map fun v => v.category).sum + (13 * (names.length + 1) + 43) ≤ R.locals) (hRcells : cells + 1 ≤ R.cells) (hRslots : slots + 6 ≤ R.slots) (hlocks : meth.locks = false)
    (hx : ∀ t : State, s.vm.Alike t.vm → H.size ≤ t.heap.size → (∀ q : Nat, q < H.size → t.heap[q]? = H[q]?) → XC cls s t)
    (hf : ∀ z ∈ locs, free z.base) (hc : cells + 1 ≤ mc) (hs : slots + 6 ≤ ms) :
    W p l e R s m args below meth c H locs cells slots (vx_MQ below Qc XC args s mc ms free) (F0 m pc ls rest) := by
  intro T hT X
  have htr : e.platform.stackTraces = false := (show e.platform.stackTraces = l.stackTraces by rw [X.admits.platform]).trans hl
  have Y := vx_rebase X (R' := { frames := R.frames, locals := R.locals, cells := 1, slots := 6 }) (Nat.le_refl _) (Nat.le_refl _) hRcells hRslots
  obtain ⟨s', hA⟩ : ∃ z, z = (T.setVm s.vm).setFrames (.invoking m args :: below) := ⟨_, rfl⟩
  rw [← hA] at Y
  have hvm : s'.vm = s.vm := by rw [hA]; rfl
  have hhp : s'.heap = H := by rw [hA]; exact hT
  have hW0 : s.WarmedH s'.vm := by rw [hvm]; exact State.WarmedH.refl s
  have hat' : ∀ w ∈ vx_atS own ic cls names, w.before args s' = true := fun w hw => vx_ot_at hW0 hvm.symm (hgood w (List.mem_cons_of_mem _ (List.mem_cons_of_mem _ hw))) (hat w hw)
  have hk' : (Cond.classLink own ik cls).before args s' = true := vx_ot_at hW0 hvm.symm (hgood _ List.mem_cons_self) hk
  have hini' : (Cond.initialized cls).before args s' = true := vx_ot_at hW0 hvm.symm (hgood _ (List.mem_cons_of_mem _ List.mem_cons_self)) hini
  have hU' : vx_Zq Bundle.tN "UNASSIGNED_STACK" Bundle.steD A s' s'.heap := by rw [hhp]; exact vx_Zq.moved hW0.alike (hU.kept hS.2.1)
  have hN' : vx_Zq Bundle.tN "SUPPRESSED_SENTINEL" Bundle.listD A s' s'.heap := by rw [hhp]; exact vx_Zq.moved hW0.alike (hN.kept hS.2.1)
  have h : ∀ w ∈ Bundle.ownAtoms own ic cls names, w.before args s' = true := vx_own hat' (vx_isRefq hU'.1) (vx_isRefq hN'.1) hU'.2.word hN'.2.word
  have hown' : s'.vm.findClass own = some m.cls := by rw [hvm]; exact hown
  have hins : (Cond.instantiable cls 6).before args s' = true := h _ (by simp [Bundle.ownAtoms])
  obtain ⟨vm₁, cX, kX, hfX, hkX, -, -, X₁, st1⟩ := Y.newCold hexec (own := own) (C := cls) (index := ik) (n := 6) hown' hk' hins hini'
    (g := F0 m pc ls rest) rfl (by rw [hb]; exact d0) (Nat.le_refl _) (Nat.le_refl _)
  generalize hT1 : (T.setVm vm₁).pushCell { cls := cX, slots := kX.instanceTypes.map defaultValue, vm := .none } = T1 at X₁ st1
  have hcat : (Value.ref T.heap.size).category = 1 := rfl
  have hcellA : T1.heap[T.heap.size]? = some (freshCell cX kX) := by rw [← hT1]; exact State.heap_pushCell_size _ _
  have d3' : decode c.code (pc + 3) = .ok (.dup, 1) := by rw [hb]; exact d3
  have d4' : decode c.code (pc + 4) = .ok (.ldc_w is, 3) := by rw [hb]; exact d4
  have hstr' : vk_R own is text sa s' := vk_R.warm hW0 hstr
  obtain ⟨U, hsteps, hrun, hend, hW, hsame, ce, hce, hO⟩ := X₁.ctorThrowS hexec htr (own := own) (cls := cls) (names := names) (ic := ic) hown' hcls hnames h (fun x hx => nomatch hx) hfX hkX hcellA (by rw [hhp, hT]; exact Nat.le_refl _) (msg := .ref sa) rfl
    (g := { method := m, pc := pc + 7, locals := ls, stack := .ref sa :: .ref T.heap.size :: .ref T.heap.size :: rest, locked := none }) rfl hsize rfl rfl (rest := rest) rfl
    (by rw [hb]; exact d7) (by rw [hb]; exact d10) hout hRframes (by simp only [List.map_cons, List.sum_cons, hcat]; omega) hlocks
  obtain ⟨f1, f2⟩ := vx_frame hsame
  rw [hhp] at f1 f2
  have hWs : s.WarmedH U.vm := State.WarmedH.trans hW0 hW
  have hcl : s.vm.findClass cls = some ce.cls := by
    have h9 := hO.cls
    rw [hvm] at h9
    exact h9
  have hall : s.sameButNew ({ U with vm := s.vm } : State) locs mc ms := by
    subst hA
    obtain ⟨e1, e2⟩ := hsame
    rw [State.setFrames_setFrames] at e1
    have h2 : (T.setVm s.vm).sameButNew ({ U with vm := s.vm } : State) [] (0 + 1) (0 + 6) := ⟨e1, e2⟩
    have h3 := X.same.trans h2
    rw [List.append_nil] at h3
    exact h3.mono hc hs
  refine ⟨U, ?_, .threw T.heap.size, hrun, hend, Or.inr ⟨T.heap.size, rfl, cls, ce, locs, hx U hWs.alike f1 (fun q hq => f2 q hq (fun z hz => nomatch hz)), hce, hO.vm, hcl, hWs, hall, hf⟩⟩
  refine st1 _ ?_
  show Steps p.tables e below (T1.setTop { method := m, pc := pc + 3, locals := ls, stack := .ref T.heap.size :: rest, locked := none }) _
  jvm_step X₁.here [X₁.here.top, hexec, d3', Value.category]
  exact X₁.ldcStringW hexec (own := own) (text := text) (index := is) (a := sa) hown' hstr'.1 hstr'.2
    (g := { method := m, pc := pc + 4, locals := ls, stack := .ref T.heap.size :: .ref T.heap.size :: rest, locked := none }) rfl d4' _ hsteps
end Ends
section Bodies
variable {l : Launch}
theorem vx_ofW {y : MethodName} {ws ws' : List Cond} {rm : Room} {Pc : Array Value → State → Prop} {Qc : Array Value → State → Outcome → State → Prop} {XC : String → State → State → Prop} {mc ms : Nat} {free : Addr → Prop} {cc : ByteArray} {maxL : Nat} {ret : Option FieldType}
    (hy : plainName y.cls = true) (hw : ws = Cond.code y cc maxL ret :: ws')
    (body : ∀ p e s m args below meth c s₁, BodyLoose p l y (headSpec ws rm) cc maxL ret e s m args below meth c s₁ → c.maxLocals = maxL → (∀ x ∈ c.exceptionTable.toList, False) → Pc args s →
      W p l e (headSpec ws rm).room s m args below meth c s.heap [] 0 0 (vx_MQ below Qc XC args s mc ms free) (entryFrame m args maxL)) : vx_Met l y ws rm Pc Qc XC mc ms free := by
  refine MetFree.of_bodyS (code := cc) (maxLocals := maxL) (ret := ret) hy ?_ ?_
  · intro args s m h hn
    obtain ⟨meth, c, h1, h2, h3, h4, h5, h6, -, -⟩ := Cond.code_spec hn (atoms_spec (ws := ws) h _ (by rw [hw]; exact List.mem_cons_self))
    exact ⟨meth, c, h1, h2, h3, h4, h5, h6⟩
  · intro p e s m args below meth c s₁ B hml hP _
    have hh0 : s₁.heap = s.heap := by rw [B.state]; rfl
    have ht : ∀ x ∈ c.exceptionTable.toList, False := by
      obtain ⟨meth9, c9, h1, h2, -, -, -, -, h7, -⟩ := Cond.code_spec B.named (atoms_spec (ws := ws) B.pre _ (by rw [hw]; exact List.mem_cons_self))
      cases Option.some.inj (h1.symm.trans B.method)
      cases Option.some.inj (h2.symm.trans (Stand.of_body B).code)
      intro x hx
      rw [Array.isEmpty_iff.mp h7] at hx
      cases hx
    obtain ⟨t, a1, o, b1, b2, b3⟩ := body p e s m args below meth c s₁ B hml ht hP s₁ hh0 (Stand.of_body B)
    exact ⟨t, o, a1, b1, b2, b3⟩
/-- the table of a body with handlers -/
theorem vx_table {p : Program} {x y : MethodName} {S : Spec} {cc bytes : ByteArray} {maxL maxL' : Nat} {ret ret' : Option FieldType} {e : Env} {s s₁ : State} {m : MethodId} {args : Array Value} {below : List Frame} {meth : Method} {c : Code} {hh : List (Nat × Nat × Nat × Nat)}
    (B : BodyLoose p l y S cc maxL ret e s m args below meth c s₁) (h : (Cond.codeWith y bytes maxL' ret' hh).before args s = true) : c.exceptionTable.toList = tableOf hh := by
  obtain ⟨m9, meth9, c9, hn9, h1, h2, -, -, h6, -⟩ := Cond.codeWith_spec h
  cases Option.some.inj (hn9.symm.trans B.named)
  cases Option.some.inj (h1.symm.trans B.method)
  cases Option.some.inj (h2.symm.trans (Stand.of_body B).code)
  rw [← h6, table_eq]
end Bodies
end VXA
/-! ===== END ===== -/
/-! ===== BEGIN a static call of a method with an exception table ===== -/
section VXS
variable {p : Program} {l : Launch} {e : Env} {R : Room} {s : State} {m : MethodId} {args : Array Value} {below : List Frame} {meth : Method} {c : Code} {T : State} {H : Heap} {locs : List Loc} {cells slots : Nat}
abbrev vx_CSW (R : Room) (s : State) (args : Array Value) (own : String) (index : Nat) (y : MethodName) (bytes : ByteArray) (maxL : Nat) (ret : Option FieldType) (hh : List (Nat × Nat × Nat × Nat)) (ws : List Cond) (rm : Room) (mc ms n : Nat) : Prop :=
  (rm.cells = mc ∧ rm.slots = ms ∧ rm.frames + 1 ≤ R.frames ∧ 8 + (maxL + 11) + rm.locals ≤ R.locals ∧ (∀ w ∈ ws, ∀ (a' : Array Value) (U : State), s.WarmedH U.vm → w.before a' U = true) ∧ Cond.codeWith y bytes maxL ret hh ∈ ws) ∧
  (Cond.codeWith y bytes maxL ret hh).before args s = true ∧ (Cond.initialized y.cls).before args s = true ∧ (y.cls ≠ "java/lang/invoke/MethodHandle" ∧ y.cls ≠ "java/lang/invoke/VarHandle") ∧
  (∀ sig, parseMethodDescriptor y.desc = some sig → n = sig.parameters.length) ∧ (Cond.methodLink own index y).before args s = true ∧ (Cond.static y).before args s = true
theorem vx_cwSW {own : String} {index maxL mc ms : Nat} {y : MethodName} {bytes : ByteArray} {ret : Option FieldType} {hh : List (Nat × Nat × Nat × Nat)} {Ts ws ws' : List Cond} {rm : Room} (n : Nat) (ht : ∀ w ∈ Ts, w.before args s = true) (hT : GoodIn Ts (va_wsS own index y ws)) (hw : ws = Cond.codeWith y bytes maxL ret hh :: ws') (hrc : rm.cells = mc) (hrs : rm.slots = ms)
    (hd : y.cls ≠ "java/lang/invoke/MethodHandle" ∧ y.cls ≠ "java/lang/invoke/VarHandle" ∧ (parseMethodDescriptor y.desc).map (fun d => d.parameters.length) = some n) (hR : rm.frames + 1 ≤ R.frames ∧ 8 + (maxL + 11) + rm.locals ≤ R.locals) :
    vx_CSW R s args own index y bytes maxL ret hh ws rm mc ms n := by
  have ok : ∀ w ∈ va_wsS own index y ws, w.before args s = true := fun w h => ht w (hT w h).1
  have hG : GoodIn Ts ws := fun w h => hT w (by unfold va_wsS; exact List.mem_append_right _ h)
  have hc : Cond.codeWith y bytes maxL ret hh ∈ ws := by rw [hw]; exact List.mem_cons_self
  refine ⟨⟨hrc, hrs, hR.1, hR.2, pay_in ht hG, hc⟩, ht _ (hG _ hc).1, ok _ (by simp [va_wsS]), ⟨hd.1, hd.2.1⟩, fun sig h => ?_, ok _ (by simp [va_wsS]), ok _ (by simp [va_wsS])⟩
  have h2 := hd.2.2
  rw [h] at h2
  exact (Option.some.inj h2).symm
theorem vx_callSW (X : Stand p l e R s m args below meth c T locs cells slots) (hexec : p.tables.exec = Jvm.exec) {own : String} {index : Nat} {y : MethodName} {bytes : ByteArray} {maxL : Nat} {ret : Option FieldType} {hh : List (Nat × Nat × Nat × Nat)}
    (hown : s.vm.findClass own = some m.cls) (hlink : (Cond.methodLink own index y).before args s = true) (hstat : (Cond.static y).before args s = true) (hinit : (Cond.initialized y.cls).before args s = true)
    (hcode : (Cond.codeWith y bytes maxL ret hh).before args s = true) (hy : y.cls ≠ "java/lang/invoke/MethodHandle" ∧ y.cls ≠ "java/lang/invoke/VarHandle")
    {W9 : Nat} {Pre : Pt → Array Value → Prop} {Post : Pt → Array Value → Option Value → Pt → Prop} (hK : Back l R p e below s args y 3 W9 Pre Post)
    {g : JFrame} (hg : g.method = m) (hsize : g.locals.size = c.maxLocals) {argsL rest : List Value} (hlen : ∀ sig, parseMethodDescriptor y.desc = some sig → argsL.length = sig.parameters.length)
    (hstack : g.stack = argsL.reverse ++ rest) (hW : 2 * g.monitorRoom + (rest.map fun v => v.category).sum ≤ W9) (hdg : decode c.code g.pc = .ok (.invokestatic index, 3))
    (hpre : ∀ vm₁, s.WarmedH vm₁ → Pre ⟨T.setVm vm₁, locs, cells, slots⟩ argsL.toArray) :
    ∃ (v : Option Value) (vm₁ : Vm) (B : Pt), s.WarmedH vm₁ ∧ Stand p l e R s m args below meth c B.U B.locs B.cells B.slots ∧ Post ⟨T.setVm vm₁, locs, cells, slots⟩ argsL.toArray v B ∧
      ∀ target, Steps p.tables e below (B.U.setTop { g with pc := g.pc + 3, stack := v.toList ++ rest }) target → Steps p.tables e below (T.setTop g) target := by
  obtain ⟨mk, methM, cM, hnamed, hmethM, -, -, -, -, -, -, hsigM⟩ := Cond.codeWith_spec hcode
  have hstatic : methM.isStatic = true := Cond.static_spec hnamed hmethM hstat
  obtain ⟨kP, hkP, -⟩ := className_of_methodNamed hnamed
  have hinitP : kP.init = .initialized := Cond.initialized_spec (findClass_of_methodNamed hnamed) hkP hinit
  obtain ⟨vm₁, X₁, hstep₁⟩ := X.invokestatic hexec hown hlink hnamed hmethM hstatic hkP hinitP hy (g := g) hg (argsL := argsL) (rest := rest) (hlen _ hsigM) hstack hdg
  obtain ⟨v, B, X', hpost, hsteps⟩ := hK m meth c ⟨T.setVm vm₁, locs, cells, slots⟩ { g with stack := rest } (.invokestatic index) mk argsL.toArray X₁ hg hsize hdg hW (X₁.named hnamed) (hpre vm₁ X₁.warmed)
  exact ⟨v, vm₁, B, X₁.warmed, X', hpost, fun target h => hstep₁ _ fun acts => by rw [doInvoke_state]; exact hsteps.trans h⟩
theorem vx_runSW {y : MethodName} {bytes cc : ByteArray} {maxL nL mc ms n index : Nat} {ret : Option FieldType} {hh : List (Nat × Nat × Nat × Nat)} {ws : List Cond} {rm : Room} {Pc : Array Value → State → Prop} {Qc : Array Value → State → Outcome → State → Prop} {free : Addr → Prop} {Ts : List Cond} {own : String} {As rest : List Value} {g : JFrame}
    (S : CallFix p m c cc nL s args Ts own) (hM : Met l y ws rm Pc Qc mc ms free) (cw : vx_CSW R s args own index y bytes maxL ret hh ws rm mc ms n) (hp : PreS s H Pc As)
    (hg : g.method = m) (hn : As.length = n) (hsize : g.locals.size = nL) (hstack : g.stack = As.reverse ++ rest) (hW : 2 * g.monitorRoom + (rest.map fun v => v.category).sum ≤ 8) (hdg : decode cc g.pc = .ok (.invokestatic index, 3)) (hf : cells + mc ≤ R.cells ∧ slots + ms ≤ R.slots) :
    va_Run p l e R s m args below meth c H locs cells slots mc ms g rest (Qc As.toArray) (free) := by
  obtain ⟨⟨hrc, hrs, hfr, hlo, hws, hcw⟩, hcode, hini, hy, hlen, hl, hstt⟩ := cw
  have hK : Back l R p e below s args y 3 8 (PreOf R mc ms Pc) (PostOf Qc mc ms free) := va_backW (hh := hh) (bytes := bytes) (maxL := maxL) (ret := ret) hM hp.1 hrc hrs hfr hlo hws hcw (fun a' U hW => word_at hW (Or.inl (by first | rfl | simp [Cond.onTables, Cond.keeps, Cond.steady])) hini)
  obtain ⟨hx, hb, hml, ho, -⟩ := S
  intro T hT X
  obtain ⟨v, vm₁, ⟨U', l2, c2, s2⟩, hW₁, X', ⟨g', mk, t, L, e1, e2, hq, h1, hL, h2, h3⟩, st⟩ := vx_callSW X hx (hh := hh) (bytes := bytes) (maxL := maxL) (ret := ret) ho hl hstt hini hcode hy hK hg (hsize.trans hml.symm) (argsL := As) (rest := rest) (fun sig h => hn.trans (hlen sig h)) hstack hW (by rw [hb]; exact hdg)
    (fun vm₁ hW₁ => ⟨hf.1, hf.2, hp.2 (T.setVm vm₁) hT hW₁⟩)
  dsimp only [Pt.U, Pt.locs, Pt.cells, Pt.slots] at X' e1 e2 h1 h2 h3 st
  subst h1; subst h2; subst h3
  exact ⟨v, (T.setVm vm₁).calling g' mk As.toArray, t, U', L, hT, X', hL, e1, e2, hq, st⟩
/-- not caught here, past rows that name other classes: it goes on to the caller -/
theorem vx_outP {p : Program} {l : Launch} {e : Env} {R : Room} {s : State} {m : MethodId} {args : Array Value} {below : List Frame} {meth : Method} {c : Code} {H : Heap} {locs : List Loc} {cells slots : Nat} {free : Addr → Prop} {ls : Array Slot} {rest : List Value} {Qc : Array Value → State → Outcome → State → Prop} {XC : String → State → State → Prop}
    {pc : Nat} {own E : String} {ce : Cell} {q : Addr} {mc ms : Nat} (hown : s.vm.findClass own = some m.cls) (hlocks : meth.locks = false)
    (hpass : ∀ z ∈ c.exceptionTable.toList, covers z pc = false ∨ (z.catchType ≠ 0 ∧ ∃ nm : String, (Cond.classLink own z.catchType nm).before args s = true ∧ va_Nc E nm s)) (hcell : H[q]? = some ce) (hv : ce.vm = .none) (hcl : s.vm.findClass E = some ce.cls)
    (hx : ∀ t : State, t.heap = H → s.vm.Alike t.vm → XC E s t) (hf : ∀ z ∈ locs, free z.base) (hc : cells ≤ mc) (hs : slots ≤ ms) :
    vx_W p l e R s m args below meth c H locs cells slots (vx_MQ below Qc XC args s mc ms free) (F0 m pc ls rest) q := by
  intro T hT X
  have hpl : e.platform.magicAccessors = ({} : Platform).magicAccessors := by rw [X.admits.platform]
  obtain ⟨vm', hW', X', st⟩ := X.outThrough hlocks q (g := F0 m pc ls rest) rfl rfl rfl (cell := ce) (by rw [hT]; exact hcell) (by rw [hv]; rfl)
    (by obtain ⟨k9, h9, -⟩ := Vm.findClass_spec hcl; exact ⟨k9, h9⟩) (fun z hz => by
      rcases hpass z hz with h | ⟨hz0, nm, hl1, hn1⟩
      · exact Or.inl h
      · obtain ⟨c6, hc6, hcl6⟩ := Cond.classLink_spec hown hl1 e.platform hpl
        obtain ⟨a8, b8, h1, h2, h3⟩ := hn1
        cases Option.some.inj (h1.symm.trans hcl)
        cases Option.some.inj (h2.symm.trans hc6)
        exact Or.inr ⟨hz0, _, hcl6, h3⟩)
  obtain ⟨g₀, hfr⟩ := X'.frames_eq
  have hcell9 : ((T.setVm vm').setFrames (.throwing q :: below)).heap[q]? = some ce := by
    show T.heap[q]? = some ce
    rw [hT]; exact hcell
  have hend : Ended ((T.setVm vm').setFrames (.throwing q :: below)) below (.threw q) := State.frames_setFrames _ (State.cur_lt_of_frames hfr)
  refine ⟨(T.setVm vm').setFrames (.throwing q :: below), ?_, .threw q, X'.here.running, hend, Or.inr ⟨q, rfl, E, ce, locs, hx _ hT (X'.ends _).1.alike, hcell9, hv, hcl, (X'.ends _).1, (X'.ends _).2.mono hc hs, hf⟩⟩
  rw [X.pushThrowing_eq]
  exact st
/-- a thing of a world lies in the heap -/
theorem vx_lt {D : va_G} {cl : List vw_C} {ws : va_W} {H1 : Heap} (h : va_P D cl ws H1) {k : Nat} {q : Nat × va_E} (hk : ws[k]? = some q) : q.1 < H1.size := (h k q hk).lt
end VXS
/-! ===== END ===== -/
end
section
/-! An exception made by new X("text") and thrown, where X's own constructor passes on by an index of its own (ix, the bytes bs); the classes above as the library's chain has them. -/
def zi_own (own : String) (ic : Nat) (X : String) (ix : Nat) (bs : ByteArray) (Y : String) (r : List String) : List Cond :=
  Bundle.throwableAtoms ++ Bundle.throwableSAtoms ++ (Bundle.passSAtoms X Y ix bs ++ Bundle.chainSAtoms Y r) ++
  [.methodLink own ic (Bundle.initS X), .instantiable X 6, .castable X X, .selects X Bundle.tFill0 Bundle.tFill0, .selects X Bundle.tFill Bundle.tFill,
   .lays X Bundle.tN "cause" "Ljava/lang/Throwable;", .lays X Bundle.tN "stackTrace" Bundle.steD, .lays X Bundle.tN "suppressedExceptions" Bundle.listD, .lays X Bundle.tN "detailMessage" "Ljava/lang/String;",
   .isRef (.static Bundle.tN "UNASSIGNED_STACK" Bundle.steD), .isRef (.static Bundle.tN "SUPPRESSED_SENTINEL" Bundle.listD),
   .fieldLink Bundle.tN 198 Bundle.tN "backtrace" "Ljava/lang/Object;", .lays Bundle.tN Bundle.tN "backtrace" "Ljava/lang/Object;", .lays X Bundle.tN "backtrace" "Ljava/lang/Object;"]
section ZX
variable {p : Program} {l : Launch} {e : Env} {R : Room} {s : State} {m₀ : MethodId} {args : Array Value} {below : List Frame} {meth : Method} {c : Code} {W : State} {locs : List Loc} {cells slots : Nat}
set_option maxHeartbeats 2000000 in
/-- follows the library's Stand.ctorThrowS, with the first link of the chain by itself -/
theorem zi_ctorThrow (X : Stand p l e R s m₀ args below meth c W locs cells slots) (hexec : p.tables.exec = Jvm.exec) (htr : e.platform.stackTraces = false) {own cls Y : String} {r : List String} {ic ix : Nat} {bs : ByteArray}
    (b0 : decode bs 0 = .ok (.aload_n 0, 1)) (b1 : decode bs 1 = .ok (.aload_n 1, 1)) (b2 : decode bs 2 = .ok (.invokespecial ix, 3)) (b5 : decode bs 5 = .ok (.return_, 1))
    (hown : s.vm.findClass own = some m₀.cls) (hcls : Bundle.fit cls = true) (hY : Bundle.fit Y = true) (hr : ∀ n ∈ r, Bundle.fit n = true)
    (h : ∀ a ∈ zi_own own ic cls ix bs Y r, a.before args s = true)
    (hlocs : ∀ x ∈ locs, ∀ cell, s.heap[x.base]? = some cell → cell.vm.isStatics = false)
    {a : Addr} {cX : ClassId} {kX : Class} (hfoundX : s.vm.findClass cls = some cX) (hkX : s.vm.classes[cX]? = some kX) (hcell : W.heap[a]? = some (freshCell cX kX)) (hnew : s.heap.size ≤ a)
    {msg : Value} (hmsg : msg.isRef = true)
    {g : JFrame} (hg : g.method = m₀) (hsize : g.locals.size = c.maxLocals) (hlocked : g.locked = none) (hentered : g.entered = []) {rest : List Value} (hstack : g.stack = msg :: .ref a :: .ref a :: rest)
    (hd6 : decode c.code g.pc = .ok (.invokespecial ic, 3)) (hd9 : decode c.code (g.pc + 3) = .ok (.athrow, 1)) (hout : ∀ x ∈ c.exceptionTable.toList, covers x (g.pc + 3) = false)
    (hRframes : r.length + 4 < R.frames) (hRlocals : 2 * g.monitorRoom + ((Value.ref a :: rest).map fun v => v.category).sum + (13 * (r.length + 2) + 42) ≤ R.locals) (hlocks : meth.locks = false) :
    ∃ U : State, Steps p.tables e below (W.setTop g) U ∧ U.status = .running ∧ Ended U below (.threw a) ∧ s.WarmedH U.vm ∧ s.sameButNew ({ U with vm := s.vm } : State) locs cells slots ∧
      ∃ ce, U.heap[a]? = some ce ∧ ce.vm = .none ∧ s.vm.findClass cls = some ce.cls := by
  have howns : e.platform.frameOwnsMonitors = true := by rw [X.admits.platform]
  have hfin : e.platform.finalization = false := by rw [X.admits.platform]
  have hpl : e.platform.magicAccessors = ({} : Platform).magicAccessors := by rw [X.admits.platform]
  have a' : ∀ x, x ∈ zi_own own ic cls ix bs Y r → x.holds args s none s [] = true := fun x hx => h x hx
  obtain ⟨T, Z0, L, -, Yt⟩ := ThrowableC.of_atoms (args := args) howns hfin hpl (fun x hx => h x (by simp [zi_own, hx]))
  obtain ⟨Z, M, LZ, LM, hnZ⟩ := Init0T.ofS_atoms (args := args) hpl L Yt (fun x hx => h x (by simp [zi_own, hx]))
  obtain ⟨P2, Ps, hlen, L2, hL, hP2m, hlink2, hlinks⟩ := Bundle.chainS (args := args) hpl hnZ r Y hY hr (fun x hx => h x (by simp [zi_own, hx]))
  obtain ⟨P1, L1, hP1m, hP1s⟩ := PassC.ofS_atoms (args := args) (s := s) hpl (X := cls) (Y := Y) (Bundle.fit_spec hcls).1 (Bundle.fit_spec hY).2 b0 b1 b2 b5 (fun x hx => h x (by simp [zi_own, hx]))
  have hlink1 : P1.sup = P2.m := Option.some.inj (hP1s.symm.trans hP2m)
  have hfound : s.vm.findClass cls = some P1.m.cls := findClass_of_methodNamed hP1m
  cases Option.some.inj (hfoundX.symm.trans hfound)
  obtain ⟨c1, kX', hc1, hk, hord, -, -, hn6⟩ := Cond.instantiable_spec (a' (.instantiable cls 6) (by simp [zi_own]))
  cases Option.some.inj (hc1.symm.trans hfound)
  cases Option.some.inj (hkX.symm.trans hk)
  have hsel0 : selectMethod e.platform s.vm P1.m.cls T.fill0 = .method T.fill0 := by
    obtain ⟨c2, r2, m2, q1, q2, q3, q4, -⟩ := Cond.selects_spec (a' (.selects cls Bundle.tFill0 Bundle.tFill0) (by simp [zi_own]))
    cases Option.some.inj (q1.symm.trans hfound)
    cases Option.some.inj (q2.symm.trans (State.methodFound?_of_named Yt.fill0 (by decide)))
    cases Option.some.inj (q3.symm.trans Yt.fill0)
    rw [Launch.admits_selectMethod X.admits]; exact q4
  have hselF : selectMethod e.platform s.vm P1.m.cls T.fill = .method T.fill := by
    obtain ⟨c2, r2, m2, q1, q2, q3, q4, -⟩ := Cond.selects_spec (a' (.selects cls Bundle.tFill Bundle.tFill) (by simp [zi_own]))
    cases Option.some.inj (q1.symm.trans hfound)
    cases Option.some.inj (q2.symm.trans (State.methodFound?_of_named Yt.fill (by decide)))
    cases Option.some.inj (q3.symm.trans Yt.fill)
    rw [Launch.admits_selectMethod X.admits]; exact q4
  obtain ⟨cellS0, hcS0, hiss⟩ := Yt.statics
  obtain ⟨u0, hu0⟩ := Cond.staticRefV Yt.unassigned L.unassignedStatic L.statics hcS0 hiss (a' (.isRef (.static Bundle.tN "UNASSIGNED_STACK" Bundle.steD)) (by simp [zi_own]))
  obtain ⟨sen, hsen⟩ := Cond.staticRefV Yt.sentinel L.sentinelStatic L.statics hcS0 hiss (a' (.isRef (.static Bundle.tN "SUPPRESSED_SENTINEL" Bundle.listD)) (by simp [zi_own]))
  obtain ⟨ci198, i198, fB, hk198, hg198, ha198, hsB, -, hnB, htB, hffB⟩ := Cond.ownField (t := .object "java/lang/Object") Yt.found L.cls (by decide +kernel) (a' (.fieldLink Bundle.tN 198 Bundle.tN "backtrace" "Ljava/lang/Object;") (by simp [zi_own])) (a' (.lays Bundle.tN Bundle.tN "backtrace" "Ljava/lang/Object;") (by simp [zi_own])) e.platform hpl
  obtain ⟨cellS, hcS', heS, -, hkeep⟩ := X.same.2.2.2.2.2 T.aS cellS0 hcS0
  have hcellS : W.heap[T.aS]? = some cellS := hcS'
  have hout' : ∀ i, (⟨T.aS, i⟩ : Loc) ∉ locs := fun i hmem => by
    have := hlocs _ hmem cellS0 hcS0
    rw [hiss] at this; cases this
  have hknownS : cellS.vm ≠ .unknown := by
    rw [heS]; intro hu
    rw [show cellS0.vm = .unknown from hu] at hiss
    cases hiss
  have hneS : T.aS ≠ a := Nat.ne_of_lt (Nat.lt_of_lt_of_le (Array.getElem?_eq_some_iff.mp hcS0).1 hnew)
  obtain ⟨iM, hffM⟩ := Yt.msg
  obtain ⟨tyC, dC, hdC, hdnC⟩ := Cond.laysAt hfound hk Yt.cause (a' (.lays cls Bundle.tN "cause" "Ljava/lang/Throwable;") (by simp [zi_own]))
  obtain ⟨tyS, dS, hdS, hdnS⟩ := Cond.laysAt hfound hk Yt.stack (a' (.lays cls Bundle.tN "stackTrace" Bundle.steD) (by simp [zi_own]))
  obtain ⟨tyP, dP, hdP, hdnP⟩ := Cond.laysAt hfound hk Yt.supp (a' (.lays cls Bundle.tN "suppressedExceptions" Bundle.listD) (by simp [zi_own]))
  obtain ⟨tyM, dM, hdM, hdnM⟩ := Cond.laysAt hfound hk hffM (a' (.lays cls Bundle.tN "detailMessage" "Ljava/lang/String;") (by simp [zi_own]))
  obtain ⟨tyB, dB, hdB, hdnB⟩ := Cond.laysAt hfound hk hffB (a' (.lays cls Bundle.tN "backtrace" "Ljava/lang/Object;") (by simp [zi_own]))
  have bC := Cond.laysApart hdB hdC hdnB hdnC (by rw [hnB, Yt.causeName]; decide)
  have bS := Cond.laysApart hdB hdS hdnB hdnS (by rw [hnB, Yt.stackName]; decide)
  have bP := Cond.laysApart hdB hdP hdnB hdnP (by rw [hnB, Yt.suppName]; decide)
  have hskip : SkipFacts T e.platform s (fun u => u) u0 ((preparedCellV T.toThrowableT (freshCell P1.m.cls kX) a u0 sen).withEntry W.cur) :=
    ⟨{ ci198 := ci198, i198 := i198, fBack := fB }, ⟨hk198, hg198, ha198, hsB⟩, by
      have := fresh_default (c := P1.m.cls) tyB
      rw [htB] at this
      simpa [preparedCellV, Cell.setSlot, Cell.withEntry, Array.getElem?_setIfInBounds, bC, bS, bP, bC.symm, bS.symm, bP.symm, defaultValue] using this, fun _ _ => rfl⟩
  obtain ⟨tm, methC, cdC, kC, vm₁, hnC, -, -, -, -, -, -, -, hW₁, st1⟩ := Steps.initColdS (tb := p.tables) (e := e) (below := below) (s := s) (U := W) X.here hexec X.warmed hpl hown (t := Bundle.initS cls) rfl rfl (Bundle.fit_spec hcls).2
    (a' (.methodLink own ic (Bundle.initS cls)) (by simp [zi_own])) (h (.instanceMethod (Bundle.initS cls)) (by simp [zi_own, Bundle.passSAtoms])) (bytes := bs) (maxL := 2) (h (.code (Bundle.initS cls) bs 2 none) (by simp [zi_own, Bundle.passSAtoms]))
    (f := g) hg (a := a) (msg := msg) (rest := .ref a :: rest) hstack hd6
  cases Option.some.inj (hnC.symm.trans hP1m)
  have X₁ := X.noted hW₁
  obtain ⟨vm₂, X₂, st2⟩ := X₁.ctorMessageOffV hexec (g := { g with stack := .ref a :: rest }) hg hsize T L Z LZ M LM (P1 :: P2 :: Ps)
    (fun P hP => by
      rcases List.mem_cons.mp hP with rfl | hP
      · exact L1
      · rcases List.mem_cons.mp hP with rfl | hP
        · exact L2
        · exact hL P hP) ⟨hlink1, hlink2, hlinks⟩ (u0 := u0) (sen := sen) (self := a) hmsg (cell := freshCell P1.m.cls kX) (cellS := cellS)
    hcell (fun _ => by simp) (by simp) rfl rfl hsel0 hselF hcellS hneS hknownS (by rw [hkeep _ (hout' _)]; exact hu0) (by rw [hkeep _ (hout' _)]; exact hsen)
    (Takes.of_laid hk hord tyC (by rw [Yt.causeType]; rfl)) (Takes.of_laid hk hord tyS (by rw [Yt.stackType]; exact fits_refV_array _ u0)) (Takes.of_laid hk hord tyP (by rw [Yt.suppType]; exact fits_refV_object _ sen))
    (Takes.of_laid hk hord tyM (by rw [Yt.msgType]; exact fits_refV_object _ ⟨msg, hmsg⟩)) Yt.objLocals hskip htr [] hd6
    (by simp only [List.length_cons, hlen]; omega) (by simp only [List.length_cons, hlen]; exact hRlocals)
  obtain ⟨hwalk, hrun, hended, hWU, hsame⟩ := X₂.athrowLeaves hexec (g := { g with stack := .ref a :: rest, pc := g.pc + 3 }) hg hlocked hentered hout (a := a) (rest := rest) rfl hd9
  have hlt : a < ((W.setVm vm₁).setVm vm₂).heap.size := (Array.getElem?_eq_some_iff.mp hcell).1
  have hU := heapAt_setCell_self (s := (W.setVm vm₁).setVm vm₂) (plainBareV T.toThrowableT (freshCell P1.m.cls kX) a u0 sen msg) hlt
  refine ⟨_, st1 _ (fun acts => ?_), hrun, hended, hWU, hsame.weaken (fun y hy hlt' => ?_) (Nat.le_refl _) (Nat.le_refl _), _, hU, rfl, hfound⟩
  · rw [doInvoke_state]
    exact st2 _ hwalk
  · rcases List.mem_append.mp hy with h1 | h1
    · exact h1
    · exfalso
      have hb : y.base = a := by
        simp only [List.mem_cons, List.not_mem_nil, or_false] at h1
        rcases h1 with rfl | rfl | rfl | rfl | rfl <;> rfl
      rw [hb] at hlt'
      exact Nat.not_lt.mpr hnew hlt'
end ZX
end
section
section ZX2
variable {p : Program} {l : Launch} {e : Env} {R : Room} {s : State} {m : MethodId} {args : Array Value} {below : List Frame} {meth : Method} {c : Code} {H : Heap} {locs : List Loc} {cells slots : Nat} {free : Addr → Prop} {ls : Array Slot} {rest : List Value} {Qc : Array Value → State → Outcome → State → Prop} {XC : String → State → State → Prop}
set_option maxHeartbeats 2000000 in
/-- new X("text"), thrown; follows the kit's vx_throwSW -/
theorem zi_throwSW {cc : ByteArray} {pc : Nat} (hexec : p.tables.exec = Jvm.exec) (hb : c.code = cc) (hl : l.stackTraces = false) {own cls Y text : String} {r : List String} {ik is ic ix mc ms sa : Nat} {bs : ByteArray} {A : Nat → Prop}
    (b0 : decode bs 0 = .ok (.aload_n 0, 1)) (b1 : decode bs 1 = .ok (.aload_n 1, 1)) (b2 : decode bs 2 = .ok (.invokespecial ix, 3)) (b5 : decode bs 5 = .ok (.return_, 1))
    (hown : s.vm.findClass own = some m.cls) (hcls : Bundle.fit cls = true) (hY : Bundle.fit Y = true) (hr : ∀ n ∈ r, Bundle.fit n = true)
    (hk : (Cond.classLink own ik cls).before args s = true) (hini : (Cond.initialized cls).before args s = true) (hstr : vk_R own is text sa s) (hat : ∀ w ∈ (zi_own own ic cls ix bs Y r).filter vx_no, w.before args s = true)
    (hgood : ∀ w ∈ Cond.classLink own ik cls :: Cond.initialized cls :: (zi_own own ic cls ix bs Y r).filter vx_no, vx_ot w = true)
    (hU : vx_Zq Bundle.tN "UNASSIGNED_STACK" Bundle.steD A s s.heap) (hN : vx_Zq Bundle.tN "SUPPRESSED_SENTINEL" Bundle.listD A s s.heap) (hS : va_S A s.heap H locs) (hsize : ls.size = c.maxLocals)
    (d0 : decode cc pc = .ok (.new ik, 3)) (d3 : decode cc (pc + 3) = .ok (.dup, 1)) (d4 : decode cc (pc + 4) = .ok (.ldc_w is, 3)) (d7 : decode cc (pc + 7) = .ok (.invokespecial ic, 3)) (d10 : decode cc (pc + 10) = .ok (.athrow, 1))
    (hout : ∀ x ∈ c.exceptionTable.toList, covers x (pc + 10) = false)
    (hRframes : r.length + 4 < R.frames) (hRlocals : (rest.map fun v => v.category).sum + (13 * (r.length + 2) + 43) ≤ R.locals) (hRcells : cells + 1 ≤ R.cells) (hRslots : slots + 6 ≤ R.slots) (hlocks : meth.locks = false)
    (hx : ∀ t : State, s.vm.Alike t.vm → H.size ≤ t.heap.size → (∀ q : Nat, q < H.size → t.heap[q]? = H[q]?) → XC cls s t)
    (hf : ∀ z ∈ locs, free z.base) (hc : cells + 1 ≤ mc) (hs : slots + 6 ≤ ms) :
    W p l e R s m args below meth c H locs cells slots (vx_MQ below Qc XC args s mc ms free) (F0 m pc ls rest) := by
  intro T hT X
  have htr : e.platform.stackTraces = false := (show e.platform.stackTraces = l.stackTraces by rw [X.admits.platform]).trans hl
  have Y0 := vx_rebase X (R' := { frames := R.frames, locals := R.locals, cells := 1, slots := 6 }) (Nat.le_refl _) (Nat.le_refl _) hRcells hRslots
  obtain ⟨s', hA⟩ : ∃ z, z = (T.setVm s.vm).setFrames (.invoking m args :: below) := ⟨_, rfl⟩
  rw [← hA] at Y0
  have hvm : s'.vm = s.vm := by rw [hA]; rfl
  have hhp : s'.heap = H := by rw [hA]; exact hT
  have hW0 : s.WarmedH s'.vm := by rw [hvm]; exact State.WarmedH.refl s
  have hat' : ∀ w ∈ (zi_own own ic cls ix bs Y r).filter vx_no, w.before args s' = true := fun w hw => vx_ot_at hW0 hvm.symm (hgood w (List.mem_cons_of_mem _ (List.mem_cons_of_mem _ hw))) (hat w hw)
  have hk' : (Cond.classLink own ik cls).before args s' = true := vx_ot_at hW0 hvm.symm (hgood _ List.mem_cons_self) hk
  have hini' : (Cond.initialized cls).before args s' = true := vx_ot_at hW0 hvm.symm (hgood _ (List.mem_cons_of_mem _ List.mem_cons_self)) hini
  have hU' : vx_Zq Bundle.tN "UNASSIGNED_STACK" Bundle.steD A s' s'.heap := by rw [hhp]; exact vx_Zq.moved hW0.alike (hU.kept hS.2.1)
  have hN' : vx_Zq Bundle.tN "SUPPRESSED_SENTINEL" Bundle.listD A s' s'.heap := by rw [hhp]; exact vx_Zq.moved hW0.alike (hN.kept hS.2.1)
  have h : ∀ w ∈ zi_own own ic cls ix bs Y r, w.before args s' = true := vx_own hat' (vx_isRefq hU'.1) (vx_isRefq hN'.1) hU'.2.word hN'.2.word
  have hown' : s'.vm.findClass own = some m.cls := by rw [hvm]; exact hown
  have hins : (Cond.instantiable cls 6).before args s' = true := h _ (by simp [zi_own])
  obtain ⟨vm₁, cX, kX, hfX, hkX, -, -, X₁, st1⟩ := Y0.newCold hexec (own := own) (C := cls) (index := ik) (n := 6) hown' hk' hins hini'
    (g := F0 m pc ls rest) rfl (by rw [hb]; exact d0) (Nat.le_refl _) (Nat.le_refl _)
  generalize hT1 : (T.setVm vm₁).pushCell { cls := cX, slots := kX.instanceTypes.map defaultValue, vm := .none } = T1 at X₁ st1
  have hcat : (Value.ref T.heap.size).category = 1 := rfl
  have hcellA : T1.heap[T.heap.size]? = some (freshCell cX kX) := by rw [← hT1]; exact State.heap_pushCell_size _ _
  have d3' : decode c.code (pc + 3) = .ok (.dup, 1) := by rw [hb]; exact d3
  have d4' : decode c.code (pc + 4) = .ok (.ldc_w is, 3) := by rw [hb]; exact d4
  have hstr' : vk_R own is text sa s' := vk_R.warm hW0 hstr
  obtain ⟨U, hsteps, hrun, hend, hW, hsame, ce, hce, hcv, hcl0⟩ := zi_ctorThrow X₁ hexec htr (own := own) (cls := cls) (ic := ic) b0 b1 b2 b5 hown' hcls hY hr h (fun x hx => nomatch hx) hfX hkX hcellA (by rw [hhp, hT]; exact Nat.le_refl _) (msg := .ref sa) rfl
    (g := { method := m, pc := pc + 7, locals := ls, stack := .ref sa :: .ref T.heap.size :: .ref T.heap.size :: rest, locked := none }) rfl hsize rfl rfl (rest := rest) rfl
    (by rw [hb]; exact d7) (by rw [hb]; exact d10) hout hRframes (by simp only [List.map_cons, List.sum_cons, hcat]; omega) hlocks
  obtain ⟨f1, f2⟩ := vx_frame hsame
  rw [hhp] at f1 f2
  have hWs : s.WarmedH U.vm := State.WarmedH.trans hW0 hW
  have hcl : s.vm.findClass cls = some ce.cls := by
    rw [hvm] at hcl0
    exact hcl0
  have hall : s.sameButNew ({ U with vm := s.vm } : State) locs mc ms := by
    subst hA
    obtain ⟨e1, e2⟩ := hsame
    rw [State.setFrames_setFrames] at e1
    have h2 : (T.setVm s.vm).sameButNew ({ U with vm := s.vm } : State) [] (0 + 1) (0 + 6) := ⟨e1, e2⟩
    have h3 := X.same.trans h2
    rw [List.append_nil] at h3
    exact h3.mono hc hs
  refine ⟨U, ?_, .threw T.heap.size, hrun, hend, Or.inr ⟨T.heap.size, rfl, cls, ce, locs, hx U hWs.alike f1 (fun q hq => f2 q hq (fun z hz => nomatch hz)), hce, hcv, hcl, hWs, hall, hf⟩⟩
  refine st1 _ ?_
  show Steps p.tables e below (T1.setTop { method := m, pc := pc + 3, locals := ls, stack := .ref T.heap.size :: rest, locked := none }) _
  jvm_step X₁.here [X₁.here.top, hexec, d3', Value.category]
  exact X₁.ldcStringW hexec (own := own) (text := text) (index := is) (a := sa) hown' hstr'.1 hstr'.2
    (g := { method := m, pc := pc + 4, locals := ls, stack := .ref T.heap.size :: .ref T.heap.size :: rest, locked := none }) rfl d4' _ hsteps
end ZX2
def zi_NS : String := "java/util/NoSuchElementException"
def zi_at13 : List Cond := (zi_own "AgreeTold" 345 zi_NS 13 prog_31_method_4_code "java/lang/RuntimeException" ["java/lang/Exception"]).filter vx_no
end
section
theorem zt_m0 : (Cond.declares (Bundle.initS "java/lang/RuntimeException")) ∈ lw_tbl := by decide +kernel
theorem zt_g0 : goodWord (.declares (Bundle.initS "java/lang/RuntimeException")) = true := by decide +kernel
theorem zt_m1 : (Cond.superclass Bundle.tN "java/lang/Object") ∈ lw_tbl := by decide +kernel
theorem zt_g1 : goodWord (.superclass Bundle.tN "java/lang/Object") = true := by decide +kernel
theorem zt_m2 : (Cond.codeSync Bundle.tFill Bundle.Fill.code 1 (some (.object Bundle.tN))) ∈ lw_tbl := by decide +kernel
theorem zt_g2 : goodWord (.codeSync Bundle.tFill Bundle.Fill.code 1 (some (.object Bundle.tN))) = true := by decide +kernel
theorem zt_m3 : (Cond.native Bundle.tFill0) ∈ lw_tbl := by decide +kernel
theorem zt_g3 : goodWord (.native Bundle.tFill0) = true := by decide +kernel
theorem zt_m4 : (Cond.instanceMethod Bundle.tFill) ∈ lw_tbl := by decide +kernel
theorem zt_g4 : goodWord (.instanceMethod Bundle.tFill) = true := by decide +kernel
theorem zt_m5 : (Cond.selects zi_NS Bundle.tFill0 Bundle.tFill0) ∈ lw_tbl := by decide +kernel
theorem zt_g5 : goodWord (.selects zi_NS Bundle.tFill0 Bundle.tFill0) = true := by decide +kernel
theorem zt_m6 : (Cond.selects zi_NS Bundle.tFill Bundle.tFill) ∈ lw_tbl := by decide +kernel
theorem zt_g6 : goodWord (.selects zi_NS Bundle.tFill Bundle.tFill) = true := by decide +kernel
theorem zt_m7 : (Cond.lays zi_NS Bundle.tN "backtrace" "Ljava/lang/Object;") ∈ lw_tbl := by decide +kernel
theorem zt_g7 : goodWord (.lays zi_NS Bundle.tN "backtrace" "Ljava/lang/Object;") = true := by decide +kernel
theorem zt_m8 : (Cond.code (Bundle.initS zi_NS) prog_31_method_4_code 2 none) ∈ lw_tbl := by decide +kernel
theorem zt_g8 : goodWord (.code (Bundle.initS zi_NS) prog_31_method_4_code 2 none) = true := by decide +kernel
theorem zt_m9 : (Cond.code (Bundle.initS Bundle.tN) Bundle.InitS.code 2 none) ∈ lw_tbl := by decide +kernel
theorem zt_g9 : goodWord (.code (Bundle.initS Bundle.tN) Bundle.InitS.code 2 none) = true := by decide +kernel
theorem zt_m10 : (Cond.code Bundle.tInit0 Bundle.Init0.code 1 none) ∈ lw_tbl := by decide +kernel
theorem zt_g10 : goodWord (.code Bundle.tInit0 Bundle.Init0.code 1 none) = true := by decide +kernel
theorem zt_m11 : (Cond.fieldLink Bundle.tN 13 Bundle.tN "UNASSIGNED_STACK" Bundle.steD) ∈ lw_tbl := by decide +kernel
theorem zt_g11 : goodWord (.fieldLink Bundle.tN 13 Bundle.tN "UNASSIGNED_STACK" Bundle.steD) = true := by decide +kernel
theorem zt_m12 : (Cond.declares (Bundle.initS Bundle.tN)) ∈ lw_tbl := by decide +kernel
theorem zt_g12 : goodWord (.declares (Bundle.initS Bundle.tN)) = true := by decide +kernel
theorem zt_m13 : (Cond.code (Bundle.initS "java/lang/RuntimeException") Bundle.six 2 none) ∈ lw_tbl := by decide +kernel
theorem zt_g13 : goodWord (.code (Bundle.initS "java/lang/RuntimeException") Bundle.six 2 none) = true := by decide +kernel
theorem zt_m14 : (Cond.methodLink "java/lang/RuntimeException" 7 (Bundle.initS "java/lang/Exception")) ∈ lw_tbl := by decide +kernel
theorem zt_g14 : goodWord (.methodLink "java/lang/RuntimeException" 7 (Bundle.initS "java/lang/Exception")) = true := by decide +kernel
theorem zt_m15 : (Cond.methodLink "java/lang/Exception" 7 (Bundle.initS Bundle.tN)) ∈ lw_tbl := by decide +kernel
theorem zt_g15 : goodWord (.methodLink "java/lang/Exception" 7 (Bundle.initS Bundle.tN)) = true := by decide +kernel
theorem zt_m16 : (Cond.instantiable zi_NS 6) ∈ lw_tbl := by decide +kernel
theorem zt_g16 : goodWord (.instantiable zi_NS 6) = true := by decide +kernel
end
