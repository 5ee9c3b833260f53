-- ===== PART A: goes FIRST, ahead of the names: the tables' words, and 'selects' of the private methods out of them =====
/-- a private method of a class that the tables say can be made, by its rows of tables_1 -/
def lw_okq (q : MethodName × Nat) : Prop := (q.1.cls ≠ "java/lang/invoke/MethodHandle" ∧ q.1.cls ≠ "java/lang/invoke/VarHandle") ∧ Cond.instantiable q.1.cls q.2 ∈ tables_1 ∧ Cond.privateMethod q.1 ∈ tables_1 ∧ Cond.instanceMethod q.1 ∈ tables_1
theorem lw_p0 : lw_okq (⟨"java/util/ArrayList", "add", "(Ljava/lang/Object;[Ljava/lang/Object;I)V"⟩, 3) := ⟨⟨by decide +kernel, by decide +kernel⟩, List.mem_of_getElem? (i := 27) (by decide +kernel), List.mem_of_getElem? (i := 256) (by decide +kernel), List.mem_of_getElem? (i := 257) (by decide +kernel)⟩
theorem lw_p1 : lw_okq (⟨"java/util/ArrayList", "grow", "()[Ljava/lang/Object;"⟩, 3) := ⟨⟨by decide +kernel, by decide +kernel⟩, List.mem_of_getElem? (i := 27) (by decide +kernel), List.mem_of_getElem? (i := 260) (by decide +kernel), List.mem_of_getElem? (i := 261) (by decide +kernel)⟩
theorem lw_p2 : lw_okq (⟨"java/util/ArrayList", "grow", "(I)[Ljava/lang/Object;"⟩, 3) := ⟨⟨by decide +kernel, by decide +kernel⟩, List.mem_of_getElem? (i := 27) (by decide +kernel), List.mem_of_getElem? (i := 264) (by decide +kernel), List.mem_of_getElem? (i := 265) (by decide +kernel)⟩
theorem lw_p3 : lw_okq (⟨"JettisonDesk", "voyageAt", "(I)LJettisonDesk$Voyage;"⟩, 2) := ⟨⟨by decide +kernel, by decide +kernel⟩, List.mem_of_getElem? (i := 19) (by decide +kernel), List.mem_of_getElem? (i := 312) (by decide +kernel), List.mem_of_getElem? (i := 313) (by decide +kernel)⟩
theorem lw_p4 : lw_okq (⟨"JettisonDesk$Voyage", "takesEvents", "()Z"⟩, 12) := ⟨⟨by decide +kernel, by decide +kernel⟩, List.mem_of_getElem? (i := 118) (by decide +kernel), List.mem_of_getElem? (i := 339) (by decide +kernel), List.mem_of_getElem? (i := 340) (by decide +kernel)⟩
theorem lw_p5 : lw_okq (⟨"JettisonDesk$Voyage", "note", "(I)V"⟩, 12) := ⟨⟨by decide +kernel, by decide +kernel⟩, List.mem_of_getElem? (i := 118) (by decide +kernel), List.mem_of_getElem? (i := 354) (by decide +kernel), List.mem_of_getElem? (i := 355) (by decide +kernel)⟩
theorem lw_p6 : lw_okq (⟨"JettisonDesk$Voyage", "noteTouching", "(IIII)V"⟩, 12) := ⟨⟨by decide +kernel, by decide +kernel⟩, List.mem_of_getElem? (i := 118) (by decide +kernel), List.mem_of_getElem? (i := 358) (by decide +kernel), List.mem_of_getElem? (i := 359) (by decide +kernel)⟩
theorem lw_p7 : lw_okq (⟨"JettisonDesk$Voyage", "adjustIfEnded", "()V"⟩, 12) := ⟨⟨by decide +kernel, by decide +kernel⟩, List.mem_of_getElem? (i := 118) (by decide +kernel), List.mem_of_getElem? (i := 401) (by decide +kernel), List.mem_of_getElem? (i := 402) (by decide +kernel)⟩
theorem lw_p8 : lw_okq (⟨"JettisonDesk$Adjuster", "divide", "(I[II[I)V"⟩, 8) := ⟨⟨by decide +kernel, by decide +kernel⟩, List.mem_of_getElem? (i := 53) (by decide +kernel), List.mem_of_getElem? (i := 422) (by decide +kernel), List.mem_of_getElem? (i := 423) (by decide +kernel)⟩
theorem lw_p9 : lw_okq (⟨"JettisonDesk$Settlement", "addAct", "(Ljava/util/List;LJettisonDesk$Act;)V"⟩, 6) := ⟨⟨by decide +kernel, by decide +kernel⟩, List.mem_of_getElem? (i := 126) (by decide +kernel), List.mem_of_getElem? (i := 447) (by decide +kernel), List.mem_of_getElem? (i := 448) (by decide +kernel)⟩
theorem lw_p10 : lw_okq (⟨"JettisonDesk$Settlement", "pay", "()V"⟩, 6) := ⟨⟨by decide +kernel, by decide +kernel⟩, List.mem_of_getElem? (i := 126) (by decide +kernel), List.mem_of_getElem? (i := 453) (by decide +kernel), List.mem_of_getElem? (i := 454) (by decide +kernel)⟩
theorem lw_p11 : lw_okq (⟨"JettisonDesk$Settlement", "ownerOfLeast", "()I"⟩, 6) := ⟨⟨by decide +kernel, by decide +kernel⟩, List.mem_of_getElem? (i := 126) (by decide +kernel), List.mem_of_getElem? (i := 458) (by decide +kernel), List.mem_of_getElem? (i := 459) (by decide +kernel)⟩
theorem lw_p12 : lw_okq (⟨"JettisonDesk$Settlement", "ownerOfGreatest", "()I"⟩, 6) := ⟨⟨by decide +kernel, by decide +kernel⟩, List.mem_of_getElem? (i := 126) (by decide +kernel), List.mem_of_getElem? (i := 462) (by decide +kernel), List.mem_of_getElem? (i := 463) (by decide +kernel)⟩
theorem lw_p13 : lw_okq (⟨"JettisonDesk$Voyage", "canTake", "(LJettisonDesk$Interest;I)Z"⟩, 12) := ⟨⟨by decide +kernel, by decide +kernel⟩, List.mem_of_getElem? (i := 118) (by decide +kernel), List.mem_of_getElem? (i := 562) (by decide +kernel), List.mem_of_getElem? (i := 563) (by decide +kernel)⟩
theorem lw_p14 : lw_okq (⟨"JettisonDesk$Voyage", "take", "(II)I"⟩, 12) := ⟨⟨by decide +kernel, by decide +kernel⟩, List.mem_of_getElem? (i := 118) (by decide +kernel), List.mem_of_getElem? (i := 570) (by decide +kernel), List.mem_of_getElem? (i := 571) (by decide +kernel)⟩
theorem lw_p15 : lw_okq (⟨"JettisonDesk$Voyage", "freightOf", "(I)LJettisonDesk$Interest;"⟩, 12) := ⟨⟨by decide +kernel, by decide +kernel⟩, List.mem_of_getElem? (i := 118) (by decide +kernel), List.mem_of_getElem? (i := 574) (by decide +kernel), List.mem_of_getElem? (i := 575) (by decide +kernel)⟩
def lw_privs_1 : List (MethodName × Nat) := [(⟨"java/util/ArrayList", "add", "(Ljava/lang/Object;[Ljava/lang/Object;I)V"⟩, 3), (⟨"java/util/ArrayList", "grow", "()[Ljava/lang/Object;"⟩, 3), (⟨"java/util/ArrayList", "grow", "(I)[Ljava/lang/Object;"⟩, 3), (⟨"JettisonDesk", "voyageAt", "(I)LJettisonDesk$Voyage;"⟩, 2), (⟨"JettisonDesk$Voyage", "takesEvents", "()Z"⟩, 12), (⟨"JettisonDesk$Voyage", "note", "(I)V"⟩, 12), (⟨"JettisonDesk$Voyage", "noteTouching", "(IIII)V"⟩, 12), (⟨"JettisonDesk$Voyage", "adjustIfEnded", "()V"⟩, 12), (⟨"JettisonDesk$Adjuster", "divide", "(I[II[I)V"⟩, 8), (⟨"JettisonDesk$Settlement", "addAct", "(Ljava/util/List;LJettisonDesk$Act;)V"⟩, 6), (⟨"JettisonDesk$Settlement", "pay", "()V"⟩, 6), (⟨"JettisonDesk$Settlement", "ownerOfLeast", "()I"⟩, 6), (⟨"JettisonDesk$Settlement", "ownerOfGreatest", "()I"⟩, 6), (⟨"JettisonDesk$Voyage", "canTake", "(LJettisonDesk$Interest;I)Z"⟩, 12), (⟨"JettisonDesk$Voyage", "take", "(II)I"⟩, 12), (⟨"JettisonDesk$Voyage", "freightOf", "(I)LJettisonDesk$Interest;"⟩, 12)]
theorem lw_r1 : ∀ q ∈ lw_privs_1, lw_okq q := List.forall_mem_cons.mpr ⟨lw_p0, List.forall_mem_cons.mpr ⟨lw_p1, List.forall_mem_cons.mpr ⟨lw_p2, List.forall_mem_cons.mpr ⟨lw_p3, List.forall_mem_cons.mpr ⟨lw_p4, List.forall_mem_cons.mpr ⟨lw_p5, List.forall_mem_cons.mpr ⟨lw_p6, List.forall_mem_cons.mpr ⟨lw_p7, List.forall_mem_cons.mpr ⟨lw_p8, List.forall_mem_cons.mpr ⟨lw_p9, List.forall_mem_cons.mpr ⟨lw_p10, List.forall_mem_cons.mpr ⟨lw_p11, List.forall_mem_cons.mpr ⟨lw_p12, List.forall_mem_cons.mpr ⟨lw_p13, List.forall_mem_cons.mpr ⟨lw_p14, List.forall_mem_cons.mpr ⟨lw_p15, fun _ h => absurd h List.not_mem_nil⟩⟩⟩⟩⟩⟩⟩⟩⟩⟩⟩⟩⟩⟩⟩⟩
theorem lw_p16 : lw_okq (⟨"java/util/ArrayList", "fastRemove", "([Ljava/lang/Object;I)V"⟩, 3) := ⟨⟨by decide +kernel, by decide +kernel⟩, List.mem_of_getElem? (i := 27) (by decide +kernel), List.mem_of_getElem? (i := 648) (by decide +kernel), List.mem_of_getElem? (i := 649) (by decide +kernel)⟩
theorem lw_p17 : lw_okq (⟨"JettisonDesk$Voyage", "unload", "()V"⟩, 12) := ⟨⟨by decide +kernel, by decide +kernel⟩, List.mem_of_getElem? (i := 118) (by decide +kernel), List.mem_of_getElem? (i := 653) (by decide +kernel), List.mem_of_getElem? (i := 654) (by decide +kernel)⟩
theorem lw_p18 : lw_okq (⟨"JettisonDesk$Voyage", "removeLastInterest", "()LJettisonDesk$Interest;"⟩, 12) := ⟨⟨by decide +kernel, by decide +kernel⟩, List.mem_of_getElem? (i := 118) (by decide +kernel), List.mem_of_getElem? (i := 657) (by decide +kernel), List.mem_of_getElem? (i := 658) (by decide +kernel)⟩
theorem lw_p19 : lw_okq (⟨"JettisonDesk$Voyage", "moveBack", "()V"⟩, 12) := ⟨⟨by decide +kernel, by decide +kernel⟩, List.mem_of_getElem? (i := 118) (by decide +kernel), List.mem_of_getElem? (i := 661) (by decide +kernel), List.mem_of_getElem? (i := 662) (by decide +kernel)⟩
theorem lw_p20 : lw_okq (⟨"JettisonDesk$Voyage", "forgetAct", "()V"⟩, 12) := ⟨⟨by decide +kernel, by decide +kernel⟩, List.mem_of_getElem? (i := 118) (by decide +kernel), List.mem_of_getElem? (i := 665) (by decide +kernel), List.mem_of_getElem? (i := 666) (by decide +kernel)⟩
theorem lw_p21 : lw_okq (⟨"JettisonDesk$Voyage", "ungive", "(LJettisonDesk$Event;)V"⟩, 12) := ⟨⟨by decide +kernel, by decide +kernel⟩, List.mem_of_getElem? (i := 118) (by decide +kernel), List.mem_of_getElem? (i := 669) (by decide +kernel), List.mem_of_getElem? (i := 670) (by decide +kernel)⟩
theorem lw_p22 : lw_okq (⟨"JettisonDesk$Voyage", "putBack", "(LJettisonDesk$Event;)V"⟩, 12) := ⟨⟨by decide +kernel, by decide +kernel⟩, List.mem_of_getElem? (i := 118) (by decide +kernel), List.mem_of_getElem? (i := 673) (by decide +kernel), List.mem_of_getElem? (i := 674) (by decide +kernel)⟩
theorem lw_p23 : lw_okq (⟨"JettisonDesk$Voyage", "unspend", "(LJettisonDesk$Event;)V"⟩, 12) := ⟨⟨by decide +kernel, by decide +kernel⟩, List.mem_of_getElem? (i := 118) (by decide +kernel), List.mem_of_getElem? (i := 677) (by decide +kernel), List.mem_of_getElem? (i := 678) (by decide +kernel)⟩
theorem lw_p24 : lw_okq (⟨"JettisonDesk$Voyage", "unwreck", "()V"⟩, 12) := ⟨⟨by decide +kernel, by decide +kernel⟩, List.mem_of_getElem? (i := 118) (by decide +kernel), List.mem_of_getElem? (i := 681) (by decide +kernel), List.mem_of_getElem? (i := 682) (by decide +kernel)⟩
theorem lw_p25 : lw_okq (⟨"JettisonDesk", "endedVoyageAt", "(I)LJettisonDesk$Voyage;"⟩, 2) := ⟨⟨by decide +kernel, by decide +kernel⟩, List.mem_of_getElem? (i := 19) (by decide +kernel), List.mem_of_getElem? (i := 712) (by decide +kernel), List.mem_of_getElem? (i := 713) (by decide +kernel)⟩
theorem lw_p26 : lw_okq (⟨"JettisonDeskModel", "isVoyage", "(I)Z"⟩, 42) := ⟨⟨by decide +kernel, by decide +kernel⟩, List.mem_of_getElem? (i := 740) (by decide +kernel), List.mem_of_getElem? (i := 891) (by decide +kernel), List.mem_of_getElem? (i := 892) (by decide +kernel)⟩
theorem lw_p27 : lw_okq (⟨"JettisonDeskModel", "event", "(IIIIIIII)I"⟩, 42) := ⟨⟨by decide +kernel, by decide +kernel⟩, List.mem_of_getElem? (i := 740) (by decide +kernel), List.mem_of_getElem? (i := 895) (by decide +kernel), List.mem_of_getElem? (i := 896) (by decide +kernel)⟩
theorem lw_p28 : lw_okq (⟨"JettisonDeskModel", "go", "(I)V"⟩, 42) := ⟨⟨by decide +kernel, by decide +kernel⟩, List.mem_of_getElem? (i := 740) (by decide +kernel), List.mem_of_getElem? (i := 899) (by decide +kernel), List.mem_of_getElem? (i := 900) (by decide +kernel)⟩
theorem lw_p29 : lw_okq (⟨"JettisonDeskModel", "comes", "(IIIII)I"⟩, 42) := ⟨⟨by decide +kernel, by decide +kernel⟩, List.mem_of_getElem? (i := 740) (by decide +kernel), List.mem_of_getElem? (i := 903) (by decide +kernel), List.mem_of_getElem? (i := 904) (by decide +kernel)⟩
theorem lw_p30 : lw_okq (⟨"JettisonDeskModel", "does", "(IIIIIII)I"⟩, 42) := ⟨⟨by decide +kernel, by decide +kernel⟩, List.mem_of_getElem? (i := 740) (by decide +kernel), List.mem_of_getElem? (i := 907) (by decide +kernel), List.mem_of_getElem? (i := 908) (by decide +kernel)⟩
theorem lw_p31 : lw_okq (⟨"JettisonDeskModel", "loads", "(IIIIII)I"⟩, 42) := ⟨⟨by decide +kernel, by decide +kernel⟩, List.mem_of_getElem? (i := 740) (by decide +kernel), List.mem_of_getElem? (i := 911) (by decide +kernel), List.mem_of_getElem? (i := 912) (by decide +kernel)⟩
def lw_privs_2 : List (MethodName × Nat) := [(⟨"java/util/ArrayList", "fastRemove", "([Ljava/lang/Object;I)V"⟩, 3), (⟨"JettisonDesk$Voyage", "unload", "()V"⟩, 12), (⟨"JettisonDesk$Voyage", "removeLastInterest", "()LJettisonDesk$Interest;"⟩, 12), (⟨"JettisonDesk$Voyage", "moveBack", "()V"⟩, 12), (⟨"JettisonDesk$Voyage", "forgetAct", "()V"⟩, 12), (⟨"JettisonDesk$Voyage", "ungive", "(LJettisonDesk$Event;)V"⟩, 12), (⟨"JettisonDesk$Voyage", "putBack", "(LJettisonDesk$Event;)V"⟩, 12), (⟨"JettisonDesk$Voyage", "unspend", "(LJettisonDesk$Event;)V"⟩, 12), (⟨"JettisonDesk$Voyage", "unwreck", "()V"⟩, 12), (⟨"JettisonDesk", "endedVoyageAt", "(I)LJettisonDesk$Voyage;"⟩, 2), (⟨"JettisonDeskModel", "isVoyage", "(I)Z"⟩, 42), (⟨"JettisonDeskModel", "event", "(IIIIIIII)I"⟩, 42), (⟨"JettisonDeskModel", "go", "(I)V"⟩, 42), (⟨"JettisonDeskModel", "comes", "(IIIII)I"⟩, 42), (⟨"JettisonDeskModel", "does", "(IIIIIII)I"⟩, 42), (⟨"JettisonDeskModel", "loads", "(IIIIII)I"⟩, 42)]
theorem lw_r2 : ∀ q ∈ lw_privs_2, lw_okq q := List.forall_mem_cons.mpr ⟨lw_p16, List.forall_mem_cons.mpr ⟨lw_p17, List.forall_mem_cons.mpr ⟨lw_p18, List.forall_mem_cons.mpr ⟨lw_p19, List.forall_mem_cons.mpr ⟨lw_p20, List.forall_mem_cons.mpr ⟨lw_p21, List.forall_mem_cons.mpr ⟨lw_p22, List.forall_mem_cons.mpr ⟨lw_p23, List.forall_mem_cons.mpr ⟨lw_p24, List.forall_mem_cons.mpr ⟨lw_p25, List.forall_mem_cons.mpr ⟨lw_p26, List.forall_mem_cons.mpr ⟨lw_p27, List.forall_mem_cons.mpr ⟨lw_p28, List.forall_mem_cons.mpr ⟨lw_p29, List.forall_mem_cons.mpr ⟨lw_p30, List.forall_mem_cons.mpr ⟨lw_p31, fun _ h => absurd h List.not_mem_nil⟩⟩⟩⟩⟩⟩⟩⟩⟩⟩⟩⟩⟩⟩⟩⟩
theorem lw_p32 : lw_okq (⟨"JettisonDeskModel", "moves", "()I"⟩, 42) := ⟨⟨by decide +kernel, by decide +kernel⟩, List.mem_of_getElem? (i := 740) (by decide +kernel), List.mem_of_getElem? (i := 915) (by decide +kernel), List.mem_of_getElem? (i := 916) (by decide +kernel)⟩
theorem lw_p33 : lw_okq (⟨"JettisonDeskModel", "acts", "()I"⟩, 42) := ⟨⟨by decide +kernel, by decide +kernel⟩, List.mem_of_getElem? (i := 740) (by decide +kernel), List.mem_of_getElem? (i := 919) (by decide +kernel), List.mem_of_getElem? (i := 920) (by decide +kernel)⟩
theorem lw_p34 : lw_okq (⟨"JettisonDeskModel", "gives", "(II)I"⟩, 42) := ⟨⟨by decide +kernel, by decide +kernel⟩, List.mem_of_getElem? (i := 740) (by decide +kernel), List.mem_of_getElem? (i := 923) (by decide +kernel), List.mem_of_getElem? (i := 924) (by decide +kernel)⟩
theorem lw_p35 : lw_okq (⟨"JettisonDeskModel", "canBeTaken", "(II)Z"⟩, 42) := ⟨⟨by decide +kernel, by decide +kernel⟩, List.mem_of_getElem? (i := 740) (by decide +kernel), List.mem_of_getElem? (i := 927) (by decide +kernel), List.mem_of_getElem? (i := 928) (by decide +kernel)⟩
theorem lw_p36 : lw_okq (⟨"JettisonDeskModel", "takes", "(II)I"⟩, 42) := ⟨⟨by decide +kernel, by decide +kernel⟩, List.mem_of_getElem? (i := 740) (by decide +kernel), List.mem_of_getElem? (i := 931) (by decide +kernel), List.mem_of_getElem? (i := 932) (by decide +kernel)⟩
theorem lw_p37 : lw_okq (⟨"JettisonDeskModel", "spends", "(II)I"⟩, 42) := ⟨⟨by decide +kernel, by decide +kernel⟩, List.mem_of_getElem? (i := 740) (by decide +kernel), List.mem_of_getElem? (i := 935) (by decide +kernel), List.mem_of_getElem? (i := 936) (by decide +kernel)⟩
theorem lw_p38 : lw_okq (⟨"JettisonDeskModel", "loses", "(II)I"⟩, 42) := ⟨⟨by decide +kernel, by decide +kernel⟩, List.mem_of_getElem? (i := 740) (by decide +kernel), List.mem_of_getElem? (i := 939) (by decide +kernel), List.mem_of_getElem? (i := 940) (by decide +kernel)⟩
theorem lw_p39 : lw_okq (⟨"JettisonDeskModel", "isLost", "()I"⟩, 42) := ⟨⟨by decide +kernel, by decide +kernel⟩, List.mem_of_getElem? (i := 740) (by decide +kernel), List.mem_of_getElem? (i := 943) (by decide +kernel), List.mem_of_getElem? (i := 944) (by decide +kernel)⟩
theorem lw_p40 : lw_okq (⟨"JettisonDeskModel", "adjust", "(I)V"⟩, 42) := ⟨⟨by decide +kernel, by decide +kernel⟩, List.mem_of_getElem? (i := 740) (by decide +kernel), List.mem_of_getElem? (i := 984) (by decide +kernel), List.mem_of_getElem? (i := 985) (by decide +kernel)⟩
theorem lw_p41 : lw_okq (⟨"JettisonDeskModel", "isAct", "(II)Z"⟩, 42) := ⟨⟨by decide +kernel, by decide +kernel⟩, List.mem_of_getElem? (i := 740) (by decide +kernel), List.mem_of_getElem? (i := 999) (by decide +kernel), List.mem_of_getElem? (i := 1000) (by decide +kernel)⟩
theorem lw_p42 : lw_okq (⟨"JettisonDeskModel", "isOver", "(I)Z"⟩, 42) := ⟨⟨by decide +kernel, by decide +kernel⟩, List.mem_of_getElem? (i := 740) (by decide +kernel), List.mem_of_getElem? (i := 1011) (by decide +kernel), List.mem_of_getElem? (i := 1012) (by decide +kernel)⟩
theorem lw_p43 : lw_okq (⟨"JettisonDeskModel", "balance", "()V"⟩, 42) := ⟨⟨by decide +kernel, by decide +kernel⟩, List.mem_of_getElem? (i := 740) (by decide +kernel), List.mem_of_getElem? (i := 1023) (by decide +kernel), List.mem_of_getElem? (i := 1024) (by decide +kernel)⟩
theorem lw_p44 : lw_okq (⟨"JettisonDeskModel", "pay", "()V"⟩, 42) := ⟨⟨by decide +kernel, by decide +kernel⟩, List.mem_of_getElem? (i := 740) (by decide +kernel), List.mem_of_getElem? (i := 1031) (by decide +kernel), List.mem_of_getElem? (i := 1032) (by decide +kernel)⟩
def lw_privs_3 : List (MethodName × Nat) := [(⟨"JettisonDeskModel", "moves", "()I"⟩, 42), (⟨"JettisonDeskModel", "acts", "()I"⟩, 42), (⟨"JettisonDeskModel", "gives", "(II)I"⟩, 42), (⟨"JettisonDeskModel", "canBeTaken", "(II)Z"⟩, 42), (⟨"JettisonDeskModel", "takes", "(II)I"⟩, 42), (⟨"JettisonDeskModel", "spends", "(II)I"⟩, 42), (⟨"JettisonDeskModel", "loses", "(II)I"⟩, 42), (⟨"JettisonDeskModel", "isLost", "()I"⟩, 42), (⟨"JettisonDeskModel", "adjust", "(I)V"⟩, 42), (⟨"JettisonDeskModel", "isAct", "(II)Z"⟩, 42), (⟨"JettisonDeskModel", "isOver", "(I)Z"⟩, 42), (⟨"JettisonDeskModel", "balance", "()V"⟩, 42), (⟨"JettisonDeskModel", "pay", "()V"⟩, 42)]
theorem lw_r3 : ∀ q ∈ lw_privs_3, lw_okq q := List.forall_mem_cons.mpr ⟨lw_p32, List.forall_mem_cons.mpr ⟨lw_p33, List.forall_mem_cons.mpr ⟨lw_p34, List.forall_mem_cons.mpr ⟨lw_p35, List.forall_mem_cons.mpr ⟨lw_p36, List.forall_mem_cons.mpr ⟨lw_p37, List.forall_mem_cons.mpr ⟨lw_p38, List.forall_mem_cons.mpr ⟨lw_p39, List.forall_mem_cons.mpr ⟨lw_p40, List.forall_mem_cons.mpr ⟨lw_p41, List.forall_mem_cons.mpr ⟨lw_p42, List.forall_mem_cons.mpr ⟨lw_p43, List.forall_mem_cons.mpr ⟨lw_p44, fun _ h => absurd h List.not_mem_nil⟩⟩⟩⟩⟩⟩⟩⟩⟩⟩⟩⟩⟩
def lw_privs : List (MethodName × Nat) := lw_privs_1 ++ (lw_privs_2 ++ (lw_privs_3))
def lw_tbl : List Cond := k2_sels lw_privs ++ tables_1
theorem lw_privs_ok : ∀ q ∈ lw_privs, lw_okq q := by
  show ∀ q ∈ lw_privs_1 ++ (lw_privs_2 ++ (lw_privs_3)), lw_okq q
  exact List.forall_mem_append.mpr ⟨lw_r1, List.forall_mem_append.mpr ⟨lw_r2, lw_r3⟩⟩
/-- the tables: an array class over the arrays of t -/
def va_AOA (t : FieldType) (U : State) : Prop := (Cond.arrayOver (.array t)).before #[] U = true
theorem va_AOA.use {t : FieldType} {A : Array Value} {U : State} (h : va_AOA t U) : (Cond.arrayOver (.array t)).before A U = true := h
/-! ===== BEGIN new T[n][m]: the outer array a place, the inner ones among the pooled ===== -/
/-- f, but v at every address of l -/
def vr_up {α : Type} (f : Nat → α) (l : List Nat) (v : α) : Nat → α := fun a => if a ∈ l then v else f a
theorem vr_up_in {α : Type} {f : Nat → α} {l : List Nat} {v : α} {a : Nat} (h : a ∈ l) : vr_up f l v a = v := if_pos h
theorem vr_up_ne {α : Type} {f : Nat → α} {l : List Nat} {v : α} {a : Nat} (h : a ∉ l) : vr_up f l v a = f a := if_neg h
theorem vr_rows {L l : List Nat} {f : Nat → va_E} {e : va_E} (h : ∀ a, a ∈ l → a ∉ L) : va_pl L f ++ l.map (fun a => (a, e)) = va_pl (L ++ l) (vr_up f l e) := by
  unfold va_pl
  rw [List.map_append]
  congr 1
  · apply List.map_congr_left
    intro a ha
    rw [vr_up_ne (fun q => h a q ha)]
  · apply List.map_congr_left
    intro a ha
    rw [vr_up_in ha]
theorem vr_lay {X rows : va_W} {x : Nat × va_E} {pl : va_W} {D : va_G} {cl : List vw_C} {H : Heap} (hP : va_P D cl (((X ++ pl) ++ [x]) ++ rows) H) : va_P D cl ((X ++ [x]) ++ (pl ++ rows)) H := by
  rw [List.append_assoc (X ++ pl)] at hP
  have h := va_P.swap hP
  rw [← List.append_assoc X] at h
  have h2 := va_P.swap h
  rw [List.append_assoc (X ++ [x])] at h2
  exact h2
theorem vr_layD {X rows : va_W} {x : Nat × va_E} {pl : va_W} {A : Nat → Prop} (hD : va_D A (((X ++ pl) ++ [x]) ++ rows)) : va_D A ((X ++ [x]) ++ (pl ++ rows)) := by
  rw [List.append_assoc (X ++ pl)] at hD
  have h := va_D.swap hD
  rw [← List.append_assoc X] at h
  have h2 := va_D.swap h
  rw [List.append_assoc (X ++ [x])] at h2
  exact h2
theorem vr_outer (c : ClassId) (N h0 : Nat) : ∀ i : Nat, Jvm.Free.Multi.outerC c N h0 i = arrV c N (fun j => va_rf (if j < i then some (h0 + 1 + j) else none))
  | 0 => by
    show ({ cls := c, slots := Array.replicate N .null, vm := .none } : Cell) = _
    rw [arrV_new]
    refine congrArg (arrV c N) (funext fun j => ?_)
    simp [va_rf]
  | i + 1 => by
    show (Jvm.Free.Multi.outerC c N h0 i).setSlot i (.ref (h0 + 1 + i)) = _
    rw [vr_outer c N h0 i, arrV_store]
    refine congrArg (arrV c N) (funext fun j => ?_)
    by_cases e : j = i
    · subst e
      simp [updV, va_rf]
    · by_cases h : j < i
      · simp [updV, e, h, Nat.lt_succ_of_lt h]
      · simp [updV, e, h, show ¬ j < i + 1 by omega]
section VGM
variable {p : Program} {l : Launch} {e : Env} {R : Room} {s : State} {m : MethodId} {args : Array Value} {below : List Frame} {meth : Method} {c : Code} {H : Heap} {locs : List Loc} {cells slots : Nat} {Q : State → Prop}
variable {cc : ByteArray} {pc : Nat} {ls : Array Slot} {rest : List Value} {D : va_G} {cl : List vw_C} {A : Nat → Prop} {a : Nat} {tys : List (ClassId × FieldType)} {ws : va_W} {H0 : Heap}
theorem va_mna {X : va_W} {L : List Nat} {f : Nat → va_E} {cc : ByteArray} (hexec : p.tables.exec = Jvm.exec) (hb : c.code = cc) {own : String} {index : Nat} {ty : FieldType} {cy : ClassId} (hown : s.vm.findClass own = some m.cls) (hclink : (Cond.classLink own index ("[" ++ (FieldType.array ty).toString)).before args s = true) (hover : va_AOA ty s) (harr : (Cond.arrayClass ty).before args s = true) (hcy : s.vm.findClass (FieldType.array ty).toString = some cy)
    (hK : va_K D cl tys s) (hP : va_P D cl (X ++ va_pl L f) H) (hD : va_D A (X ++ va_pl L f)) (hS : va_S A H0 H locs) (hA : ∀ q, H0.size ≤ q → A q) {n k : Int32} {N' K' : Nat} {z : vp_A} (hn : ¬ n < 0) (hk : ¬ k < 0) (hN : n.toNatClampNeg = N') (hM : k.toNatClampNeg = K')
    (hb1 : N' * 4 ≤ 536870912) (hb2 : K' * componentBytes ty ≤ 536870912) (hb3 : K' ≤ 536870912) (hdf : fits ty (defaultValue ty) = true) (hdd : (defaultValue ty).isDefault = true) (hcells : cells + (1 + N') ≤ R.cells) (hslots : slots + (N' + N' * K') ≤ R.slots) (hz : ∀ c : ClassId, Jvm.Free.Multi.innerC c K' (defaultValue ty) = vp_cell c z) (hdg : decode cc pc = .ok (.multianewarray index 2, 4))
    (kk : ∀ (q : Nat) (r : Nat → Nat) (cA : ClassId) (H1 : Heap), (∀ i j : Nat, i < N' → j < N' → r i = r j → i = j) → (∀ i : Nat, i < N' → r i ∉ L) → va_K D cl (tys ++ [(cA, .array ty)]) s →
      va_P D cl ((X ++ [(q, .inl (cA, N', .inr (.inr (.inr (.inr (fun i => if i < N' then some (r i) else none))))))]) ++ va_pl (L ++ (List.range N').map r) (vr_up f ((List.range N').map r) (.inl (cy, z)))) H1 → va_D A ((X ++ [(q, .inl (cA, N', .inr (.inr (.inr (.inr (fun i => if i < N' then some (r i) else none))))))]) ++ va_pl (L ++ (List.range N').map r) (vr_up f ((List.range N').map r) (.inl (cy, z)))) → va_S A H0 H1 locs →
      W p l e R s m args below meth c H1 locs (cells + 1 + N') (slots + N' + N' * K') Q (F0 m (pc + 4) ls (.ref q :: rest))) : W p l e R s m args below meth c H locs cells slots Q (F0 m pc ls (.int k :: .int n :: rest)) := by
  subst hN
  subst hM
  intro T hT Xs
  obtain ⟨vm₁, cA, comp, -, fA, fC, hO, -, X', step⟩ := Xs.multianewarray2F hexec hown hclink (va_AOA.use hover) harr (g := F0 m pc ls (.int k :: .int n :: rest)) rfl (by rw [hb]; exact hdg) rfl hn hk hb1 hb2 hb3 hdf hdd hcells hslots
  have ec : some cy = some comp := hcy.symm.trans fC
  cases ec
  generalize hF : Jvm.Free.Multi.fill (T.setVm vm₁) cA cy n.toNatClampNeg k.toNatClampNeg (defaultValue ty) n.toNatClampNeg = F at X' step
  have hTh : (T.setVm vm₁).heap = H := hT
  obtain ⟨f1, f2, -, -⟩ := Jvm.Free.Multi.fill_facts (T.setVm vm₁) cA cy n.toNatClampNeg k.toNatClampNeg (defaultValue ty) n.toNatClampNeg
  rw [hF, hTh] at f1 f2
  have hold : ∀ x : Nat, x < H.size → F.heap[x]? = H[x]? := fun x hx => by
    have := Jvm.Free.Multi.fill_old (T.setVm vm₁) cA cy n.toNatClampNeg k.toNatClampNeg (defaultValue ty) (a := x) (by rw [hTh]; exact hx) n.toNatClampNeg
    rw [hF, hTh] at this
    exact this
  have hrow : ∀ j : Nat, j < n.toNatClampNeg → F.heap[H.size + 1 + j]? = some (vp_cell cy z) := fun j hj => by
    have := Jvm.Free.Multi.fill_inner (T.setVm vm₁) cA cy n.toNatClampNeg k.toNatClampNeg (defaultValue ty) n.toNatClampNeg j hj
    rw [hF, hTh, hz] at this
    exact this
  have hout : Jvm.Free.Multi.outerC cA n.toNatClampNeg H.size n.toNatClampNeg = vp_cell cA (n.toNatClampNeg, .inr (.inr (.inr (.inr (fun i => if i < n.toNatClampNeg then some (H.size + 1 + i) else none))))) := by
    rw [vp_cell_q]
    exact vr_outer cA n.toNatClampNeg H.size n.toNatClampNeg
  rw [hout] at f2
  have hlt : ∀ a, a ∈ L → a < H.size := fun a ha => by
    obtain ⟨k9, hk9⟩ := va_pl_get (X := X) (f := f) ha
    exact (hP k9 _ hk9).lt
  have hnl : ∀ i : Nat, i < n.toNatClampNeg → H.size + 1 + i ∉ L := fun i _ h => by
    have := hlt _ h
    omega
  have hnm : ∀ a, a ∈ (List.range n.toNatClampNeg).map (fun i => H.size + 1 + i) → a ∉ L := fun a ha h => by
    obtain ⟨i, -, rfl⟩ := List.mem_map.mp ha
    have := hlt _ h
    omega
  have hP0 : va_P D cl (X ++ va_pl L f) F.heap := hP.kept (fun k9 x hx => hold x.1 ((hP k9 x hx).lt))
  have hP1 : va_P D cl ((X ++ va_pl L f) ++ [(H.size, .inl (cA, n.toNatClampNeg, .inr (.inr (.inr (.inr (fun i => if i < n.toNatClampNeg then some (H.size + 1 + i) else none))))))]) F.heap := hP0.app (fun k9 x hx => by
    have h0 : k9 < 1 := (List.getElem?_eq_some_iff.mp hx).1
    rw [show k9 = 0 by omega] at hx
    cases hx
    exact f2)
  have hP2 : va_P D cl (((X ++ va_pl L f) ++ [(H.size, .inl (cA, n.toNatClampNeg, .inr (.inr (.inr (.inr (fun i => if i < n.toNatClampNeg then some (H.size + 1 + i) else none))))))]) ++ ((List.range n.toNatClampNeg).map (fun i => H.size + 1 + i)).map (fun a => (a, .inl (cy, z)))) F.heap := hP1.app (fun k9 x hx => by
    obtain ⟨a, ha, rfl⟩ := List.mem_map.mp (List.mem_of_getElem? hx)
    obtain ⟨i, hi, rfl⟩ := List.mem_map.mp ha
    exact hrow i (List.mem_range.mp hi))
  have hD2 : va_D A (((X ++ va_pl L f) ++ [(H.size, .inl (cA, n.toNatClampNeg, .inr (.inr (.inr (.inr (fun i => if i < n.toNatClampNeg then some (H.size + 1 + i) else none))))))]) ++ ((List.range n.toNatClampNeg).map (fun i => H.size + 1 + i)).map (fun a => (a, .inl (cy, z)))) := by
    have hD1 := hD.push (e := .inl (cA, n.toNatClampNeg, .inr (.inr (.inr (.inr (fun i => if i < n.toNatClampNeg then some (H.size + 1 + i) else none)))))) hP rfl (hA _ hS.1)
    generalize hW1 : (X ++ va_pl L f) ++ [(H.size, .inl (cA, n.toNatClampNeg, .inr (.inr (.inr (.inr (fun i => if i < n.toNatClampNeg then some (H.size + 1 + i) else none))))))] = W1 at hD1 hP1 ⊢
    have hle : ∀ (k9 : Nat) (x : Nat × va_E), W1[k9]? = some x → x.1 ≤ H.size := fun k9 x hx => by
      rw [← hW1] at hx
      by_cases hl : k9 < (X ++ va_pl L f).length
      · rw [List.getElem?_append_left hl] at hx
        exact Nat.le_of_lt ((hP k9 x hx).lt)
      · rw [List.getElem?_append_right (by omega)] at hx
        have h0 : k9 - (X ++ va_pl L f).length < 1 := (List.getElem?_eq_some_iff.mp hx).1
        rw [show k9 - (X ++ va_pl L f).length = 0 by omega] at hx
        cases hx
        exact Nat.le_refl _
    have hr : ∀ (k9 : Nat) (x : Nat × va_E), (((List.range n.toNatClampNeg).map (fun i => H.size + 1 + i)).map (fun a => ((a, .inl (cy, z)) : Nat × va_E)))[k9]? = some x → x.1 = H.size + 1 + k9 := fun k9 x hx => by
      rw [List.getElem?_map, List.getElem?_map] at hx
      by_cases h9 : k9 < n.toNatClampNeg
      · rw [List.getElem?_range h9] at hx
        cases hx
        rfl
      · have hn0 : (List.range n.toNatClampNeg)[k9]? = none := List.getElem?_eq_none (by rw [List.length_range]; omega)
        rw [hn0] at hx
        cases hx
    refine ⟨fun i j x y hi hj hxy => ?_, fun k9 x hx => ?_⟩
    · by_cases h1 : i < W1.length <;> by_cases h2 : j < W1.length
      · rw [List.getElem?_append_left h1] at hi
        rw [List.getElem?_append_left h2] at hj
        exact hD1.1 i j x y hi hj hxy
      · rw [List.getElem?_append_left h1] at hi
        rw [List.getElem?_append_right (by omega)] at hj
        have := hle _ _ hi
        have := hr _ _ hj
        omega
      · rw [List.getElem?_append_right (by omega)] at hi
        rw [List.getElem?_append_left h2] at hj
        have := hle _ _ hj
        have := hr _ _ hi
        omega
      · rw [List.getElem?_append_right (by omega)] at hi hj
        have := hr _ _ hi
        have := hr _ _ hj
        omega
    · by_cases h1 : k9 < W1.length
      · rw [List.getElem?_append_left h1] at hx
        exact hD1.2 k9 x hx
      · rw [List.getElem?_append_right (by omega)] at hx
        have := hr _ _ hx
        exact hA _ (by have := hS.1; omega)
  have hAr : ArrOfT s cA (.array ty) := fun N9 z9 => by
    obtain ⟨-, k9, hk9, cm9, hkk9⟩ := (hO 0 0 0).1
    exact ⟨(fun q hq => by cases hq), k9, hk9, cm9, hkk9⟩
  have hK2 : va_K D cl (tys ++ [(cA, .array ty)]) s := ⟨hK.1, fun k9 x hx => by
    by_cases hl : k9 < tys.length
    · rw [List.getElem?_append_left hl] at hx
      exact hK.2 k9 x hx
    · rw [List.getElem?_append_right (by omega)] at hx
      have h0 : k9 - tys.length < 1 := (List.getElem?_eq_some_iff.mp hx).1
      rw [show k9 - tys.length = 0 by omega] at hx
      cases hx
      exact ⟨hAr, fA⟩⟩
  obtain ⟨t, a1, b1⟩ := kk H.size (fun i => H.size + 1 + i) cA F.heap (fun i j _ _ h => by have h9 : H.size + 1 + i = H.size + 1 + j := h; omega) hnl hK2 (by rw [← vr_rows hnm]; exact vr_lay hP2) (by rw [← vr_rows hnm]; exact vr_layD hD2) ⟨by rw [f1]; have := hS.1; omega, fun x h1 h2 => (hold x (Nat.lt_of_lt_of_le h1 hS.1)).trans (hS.2.1 x h1 h2), hS.2.2⟩ F rfl X'
  refine ⟨t, step t ?_, b1⟩
  have e : T.heap.size = H.size := by rw [hT]
  rw [e]
  exact a1
end VGM
/-! ===== END ===== -/
def RX0 : String := "JettisonDesk$Act"
def TX0 : u_T := fun k => match k with
  | 0 => ("JettisonDesk$Act", "atRisk", "[Z", true)
  | 1 => ("JettisonDesk$Act", "taken", "[I", true)
  | 2 => ("JettisonDesk$Act", "made", "[I", true)
  | 3 => ("JettisonDesk$Act", "part", "[I", true)
  | 4 => ("JettisonDesk$Act", "borne", "[I", true)
  | 5 => ("JettisonDesk$Act", "spent", "[I", true)
  | 6 => ("JettisonDesk$Act", "got", "[I", true)
  | 7 => ("JettisonDesk$Act", "allSpent", "I", false)
  | 8 => ("JettisonDesk$Act", "allMade", "I", false)
  | 9 => ("JettisonDesk$Act", "spentMadeGood", "I", false)
  | 10 => ("JettisonDesk$Act", "allBorne", "I", false)
  | _ => ("JettisonDesk$Act", "allParts", "I", false)
def tyX0 : Nat → FieldType := fun k => match k with
  | 0 => .array .boolean
  | 1 => .array .int
  | 2 => .array .int
  | 3 => .array .int
  | 4 => .array .int
  | 5 => .array .int
  | 6 => .array .int
  | 7 => .int
  | 8 => .int
  | 9 => .int
  | 10 => .int
  | _ => .int
abbrev wsX00 : List Cond := u_ws RX0 TX0 12
theorem nmX0 : ∀ a, a < 12 → ∀ b, b < 12 → a ≠ b → (TX0 a).2.1 ≠ (TX0 b).2.1 := by decide +kernel
theorem tyX0_ok : ∀ k, k < 12 → parseFieldDescriptor (TX0 k).2.2.1 = some (tyX0 k) := by decide +kernel
abbrev cX0_init : ByteArray := prog_2_method_1_code
def yX0_init : MethodName := ⟨RX0, "<init>", "()V"⟩
abbrev cX0_addGiving : ByteArray := prog_2_method_2_code
def yX0_addGiving : MethodName := ⟨RX0, "addGiving", "(III)V"⟩
abbrev cX0_addExpense : ByteArray := prog_2_method_3_code
def yX0_addExpense : MethodName := ⟨RX0, "addExpense", "(II)V"⟩
def RX1 : String := "JettisonDesk$Adjuster"
def TX1 : u_T := fun k => match k with
  | 0 => ("JettisonDesk$Adjuster", "has", "[I", true)
  | 1 => ("JettisonDesk$Adjuster", "part", "[I", true)
  | 2 => ("JettisonDesk$Adjuster", "borne", "[I", true)
  | 3 => ("JettisonDesk$Adjuster", "cutOff", "[J", true)
  | 4 => ("JettisonDesk$Adjuster", "places", "I", false)
  | 5 => ("JettisonDesk$Adjuster", "spentMadeGood", "I", false)
  | 6 => ("JettisonDesk$Adjuster", "allBorne", "I", false)
  | _ => ("JettisonDesk$Adjuster", "allParts", "I", false)
def tyX1 : Nat → FieldType := fun k => match k with
  | 0 => .array .int
  | 1 => .array .int
  | 2 => .array .int
  | 3 => .array .long
  | 4 => .int
  | 5 => .int
  | 6 => .int
  | _ => .int
abbrev wsX10 : List Cond := u_ws RX1 TX1 8
theorem nmX1 : ∀ a, a < 8 → ∀ b, b < 8 → a ≠ b → (TX1 a).2.1 ≠ (TX1 b).2.1 := by decide +kernel
theorem tyX1_ok : ∀ k, k < 8 → parseFieldDescriptor (TX1 k).2.2.1 = some (tyX1 k) := by decide +kernel
abbrev cX1_init : ByteArray := prog_3_method_1_code
def yX1_init : MethodName := ⟨RX1, "<init>", "()V"⟩
abbrev cX1_start : ByteArray := prog_3_method_2_code
def yX1_start : MethodName := ⟨RX1, "start", "(Ljava/util/List;)V"⟩
abbrev cX1_adjust : ByteArray := prog_3_method_3_code
def yX1_adjust : MethodName := ⟨RX1, "adjust", "(LJettisonDesk$Act;)V"⟩
abbrev cX1_writeInto : ByteArray := prog_3_method_4_code
def yX1_writeInto : MethodName := ⟨RX1, "writeInto", "(LJettisonDesk$Act;)V"⟩
abbrev cX1_divide : ByteArray := prog_3_method_5_code
def yX1_divide : MethodName := ⟨RX1, "divide", "(I[II[I)V"⟩
abbrev cX1_placeOfMost : ByteArray := prog_3_method_6_code
def yX1_placeOfMost : MethodName := ⟨RX1, "placeOfMost", "([JI)I"⟩
def RX2 : String := "JettisonDesk$Event"
def TX2 : u_T := fun k => match k with
  | 0 => ("JettisonDesk$Event", "kind", "I", true)
  | 1 => ("JettisonDesk$Event", "place", "I", true)
  | 2 => ("JettisonDesk$Event", "n", "I", true)
  | 3 => ("JettisonDesk$Event", "freightTaken", "I", true)
  | _ => ("JettisonDesk$Event", "openBefore", "I", true)
def tyX2 : Nat → FieldType := fun k => match k with
  | 0 => .int
  | 1 => .int
  | 2 => .int
  | 3 => .int
  | _ => .int
abbrev wsX20 : List Cond := u_ws RX2 TX2 5
theorem nmX2 : ∀ a, a < 5 → ∀ b, b < 5 → a ≠ b → (TX2 a).2.1 ≠ (TX2 b).2.1 := by decide +kernel
theorem tyX2_ok : ∀ k, k < 5 → parseFieldDescriptor (TX2 k).2.2.1 = some (tyX2 k) := by decide +kernel
abbrev cX2_init : ByteArray := prog_4_method_1_code
def yX2_init : MethodName := ⟨RX2, "<init>", "(IIIII)V"⟩
def RX3 : String := "JettisonDesk$Interest"
def TX3 : u_T := fun k => match k with
  | 0 => ("JettisonDesk$Interest", "owner", "I", true)
  | 1 => ("JettisonDesk$Interest", "worth", "I", true)
  | 2 => ("JettisonDesk$Interest", "toldWorth", "I", true)
  | 3 => ("JettisonDesk$Interest", "port", "I", true)
  | 4 => ("JettisonDesk$Interest", "lotNumber", "I", true)
  | 5 => ("JettisonDesk$Interest", "terms", "I", true)
  | 6 => ("JettisonDesk$Interest", "left", "I", false)
  | 7 => ("JettisonDesk$Interest", "leftBeforeWreck", "I", false)
  | _ => ("JettisonDesk$Interest", "has", "I", false)
def tyX3 : Nat → FieldType := fun k => match k with
  | 0 => .int
  | 1 => .int
  | 2 => .int
  | 3 => .int
  | 4 => .int
  | 5 => .int
  | 6 => .int
  | 7 => .int
  | _ => .int
abbrev wsX30 : List Cond := u_ws RX3 TX3 9
theorem nmX3 : ∀ a, a < 9 → ∀ b, b < 9 → a ≠ b → (TX3 a).2.1 ≠ (TX3 b).2.1 := by decide +kernel
theorem tyX3_ok : ∀ k, k < 9 → parseFieldDescriptor (TX3 k).2.2.1 = some (tyX3 k) := by decide +kernel
abbrev cX3_init : ByteArray := prog_5_method_1_code
def yX3_init : MethodName := ⟨RX3, "<init>", "(IIIIII)V"⟩
abbrev cX3_isFreight : ByteArray := prog_5_method_2_code
def yX3_isFreight : MethodName := ⟨RX3, "isFreight", "()Z"⟩
abbrev cX3_madeGoodFor : ByteArray := prog_5_method_3_code
def yX3_madeGoodFor : MethodName := ⟨RX3, "madeGoodFor", "(I)I"⟩
abbrev cX3_freightMadeGoodFor : ByteArray := prog_5_method_4_code
def yX3_freightMadeGoodFor : MethodName := ⟨RX3, "freightMadeGoodFor", "(I)I"⟩
def RX4 : String := "JettisonDesk$Settlement"
def TX4 : u_T := fun k => match k with
  | 0 => ("JettisonDesk$Settlement", "balances", "[I", true)
  | 1 => ("JettisonDesk$Settlement", "payers", "[I", true)
  | 2 => ("JettisonDesk$Settlement", "payees", "[I", true)
  | 3 => ("JettisonDesk$Settlement", "amounts", "[I", true)
  | 4 => ("JettisonDesk$Settlement", "paid", "I", false)
  | _ => ("JettisonDesk$Settlement", "open", "[I", true)
def tyX4 : Nat → FieldType := fun k => match k with
  | 0 => .array .int
  | 1 => .array .int
  | 2 => .array .int
  | 3 => .array .int
  | 4 => .int
  | _ => .array .int
abbrev wsX40 : List Cond := u_ws RX4 TX4 6
theorem nmX4 : ∀ a, a < 6 → ∀ b, b < 6 → a ≠ b → (TX4 a).2.1 ≠ (TX4 b).2.1 := by decide +kernel
theorem tyX4_ok : ∀ k, k < 6 → parseFieldDescriptor (TX4 k).2.2.1 = some (tyX4 k) := by decide +kernel
abbrev cX4_init : ByteArray := prog_6_method_1_code
def yX4_init : MethodName := ⟨RX4, "<init>", "()V"⟩
abbrev cX4_settle : ByteArray := prog_6_method_2_code
def yX4_settle : MethodName := ⟨RX4, "settle", "(Ljava/util/List;Ljava/util/List;)V"⟩
abbrev cX4_addAct : ByteArray := prog_6_method_3_code
def yX4_addAct : MethodName := ⟨RX4, "addAct", "(Ljava/util/List;LJettisonDesk$Act;)V"⟩
abbrev cX4_pay : ByteArray := prog_6_method_4_code
def yX4_pay : MethodName := ⟨RX4, "pay", "()V"⟩
abbrev cX4_ownerOfLeast : ByteArray := prog_6_method_5_code
def yX4_ownerOfLeast : MethodName := ⟨RX4, "ownerOfLeast", "()I"⟩
abbrev cX4_ownerOfGreatest : ByteArray := prog_6_method_6_code
def yX4_ownerOfGreatest : MethodName := ⟨RX4, "ownerOfGreatest", "()I"⟩
def RX5 : String := "JettisonDesk$Voyage"
def TX5 : u_T := fun k => match k with
  | 0 => ("JettisonDesk$Voyage", "interests", "Ljava/util/List;", true)
  | 1 => ("JettisonDesk$Voyage", "acts", "Ljava/util/List;", true)
  | 2 => ("JettisonDesk$Voyage", "events", "Ljava/util/List;", true)
  | 3 => ("JettisonDesk$Voyage", "settlement", "LJettisonDesk$Settlement;", true)
  | 4 => ("JettisonDesk$Voyage", "shipOwner", "I", true)
  | 5 => ("JettisonDesk$Voyage", "ports", "I", true)
  | 6 => ("JettisonDesk$Voyage", "adjuster", "LJettisonDesk$Adjuster;", true)
  | 7 => ("JettisonDesk$Voyage", "port", "I", false)
  | 8 => ("JettisonDesk$Voyage", "underWay", "Z", false)
  | 9 => ("JettisonDesk$Voyage", "openAct", "I", false)
  | 10 => ("JettisonDesk$Voyage", "wrecked", "Z", false)
  | _ => ("JettisonDesk$Voyage", "lots", "I", false)
def tyX5 : Nat → FieldType := fun k => match k with
  | 0 => .object "java/util/List"
  | 1 => .object "java/util/List"
  | 2 => .object "java/util/List"
  | 3 => .object "JettisonDesk$Settlement"
  | 4 => .int
  | 5 => .int
  | 6 => .object "JettisonDesk$Adjuster"
  | 7 => .int
  | 8 => .boolean
  | 9 => .int
  | 10 => .boolean
  | _ => .int
abbrev wsX50 : List Cond := u_ws RX5 TX5 12
theorem nmX5 : ∀ a, a < 12 → ∀ b, b < 12 → a ≠ b → (TX5 a).2.1 ≠ (TX5 b).2.1 := by decide +kernel
theorem tyX5_ok : ∀ k, k < 12 → parseFieldDescriptor (TX5 k).2.2.1 = some (tyX5 k) := by decide +kernel
abbrev cX5_init : ByteArray := prog_7_method_1_code
def yX5_init : MethodName := ⟨RX5, "<init>", "(IILJettisonDesk$Adjuster;)V"⟩
abbrev cX5_isEnded : ByteArray := prog_7_method_2_code
def yX5_isEnded : MethodName := ⟨RX5, "isEnded", "()Z"⟩
abbrev cX5_isAboard : ByteArray := prog_7_method_3_code
def yX5_isAboard : MethodName := ⟨RX5, "isAboard", "(LJettisonDesk$Interest;)Z"⟩
abbrev cX5_interestAt : ByteArray := prog_7_method_4_code
def yX5_interestAt : MethodName := ⟨RX5, "interestAt", "(I)LJettisonDesk$Interest;"⟩
abbrev cX5_actAt : ByteArray := prog_7_method_5_code
def yX5_actAt : MethodName := ⟨RX5, "actAt", "(I)LJettisonDesk$Act;"⟩
abbrev cX5_canLoadFor : ByteArray := prog_7_method_6_code
def yX5_canLoadFor : MethodName := ⟨RX5, "canLoadFor", "(I)Z"⟩
abbrev cX5_load : ByteArray := prog_7_method_7_code
def yX5_load : MethodName := ⟨RX5, "load", "(LJettisonDesk$Interest;I)I"⟩
abbrev cX5_moveOn : ByteArray := prog_7_method_8_code
def yX5_moveOn : MethodName := ⟨RX5, "moveOn", "()I"⟩
abbrev cX5_beginAct : ByteArray := prog_7_method_9_code
def yX5_beginAct : MethodName := ⟨RX5, "beginAct", "()I"⟩
abbrev cX5_giveUp : ByteArray := prog_7_method_10_code
def yX5_giveUp : MethodName := ⟨RX5, "giveUp", "(II)I"⟩
abbrev cX5_spendFor : ByteArray := prog_7_method_11_code
def yX5_spendFor : MethodName := ⟨RX5, "spendFor", "(II)I"⟩
abbrev cX5_loseOf : ByteArray := prog_7_method_12_code
def yX5_loseOf : MethodName := ⟨RX5, "loseOf", "(II)I"⟩
abbrev cX5_wreck : ByteArray := prog_7_method_13_code
def yX5_wreck : MethodName := ⟨RX5, "wreck", "()Z"⟩
abbrev cX5_takeBack : ByteArray := prog_7_method_14_code
def yX5_takeBack : MethodName := ⟨RX5, "takeBack", "()Z"⟩
abbrev cX5_hasWithout : ByteArray := prog_7_method_15_code
def yX5_hasWithout : MethodName := ⟨RX5, "hasWithout", "(II)I"⟩
abbrev cX5_takesEvents : ByteArray := prog_7_method_16_code
def yX5_takesEvents : MethodName := ⟨RX5, "takesEvents", "()Z"⟩
abbrev cX5_canTake : ByteArray := prog_7_method_17_code
def yX5_canTake : MethodName := ⟨RX5, "canTake", "(LJettisonDesk$Interest;I)Z"⟩
abbrev cX5_note : ByteArray := prog_7_method_18_code
def yX5_note : MethodName := ⟨RX5, "note", "(I)V"⟩
abbrev cX5_noteTouching : ByteArray := prog_7_method_19_code
def yX5_noteTouching : MethodName := ⟨RX5, "noteTouching", "(IIII)V"⟩
abbrev cX5_freightOf : ByteArray := prog_7_method_20_code
def yX5_freightOf : MethodName := ⟨RX5, "freightOf", "(I)LJettisonDesk$Interest;"⟩
abbrev cX5_take : ByteArray := prog_7_method_21_code
def yX5_take : MethodName := ⟨RX5, "take", "(II)I"⟩
abbrev cX5_adjustIfEnded : ByteArray := prog_7_method_22_code
def yX5_adjustIfEnded : MethodName := ⟨RX5, "adjustIfEnded", "()V"⟩
abbrev cX5_unload : ByteArray := prog_7_method_23_code
def yX5_unload : MethodName := ⟨RX5, "unload", "()V"⟩
abbrev cX5_removeLastInterest : ByteArray := prog_7_method_24_code
def yX5_removeLastInterest : MethodName := ⟨RX5, "removeLastInterest", "()LJettisonDesk$Interest;"⟩
abbrev cX5_moveBack : ByteArray := prog_7_method_25_code
def yX5_moveBack : MethodName := ⟨RX5, "moveBack", "()V"⟩
abbrev cX5_forgetAct : ByteArray := prog_7_method_26_code
def yX5_forgetAct : MethodName := ⟨RX5, "forgetAct", "()V"⟩
abbrev cX5_ungive : ByteArray := prog_7_method_27_code
def yX5_ungive : MethodName := ⟨RX5, "ungive", "(LJettisonDesk$Event;)V"⟩
abbrev cX5_unspend : ByteArray := prog_7_method_28_code
def yX5_unspend : MethodName := ⟨RX5, "unspend", "(LJettisonDesk$Event;)V"⟩
abbrev cX5_putBack : ByteArray := prog_7_method_29_code
def yX5_putBack : MethodName := ⟨RX5, "putBack", "(LJettisonDesk$Event;)V"⟩
abbrev cX5_unwreck : ByteArray := prog_7_method_30_code
def yX5_unwreck : MethodName := ⟨RX5, "unwreck", "()V"⟩
def RX6 : String := "JettisonDesk"
def TX6 : u_T := fun k => match k with
  | 0 => ("JettisonDesk", "voyages", "Ljava/util/List;", true)
  | _ => ("JettisonDesk", "adjuster", "LJettisonDesk$Adjuster;", true)
def tyX6 : Nat → FieldType := fun k => match k with
  | 0 => .object "java/util/List"
  | _ => .object "JettisonDesk$Adjuster"
abbrev wsX60 : List Cond := u_ws RX6 TX6 2
theorem nmX6 : ∀ a, a < 2 → ∀ b, b < 2 → a ≠ b → (TX6 a).2.1 ≠ (TX6 b).2.1 := by decide +kernel
theorem tyX6_ok : ∀ k, k < 2 → parseFieldDescriptor (TX6 k).2.2.1 = some (tyX6 k) := by decide +kernel
abbrev cX6_init : ByteArray := prog_1_method_1_code
def yX6_init : MethodName := ⟨RX6, "<init>", "()V"⟩
abbrev cX6_voyage : ByteArray := prog_1_method_2_code
def yX6_voyage : MethodName := ⟨RX6, "voyage", "(III)I"⟩
abbrev cX6_lot : ByteArray := prog_1_method_3_code
def yX6_lot : MethodName := ⟨RX6, "lot", "(IIIIIII)I"⟩
abbrev cX6_move : ByteArray := prog_1_method_4_code
def yX6_move : MethodName := ⟨RX6, "move", "(I)I"⟩
abbrev cX6_act : ByteArray := prog_1_method_5_code
def yX6_act : MethodName := ⟨RX6, "act", "(I)I"⟩
abbrev cX6_give : ByteArray := prog_1_method_6_code
def yX6_give : MethodName := ⟨RX6, "give", "(III)I"⟩
abbrev cX6_spend : ByteArray := prog_1_method_7_code
def yX6_spend : MethodName := ⟨RX6, "spend", "(III)I"⟩
abbrev cX6_lose : ByteArray := prog_1_method_8_code
def yX6_lose : MethodName := ⟨RX6, "lose", "(III)I"⟩
abbrev cX6_lost : ByteArray := prog_1_method_9_code
def yX6_lost : MethodName := ⟨RX6, "lost", "(I)Z"⟩
abbrev cX6_back : ByteArray := prog_1_method_10_code
def yX6_back : MethodName := ⟨RX6, "back", "(I)Z"⟩
abbrev cX6_told : ByteArray := prog_1_method_11_code
def yX6_told : MethodName := ⟨RX6, "told", "(II)I"⟩
abbrev cX6_interest : ByteArray := prog_1_method_12_code
def yX6_interest : MethodName := ⟨RX6, "interest", "(III)I"⟩
abbrev cX6_share : ByteArray := prog_1_method_13_code
def yX6_share : MethodName := ⟨RX6, "share", "(IIII)I"⟩
abbrev cX6_sum : ByteArray := prog_1_method_14_code
def yX6_sum : MethodName := ⟨RX6, "sum", "(III)I"⟩
abbrev cX6_gets : ByteArray := prog_1_method_15_code
def yX6_gets : MethodName := ⟨RX6, "gets", "(III)I"⟩
abbrev cX6_without : ByteArray := prog_1_method_16_code
def yX6_without : MethodName := ⟨RX6, "without", "(III)I"⟩
abbrev cX6_balance : ByteArray := prog_1_method_17_code
def yX6_balance : MethodName := ⟨RX6, "balance", "(II)I"⟩
abbrev cX6_payments : ByteArray := prog_1_method_18_code
def yX6_payments : MethodName := ⟨RX6, "payments", "(I)I"⟩
abbrev cX6_payment : ByteArray := prog_1_method_19_code
def yX6_payment : MethodName := ⟨RX6, "payment", "(III)I"⟩
abbrev cX6_count : ByteArray := prog_1_method_20_code
def yX6_count : MethodName := ⟨RX6, "count", "()I"⟩
abbrev cX6_voyageAt : ByteArray := prog_1_method_21_code
def yX6_voyageAt : MethodName := ⟨RX6, "voyageAt", "(I)LJettisonDesk$Voyage;"⟩
abbrev cX6_endedVoyageAt : ByteArray := prog_1_method_22_code
def yX6_endedVoyageAt : MethodName := ⟨RX6, "endedVoyageAt", "(I)LJettisonDesk$Voyage;"⟩
abbrev cX6_isWithin : ByteArray := prog_1_method_23_code
def yX6_isWithin : MethodName := ⟨RX6, "isWithin", "(III)Z"⟩
abbrev cX6_isOwner : ByteArray := prog_1_method_24_code
def yX6_isOwner : MethodName := ⟨RX6, "isOwner", "(I)Z"⟩
abbrev cX6_isAmount : ByteArray := prog_1_method_25_code
def yX6_isAmount : MethodName := ⟨RX6, "isAmount", "(I)Z"⟩
abbrev cX6_asNumber : ByteArray := prog_1_method_26_code
def yX6_asNumber : MethodName := ⟨RX6, "asNumber", "(Z)I"⟩
def RX7 : String := "JettisonDeskModel"
def TX7 : u_T := fun k => match k with
  | 0 => ("JettisonDeskModel", "events", "[[I", true)
  | 1 => ("JettisonDeskModel", "eventMany", "[I", true)
  | 2 => ("JettisonDeskModel", "shipOwner", "[I", true)
  | 3 => ("JettisonDeskModel", "shipWorth", "[I", true)
  | 4 => ("JettisonDeskModel", "ports", "[I", true)
  | 5 => ("JettisonDeskModel", "voyages", "I", false)
  | 6 => ("JettisonDeskModel", "at", "I", false)
  | 7 => ("JettisonDeskModel", "port", "I", false)
  | 8 => ("JettisonDeskModel", "interests", "I", false)
  | 9 => ("JettisonDeskModel", "lots", "I", false)
  | 10 => ("JettisonDeskModel", "acts", "I", false)
  | 11 => ("JettisonDeskModel", "open", "I", false)
  | 12 => ("JettisonDeskModel", "isUnderWay", "Z", false)
  | 13 => ("JettisonDeskModel", "isEnded", "Z", false)
  | 14 => ("JettisonDeskModel", "owner", "[I", true)
  | 15 => ("JettisonDeskModel", "worth", "[I", true)
  | 16 => ("JettisonDeskModel", "left", "[I", true)
  | 17 => ("JettisonDeskModel", "told", "[I", true)
  | 18 => ("JettisonDeskModel", "terms", "[I", true)
  | 19 => ("JettisonDeskModel", "goal", "[I", true)
  | 20 => ("JettisonDeskModel", "lotOf", "[I", true)
  | 21 => ("JettisonDeskModel", "freightOf", "[I", true)
  | 22 => ("JettisonDeskModel", "isAboard", "[Z", true)
  | 23 => ("JettisonDeskModel", "risks", "[Z", true)
  | 24 => ("JettisonDeskModel", "taken", "[I", true)
  | 25 => ("JettisonDeskModel", "good", "[I", true)
  | 26 => ("JettisonDeskModel", "spent", "[I", true)
  | 27 => ("JettisonDeskModel", "part", "[J", true)
  | 28 => ("JettisonDeskModel", "borne", "[J", true)
  | 29 => ("JettisonDeskModel", "has", "[J", true)
  | 30 => ("JettisonDeskModel", "gets", "[J", true)
  | 31 => ("JettisonDeskModel", "expenses", "[J", true)
  | 32 => ("JettisonDeskModel", "sums", "[J", true)
  | 33 => ("JettisonDeskModel", "parts", "[J", true)
  | 34 => ("JettisonDeskModel", "rest", "[J", true)
  | 35 => ("JettisonDeskModel", "balances", "[J", true)
  | 36 => ("JettisonDeskModel", "payer", "[I", true)
  | 37 => ("JettisonDeskModel", "paid", "[I", true)
  | 38 => ("JettisonDeskModel", "much", "[I", true)
  | 39 => ("JettisonDeskModel", "paymentMany", "I", false)
  | 40 => ("JettisonDeskModel", "adjusted", "I", false)
  | _ => ("JettisonDeskModel", "spentBy", "[J", true)
def tyX7 : Nat → FieldType := fun k => match k with
  | 0 => .array (.array .int)
  | 1 => .array .int
  | 2 => .array .int
  | 3 => .array .int
  | 4 => .array .int
  | 5 => .int
  | 6 => .int
  | 7 => .int
  | 8 => .int
  | 9 => .int
  | 10 => .int
  | 11 => .int
  | 12 => .boolean
  | 13 => .boolean
  | 14 => .array .int
  | 15 => .array .int
  | 16 => .array .int
  | 17 => .array .int
  | 18 => .array .int
  | 19 => .array .int
  | 20 => .array .int
  | 21 => .array .int
  | 22 => .array .boolean
  | 23 => .array .boolean
  | 24 => .array .int
  | 25 => .array .int
  | 26 => .array .int
  | 27 => .array .long
  | 28 => .array .long
  | 29 => .array .long
  | 30 => .array .long
  | 31 => .array .long
  | 32 => .array .long
  | 33 => .array .long
  | 34 => .array .long
  | 35 => .array .long
  | 36 => .array .int
  | 37 => .array .int
  | 38 => .array .int
  | 39 => .int
  | 40 => .int
  | _ => .array .long
abbrev wsX70 : List Cond := u_ws RX7 TX7 42
theorem nmX7 : ∀ a, a < 42 → ∀ b, b < 42 → a ≠ b → (TX7 a).2.1 ≠ (TX7 b).2.1 := by decide +kernel
theorem tyX7_ok : ∀ k, k < 42 → parseFieldDescriptor (TX7 k).2.2.1 = some (tyX7 k) := by decide +kernel
abbrev cX7_init : ByteArray := prog_9_method_1_code
def yX7_init : MethodName := ⟨RX7, "<init>", "()V"⟩
abbrev cX7_in : ByteArray := prog_9_method_2_code
def yX7_in : MethodName := ⟨RX7, "in", "(III)Z"⟩
abbrev cX7_voyage : ByteArray := prog_9_method_3_code
def yX7_voyage : MethodName := ⟨RX7, "voyage", "(III)I"⟩
abbrev cX7_count : ByteArray := prog_9_method_4_code
def yX7_count : MethodName := ⟨RX7, "count", "()I"⟩
abbrev cX7_isVoyage : ByteArray := prog_9_method_5_code
def yX7_isVoyage : MethodName := ⟨RX7, "isVoyage", "(I)Z"⟩
abbrev cX7_go : ByteArray := prog_9_method_6_code
def yX7_go : MethodName := ⟨RX7, "go", "(I)V"⟩
abbrev cX7_comes : ByteArray := prog_9_method_7_code
def yX7_comes : MethodName := ⟨RX7, "comes", "(IIIII)I"⟩
abbrev cX7_event : ByteArray := prog_9_method_8_code
def yX7_event : MethodName := ⟨RX7, "event", "(IIIIIIII)I"⟩
abbrev cX7_does : ByteArray := prog_9_method_9_code
def yX7_does : MethodName := ⟨RX7, "does", "(IIIIIII)I"⟩
abbrev cX7_loads : ByteArray := prog_9_method_10_code
def yX7_loads : MethodName := ⟨RX7, "loads", "(IIIIII)I"⟩
abbrev cX7_moves : ByteArray := prog_9_method_11_code
def yX7_moves : MethodName := ⟨RX7, "moves", "()I"⟩
abbrev cX7_acts : ByteArray := prog_9_method_12_code
def yX7_acts : MethodName := ⟨RX7, "acts", "()I"⟩
abbrev cX7_canBeTaken : ByteArray := prog_9_method_13_code
def yX7_canBeTaken : MethodName := ⟨RX7, "canBeTaken", "(II)Z"⟩
abbrev cX7_takes : ByteArray := prog_9_method_14_code
def yX7_takes : MethodName := ⟨RX7, "takes", "(II)I"⟩
abbrev cX7_gives : ByteArray := prog_9_method_15_code
def yX7_gives : MethodName := ⟨RX7, "gives", "(II)I"⟩
abbrev cX7_spends : ByteArray := prog_9_method_16_code
def yX7_spends : MethodName := ⟨RX7, "spends", "(II)I"⟩
abbrev cX7_loses : ByteArray := prog_9_method_17_code
def yX7_loses : MethodName := ⟨RX7, "loses", "(II)I"⟩
abbrev cX7_isLost : ByteArray := prog_9_method_18_code
def yX7_isLost : MethodName := ⟨RX7, "isLost", "()I"⟩
abbrev cX7_lot : ByteArray := prog_9_method_19_code
def yX7_lot : MethodName := ⟨RX7, "lot", "(IIIIIII)I"⟩
abbrev cX7_move : ByteArray := prog_9_method_20_code
def yX7_move : MethodName := ⟨RX7, "move", "(I)I"⟩
abbrev cX7_act : ByteArray := prog_9_method_21_code
def yX7_act : MethodName := ⟨RX7, "act", "(I)I"⟩
abbrev cX7_give : ByteArray := prog_9_method_22_code
def yX7_give : MethodName := ⟨RX7, "give", "(III)I"⟩
abbrev cX7_spend : ByteArray := prog_9_method_23_code
def yX7_spend : MethodName := ⟨RX7, "spend", "(III)I"⟩
abbrev cX7_lose : ByteArray := prog_9_method_24_code
def yX7_lose : MethodName := ⟨RX7, "lose", "(III)I"⟩
abbrev cX7_lost : ByteArray := prog_9_method_25_code
def yX7_lost : MethodName := ⟨RX7, "lost", "(I)Z"⟩
abbrev cX7_back : ByteArray := prog_9_method_26_code
def yX7_back : MethodName := ⟨RX7, "back", "(I)Z"⟩
abbrev cX7_divide : ByteArray := prog_9_method_27_code
def yX7_divide : MethodName := ⟨RX7, "divide", "(JJ[JII[J[J)V"⟩
abbrev cX7_adjust : ByteArray := prog_9_method_28_code
def yX7_adjust : MethodName := ⟨RX7, "adjust", "(I)V"⟩
abbrev cX7_isOver : ByteArray := prog_9_method_29_code
def yX7_isOver : MethodName := ⟨RX7, "isOver", "(I)Z"⟩
abbrev cX7_balance : ByteArray := prog_9_method_30_code
def yX7_balance : MethodName := ⟨RX7, "balance", "()V"⟩
abbrev cX7_pay : ByteArray := prog_9_method_31_code
def yX7_pay : MethodName := ⟨RX7, "pay", "()V"⟩
abbrev cX7_told : ByteArray := prog_9_method_32_code
def yX7_told : MethodName := ⟨RX7, "told", "(II)I"⟩
abbrev cX7_interest : ByteArray := prog_9_method_33_code
def yX7_interest : MethodName := ⟨RX7, "interest", "(III)I"⟩
abbrev cX7_isAct : ByteArray := prog_9_method_34_code
def yX7_isAct : MethodName := ⟨RX7, "isAct", "(II)Z"⟩
abbrev cX7_share : ByteArray := prog_9_method_35_code
def yX7_share : MethodName := ⟨RX7, "share", "(IIII)I"⟩
abbrev cX7_sum : ByteArray := prog_9_method_36_code
def yX7_sum : MethodName := ⟨RX7, "sum", "(III)I"⟩
abbrev cX7_gets : ByteArray := prog_9_method_37_code
def yX7_gets : MethodName := ⟨RX7, "gets", "(III)I"⟩
abbrev cX7_without : ByteArray := prog_9_method_38_code
def yX7_without : MethodName := ⟨RX7, "without", "(III)I"⟩
abbrev cX7_balance_ : ByteArray := prog_9_method_39_code
def yX7_balance_ : MethodName := ⟨RX7, "balance", "(II)I"⟩
abbrev cX7_payments : ByteArray := prog_9_method_40_code
def yX7_payments : MethodName := ⟨RX7, "payments", "(I)I"⟩
abbrev cX7_payment : ByteArray := prog_9_method_41_code
def yX7_payment : MethodName := ⟨RX7, "payment", "(III)I"⟩
def RJx145de : String := "java/io/Serializable"
def TJx145de : u_T := fun k => match k with
  | _ => ("", "", "", false)
def tyJx145de : Nat → FieldType := fun k => match k with
  | _ => .int
abbrev wsJx145de0 : List Cond := u_ws RJx145de TJx145de 0
theorem nmJx145de : ∀ a, a < 0 → ∀ b, b < 0 → a ≠ b → (TJx145de a).2.1 ≠ (TJx145de b).2.1 := by decide +kernel
theorem tyJx145de_ok : ∀ k, k < 0 → parseFieldDescriptor (TJx145de k).2.2.1 = some (tyJx145de k) := by decide +kernel
def RJx8e188 : String := "java/lang/Cloneable"
def TJx8e188 : u_T := fun k => match k with
  | _ => ("", "", "", false)
def tyJx8e188 : Nat → FieldType := fun k => match k with
  | _ => .int
abbrev wsJx8e1880 : List Cond := u_ws RJx8e188 TJx8e188 0
theorem nmJx8e188 : ∀ a, a < 0 → ∀ b, b < 0 → a ≠ b → (TJx8e188 a).2.1 ≠ (TJx8e188 b).2.1 := by decide +kernel
theorem tyJx8e188_ok : ∀ k, k < 0 → parseFieldDescriptor (TJx8e188 k).2.2.1 = some (tyJx8e188 k) := by decide +kernel
def RJxab1ab : String := "java/lang/Iterable"
def TJxab1ab : u_T := fun k => match k with
  | _ => ("", "", "", false)
def tyJxab1ab : Nat → FieldType := fun k => match k with
  | _ => .int
abbrev wsJxab1ab0 : List Cond := u_ws RJxab1ab TJxab1ab 0
theorem nmJxab1ab : ∀ a, a < 0 → ∀ b, b < 0 → a ≠ b → (TJxab1ab a).2.1 ≠ (TJxab1ab b).2.1 := by decide +kernel
theorem tyJxab1ab_ok : ∀ k, k < 0 → parseFieldDescriptor (TJxab1ab k).2.2.1 = some (tyJxab1ab k) := by decide +kernel
def RJ9 : String := "java/lang/Math"
def TJ9 : u_T := fun k => match k with
  | _ => ("", "", "", false)
def tyJ9 : Nat → FieldType := fun k => match k with
  | _ => .int
abbrev wsJ90 : List Cond := u_ws RJ9 TJ9 0
theorem nmJ9 : ∀ a, a < 0 → ∀ b, b < 0 → a ≠ b → (TJ9 a).2.1 ≠ (TJ9 b).2.1 := by decide +kernel
theorem tyJ9_ok : ∀ k, k < 0 → parseFieldDescriptor (TJ9 k).2.2.1 = some (tyJ9 k) := by decide +kernel
abbrev cJ9_max_7cf53 : ByteArray := prog_13_method_65_code
def yJ9_max_7cf53 : MethodName := ⟨RJ9, "max", "(II)I"⟩
abbrev cJ9_min_7cf53 : ByteArray := prog_13_method_69_code
def yJ9_min_7cf53 : MethodName := ⟨RJ9, "min", "(II)I"⟩
abbrev cJ9_min_f86c9 : ByteArray := prog_13_method_70_code
def yJ9_min_f86c9 : MethodName := ⟨RJ9, "min", "(JJ)J"⟩
def RJ10 : String := "java/lang/System"
def TJ10 : u_T := fun k => match k with
  | _ => ("", "", "", false)
def tyJ10 : Nat → FieldType := fun k => match k with
  | _ => .int
abbrev wsJ100 : List Cond := u_ws RJ10 TJ10 0
theorem nmJ10 : ∀ a, a < 0 → ∀ b, b < 0 → a ≠ b → (TJ10 a).2.1 ≠ (TJ10 b).2.1 := by decide +kernel
theorem tyJ10_ok : ∀ k, k < 0 → parseFieldDescriptor (TJ10 k).2.2.1 = some (tyJ10 k) := by decide +kernel
def RJxa1e45 : String := "java/util/AbstractCollection"
def TJxa1e45 : u_T := fun k => match k with
  | _ => ("", "", "", false)
def tyJxa1e45 : Nat → FieldType := fun k => match k with
  | _ => .int
abbrev wsJxa1e450 : List Cond := u_ws RJxa1e45 TJxa1e45 0
theorem nmJxa1e45 : ∀ a, a < 0 → ∀ b, b < 0 → a ≠ b → (TJxa1e45 a).2.1 ≠ (TJxa1e45 b).2.1 := by decide +kernel
theorem tyJxa1e45_ok : ∀ k, k < 0 → parseFieldDescriptor (TJxa1e45 k).2.2.1 = some (tyJxa1e45 k) := by decide +kernel
abbrev cJxa1e45_init_da8c8 : ByteArray := prog_15_method_1_code
def yJxa1e45_init_da8c8 : MethodName := ⟨RJxa1e45, "<init>", "()V"⟩
def RJxc12de : String := "java/util/AbstractList"
def TJxc12de : u_T := fun k => match k with
  | _ => ("", "", "", false)
def tyJxc12de : Nat → FieldType := fun k => match k with
  | _ => .int
abbrev wsJxc12de0 : List Cond := u_ws RJxc12de TJxc12de 0
theorem nmJxc12de : ∀ a, a < 0 → ∀ b, b < 0 → a ≠ b → (TJxc12de a).2.1 ≠ (TJxc12de b).2.1 := by decide +kernel
theorem tyJxc12de_ok : ∀ k, k < 0 → parseFieldDescriptor (TJxc12de k).2.2.1 = some (tyJxc12de k) := by decide +kernel
abbrev cJxc12de_init_da8c8 : ByteArray := prog_16_method_1_code
def yJxc12de_init_da8c8 : MethodName := ⟨RJxc12de, "<init>", "()V"⟩
def RJx4a65c : String := "java/util/ArrayList"
def TJx4a65c : u_T := fun k => match k with
  | 0 => ("java/util/AbstractList", "modCount", "I", false)
  | 1 => ("java/util/ArrayList", "elementData", "[Ljava/lang/Object;", false)
  | _ => ("java/util/ArrayList", "size", "I", false)
def tyJx4a65c : Nat → FieldType := fun k => match k with
  | 0 => .int
  | 1 => .array (.object "java/lang/Object")
  | _ => .int
abbrev wsJx4a65c0 : List Cond := u_ws RJx4a65c TJx4a65c 3
theorem nmJx4a65c : ∀ a, a < 3 → ∀ b, b < 3 → a ≠ b → (TJx4a65c a).2.1 ≠ (TJx4a65c b).2.1 := by decide +kernel
theorem tyJx4a65c_ok : ∀ k, k < 3 → parseFieldDescriptor (TJx4a65c k).2.2.1 = some (tyJx4a65c k) := by decide +kernel
abbrev cJx4a65c_init_da8c8 : ByteArray := prog_17_method_2_code
def yJx4a65c_init_da8c8 : MethodName := ⟨RJx4a65c, "<init>", "()V"⟩
abbrev cJx4a65c_grow_92f84 : ByteArray := prog_17_method_6_code
def yJx4a65c_grow_92f84 : MethodName := ⟨RJx4a65c, "grow", "(I)[Ljava/lang/Object;"⟩
abbrev cJx4a65c_grow_d5877 : ByteArray := prog_17_method_7_code
def yJx4a65c_grow_d5877 : MethodName := ⟨RJx4a65c, "grow", "()[Ljava/lang/Object;"⟩
abbrev cJx4a65c_size_8abf5 : ByteArray := prog_17_method_8_code
def yJx4a65c_size_8abf5 : MethodName := ⟨RJx4a65c, "size", "()I"⟩
abbrev cJx4a65c_isEmpty_aae02 : ByteArray := prog_17_method_9_code
def yJx4a65c_isEmpty_aae02 : MethodName := ⟨RJx4a65c, "isEmpty", "()Z"⟩
abbrev cJx4a65c_elementData_915e3 : ByteArray := prog_17_method_18_code
def yJx4a65c_elementData_915e3 : MethodName := ⟨RJx4a65c, "elementData", "(I)Ljava/lang/Object;"⟩
abbrev cJx4a65c_get_915e3 : ByteArray := prog_17_method_20_code
def yJx4a65c_get_915e3 : MethodName := ⟨RJx4a65c, "get", "(I)Ljava/lang/Object;"⟩
abbrev cJx4a65c_add_72be8 : ByteArray := prog_17_method_24_code
def yJx4a65c_add_72be8 : MethodName := ⟨RJx4a65c, "add", "(Ljava/lang/Object;[Ljava/lang/Object;I)V"⟩
abbrev cJx4a65c_add_9ea2d : ByteArray := prog_17_method_25_code
def yJx4a65c_add_9ea2d : MethodName := ⟨RJx4a65c, "add", "(Ljava/lang/Object;)Z"⟩
abbrev cJx4a65c_remove_915e3 : ByteArray := prog_17_method_29_code
def yJx4a65c_remove_915e3 : MethodName := ⟨RJx4a65c, "remove", "(I)Ljava/lang/Object;"⟩
abbrev cJx4a65c_fastRemove_b59b0 : ByteArray := prog_17_method_39_code
def yJx4a65c_fastRemove_b59b0 : MethodName := ⟨RJx4a65c, "fastRemove", "([Ljava/lang/Object;I)V"⟩
def RJ7 : String := "java/util/Arrays"
def TJ7 : u_T := fun k => match k with
  | _ => ("", "", "", false)
def tyJ7 : Nat → FieldType := fun k => match k with
  | _ => .int
abbrev wsJ70 : List Cond := u_ws RJ7 TJ7 0
theorem nmJ7 : ∀ a, a < 0 → ∀ b, b < 0 → a ≠ b → (TJ7 a).2.1 ≠ (TJ7 b).2.1 := by decide +kernel
theorem tyJ7_ok : ∀ k, k < 0 → parseFieldDescriptor (TJ7 k).2.2.1 = some (tyJ7 k) := by decide +kernel
abbrev cJ7_fill_53178 : ByteArray := prog_18_method_103_code
def yJ7_fill_53178 : MethodName := ⟨RJ7, "fill", "([II)V"⟩
abbrev cJ7_copyOf_1904c : ByteArray := prog_18_method_119_code
def yJ7_copyOf_1904c : MethodName := ⟨RJ7, "copyOf", "([Ljava/lang/Object;I)[Ljava/lang/Object;"⟩
abbrev cJ7_copyOf_6403c : ByteArray := prog_18_method_120_code
def yJ7_copyOf_6403c : MethodName := ⟨RJ7, "copyOf", "([Ljava/lang/Object;ILjava/lang/Class;)[Ljava/lang/Object;"⟩
def RJx5ef63 : String := "java/util/Collection"
def TJx5ef63 : u_T := fun k => match k with
  | _ => ("", "", "", false)
def tyJx5ef63 : Nat → FieldType := fun k => match k with
  | _ => .int
abbrev wsJx5ef630 : List Cond := u_ws RJx5ef63 TJx5ef63 0
theorem nmJx5ef63 : ∀ a, a < 0 → ∀ b, b < 0 → a ≠ b → (TJx5ef63 a).2.1 ≠ (TJx5ef63 b).2.1 := by decide +kernel
theorem tyJx5ef63_ok : ∀ k, k < 0 → parseFieldDescriptor (TJx5ef63 k).2.2.1 = some (tyJx5ef63 k) := by decide +kernel
def RJxbd725 : String := "java/util/List"
def TJxbd725 : u_T := fun k => match k with
  | _ => ("", "", "", false)
def tyJxbd725 : Nat → FieldType := fun k => match k with
  | _ => .int
abbrev wsJxbd7250 : List Cond := u_ws RJxbd725 TJxbd725 0
theorem nmJxbd725 : ∀ a, a < 0 → ∀ b, b < 0 → a ≠ b → (TJxbd725 a).2.1 ≠ (TJxbd725 b).2.1 := by decide +kernel
theorem tyJxbd725_ok : ∀ k, k < 0 → parseFieldDescriptor (TJxbd725 k).2.2.1 = some (tyJxbd725 k) := by decide +kernel
def RJ15 : String := "java/util/Objects"
def TJ15 : u_T := fun k => match k with
  | _ => ("", "", "", false)
def tyJ15 : Nat → FieldType := fun k => match k with
  | _ => .int
abbrev wsJ150 : List Cond := u_ws RJ15 TJ15 0
theorem nmJ15 : ∀ a, a < 0 → ∀ b, b < 0 → a ≠ b → (TJ15 a).2.1 ≠ (TJ15 b).2.1 := by decide +kernel
theorem tyJ15_ok : ∀ k, k < 0 → parseFieldDescriptor (TJ15 k).2.2.1 = some (tyJ15 k) := by decide +kernel
abbrev cJ15_checkIndex_7cf53 : ByteArray := prog_21_method_17_code
def yJ15_checkIndex_7cf53 : MethodName := ⟨RJ15, "checkIndex", "(II)I"⟩
def RJxf0a74 : String := "java/util/RandomAccess"
def TJxf0a74 : u_T := fun k => match k with
  | _ => ("", "", "", false)
def tyJxf0a74 : Nat → FieldType := fun k => match k with
  | _ => .int
abbrev wsJxf0a740 : List Cond := u_ws RJxf0a74 TJxf0a74 0
theorem nmJxf0a74 : ∀ a, a < 0 → ∀ b, b < 0 → a ≠ b → (TJxf0a74 a).2.1 ≠ (TJxf0a74 b).2.1 := by decide +kernel
theorem tyJxf0a74_ok : ∀ k, k < 0 → parseFieldDescriptor (TJxf0a74 k).2.2.1 = some (tyJxf0a74 k) := by decide +kernel
def RJxa66e6 : String := "java/util/SequencedCollection"
def TJxa66e6 : u_T := fun k => match k with
  | _ => ("", "", "", false)
def tyJxa66e6 : Nat → FieldType := fun k => match k with
  | _ => .int
abbrev wsJxa66e60 : List Cond := u_ws RJxa66e6 TJxa66e6 0
theorem nmJxa66e6 : ∀ a, a < 0 → ∀ b, b < 0 → a ≠ b → (TJxa66e6 a).2.1 ≠ (TJxa66e6 b).2.1 := by decide +kernel
theorem tyJxa66e6_ok : ∀ k, k < 0 → parseFieldDescriptor (TJxa66e6 k).2.2.1 = some (tyJxa66e6 k) := by decide +kernel
def RJ8 : String := "jdk/internal/util/ArraysSupport"
def TJ8 : u_T := fun k => match k with
  | _ => ("", "", "", false)
def tyJ8 : Nat → FieldType := fun k => match k with
  | _ => .int
abbrev wsJ80 : List Cond := u_ws RJ8 TJ8 0
theorem nmJ8 : ∀ a, a < 0 → ∀ b, b < 0 → a ≠ b → (TJ8 a).2.1 ≠ (TJ8 b).2.1 := by decide +kernel
theorem tyJ8_ok : ∀ k, k < 0 → parseFieldDescriptor (TJ8 k).2.2.1 = some (tyJ8 k) := by decide +kernel
abbrev cJ8_newLength_cabcc : ByteArray := prog_24_method_27_code
def yJ8_newLength_cabcc : MethodName := ⟨RJ8, "newLength", "(III)I"⟩
abbrev cJ8_hugeLength_7cf53 : ByteArray := prog_24_method_28_code
def yJ8_hugeLength_7cf53 : MethodName := ⟨RJ8, "hugeLength", "(II)I"⟩
def RJ3 : String := "jdk/internal/util/Preconditions"
def TJ3 : u_T := fun k => match k with
  | _ => ("", "", "", false)
def tyJ3 : Nat → FieldType := fun k => match k with
  | _ => .int
abbrev wsJ30 : List Cond := u_ws RJ3 TJ3 0
theorem nmJ3 : ∀ a, a < 0 → ∀ b, b < 0 → a ≠ b → (TJ3 a).2.1 ≠ (TJ3 b).2.1 := by decide +kernel
theorem tyJ3_ok : ∀ k, k < 0 → parseFieldDescriptor (TJ3 k).2.2.1 = some (tyJ3 k) := by decide +kernel
abbrev cJ3_checkIndex_8e157 : ByteArray := prog_25_method_11_code
def yJ3_checkIndex_8e157 : MethodName := ⟨RJ3, "checkIndex", "(IILjava/util/function/BiFunction;)I"⟩
def RL : String := "JettisonDeskLaw"
abbrev cL_law : ByteArray := code
def yL_law : MethodName := ⟨RL, "law", "([I)Z"⟩
abbrev vwCl : List vw_C := [(RJx4a65c, TJx4a65c, 3), (RX0, TX0, 12), (RX1, TX1, 8), (RX2, TX2, 5), (RX3, TX3, 9), (RX4, TX4, 6), (RX5, TX5, 12), (RX6, TX6, 2), (RX7, TX7, 42)]
theorem jd_in1 : ∀ w ∈ u_ws RJx4a65c TJx4a65c 3, w ∈ lw_tbl := fun w hw => by
  have h : u_ws RJx4a65c TJx4a65c 3 = ([94, 90, 92] : List Nat).filterMap (fun i => lw_tbl[i]?) := by decide +kernel
  rw [h] at hw
  obtain ⟨i, -, hi⟩ := List.mem_filterMap.mp hw
  exact List.mem_of_getElem? hi
theorem jd_in2 : ∀ w ∈ u_ws RX0 TX0 12, w ∈ lw_tbl := fun w hw => by
  have h : u_ws RX0 TX0 12 = ([559, 561, 563, 565, 567, 569, 571, 573, 575, 577, 579, 581] : List Nat).filterMap (fun i => lw_tbl[i]?) := by decide +kernel
  rw [h] at hw
  obtain ⟨i, -, hi⟩ := List.mem_filterMap.mp hw
  exact List.mem_of_getElem? hi
theorem jd_in3 : ∀ w ∈ u_ws RX1 TX1 8, w ∈ lw_tbl := fun w hw => by
  have h : u_ws RX1 TX1 8 = ([112, 114, 116, 118, 120, 122, 124, 126] : List Nat).filterMap (fun i => lw_tbl[i]?) := by decide +kernel
  rw [h] at hw
  obtain ⟨i, -, hi⟩ := List.mem_filterMap.mp hw
  exact List.mem_of_getElem? hi
theorem jd_in4 : ∀ w ∈ u_ws RX2 TX2 5, w ∈ lw_tbl := fun w hw => by
  have h : u_ws RX2 TX2 5 = ([422, 424, 426, 428, 430] : List Nat).filterMap (fun i => lw_tbl[i]?) := by decide +kernel
  rw [h] at hw
  obtain ⟨i, -, hi⟩ := List.mem_filterMap.mp hw
  exact List.mem_of_getElem? hi
theorem jd_in5 : ∀ w ∈ u_ws RX3 TX3 9, w ∈ lw_tbl := fun w hw => by
  have h : u_ws RX3 TX3 9 = ([272, 274, 276, 278, 280, 282, 284, 286, 288] : List Nat).filterMap (fun i => lw_tbl[i]?) := by decide +kernel
  rw [h] at hw
  obtain ⟨i, -, hi⟩ := List.mem_filterMap.mp hw
  exact List.mem_of_getElem? hi
theorem jd_in6 : ∀ w ∈ u_ws RX4 TX4 6, w ∈ lw_tbl := fun w hw => by
  have h : u_ws RX4 TX4 6 = ([187, 189, 191, 193, 195, 197] : List Nat).filterMap (fun i => lw_tbl[i]?) := by decide +kernel
  rw [h] at hw
  obtain ⟨i, -, hi⟩ := List.mem_filterMap.mp hw
  exact List.mem_of_getElem? hi
theorem jd_in7 : ∀ w ∈ u_ws RX5 TX5 12, w ∈ lw_tbl := fun w hw => by
  have h : u_ws RX5 TX5 12 = ([219, 221, 223, 225, 227, 229, 231, 233, 235, 237, 239, 241] : List Nat).filterMap (fun i => lw_tbl[i]?) := by decide +kernel
  rw [h] at hw
  obtain ⟨i, -, hi⟩ := List.mem_filterMap.mp hw
  exact List.mem_of_getElem? hi
theorem jd_in8 : ∀ w ∈ u_ws RX6 TX6 2, w ∈ lw_tbl := fun w hw => by
  have h : u_ws RX6 TX6 2 = ([133, 135] : List Nat).filterMap (fun i => lw_tbl[i]?) := by decide +kernel
  rw [h] at hw
  obtain ⟨i, -, hi⟩ := List.mem_filterMap.mp hw
  exact List.mem_of_getElem? hi
theorem jd_in9 : ∀ w ∈ u_ws RX7 TX7 42, w ∈ lw_tbl := fun w hw => by
  have h : u_ws RX7 TX7 42 = ([834, 836, 838, 840, 842, 844, 846, 848, 850, 852, 854, 856, 858, 860, 862, 864, 866, 868, 870, 872, 874, 876, 878, 880, 882, 884, 886, 888, 890, 892, 894, 896, 898, 900, 902, 904, 906, 908, 910, 912, 914, 916] : List Nat).filterMap (fun i => lw_tbl[i]?) := by decide +kernel
  rw [h] at hw
  obtain ⟨i, -, hi⟩ := List.mem_filterMap.mp hw
  exact List.mem_of_getElem? hi
