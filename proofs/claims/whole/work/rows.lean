section
-- ===== PART A: goes FIRST, ahead of the names: the tables' words, and 'selects' of the private methods out of them =====
/-- a private method of a class that the tables say can be made, by its rows of tables_1 -/
def lw_okq (q : MethodName × Nat) : Prop := (q.1.cls ≠ "java/lang/invoke/MethodHandle" ∧ q.1.cls ≠ "java/lang/invoke/VarHandle") ∧ Cond.instantiable q.1.cls q.2 ∈ tables_1 ∧ Cond.privateMethod q.1 ∈ tables_1 ∧ Cond.instanceMethod q.1 ∈ tables_1
theorem lw_p0 : lw_okq (⟨"SlashKinds$KindText", "startKind", "(I)Z"⟩, 11) := ⟨⟨by decide +kernel, by decide +kernel⟩, List.mem_of_getElem? (i := 24) (by decide +kernel), List.mem_of_getElem? (i := 354) (by decide +kernel), List.mem_of_getElem? (i := 355) (by decide +kernel)⟩
theorem lw_p1 : lw_okq (⟨"SlashKinds$KindText", "appendNode", "(III)Z"⟩, 11) := ⟨⟨by decide +kernel, by decide +kernel⟩, List.mem_of_getElem? (i := 24) (by decide +kernel), List.mem_of_getElem? (i := 358) (by decide +kernel), List.mem_of_getElem? (i := 359) (by decide +kernel)⟩
theorem lw_p2 : lw_okq (⟨"SlashKinds$KindText", "goOn", "(I)Z"⟩, 11) := ⟨⟨by decide +kernel, by decide +kernel⟩, List.mem_of_getElem? (i := 24) (by decide +kernel), List.mem_of_getElem? (i := 362) (by decide +kernel), List.mem_of_getElem? (i := 363) (by decide +kernel)⟩
theorem lw_p3 : lw_okq (⟨"SlashKinds$KindText", "close", "(I)Z"⟩, 11) := ⟨⟨by decide +kernel, by decide +kernel⟩, List.mem_of_getElem? (i := 24) (by decide +kernel), List.mem_of_getElem? (i := 366) (by decide +kernel), List.mem_of_getElem? (i := 367) (by decide +kernel)⟩
theorem lw_p4 : lw_okq (⟨"SlashKinds", "provable", "(I)Z"⟩, 10) := ⟨⟨by decide +kernel, by decide +kernel⟩, List.mem_of_getElem? (i := 16) (by decide +kernel), List.mem_of_getElem? (i := 428) (by decide +kernel), List.mem_of_getElem? (i := 429) (by decide +kernel)⟩
theorem lw_p5 : lw_okq (⟨"SlashKinds$Prover", "ask", "([LSlashKinds$Kind;ILSlashKinds$Kind;Z)J"⟩, 4) := ⟨⟨by decide +kernel, by decide +kernel⟩, List.mem_of_getElem? (i := 218) (by decide +kernel), List.mem_of_getElem? (i := 439) (by decide +kernel), List.mem_of_getElem? (i := 440) (by decide +kernel)⟩
theorem lw_p6 : lw_okq (⟨"SlashKinds$Nodes", "numberOf", "(LSlashKinds$Kind;III)I"⟩, 7) := ⟨⟨by decide +kernel, by decide +kernel⟩, List.mem_of_getElem? (i := 162) (by decide +kernel), List.mem_of_getElem? (i := 455) (by decide +kernel), List.mem_of_getElem? (i := 456) (by decide +kernel)⟩
theorem lw_p7 : lw_okq (⟨"SlashKinds$Prover", "prove", "(JIII)J"⟩, 4) := ⟨⟨by decide +kernel, by decide +kernel⟩, List.mem_of_getElem? (i := 218) (by decide +kernel), List.mem_of_getElem? (i := 467) (by decide +kernel), List.mem_of_getElem? (i := 468) (by decide +kernel)⟩
theorem lw_p8 : lw_okq (⟨"SlashKinds$Prover", "proveByGoal", "(JIII)J"⟩, 4) := ⟨⟨by decide +kernel, by decide +kernel⟩, List.mem_of_getElem? (i := 218) (by decide +kernel), List.mem_of_getElem? (i := 492) (by decide +kernel), List.mem_of_getElem? (i := 493) (by decide +kernel)⟩
theorem lw_p9 : lw_okq (⟨"SlashKinds$Prover", "proveParts", "(JIIII)J"⟩, 4) := ⟨⟨by decide +kernel, by decide +kernel⟩, List.mem_of_getElem? (i := 218) (by decide +kernel), List.mem_of_getElem? (i := 498) (by decide +kernel), List.mem_of_getElem? (i := 499) (by decide +kernel)⟩
theorem lw_p10 : lw_okq (⟨"SlashKinds$Prover", "isEnough", "(J)Z"⟩, 4) := ⟨⟨by decide +kernel, by decide +kernel⟩, List.mem_of_getElem? (i := 218) (by decide +kernel), List.mem_of_getElem? (i := 502) (by decide +kernel), List.mem_of_getElem? (i := 503) (by decide +kernel)⟩
theorem lw_p11 : lw_okq (⟨"SlashKinds$Prover", "times", "(JJ)J"⟩, 4) := ⟨⟨by decide +kernel, by decide +kernel⟩, List.mem_of_getElem? (i := 218) (by decide +kernel), List.mem_of_getElem? (i := 509) (by decide +kernel), List.mem_of_getElem? (i := 510) (by decide +kernel)⟩
theorem lw_p12 : lw_okq (⟨"SlashKinds$Prover", "plus", "(JJ)J"⟩, 4) := ⟨⟨by decide +kernel, by decide +kernel⟩, List.mem_of_getElem? (i := 218) (by decide +kernel), List.mem_of_getElem? (i := 517) (by decide +kernel), List.mem_of_getElem? (i := 518) (by decide +kernel)⟩
theorem lw_p13 : lw_okq (⟨"SlashKinds$Prover", "proveByPlace", "(JIIII)J"⟩, 4) := ⟨⟨by decide +kernel, by decide +kernel⟩, List.mem_of_getElem? (i := 218) (by decide +kernel), List.mem_of_getElem? (i := 525) (by decide +kernel), List.mem_of_getElem? (i := 526) (by decide +kernel)⟩
theorem lw_p14 : lw_okq (⟨"SlashKinds$Prover", "proveUse", "(JIIIII)J"⟩, 4) := ⟨⟨by decide +kernel, by decide +kernel⟩, List.mem_of_getElem? (i := 218) (by decide +kernel), List.mem_of_getElem? (i := 533) (by decide +kernel), List.mem_of_getElem? (i := 534) (by decide +kernel)⟩
theorem lw_p15 : lw_okq (⟨"SlashKinds$MeaningSearch", "open", "(LSlashKinds$Kind;Z)I"⟩, 3) := ⟨⟨by decide +kernel, by decide +kernel⟩, List.mem_of_getElem? (i := 237) (by decide +kernel), List.mem_of_getElem? (i := 568) (by decide +kernel), List.mem_of_getElem? (i := 569) (by decide +kernel)⟩
def lw_privs_1 : List (MethodName × Nat) := [(⟨"SlashKinds$KindText", "startKind", "(I)Z"⟩, 11), (⟨"SlashKinds$KindText", "appendNode", "(III)Z"⟩, 11), (⟨"SlashKinds$KindText", "goOn", "(I)Z"⟩, 11), (⟨"SlashKinds$KindText", "close", "(I)Z"⟩, 11), (⟨"SlashKinds", "provable", "(I)Z"⟩, 10), (⟨"SlashKinds$Prover", "ask", "([LSlashKinds$Kind;ILSlashKinds$Kind;Z)J"⟩, 4), (⟨"SlashKinds$Nodes", "numberOf", "(LSlashKinds$Kind;III)I"⟩, 7), (⟨"SlashKinds$Prover", "prove", "(JIII)J"⟩, 4), (⟨"SlashKinds$Prover", "proveByGoal", "(JIII)J"⟩, 4), (⟨"SlashKinds$Prover", "proveParts", "(JIIII)J"⟩, 4), (⟨"SlashKinds$Prover", "isEnough", "(J)Z"⟩, 4), (⟨"SlashKinds$Prover", "times", "(JJ)J"⟩, 4), (⟨"SlashKinds$Prover", "plus", "(JJ)J"⟩, 4), (⟨"SlashKinds$Prover", "proveByPlace", "(JIIII)J"⟩, 4), (⟨"SlashKinds$Prover", "proveUse", "(JIIIII)J"⟩, 4), (⟨"SlashKinds$MeaningSearch", "open", "(LSlashKinds$Kind;Z)I"⟩, 3)]
theorem lw_r1 : ∀ q ∈ lw_privs_1, lw_okq q := List.forall_mem_cons.mpr ⟨lw_p0, List.forall_mem_cons.mpr ⟨lw_p1, List.forall_mem_cons.mpr ⟨lw_p2, List.forall_mem_cons.mpr ⟨lw_p3, List.forall_mem_cons.mpr ⟨lw_p4, List.forall_mem_cons.mpr ⟨lw_p5, List.forall_mem_cons.mpr ⟨lw_p6, List.forall_mem_cons.mpr ⟨lw_p7, List.forall_mem_cons.mpr ⟨lw_p8, List.forall_mem_cons.mpr ⟨lw_p9, List.forall_mem_cons.mpr ⟨lw_p10, List.forall_mem_cons.mpr ⟨lw_p11, List.forall_mem_cons.mpr ⟨lw_p12, List.forall_mem_cons.mpr ⟨lw_p13, List.forall_mem_cons.mpr ⟨lw_p14, List.forall_mem_cons.mpr ⟨lw_p15, fun _ h => absurd h List.not_mem_nil⟩⟩⟩⟩⟩⟩⟩⟩⟩⟩⟩⟩⟩⟩⟩⟩
theorem lw_p16 : lw_okq (⟨"SlashKinds$MeaningSearch", "mean", "(JIII)J"⟩, 3) := ⟨⟨by decide +kernel, by decide +kernel⟩, List.mem_of_getElem? (i := 237) (by decide +kernel), List.mem_of_getElem? (i := 576) (by decide +kernel), List.mem_of_getElem? (i := 577) (by decide +kernel)⟩
theorem lw_p17 : lw_okq (⟨"SlashKinds$MeaningSearch", "meanAtom", "(JIII)J"⟩, 3) := ⟨⟨by decide +kernel, by decide +kernel⟩, List.mem_of_getElem? (i := 237) (by decide +kernel), List.mem_of_getElem? (i := 583) (by decide +kernel), List.mem_of_getElem? (i := 584) (by decide +kernel)⟩
theorem lw_p18 : lw_okq (⟨"SlashKinds$MeaningSearch", "meanByHead", "(JIIII)J"⟩, 3) := ⟨⟨by decide +kernel, by decide +kernel⟩, List.mem_of_getElem? (i := 237) (by decide +kernel), List.mem_of_getElem? (i := 589) (by decide +kernel), List.mem_of_getElem? (i := 590) (by decide +kernel)⟩
theorem lw_p19 : lw_okq (⟨"SlashKinds$MeaningSearch", "useUp", "(JIIIII)J"⟩, 3) := ⟨⟨by decide +kernel, by decide +kernel⟩, List.mem_of_getElem? (i := 237) (by decide +kernel), List.mem_of_getElem? (i := 594) (by decide +kernel), List.mem_of_getElem? (i := 595) (by decide +kernel)⟩
theorem lw_p20 : lw_okq (⟨"SlashKinds$Reader", "countOfChoices", "([II)I"⟩, 8) := ⟨⟨by decide +kernel, by decide +kernel⟩, List.mem_of_getElem? (i := 253) (by decide +kernel), List.mem_of_getElem? (i := 642) (by decide +kernel), List.mem_of_getElem? (i := 643) (by decide +kernel)⟩
theorem lw_p21 : lw_okq (⟨"SlashKinds$Reader", "meaningsOfChoice", "([III)I"⟩, 8) := ⟨⟨by decide +kernel, by decide +kernel⟩, List.mem_of_getElem? (i := 253) (by decide +kernel), List.mem_of_getElem? (i := 646) (by decide +kernel), List.mem_of_getElem? (i := 647) (by decide +kernel)⟩
theorem lw_p22 : lw_okq (⟨"SlashKinds$Reader", "tryRow", "(II)V"⟩, 8) := ⟨⟨by decide +kernel, by decide +kernel⟩, List.mem_of_getElem? (i := 253) (by decide +kernel), List.mem_of_getElem? (i := 681) (by decide +kernel), List.mem_of_getElem? (i := 682) (by decide +kernel)⟩
theorem lw_p23 : lw_okq (⟨"SlashKinds$Reader", "changesOf", "([II)I"⟩, 8) := ⟨⟨by decide +kernel, by decide +kernel⟩, List.mem_of_getElem? (i := 253) (by decide +kernel), List.mem_of_getElem? (i := 698) (by decide +kernel), List.mem_of_getElem? (i := 699) (by decide +kernel)⟩
theorem lw_p24 : lw_okq (⟨"SlashKindsModel", "isRead", "()Z"⟩, 52) := ⟨⟨by decide +kernel, by decide +kernel⟩, List.mem_of_getElem? (i := 710) (by decide +kernel), List.mem_of_getElem? (i := 895) (by decide +kernel), List.mem_of_getElem? (i := 896) (by decide +kernel)⟩
theorem lw_p25 : lw_okq (⟨"SlashKindsModel", "part", "(III)I"⟩, 52) := ⟨⟨by decide +kernel, by decide +kernel⟩, List.mem_of_getElem? (i := 710) (by decide +kernel), List.mem_of_getElem? (i := 899) (by decide +kernel), List.mem_of_getElem? (i := 900) (by decide +kernel)⟩
theorem lw_p26 : lw_okq (⟨"SlashKindsModel", "spells", "(I)V"⟩, 52) := ⟨⟨by decide +kernel, by decide +kernel⟩, List.mem_of_getElem? (i := 710) (by decide +kernel), List.mem_of_getElem? (i := 906) (by decide +kernel), List.mem_of_getElem? (i := 907) (by decide +kernel)⟩
theorem lw_p27 : lw_okq (⟨"SlashKindsModel", "atomsOf", "(I)I"⟩, 52) := ⟨⟨by decide +kernel, by decide +kernel⟩, List.mem_of_getElem? (i := 710) (by decide +kernel), List.mem_of_getElem? (i := 910) (by decide +kernel), List.mem_of_getElem? (i := 911) (by decide +kernel)⟩
theorem lw_p28 : lw_okq (⟨"SlashKindsModel", "works", "(I)V"⟩, 52) := ⟨⟨by decide +kernel, by decide +kernel⟩, List.mem_of_getElem? (i := 710) (by decide +kernel), List.mem_of_getElem? (i := 918) (by decide +kernel), List.mem_of_getElem? (i := 919) (by decide +kernel)⟩
theorem lw_p29 : lw_okq (⟨"SlashKindsModel", "balanceOf", "(II)I"⟩, 52) := ⟨⟨by decide +kernel, by decide +kernel⟩, List.mem_of_getElem? (i := 710) (by decide +kernel), List.mem_of_getElem? (i := 926) (by decide +kernel), List.mem_of_getElem? (i := 927) (by decide +kernel)⟩
theorem lw_p30 : lw_okq (⟨"SlashKindsModel", "proved", "(IIZ)I"⟩, 52) := ⟨⟨by decide +kernel, by decide +kernel⟩, List.mem_of_getElem? (i := 710) (by decide +kernel), List.mem_of_getElem? (i := 951) (by decide +kernel), List.mem_of_getElem? (i := 952) (by decide +kernel)⟩
theorem lw_p31 : lw_okq (⟨"SlashKindsModel", "begins", "(IZI)V"⟩, 52) := ⟨⟨by decide +kernel, by decide +kernel⟩, List.mem_of_getElem? (i := 710) (by decide +kernel), List.mem_of_getElem? (i := 958) (by decide +kernel), List.mem_of_getElem? (i := 959) (by decide +kernel)⟩
def lw_privs_2 : List (MethodName × Nat) := [(⟨"SlashKinds$MeaningSearch", "mean", "(JIII)J"⟩, 3), (⟨"SlashKinds$MeaningSearch", "meanAtom", "(JIII)J"⟩, 3), (⟨"SlashKinds$MeaningSearch", "meanByHead", "(JIIII)J"⟩, 3), (⟨"SlashKinds$MeaningSearch", "useUp", "(JIIIII)J"⟩, 3), (⟨"SlashKinds$Reader", "countOfChoices", "([II)I"⟩, 8), (⟨"SlashKinds$Reader", "meaningsOfChoice", "([III)I"⟩, 8), (⟨"SlashKinds$Reader", "tryRow", "(II)V"⟩, 8), (⟨"SlashKinds$Reader", "changesOf", "([II)I"⟩, 8), (⟨"SlashKindsModel", "isRead", "()Z"⟩, 52), (⟨"SlashKindsModel", "part", "(III)I"⟩, 52), (⟨"SlashKindsModel", "spells", "(I)V"⟩, 52), (⟨"SlashKindsModel", "atomsOf", "(I)I"⟩, 52), (⟨"SlashKindsModel", "works", "(I)V"⟩, 52), (⟨"SlashKindsModel", "balanceOf", "(II)I"⟩, 52), (⟨"SlashKindsModel", "proved", "(IIZ)I"⟩, 52), (⟨"SlashKindsModel", "begins", "(IZI)V"⟩, 52)]
theorem lw_r2 : ∀ q ∈ lw_privs_2, lw_okq q := List.forall_mem_cons.mpr ⟨lw_p16, List.forall_mem_cons.mpr ⟨lw_p17, List.forall_mem_cons.mpr ⟨lw_p18, List.forall_mem_cons.mpr ⟨lw_p19, List.forall_mem_cons.mpr ⟨lw_p20, List.forall_mem_cons.mpr ⟨lw_p21, List.forall_mem_cons.mpr ⟨lw_p22, List.forall_mem_cons.mpr ⟨lw_p23, List.forall_mem_cons.mpr ⟨lw_p24, List.forall_mem_cons.mpr ⟨lw_p25, List.forall_mem_cons.mpr ⟨lw_p26, List.forall_mem_cons.mpr ⟨lw_p27, List.forall_mem_cons.mpr ⟨lw_p28, List.forall_mem_cons.mpr ⟨lw_p29, List.forall_mem_cons.mpr ⟨lw_p30, List.forall_mem_cons.mpr ⟨lw_p31, fun _ h => absurd h List.not_mem_nil⟩⟩⟩⟩⟩⟩⟩⟩⟩⟩⟩⟩⟩⟩⟩⟩
theorem lw_p32 : lw_okq (⟨"SlashKindsModel", "atoms", "()I"⟩, 52) := ⟨⟨by decide +kernel, by decide +kernel⟩, List.mem_of_getElem? (i := 710) (by decide +kernel), List.mem_of_getElem? (i := 962) (by decide +kernel), List.mem_of_getElem? (i := 963) (by decide +kernel)⟩
theorem lw_p33 : lw_okq (⟨"SlashKindsModel", "tells", "(ZI)V"⟩, 52) := ⟨⟨by decide +kernel, by decide +kernel⟩, List.mem_of_getElem? (i := 710) (by decide +kernel), List.mem_of_getElem? (i := 966) (by decide +kernel), List.mem_of_getElem? (i := 967) (by decide +kernel)⟩
theorem lw_p34 : lw_okq (⟨"SlashKindsModel", "find", "()I"⟩, 52) := ⟨⟨by decide +kernel, by decide +kernel⟩, List.mem_of_getElem? (i := 710) (by decide +kernel), List.mem_of_getElem? (i := 970) (by decide +kernel), List.mem_of_getElem? (i := 971) (by decide +kernel)⟩
theorem lw_p35 : lw_okq (⟨"SlashKindsModel", "means", "(I)V"⟩, 52) := ⟨⟨by decide +kernel, by decide +kernel⟩, List.mem_of_getElem? (i := 710) (by decide +kernel), List.mem_of_getElem? (i := 975) (by decide +kernel), List.mem_of_getElem? (i := 976) (by decide +kernel)⟩
theorem lw_p36 : lw_okq (⟨"SlashKindsModel", "put", "(IIIIII)I"⟩, 52) := ⟨⟨by decide +kernel, by decide +kernel⟩, List.mem_of_getElem? (i := 710) (by decide +kernel), List.mem_of_getElem? (i := 979) (by decide +kernel), List.mem_of_getElem? (i := 980) (by decide +kernel)⟩
theorem lw_p37 : lw_okq (⟨"SlashKindsModel", "adds", "(III)V"⟩, 52) := ⟨⟨by decide +kernel, by decide +kernel⟩, List.mem_of_getElem? (i := 710) (by decide +kernel), List.mem_of_getElem? (i := 983) (by decide +kernel), List.mem_of_getElem? (i := 984) (by decide +kernel)⟩
theorem lw_p38 : lw_okq (⟨"SlashKindsModel", "spines", "(III)V"⟩, 52) := ⟨⟨by decide +kernel, by decide +kernel⟩, List.mem_of_getElem? (i := 710) (by decide +kernel), List.mem_of_getElem? (i := 988) (by decide +kernel), List.mem_of_getElem? (i := 989) (by decide +kernel)⟩
theorem lw_p39 : lw_okq (⟨"SlashKindsModel", "some", "(IIII)I"⟩, 52) := ⟨⟨by decide +kernel, by decide +kernel⟩, List.mem_of_getElem? (i := 710) (by decide +kernel), List.mem_of_getElem? (i := 992) (by decide +kernel), List.mem_of_getElem? (i := 993) (by decide +kernel)⟩
theorem lw_p40 : lw_okq (⟨"SlashKindsModel", "proves", "(I)V"⟩, 52) := ⟨⟨by decide +kernel, by decide +kernel⟩, List.mem_of_getElem? (i := 710) (by decide +kernel), List.mem_of_getElem? (i := 996) (by decide +kernel), List.mem_of_getElem? (i := 997) (by decide +kernel)⟩
theorem lw_p41 : lw_okq (⟨"SlashKindsModel", "hasTimes", "()Z"⟩, 52) := ⟨⟨by decide +kernel, by decide +kernel⟩, List.mem_of_getElem? (i := 710) (by decide +kernel), List.mem_of_getElem? (i := 1008) (by decide +kernel), List.mem_of_getElem? (i := 1009) (by decide +kernel)⟩
theorem lw_p42 : lw_okq (⟨"SlashKindsModel", "takes", "()V"⟩, 52) := ⟨⟨by decide +kernel, by decide +kernel⟩, List.mem_of_getElem? (i := 710) (by decide +kernel), List.mem_of_getElem? (i := 1035) (by decide +kernel), List.mem_of_getElem? (i := 1036) (by decide +kernel)⟩
theorem lw_p43 : lw_okq (⟨"SlashKindsModel", "choices", "(IIII)I"⟩, 52) := ⟨⟨by decide +kernel, by decide +kernel⟩, List.mem_of_getElem? (i := 710) (by decide +kernel), List.mem_of_getElem? (i := 1039) (by decide +kernel), List.mem_of_getElem? (i := 1040) (by decide +kernel)⟩
theorem lw_p44 : lw_okq (⟨"SlashKindsModel", "kindBehind", "(II)I"⟩, 52) := ⟨⟨by decide +kernel, by decide +kernel⟩, List.mem_of_getElem? (i := 710) (by decide +kernel), List.mem_of_getElem? (i := 1043) (by decide +kernel), List.mem_of_getElem? (i := 1044) (by decide +kernel)⟩
def lw_privs_3 : List (MethodName × Nat) := [(⟨"SlashKindsModel", "atoms", "()I"⟩, 52), (⟨"SlashKindsModel", "tells", "(ZI)V"⟩, 52), (⟨"SlashKindsModel", "find", "()I"⟩, 52), (⟨"SlashKindsModel", "means", "(I)V"⟩, 52), (⟨"SlashKindsModel", "put", "(IIIIII)I"⟩, 52), (⟨"SlashKindsModel", "adds", "(III)V"⟩, 52), (⟨"SlashKindsModel", "spines", "(III)V"⟩, 52), (⟨"SlashKindsModel", "some", "(IIII)I"⟩, 52), (⟨"SlashKindsModel", "proves", "(I)V"⟩, 52), (⟨"SlashKindsModel", "hasTimes", "()Z"⟩, 52), (⟨"SlashKindsModel", "takes", "()V"⟩, 52), (⟨"SlashKindsModel", "choices", "(IIII)I"⟩, 52), (⟨"SlashKindsModel", "kindBehind", "(II)I"⟩, 52)]
theorem lw_r3 : ∀ q ∈ lw_privs_3, lw_okq q := List.forall_mem_cons.mpr ⟨lw_p32, List.forall_mem_cons.mpr ⟨lw_p33, List.forall_mem_cons.mpr ⟨lw_p34, List.forall_mem_cons.mpr ⟨lw_p35, List.forall_mem_cons.mpr ⟨lw_p36, List.forall_mem_cons.mpr ⟨lw_p37, List.forall_mem_cons.mpr ⟨lw_p38, List.forall_mem_cons.mpr ⟨lw_p39, List.forall_mem_cons.mpr ⟨lw_p40, List.forall_mem_cons.mpr ⟨lw_p41, List.forall_mem_cons.mpr ⟨lw_p42, List.forall_mem_cons.mpr ⟨lw_p43, List.forall_mem_cons.mpr ⟨lw_p44, fun _ h => absurd h List.not_mem_nil⟩⟩⟩⟩⟩⟩⟩⟩⟩⟩⟩⟩⟩
def lw_privs : List (MethodName × Nat) := lw_privs_1 ++ (lw_privs_2 ++ (lw_privs_3))
def lw_tbl : List Cond := k2_sels lw_privs ++ tables_1
theorem lw_privs_ok : ∀ q ∈ lw_privs, lw_okq q := by
  show ∀ q ∈ lw_privs_1 ++ (lw_privs_2 ++ (lw_privs_3)), lw_okq q
  exact List.forall_mem_append.mpr ⟨lw_r1, List.forall_mem_append.mpr ⟨lw_r2, lw_r3⟩⟩
-- ===== end of PART A; then your names; then what follows =====
end
section
/-! names, fields in the order of the slots, codes; the words of the tables by their places -/
def RX0 : String := "SlashKinds$Kind"
def TX0 : u_T := fun k => match k with
  | 0 => ("SlashKinds$Kind", "signs", "[I", true)
  | 1 => ("SlashKinds$Kind", "resultNodes", "[I", true)
  | 2 => ("SlashKinds$Kind", "argumentNodes", "[I", true)
  | 3 => ("SlashKinds$Kind", "nodeGoals", "[I", true)
  | 4 => ("SlashKinds$Kind", "nodeBalances", "[J", true)
  | 5 => ("SlashKinds$Kind", "nodeCount", "I", true)
  | 6 => ("SlashKinds$Kind", "size", "I", true)
  | 7 => ("SlashKinds$Kind", "order", "I", true)
  | 8 => ("SlashKinds$Kind", "goal", "I", true)
  | 9 => ("SlashKinds$Kind", "balances", "J", true)
  | 10 => ("SlashKinds$Kind", "letters", "[I", true)
  | _ => ("SlashKinds$Kind", "letterCount", "I", false)
def tyX0 : Nat → FieldType := fun k => match k with
  | 0 => .array .int
  | 1 => .array .int
  | 2 => .array .int
  | 3 => .array .int
  | 4 => .array .long
  | 5 => .int
  | 6 => .int
  | 7 => .int
  | 8 => .int
  | 9 => .long
  | 10 => .array .int
  | _ => .int
abbrev wsX00 : List Cond := u_ws RX0 TX0 12
theorem nmX0 : ∀ a, a < 12 → ∀ b, b < 12 → a ≠ b → (TX0 a).2.1 ≠ (TX0 b).2.1 := by decide +kernel
theorem tyX0_ok : ∀ k, k < 12 → parseFieldDescriptor (TX0 k).2.2.1 = some (tyX0 k) := by decide +kernel
abbrev cX0_init : ByteArray := prog_2_method_1_code
def yX0_init : MethodName := ⟨RX0, "<init>", "([I[I[II)V"⟩
abbrev cX0_of : ByteArray := prog_2_method_2_code
def yX0_of : MethodName := ⟨RX0, "of", "([I[I[II)LSlashKinds$Kind;"⟩
abbrev cX0_ofAtom : ByteArray := prog_2_method_3_code
def yX0_ofAtom : MethodName := ⟨RX0, "ofAtom", "(I)LSlashKinds$Kind;"⟩
abbrev cX0_atomsOf : ByteArray := prog_2_method_4_code
def yX0_atomsOf : MethodName := ⟨RX0, "atomsOf", "([LSlashKinds$Kind;I)I"⟩
abbrev cX0_orderOf : ByteArray := prog_2_method_5_code
def yX0_orderOf : MethodName := ⟨RX0, "orderOf", "(III)I"⟩
abbrev cX0_goalOf : ByteArray := prog_2_method_6_code
def yX0_goalOf : MethodName := ⟨RX0, "goalOf", "(III)I"⟩
abbrev cX0_balancesOf : ByteArray := prog_2_method_7_code
def yX0_balancesOf : MethodName := ⟨RX0, "balancesOf", "(IJJ)J"⟩
abbrev cX0_letterCount : ByteArray := prog_2_method_8_code
def yX0_letterCount : MethodName := ⟨RX0, "letterCount", "()I"⟩
abbrev cX0_balanceOf : ByteArray := prog_2_method_9_code
def yX0_balanceOf : MethodName := ⟨RX0, "balanceOf", "(I)I"⟩
abbrev cX0_letterAt : ByteArray := prog_2_method_10_code
def yX0_letterAt : MethodName := ⟨RX0, "letterAt", "(I)I"⟩
abbrev cX0_hasStar : ByteArray := prog_2_method_11_code
def yX0_hasStar : MethodName := ⟨RX0, "hasStar", "()Z"⟩
abbrev cX0_hasTextOf : ByteArray := prog_2_method_12_code
def yX0_hasTextOf : MethodName := ⟨RX0, "hasTextOf", "(LSlashKinds$Kind;)Z"⟩
abbrev cX0_hasLettersOf : ByteArray := prog_2_method_13_code
def yX0_hasLettersOf : MethodName := ⟨RX0, "hasLettersOf", "(LSlashKinds$Kind;)Z"⟩
abbrev cX0_spell : ByteArray := prog_2_method_14_code
def yX0_spell : MethodName := ⟨RX0, "spell", "(LSlashKinds$Kind;IZII)I"⟩
abbrev cX0_spellAtom : ByteArray := prog_2_method_15_code
def yX0_spellAtom : MethodName := ⟨RX0, "spellAtom", "([III)I"⟩
def RX1 : String := "SlashKinds$KindText"
def TX1 : u_T := fun k => match k with
  | 0 => ("SlashKinds$KindText", "bytes", "[I", true)
  | 1 => ("SlashKinds$KindText", "used", "I", false)
  | 2 => ("SlashKinds$KindText", "signs", "[I", true)
  | 3 => ("SlashKinds$KindText", "resultNodes", "[I", true)
  | 4 => ("SlashKinds$KindText", "argumentNodes", "[I", true)
  | 5 => ("SlashKinds$KindText", "nodeCount", "I", false)
  | 6 => ("SlashKinds$KindText", "atomCount", "I", false)
  | 7 => ("SlashKinds$KindText", "openSigns", "[I", true)
  | 8 => ("SlashKinds$KindText", "openFirsts", "[I", true)
  | 9 => ("SlashKinds$KindText", "openCount", "I", false)
  | _ => ("SlashKinds$KindText", "wantsKind", "Z", false)
def tyX1 : Nat → FieldType := fun k => match k with
  | 0 => .array .int
  | 1 => .int
  | 2 => .array .int
  | 3 => .array .int
  | 4 => .array .int
  | 5 => .int
  | 6 => .int
  | 7 => .array .int
  | 8 => .array .int
  | 9 => .int
  | _ => .boolean
abbrev wsX10 : List Cond := u_ws RX1 TX1 11
theorem nmX1 : ∀ a, a < 11 → ∀ b, b < 11 → a ≠ b → (TX1 a).2.1 ≠ (TX1 b).2.1 := by decide +kernel
theorem tyX1_ok : ∀ k, k < 11 → parseFieldDescriptor (TX1 k).2.2.1 = some (tyX1 k) := by decide +kernel
abbrev cX1_init : ByteArray := prog_3_method_1_code
def yX1_init : MethodName := ⟨RX1, "<init>", "()V"⟩
abbrev cX1_length : ByteArray := prog_3_method_2_code
def yX1_length : MethodName := ⟨RX1, "length", "()I"⟩
abbrev cX1_hasRoomFor : ByteArray := prog_3_method_3_code
def yX1_hasRoomFor : MethodName := ⟨RX1, "hasRoomFor", "(I)Z"⟩
abbrev cX1_append : ByteArray := prog_3_method_4_code
def yX1_append : MethodName := ⟨RX1, "append", "(I)V"⟩
abbrev cX1_empty : ByteArray := prog_3_method_5_code
def yX1_empty : MethodName := ⟨RX1, "empty", "()I"⟩
abbrev cX1_findFault : ByteArray := prog_3_method_6_code
def yX1_findFault : MethodName := ⟨RX1, "findFault", "()I"⟩
abbrev cX1_parsedKind : ByteArray := prog_3_method_7_code
def yX1_parsedKind : MethodName := ⟨RX1, "parsedKind", "()LSlashKinds$Kind;"⟩
abbrev cX1_startKind : ByteArray := prog_3_method_8_code
def yX1_startKind : MethodName := ⟨RX1, "startKind", "(I)Z"⟩
abbrev cX1_goOn : ByteArray := prog_3_method_9_code
def yX1_goOn : MethodName := ⟨RX1, "goOn", "(I)Z"⟩
abbrev cX1_close : ByteArray := prog_3_method_10_code
def yX1_close : MethodName := ⟨RX1, "close", "(I)Z"⟩
abbrev cX1_appendNode : ByteArray := prog_3_method_11_code
def yX1_appendNode : MethodName := ⟨RX1, "appendNode", "(III)Z"⟩
def RX2 : String := "SlashKinds$MeaningSearch"
def TX2 : u_T := fun k => match k with
  | 0 => ("SlashKinds$MeaningSearch", "nodes", "LSlashKinds$Nodes;", true)
  | 1 => ("SlashKinds$MeaningSearch", "memo", "LSlashKinds$Memo;", true)
  | _ => ("SlashKinds$MeaningSearch", "full", "Z", false)
def tyX2 : Nat → FieldType := fun k => match k with
  | 0 => .object "SlashKinds$Nodes"
  | 1 => .object "SlashKinds$Memo"
  | _ => .boolean
abbrev wsX20 : List Cond := u_ws RX2 TX2 3
theorem nmX2 : ∀ a, a < 3 → ∀ b, b < 3 → a ≠ b → (TX2 a).2.1 ≠ (TX2 b).2.1 := by decide +kernel
theorem tyX2_ok : ∀ k, k < 3 → parseFieldDescriptor (TX2 k).2.2.1 = some (tyX2 k) := by decide +kernel
abbrev cX2_init : ByteArray := prog_4_method_1_code
def yX2_init : MethodName := ⟨RX2, "<init>", "(LSlashKinds$Nodes;LSlashKinds$Memo;)V"⟩
abbrev cX2_allows : ByteArray := prog_4_method_2_code
def yX2_allows : MethodName := ⟨RX2, "allows", "([LSlashKinds$Kind;ILSlashKinds$Kind;)Z"⟩
abbrev cX2_countOfMeanings : ByteArray := prog_4_method_3_code
def yX2_countOfMeanings : MethodName := ⟨RX2, "countOfMeanings", "([LSlashKinds$Kind;ILSlashKinds$Kind;Z)I"⟩
abbrev cX2_setOfHeads : ByteArray := prog_4_method_4_code
def yX2_setOfHeads : MethodName := ⟨RX2, "setOfHeads", "([LSlashKinds$Kind;ILSlashKinds$Kind;Z)I"⟩
abbrev cX2_isBalanced : ByteArray := prog_4_method_5_code
def yX2_isBalanced : MethodName := ⟨RX2, "isBalanced", "([LSlashKinds$Kind;ILSlashKinds$Kind;)Z"⟩
abbrev cX2_open : ByteArray := prog_4_method_6_code
def yX2_open : MethodName := ⟨RX2, "open", "(LSlashKinds$Kind;Z)I"⟩
abbrev cX2_mean : ByteArray := prog_4_method_7_code
def yX2_mean : MethodName := ⟨RX2, "mean", "(JIII)J"⟩
abbrev cX2_meanAtom : ByteArray := prog_4_method_8_code
def yX2_meanAtom : MethodName := ⟨RX2, "meanAtom", "(JIII)J"⟩
abbrev cX2_meanByHead : ByteArray := prog_4_method_9_code
def yX2_meanByHead : MethodName := ⟨RX2, "meanByHead", "(JIIII)J"⟩
abbrev cX2_useUp : ByteArray := prog_4_method_10_code
def yX2_useUp : MethodName := ⟨RX2, "useUp", "(JIIIII)J"⟩
def RX3 : String := "SlashKinds$Memo"
def TX3 : u_T := fun k => match k with
  | 0 => ("SlashKinds$Memo", "keys", "[J", true)
  | 1 => ("SlashKinds$Memo", "values", "[I", true)
  | 2 => ("SlashKinds$Memo", "questions", "[I", true)
  | _ => ("SlashKinds$Memo", "question", "I", false)
def tyX3 : Nat → FieldType := fun k => match k with
  | 0 => .array .long
  | 1 => .array .int
  | 2 => .array .int
  | _ => .int
abbrev wsX30 : List Cond := u_ws RX3 TX3 4
theorem nmX3 : ∀ a, a < 4 → ∀ b, b < 4 → a ≠ b → (TX3 a).2.1 ≠ (TX3 b).2.1 := by decide +kernel
theorem tyX3_ok : ∀ k, k < 4 → parseFieldDescriptor (TX3 k).2.2.1 = some (tyX3 k) := by decide +kernel
abbrev cX3_init : ByteArray := prog_5_method_1_code
def yX3_init : MethodName := ⟨RX3, "<init>", "()V"⟩
abbrev cX3_forget : ByteArray := prog_5_method_2_code
def yX3_forget : MethodName := ⟨RX3, "forget", "()V"⟩
abbrev cX3_find : ByteArray := prog_5_method_3_code
def yX3_find : MethodName := ⟨RX3, "find", "(J)I"⟩
abbrev cX3_keep : ByteArray := prog_5_method_4_code
def yX3_keep : MethodName := ⟨RX3, "keep", "(JI)V"⟩
abbrev cX3_slotOf : ByteArray := prog_5_method_5_code
def yX3_slotOf : MethodName := ⟨RX3, "slotOf", "(J)I"⟩
def RX4 : String := "SlashKinds$Nodes"
def TX4 : u_T := fun k => match k with
  | 0 => ("SlashKinds$Nodes", "signs", "[I", true)
  | 1 => ("SlashKinds$Nodes", "resultNodes", "[I", true)
  | 2 => ("SlashKinds$Nodes", "argumentNodes", "[I", true)
  | 3 => ("SlashKinds$Nodes", "goals", "[I", true)
  | 4 => ("SlashKinds$Nodes", "balances", "[J", true)
  | 5 => ("SlashKinds$Nodes", "numbers", "[I", true)
  | _ => ("SlashKinds$Nodes", "used", "I", false)
def tyX4 : Nat → FieldType := fun k => match k with
  | 0 => .array .int
  | 1 => .array .int
  | 2 => .array .int
  | 3 => .array .int
  | 4 => .array .long
  | 5 => .array .int
  | _ => .int
abbrev wsX40 : List Cond := u_ws RX4 TX4 7
theorem nmX4 : ∀ a, a < 7 → ∀ b, b < 7 → a ≠ b → (TX4 a).2.1 ≠ (TX4 b).2.1 := by decide +kernel
theorem tyX4_ok : ∀ k, k < 7 → parseFieldDescriptor (TX4 k).2.2.1 = some (tyX4 k) := by decide +kernel
abbrev cX4_init : ByteArray := prog_6_method_1_code
def yX4_init : MethodName := ⟨RX4, "<init>", "()V"⟩
abbrev cX4_empty : ByteArray := prog_6_method_2_code
def yX4_empty : MethodName := ⟨RX4, "empty", "()V"⟩
abbrev cX4_plant : ByteArray := prog_6_method_3_code
def yX4_plant : MethodName := ⟨RX4, "plant", "(LSlashKinds$Kind;)I"⟩
abbrev cX4_plantRow : ByteArray := prog_6_method_4_code
def yX4_plantRow : MethodName := ⟨RX4, "plantRow", "([LSlashKinds$Kind;I)J"⟩
abbrev cX4_balanceOfRow : ByteArray := prog_6_method_5_code
def yX4_balanceOfRow : MethodName := ⟨RX4, "balanceOfRow", "(JI)J"⟩
abbrev cX4_numberOf : ByteArray := prog_6_method_6_code
def yX4_numberOf : MethodName := ⟨RX4, "numberOf", "(LSlashKinds$Kind;III)I"⟩
def RX5 : String := "SlashKinds$Packed"
def TX5 : u_T := fun k => match k with
  | _ => ("", "", "", false)
def tyX5 : Nat → FieldType := fun k => match k with
  | _ => .int
abbrev wsX50 : List Cond := u_ws RX5 TX5 0
theorem nmX5 : ∀ a, a < 0 → ∀ b, b < 0 → a ≠ b → (TX5 a).2.1 ≠ (TX5 b).2.1 := by decide +kernel
theorem tyX5_ok : ∀ k, k < 0 → parseFieldDescriptor (TX5 k).2.2.1 = some (tyX5 k) := by decide +kernel
abbrev cX5_at : ByteArray := prog_7_method_2_code
def yX5_at : MethodName := ⟨RX5, "at", "(JI)I"⟩
abbrev cX5_put : ByteArray := prog_7_method_3_code
def yX5_put : MethodName := ⟨RX5, "put", "(JII)J"⟩
abbrev cX5_ahead : ByteArray := prog_7_method_4_code
def yX5_ahead : MethodName := ⟨RX5, "ahead", "(JI)J"⟩
abbrev cX5_part : ByteArray := prog_7_method_5_code
def yX5_part : MethodName := ⟨RX5, "part", "(JII)J"⟩
abbrev cX5_exchange : ByteArray := prog_7_method_6_code
def yX5_exchange : MethodName := ⟨RX5, "exchange", "(JIIJI)J"⟩
abbrev cX5_withGoal : ByteArray := prog_7_method_7_code
def yX5_withGoal : MethodName := ⟨RX5, "withGoal", "(JI)J"⟩
def RX6 : String := "SlashKinds$Prover"
def TX6 : u_T := fun k => match k with
  | 0 => ("SlashKinds$Prover", "nodes", "LSlashKinds$Nodes;", true)
  | 1 => ("SlashKinds$Prover", "memo", "LSlashKinds$Memo;", true)
  | 2 => ("SlashKinds$Prover", "full", "Z", false)
  | _ => ("SlashKinds$Prover", "onlyWhether", "Z", false)
def tyX6 : Nat → FieldType := fun k => match k with
  | 0 => .object "SlashKinds$Nodes"
  | 1 => .object "SlashKinds$Memo"
  | 2 => .boolean
  | _ => .boolean
abbrev wsX60 : List Cond := u_ws RX6 TX6 4
theorem nmX6 : ∀ a, a < 4 → ∀ b, b < 4 → a ≠ b → (TX6 a).2.1 ≠ (TX6 b).2.1 := by decide +kernel
theorem tyX6_ok : ∀ k, k < 4 → parseFieldDescriptor (TX6 k).2.2.1 = some (tyX6 k) := by decide +kernel
abbrev cX6_init : ByteArray := prog_8_method_1_code
def yX6_init : MethodName := ⟨RX6, "<init>", "(LSlashKinds$Nodes;LSlashKinds$Memo;)V"⟩
abbrev cX6_proves : ByteArray := prog_8_method_2_code
def yX6_proves : MethodName := ⟨RX6, "proves", "([LSlashKinds$Kind;ILSlashKinds$Kind;Z)Z"⟩
abbrev cX6_countOfProofs : ByteArray := prog_8_method_3_code
def yX6_countOfProofs : MethodName := ⟨RX6, "countOfProofs", "([LSlashKinds$Kind;ILSlashKinds$Kind;Z)I"⟩
abbrev cX6_ask : ByteArray := prog_8_method_4_code
def yX6_ask : MethodName := ⟨RX6, "ask", "([LSlashKinds$Kind;ILSlashKinds$Kind;Z)J"⟩
abbrev cX6_prove : ByteArray := prog_8_method_5_code
def yX6_prove : MethodName := ⟨RX6, "prove", "(JIII)J"⟩
abbrev cX6_proveByGoal : ByteArray := prog_8_method_6_code
def yX6_proveByGoal : MethodName := ⟨RX6, "proveByGoal", "(JIII)J"⟩
abbrev cX6_proveParts : ByteArray := prog_8_method_7_code
def yX6_proveParts : MethodName := ⟨RX6, "proveParts", "(JIIII)J"⟩
abbrev cX6_proveByPlace : ByteArray := prog_8_method_8_code
def yX6_proveByPlace : MethodName := ⟨RX6, "proveByPlace", "(JIIII)J"⟩
abbrev cX6_proveUse : ByteArray := prog_8_method_9_code
def yX6_proveUse : MethodName := ⟨RX6, "proveUse", "(JIIIII)J"⟩
abbrev cX6_isEnough : ByteArray := prog_8_method_10_code
def yX6_isEnough : MethodName := ⟨RX6, "isEnough", "(J)Z"⟩
abbrev cX6_plus : ByteArray := prog_8_method_11_code
def yX6_plus : MethodName := ⟨RX6, "plus", "(JJ)J"⟩
abbrev cX6_times : ByteArray := prog_8_method_12_code
def yX6_times : MethodName := ⟨RX6, "times", "(JJ)J"⟩
def RX7 : String := "SlashKinds$Reader"
def TX7 : u_T := fun k => match k with
  | 0 => ("SlashKinds$Reader", "search", "LSlashKinds$MeaningSearch;", true)
  | 1 => ("SlashKinds$Reader", "kinds", "[LSlashKinds$Kind;", true)
  | 2 => ("SlashKinds$Reader", "options", "[[I", true)
  | 3 => ("SlashKinds$Reader", "optionCounts", "[I", true)
  | 4 => ("SlashKinds$Reader", "chosen", "[LSlashKinds$Kind;", true)
  | 5 => ("SlashKinds$Reader", "tried", "[I", true)
  | 6 => ("SlashKinds$Reader", "goal", "LSlashKinds$Kind;", false)
  | _ => ("SlashKinds$Reader", "full", "Z", false)
def tyX7 : Nat → FieldType := fun k => match k with
  | 0 => .object "SlashKinds$MeaningSearch"
  | 1 => .array (.object "SlashKinds$Kind")
  | 2 => .array (.array .int)
  | 3 => .array .int
  | 4 => .array (.object "SlashKinds$Kind")
  | 5 => .array .int
  | 6 => .object "SlashKinds$Kind"
  | _ => .boolean
abbrev wsX70 : List Cond := u_ws RX7 TX7 8
theorem nmX7 : ∀ a, a < 8 → ∀ b, b < 8 → a ≠ b → (TX7 a).2.1 ≠ (TX7 b).2.1 := by decide +kernel
theorem tyX7_ok : ∀ k, k < 8 → parseFieldDescriptor (TX7 k).2.2.1 = some (tyX7 k) := by decide +kernel
abbrev cX7_init : ByteArray := prog_9_method_1_code
def yX7_init : MethodName := ⟨RX7, "<init>", "(LSlashKinds$MeaningSearch;)V"⟩
abbrev cX7_open : ByteArray := prog_9_method_2_code
def yX7_open : MethodName := ⟨RX7, "open", "([LSlashKinds$Kind;[ILSlashKinds$Kind;Z)V"⟩
abbrev cX7_countOfReadings : ByteArray := prog_9_method_3_code
def yX7_countOfReadings : MethodName := ⟨RX7, "countOfReadings", "([II)I"⟩
abbrev cX7_sumOfMeanings : ByteArray := prog_9_method_4_code
def yX7_sumOfMeanings : MethodName := ⟨RX7, "sumOfMeanings", "([II)I"⟩
abbrev cX7_firstReading : ByteArray := prog_9_method_5_code
def yX7_firstReading : MethodName := ⟨RX7, "firstReading", "([II)I"⟩
abbrev cX7_kindNumberIn : ByteArray := prog_9_method_6_code
def yX7_kindNumberIn : MethodName := ⟨RX7, "kindNumberIn", "([IIII)I"⟩
abbrev cX7_countOfReadableRows : ByteArray := prog_9_method_7_code
def yX7_countOfReadableRows : MethodName := ⟨RX7, "countOfReadableRows", "(I)I"⟩
abbrev cX7_findNearestRow : ByteArray := prog_9_method_8_code
def yX7_findNearestRow : MethodName := ⟨RX7, "findNearestRow", "([II)I"⟩
abbrev cX7_wordOfNearestRow : ByteArray := prog_9_method_9_code
def yX7_wordOfNearestRow : MethodName := ⟨RX7, "wordOfNearestRow", "(I)I"⟩
abbrev cX7_countOfChoices : ByteArray := prog_9_method_10_code
def yX7_countOfChoices : MethodName := ⟨RX7, "countOfChoices", "([II)I"⟩
abbrev cX7_meaningsOfChoice : ByteArray := prog_9_method_11_code
def yX7_meaningsOfChoice : MethodName := ⟨RX7, "meaningsOfChoice", "([III)I"⟩
abbrev cX7_countOfRows : ByteArray := prog_9_method_12_code
def yX7_countOfRows : MethodName := ⟨RX7, "countOfRows", "(I)I"⟩
abbrev cX7_tryRow : ByteArray := prog_9_method_13_code
def yX7_tryRow : MethodName := ⟨RX7, "tryRow", "(II)V"⟩
abbrev cX7_changesOf : ByteArray := prog_9_method_14_code
def yX7_changesOf : MethodName := ⟨RX7, "changesOf", "([II)I"⟩
def RX8 : String := "SlashKinds"
def TX8 : u_T := fun k => match k with
  | 0 => ("SlashKinds", "text", "LSlashKinds$KindText;", true)
  | 1 => ("SlashKinds", "kinds", "[LSlashKinds$Kind;", true)
  | 2 => ("SlashKinds", "row", "[LSlashKinds$Kind;", true)
  | 3 => ("SlashKinds", "rowLength", "I", false)
  | 4 => ("SlashKinds", "sets", "[I", true)
  | 5 => ("SlashKinds", "sentence", "[I", true)
  | 6 => ("SlashKinds", "sentenceLength", "I", false)
  | 7 => ("SlashKinds", "prover", "LSlashKinds$Prover;", true)
  | 8 => ("SlashKinds", "meaningSearch", "LSlashKinds$MeaningSearch;", true)
  | _ => ("SlashKinds", "reader", "LSlashKinds$Reader;", true)
def tyX8 : Nat → FieldType := fun k => match k with
  | 0 => .object "SlashKinds$KindText"
  | 1 => .array (.object "SlashKinds$Kind")
  | 2 => .array (.object "SlashKinds$Kind")
  | 3 => .int
  | 4 => .array .int
  | 5 => .array .int
  | 6 => .int
  | 7 => .object "SlashKinds$Prover"
  | 8 => .object "SlashKinds$MeaningSearch"
  | _ => .object "SlashKinds$Reader"
abbrev wsX80 : List Cond := u_ws RX8 TX8 10
theorem nmX8 : ∀ a, a < 10 → ∀ b, b < 10 → a ≠ b → (TX8 a).2.1 ≠ (TX8 b).2.1 := by decide +kernel
theorem tyX8_ok : ∀ k, k < 10 → parseFieldDescriptor (TX8 k).2.2.1 = some (tyX8 k) := by decide +kernel
abbrev cX8_init : ByteArray := prog_1_method_1_code
def yX8_init : MethodName := ⟨RX8, "<init>", "()V"⟩
abbrev cX8_type : ByteArray := prog_1_method_2_code
def yX8_type : MethodName := ⟨RX8, "type", "(JI)I"⟩
abbrev cX8_clear : ByteArray := prog_1_method_3_code
def yX8_clear : MethodName := ⟨RX8, "clear", "()I"⟩
abbrev cX8_read : ByteArray := prog_1_method_4_code
def yX8_read : MethodName := ⟨RX8, "read", "(I)I"⟩
abbrev cX8_about : ByteArray := prog_1_method_5_code
def yX8_about : MethodName := ⟨RX8, "about", "(II)I"⟩
abbrev cX8_balance : ByteArray := prog_1_method_6_code
def yX8_balance : MethodName := ⟨RX8, "balance", "(II)I"⟩
abbrev cX8_letter : ByteArray := prog_1_method_7_code
def yX8_letter : MethodName := ⟨RX8, "letter", "(II)I"⟩
abbrev cX8_alike : ByteArray := prog_1_method_8_code
def yX8_alike : MethodName := ⟨RX8, "alike", "(III)I"⟩
abbrev cX8_add : ByteArray := prog_1_method_9_code
def yX8_add : MethodName := ⟨RX8, "add", "(I)I"⟩
abbrev cX8_wipe : ByteArray := prog_1_method_10_code
def yX8_wipe : MethodName := ⟨RX8, "wipe", "()I"⟩
abbrev cX8_is : ByteArray := prog_1_method_11_code
def yX8_is : MethodName := ⟨RX8, "is", "(II)I"⟩
abbrev cX8_proofs : ByteArray := prog_1_method_12_code
def yX8_proofs : MethodName := ⟨RX8, "proofs", "(II)I"⟩
abbrev cX8_meanings : ByteArray := prog_1_method_13_code
def yX8_meanings : MethodName := ⟨RX8, "meanings", "(II)I"⟩
abbrev cX8_heads : ByteArray := prog_1_method_14_code
def yX8_heads : MethodName := ⟨RX8, "heads", "(II)I"⟩
abbrev cX8_word : ByteArray := prog_1_method_15_code
def yX8_word : MethodName := ⟨RX8, "word", "(II)I"⟩
abbrev cX8_say : ByteArray := prog_1_method_16_code
def yX8_say : MethodName := ⟨RX8, "say", "(I)I"⟩
abbrev cX8_hush : ByteArray := prog_1_method_17_code
def yX8_hush : MethodName := ⟨RX8, "hush", "()I"⟩
abbrev cX8_reads : ByteArray := prog_1_method_18_code
def yX8_reads : MethodName := ⟨RX8, "reads", "(III)I"⟩
abbrev cX8_first : ByteArray := prog_1_method_19_code
def yX8_first : MethodName := ⟨RX8, "first", "(III)I"⟩
abbrev cX8_rows : ByteArray := prog_1_method_20_code
def yX8_rows : MethodName := ⟨RX8, "rows", "(III)I"⟩
abbrev cX8_near : ByteArray := prog_1_method_21_code
def yX8_near : MethodName := ⟨RX8, "near", "(III)I"⟩
abbrev cX8_count : ByteArray := prog_1_method_22_code
def yX8_count : MethodName := ⟨RX8, "count", "(I)I"⟩
abbrev cX8_isKindNumber : ByteArray := prog_1_method_23_code
def yX8_isKindNumber : MethodName := ⟨RX8, "isKindNumber", "(I)Z"⟩
abbrev cX8_isLogic : ByteArray := prog_1_method_24_code
def yX8_isLogic : MethodName := ⟨RX8, "isLogic", "(I)Z"⟩
abbrev cX8_isWord : ByteArray := prog_1_method_25_code
def yX8_isWord : MethodName := ⟨RX8, "isWord", "(I)Z"⟩
abbrev cX8_provable : ByteArray := prog_1_method_26_code
def yX8_provable : MethodName := ⟨RX8, "provable", "(I)Z"⟩
def RX9 : String := "SlashKindsModel"
def TX9 : u_T := fun k => match k with
  | 0 => ("SlashKindsModel", "thrown", "I", false)
  | 1 => ("SlashKindsModel", "text", "[I", true)
  | 2 => ("SlashKindsModel", "typed", "I", false)
  | 3 => ("SlashKindsModel", "parts", "I", false)
  | 4 => ("SlashKindsModel", "fault", "I", false)
  | 5 => ("SlashKindsModel", "newSign", "[I", true)
  | 6 => ("SlashKindsModel", "newLeft", "[I", true)
  | 7 => ("SlashKindsModel", "newRight", "[I", true)
  | 8 => ("SlashKindsModel", "open", "[I", true)
  | 9 => ("SlashKindsModel", "openLeft", "[I", true)
  | 10 => ("SlashKindsModel", "openState", "[I", true)
  | 11 => ("SlashKindsModel", "bytes", "[I", true)
  | 12 => ("SlashKindsModel", "size", "[I", true)
  | 13 => ("SlashKindsModel", "many", "[I", true)
  | 14 => ("SlashKindsModel", "sign", "[I", true)
  | 15 => ("SlashKindsModel", "left", "[I", true)
  | 16 => ("SlashKindsModel", "right", "[I", true)
  | 17 => ("SlashKindsModel", "row", "I", false)
  | 18 => ("SlashKindsModel", "letters", "[I", true)
  | 19 => ("SlashKindsModel", "lettersMany", "[I", true)
  | 20 => ("SlashKindsModel", "other", "[I", true)
  | 21 => ("SlashKindsModel", "word", "[I", true)
  | 22 => ("SlashKindsModel", "said", "I", false)
  | 23 => ("SlashKindsModel", "sentence", "[I", true)
  | 24 => ("SlashKindsModel", "workMany", "I", false)
  | 25 => ("SlashKindsModel", "workSign", "[I", true)
  | 26 => ("SlashKindsModel", "workLeft", "[I", true)
  | 27 => ("SlashKindsModel", "workRight", "[I", true)
  | 28 => ("SlashKindsModel", "workSigns", "[I", true)
  | 29 => ("SlashKindsModel", "workAtoms", "[I", true)
  | 30 => ("SlashKindsModel", "workGoal", "[I", true)
  | 31 => ("SlashKindsModel", "workTimes", "[Z", true)
  | 32 => ("SlashKindsModel", "told", "[I", true)
  | 33 => ("SlashKindsModel", "asked", "I", false)
  | 34 => ("SlashKindsModel", "ask", "[I", true)
  | 35 => ("SlashKindsModel", "ways", "[J", true)
  | 36 => ("SlashKindsModel", "holds", "[Z", true)
  | 37 => ("SlashKindsModel", "level", "[I", true)
  | 38 => ("SlashKindsModel", "next", "[I", true)
  | 39 => ("SlashKindsModel", "begin", "[I", true)
  | 40 => ("SlashKindsModel", "used", "[I", true)
  | 41 => ("SlashKindsModel", "scratch", "[I", true)
  | 42 => ("SlashKindsModel", "waysTo", "[J", true)
  | 43 => ("SlashKindsModel", "comes", "[Z", true)
  | 44 => ("SlashKindsModel", "waysOn", "[J", true)
  | 45 => ("SlashKindsModel", "comesOn", "[Z", true)
  | 46 => ("SlashKindsModel", "gathers", "Z", false)
  | 47 => ("SlashKindsModel", "mayEmpty", "Z", false)
  | 48 => ("SlashKindsModel", "headsOf", "I", false)
  | 49 => ("SlashKindsModel", "choice", "[I", true)
  | 50 => ("SlashKindsModel", "words", "[I", true)
  | _ => ("SlashKindsModel", "first", "[I", true)
def tyX9 : Nat → FieldType := fun k => match k with
  | 0 => .int
  | 1 => .array .int
  | 2 => .int
  | 3 => .int
  | 4 => .int
  | 5 => .array .int
  | 6 => .array .int
  | 7 => .array .int
  | 8 => .array .int
  | 9 => .array .int
  | 10 => .array .int
  | 11 => .array .int
  | 12 => .array .int
  | 13 => .array .int
  | 14 => .array .int
  | 15 => .array .int
  | 16 => .array .int
  | 17 => .int
  | 18 => .array .int
  | 19 => .array .int
  | 20 => .array .int
  | 21 => .array .int
  | 22 => .int
  | 23 => .array .int
  | 24 => .int
  | 25 => .array .int
  | 26 => .array .int
  | 27 => .array .int
  | 28 => .array .int
  | 29 => .array .int
  | 30 => .array .int
  | 31 => .array .boolean
  | 32 => .array .int
  | 33 => .int
  | 34 => .array .int
  | 35 => .array .long
  | 36 => .array .boolean
  | 37 => .array .int
  | 38 => .array .int
  | 39 => .array .int
  | 40 => .array .int
  | 41 => .array .int
  | 42 => .array .long
  | 43 => .array .boolean
  | 44 => .array .long
  | 45 => .array .boolean
  | 46 => .boolean
  | 47 => .boolean
  | 48 => .int
  | 49 => .array .int
  | 50 => .array .int
  | _ => .array .int
abbrev wsX90 : List Cond := u_ws RX9 TX9 52
theorem nmX9 : ∀ a, a < 52 → ∀ b, b < 52 → a ≠ b → (TX9 a).2.1 ≠ (TX9 b).2.1 := by decide +kernel
theorem tyX9_ok : ∀ k, k < 52 → parseFieldDescriptor (TX9 k).2.2.1 = some (tyX9 k) := by decide +kernel
abbrev cX9_init : ByteArray := prog_11_method_1_code
def yX9_init : MethodName := ⟨RX9, "<init>", "()V"⟩
abbrev cX9_in : ByteArray := prog_11_method_3_code
def yX9_in : MethodName := ⟨RX9, "in", "(III)Z"⟩
abbrev cX9_isKind : ByteArray := prog_11_method_4_code
def yX9_isKind : MethodName := ⟨RX9, "isKind", "(I)Z"⟩
abbrev cX9_type : ByteArray := prog_11_method_5_code
def yX9_type : MethodName := ⟨RX9, "type", "(JI)I"⟩
abbrev cX9_clear : ByteArray := prog_11_method_6_code
def yX9_clear : MethodName := ⟨RX9, "clear", "()I"⟩
abbrev cX9_isSign : ByteArray := prog_11_method_7_code
def yX9_isSign : MethodName := ⟨RX9, "isSign", "(I)Z"⟩
abbrev cX9_part : ByteArray := prog_11_method_8_code
def yX9_part : MethodName := ⟨RX9, "part", "(III)I"⟩
abbrev cX9_isRead : ByteArray := prog_11_method_9_code
def yX9_isRead : MethodName := ⟨RX9, "isRead", "()Z"⟩
abbrev cX9_read : ByteArray := prog_11_method_10_code
def yX9_read : MethodName := ⟨RX9, "read", "(I)I"⟩
abbrev cX9_atomsOf : ByteArray := prog_11_method_11_code
def yX9_atomsOf : MethodName := ⟨RX9, "atomsOf", "(I)I"⟩
abbrev cX9_spells : ByteArray := prog_11_method_12_code
def yX9_spells : MethodName := ⟨RX9, "spells", "(I)V"⟩
abbrev cX9_works : ByteArray := prog_11_method_13_code
def yX9_works : MethodName := ⟨RX9, "works", "(I)V"⟩
abbrev cX9_about : ByteArray := prog_11_method_14_code
def yX9_about : MethodName := ⟨RX9, "about", "(II)I"⟩
abbrev cX9_balanceOf : ByteArray := prog_11_method_15_code
def yX9_balanceOf : MethodName := ⟨RX9, "balanceOf", "(II)I"⟩
abbrev cX9_balance : ByteArray := prog_11_method_16_code
def yX9_balance : MethodName := ⟨RX9, "balance", "(II)I"⟩
abbrev cX9_letter : ByteArray := prog_11_method_17_code
def yX9_letter : MethodName := ⟨RX9, "letter", "(II)I"⟩
abbrev cX9_alike : ByteArray := prog_11_method_18_code
def yX9_alike : MethodName := ⟨RX9, "alike", "(III)I"⟩
abbrev cX9_add : ByteArray := prog_11_method_19_code
def yX9_add : MethodName := ⟨RX9, "add", "(I)I"⟩
abbrev cX9_wipe : ByteArray := prog_11_method_20_code
def yX9_wipe : MethodName := ⟨RX9, "wipe", "()I"⟩
abbrev cX9_begins : ByteArray := prog_11_method_21_code
def yX9_begins : MethodName := ⟨RX9, "begins", "(IZI)V"⟩
abbrev cX9_atoms : ByteArray := prog_11_method_22_code
def yX9_atoms : MethodName := ⟨RX9, "atoms", "()I"⟩
abbrev cX9_hasTimes : ByteArray := prog_11_method_23_code
def yX9_hasTimes : MethodName := ⟨RX9, "hasTimes", "()Z"⟩
abbrev cX9_find : ByteArray := prog_11_method_24_code
def yX9_find : MethodName := ⟨RX9, "find", "()I"⟩
abbrev cX9_some : ByteArray := prog_11_method_25_code
def yX9_some : MethodName := ⟨RX9, "some", "(IIII)I"⟩
abbrev cX9_put : ByteArray := prog_11_method_26_code
def yX9_put : MethodName := ⟨RX9, "put", "(IIIIII)I"⟩
abbrev cX9_adds : ByteArray := prog_11_method_27_code
def yX9_adds : MethodName := ⟨RX9, "adds", "(III)V"⟩
abbrev cX9_proves : ByteArray := prog_11_method_28_code
def yX9_proves : MethodName := ⟨RX9, "proves", "(I)V"⟩
abbrev cX9_means : ByteArray := prog_11_method_29_code
def yX9_means : MethodName := ⟨RX9, "means", "(I)V"⟩
abbrev cX9_spines : ByteArray := prog_11_method_30_code
def yX9_spines : MethodName := ⟨RX9, "spines", "(III)V"⟩
abbrev cX9_tells : ByteArray := prog_11_method_31_code
def yX9_tells : MethodName := ⟨RX9, "tells", "(ZI)V"⟩
abbrev cX9_isLogic : ByteArray := prog_11_method_32_code
def yX9_isLogic : MethodName := ⟨RX9, "isLogic", "(I)Z"⟩
abbrev cX9_proved : ByteArray := prog_11_method_33_code
def yX9_proved : MethodName := ⟨RX9, "proved", "(IIZ)I"⟩
abbrev cX9_is : ByteArray := prog_11_method_34_code
def yX9_is : MethodName := ⟨RX9, "is", "(II)I"⟩
abbrev cX9_proofs : ByteArray := prog_11_method_35_code
def yX9_proofs : MethodName := ⟨RX9, "proofs", "(II)I"⟩
abbrev cX9_meanings : ByteArray := prog_11_method_36_code
def yX9_meanings : MethodName := ⟨RX9, "meanings", "(II)I"⟩
abbrev cX9_heads : ByteArray := prog_11_method_37_code
def yX9_heads : MethodName := ⟨RX9, "heads", "(II)I"⟩
abbrev cX9_ones : ByteArray := prog_11_method_38_code
def yX9_ones : MethodName := ⟨RX9, "ones", "(I)I"⟩
abbrev cX9_word : ByteArray := prog_11_method_39_code
def yX9_word : MethodName := ⟨RX9, "word", "(II)I"⟩
abbrev cX9_say : ByteArray := prog_11_method_40_code
def yX9_say : MethodName := ⟨RX9, "say", "(I)I"⟩
abbrev cX9_hush : ByteArray := prog_11_method_41_code
def yX9_hush : MethodName := ⟨RX9, "hush", "()I"⟩
abbrev cX9_kindBehind : ByteArray := prog_11_method_42_code
def yX9_kindBehind : MethodName := ⟨RX9, "kindBehind", "(II)I"⟩
abbrev cX9_choices : ByteArray := prog_11_method_43_code
def yX9_choices : MethodName := ⟨RX9, "choices", "(IIII)I"⟩
abbrev cX9_takes : ByteArray := prog_11_method_44_code
def yX9_takes : MethodName := ⟨RX9, "takes", "()V"⟩
abbrev cX9_reads : ByteArray := prog_11_method_45_code
def yX9_reads : MethodName := ⟨RX9, "reads", "(III)I"⟩
abbrev cX9_first : ByteArray := prog_11_method_46_code
def yX9_first : MethodName := ⟨RX9, "first", "(III)I"⟩
abbrev cX9_rows : ByteArray := prog_11_method_47_code
def yX9_rows : MethodName := ⟨RX9, "rows", "(III)I"⟩
abbrev cX9_near : ByteArray := prog_11_method_48_code
def yX9_near : MethodName := ⟨RX9, "near", "(III)I"⟩
abbrev cX9_count : ByteArray := prog_11_method_49_code
def yX9_count : MethodName := ⟨RX9, "count", "(I)I"⟩
def RJx8e188 : String := "java/lang/Cloneable"
def RJ6 : String := "java/lang/Integer"
abbrev cJ6_bitCount_0f7a4 : ByteArray := prog_13_method_49_code
def yJ6_bitCount_0f7a4 : MethodName := ⟨RJ6, "bitCount", "(I)I"⟩
def RJ9 : String := "java/lang/Math"
abbrev cJ9_floorMod_7cf53 : ByteArray := prog_14_method_50_code
def yJ9_floorMod_7cf53 : MethodName := ⟨RJ9, "floorMod", "(II)I"⟩
abbrev cJ9_max_7cf53 : ByteArray := prog_14_method_65_code
def yJ9_max_7cf53 : MethodName := ⟨RJ9, "max", "(II)I"⟩
abbrev cJ9_max_f86c9 : ByteArray := prog_14_method_66_code
def yJ9_max_f86c9 : MethodName := ⟨RJ9, "max", "(JJ)J"⟩
abbrev cJ9_min_7cf53 : ByteArray := prog_14_method_69_code
def yJ9_min_7cf53 : MethodName := ⟨RJ9, "min", "(II)I"⟩
abbrev cJ9_min_f86c9 : ByteArray := prog_14_method_70_code
def yJ9_min_f86c9 : MethodName := ⟨RJ9, "min", "(JJ)J"⟩
def RJ10 : String := "java/lang/System"
def RJ7 : String := "java/util/Arrays"
abbrev cJ7_copyOf_59c91 : ByteArray := prog_16_method_123_code
def yJ7_copyOf_59c91 : MethodName := ⟨RJ7, "copyOf", "([II)[I"⟩
def RL : String := "SlashKindsLaw"
abbrev cL_law : ByteArray := code
def yL_law : MethodName := ⟨RL, "law", "([I)Z"⟩
abbrev vwCl : List vw_C := [(RX0, TX0, 12), (RX1, TX1, 11), (RX2, TX2, 3), (RX3, TX3, 4), (RX4, TX4, 7), (RX6, TX6, 4), (RX7, TX7, 8), (RX8, TX8, 10), (RX9, TX9, 52)]
def WA : List Cond := lw_tbl.filter goodWord
theorem WA_in {w : Cond} (h : w ∈ WA) : w ∈ lw_tbl := (List.mem_filter.mp h).1
theorem mW {i : Nat} {w : Cond} (h : tables_1[i]? = some w) (g : goodWord w = true) : w ∈ WA := List.mem_filter.mpr ⟨List.mem_append_right _ (List.mem_of_getElem? h), g⟩
theorem mS {i : Nat} {q : MethodName × Nat} (h : lw_privs[i]? = some q) (g : goodWord (Cond.selects q.1.cls q.1 q.1) = true) : Cond.selects q.1.cls q.1 q.1 ∈ WA := List.mem_filter.mpr ⟨List.mem_append_left _ (List.mem_map.mpr ⟨q, List.mem_of_getElem? h, rfl⟩), g⟩
theorem inPos {ws : List Cond} (ps : List Nat) (hp : ws = ps.filterMap (fun i => tables_1[i]?)) (h : ws.all goodWord = true) : ∀ w ∈ ws, w ∈ WA := by
  intro w hw
  have h1 := List.all_eq_true.mp h w hw
  rw [hp] at hw
  obtain ⟨i, -, hi⟩ := List.mem_filterMap.mp hw
  exact mW hi h1
theorem WA_good : GoodIn WA WA := fun w h => ⟨h, good_of_word (List.mem_filter.mp h).2⟩
theorem inlX0 : ∀ w ∈ wsX00, w ∈ WA := inPos [129, 131, 133, 135, 137, 139, 141, 143, 145, 147, 149, 151] (by decide +kernel) (by decide +kernel)
theorem inlX1 : ∀ w ∈ wsX10, w ∈ WA := inPos [40, 42, 44, 46, 48, 50, 52, 54, 56, 58, 60] (by decide +kernel) (by decide +kernel)
theorem inlX2 : ∀ w ∈ wsX20, w ∈ WA := inPos [245, 247, 249] (by decide +kernel) (by decide +kernel)
theorem inlX3 : ∀ w ∈ wsX30, w ∈ WA := inPos [208, 210, 212, 214] (by decide +kernel) (by decide +kernel)
theorem inlX4 : ∀ w ∈ wsX40, w ∈ WA := inPos [183, 185, 187, 189, 191, 193, 195] (by decide +kernel) (by decide +kernel)
theorem inlX6 : ∀ w ∈ wsX60, w ∈ WA := inPos [227, 229, 231, 233] (by decide +kernel) (by decide +kernel)
theorem inlX7 : ∀ w ∈ wsX70, w ∈ WA := inPos [270, 272, 274, 276, 278, 280, 282, 284] (by decide +kernel) (by decide +kernel)
theorem inlX8 : ∀ w ∈ wsX80, w ∈ WA := inPos [297, 299, 301, 303, 305, 307, 309, 311, 313, 315] (by decide +kernel) (by decide +kernel)
theorem inlX9 : ∀ w ∈ wsX90, w ∈ WA := inPos [769, 771, 773, 775, 777, 779, 781, 783, 785, 787, 789, 791, 793, 795, 797, 799, 801, 803, 805, 807, 809, 811, 813, 815, 817, 819, 821, 823, 825, 827, 829, 831, 833, 835, 837, 839, 841, 843, 845, 847, 849, 851, 853, 855, 857, 859, 861, 863, 865, 867, 869, 871] (by decide +kernel) (by decide +kernel)
end
section

/-- numbers as whole numbers -/
def iI (z : Int) : Int32 := Int32.ofInt z
def wr (z : Int) : Int := z.bmod 4294967296
def ix (z : Int) : Nat := (wr z).toNat
abbrev inb (z : Int) (n : Nat) : Prop := 0 ≤ wr z ∧ wr z < (n : Int)
def ian (x y : Int) : Int := (iI x &&& iI y).toInt
def ior (x y : Int) : Int := (iI x ||| iI y).toInt
def ishl2 (x y : Int) : Int := (iI x <<< (iI y &&& 31)).toInt
theorem iI_toInt (z : Int) : (iI z).toInt = wr z := by
  unfold iI wr
  rw [Int32.toInt_ofInt]
theorem iI_of (x : Int32) : iI x.toInt = x := by
  unfold iI
  exact Int32.ofInt_toInt x
theorem iI_add (x y : Int) : iI x + iI y = iI (x + y) := by
  unfold iI
  exact (Int32.ofInt_add x y).symm
theorem iI_sub (x y : Int) : iI x - iI y = iI (x - y) := by
  unfold iI
  exact (Int32.ofInt_sub x y).symm
theorem iI_mul (x y : Int) : iI x * iI y = iI (x * y) := by
  unfold iI
  exact (Int32.ofInt_mul x y).symm
theorem iI_neg (x : Int) : - iI x = iI (- x) := by
  unfold iI
  exact (Int32.ofInt_neg x).symm
theorem iI_lt (x y : Int) : iI x < iI y ↔ wr x < wr y := by rw [Int32.lt_iff_toInt_lt, iI_toInt, iI_toInt]
theorem iI_le (x y : Int) : iI x ≤ iI y ↔ wr x ≤ wr y := by rw [Int32.le_iff_toInt_le, iI_toInt, iI_toInt]
theorem iI_eq (x y : Int) : iI x = iI y ↔ wr x = wr y := by rw [← Int32.toInt_inj, iI_toInt, iI_toInt]
theorem iI_clamp (x : Int) : (iI x).toNatClampNeg = ix x := by
  show (iI x).toInt.toNat = (wr x).toNat
  rw [iI_toInt]
theorem iI_0 : iI 0 = 0 := rfl
theorem wr_0 : wr 0 = 0 := rfl
theorem inb_vp {x : Int} {n : Nat} (h : inb x n) : vp_in (iI x) n := by
  unfold vp_in
  rw [iI_clamp, ← iI_0, iI_lt, wr_0]
  unfold ix
  obtain ⟨h1, h2⟩ := h
  omega
/-- a state: how many cells there are, the whole numbers of cell and place, the longs, the references -/
abbrev Sg : Type := Nat × (Nat → Nat → Int) × (Nat → Nat → Int64) × (Nat → Nat → Option Nat)
def up2 {α : Type} (f : Nat → Nat → α) (a k : Nat) (v : α) : Nat → Nat → α := fun b j => if b = a then (if j = k then v else f b j) else f b j
abbrev setI (σ : Sg) (a k : Nat) (v : Int) : Sg := (σ.1, up2 σ.2.1 a k v, σ.2.2.1, σ.2.2.2)
abbrev setJ (σ : Sg) (a k : Nat) (v : Int64) : Sg := (σ.1, σ.2.1, up2 σ.2.2.1 a k v, σ.2.2.2)
abbrev setQ (σ : Sg) (a k : Nat) (v : Option Nat) : Sg := (σ.1, σ.2.1, σ.2.2.1, up2 σ.2.2.2 a k v)

def shpT : List (Nat ⊕ (Nat × Nat)) := [.inr (9, 0), .inl 7, .inl 1, .inr (0, 80), .inr (0, 32), .inr (0, 32), .inr (0, 32), .inr (0, 6), .inr (0, 6), .inr (3, 12), .inr (3, 8), .inr (0, 4), .inr (0, 6), .inr (0, 32), .inr (0, 32), .inr (0, 32), .inl 0, .inr (0, 32), .inr (1, 32), .inr (0, 12), .inr (0, 32), .inr (0, 32), .inr (0, 32), .inr (0, 32), .inl 4, .inr (0, 32), .inr (0, 32), .inr (0, 32), .inr (0, 32), .inr (1, 32), .inr (0, 32), .inl 3, .inr (1, 1024), .inr (0, 1024), .inr (0, 1024), .inl 5, .inl 2, .inl 6, .inr (3, 12), .inr (4, 4), .inr (0, 3), .inr (0, 3), .inr (0, 3), .inr (0, 3), .inr (0, 4), .inr (3, 6), .inr (0, 4), .inr (0, 32), .inr (0, 32), .inr (0, 32), .inl 0, .inr (0, 32), .inr (1, 32), .inr (0, 12), .inr (0, 32), .inr (0, 32), .inr (0, 32), .inr (0, 32), .inl 8, .inr (0, 80), .inr (0, 23), .inr (0, 23), .inr (0, 23), .inr (0, 6), .inr (0, 6), .inr (0, 6), .inr (0, 1600), .inr (0, 20), .inr (0, 20), .inr (0, 460), .inr (0, 460), .inr (0, 460), .inr (0, 240), .inr (0, 20), .inr (0, 60), .inr (0, 4), .inr (0, 6), .inr (0, 230), .inr (0, 230), .inr (0, 230), .inr (0, 230), .inr (0, 230), .inr (0, 230), .inr (2, 230), .inr (0, 230), .inr (0, 360000), .inr (1, 20000), .inr (2, 20000), .inr (0, 20000), .inr (0, 20000), .inr (0, 65536), .inr (0, 20000), .inr (0, 18), .inr (1, 400), .inr (2, 400), .inr (1, 400), .inr (2, 400), .inr (0, 6), .inr (0, 6), .inr (0, 6)]
def shpK : List (Nat ⊕ (Nat × Nat)) := [.inl 0, .inr (0, 32), .inr (1, 32), .inr (0, 12), .inr (0, 32), .inr (0, 32), .inr (0, 32), .inr (0, 32)]
/-- what cell a is: an object of the class of that number, or an array by its type (0 int, 1 long, 2 boolean, 3 of SlashKinds.Kind, 4 of int rows) and length -/
def shp (a : Nat) : Nat ⊕ (Nat × Nat) := if a < 100 then shpT.getD a (.inr (9, 0)) else shpK.getD ((a - 100) % 8) (.inr (9, 0))
def clTy : Nat → Nat → FieldType := fun c => match c with
  | 0 => tyX0
  | 1 => tyX1
  | 2 => tyX2
  | 3 => tyX3
  | 4 => tyX4
  | 5 => tyX6
  | 6 => tyX7
  | 7 => tyX8
  | _ => tyX9

def sh (ad : Nat → Nat) : Value → Value
  | .ref a => .ref (ad a)
  | v => v
def fvv (ad : Nat → Nat) (σ : Sg) (a : Nat) (ty : FieldType) (k : Nat) : Value := match ty with
  | .int => .int (iI (σ.2.1 a k))
  | .boolean => .int (iI (σ.2.1 a k))
  | .long => .long (σ.2.2.1 a k)
  | _ => va_rf ((σ.2.2.2 a k).map ad)
def nFl (c : Nat) : Nat := match vwCl[c]? with
  | some q => q.2.2
  | none => 0
def arc (ad : Nat → Nat) (σ : Sg) (a t n : Nat) : vp_A := match t with
  | 0 => (n, .inl (fun j => iI (σ.2.1 a j)))
  | 2 => (n, .inl (fun j => iI (σ.2.1 a j)))
  | 1 => (n, .inr (.inl (σ.2.2.1 a)))
  | _ => (n, .inr (.inr (.inr (.inr (fun j => (σ.2.2.2 a j).map ad)))))
def ce (kA : Nat → ClassId) (ad : Nat → Nat) (σ : Sg) (a : Nat) : va_E := match shp a with
  | .inl c => .inr (c, (List.range (nFl c)).map (fun k => fvv ad σ a (clTy c k) k))
  | .inr (t, n) => .inl (kA t, arc ad σ a t n)
def tyA : Nat → FieldType
  | 0 => .int
  | 1 => .long
  | 2 => .boolean
  | 3 => .object "SlashKinds$Kind"
  | _ => .array .int
abbrev tysA (kA : Nat → ClassId) : List (ClassId × FieldType) := [(kA 0, .int), (kA 1, .long), (kA 2, .boolean), (kA 3, .object "SlashKinds$Kind"), (kA 4, .array .int)]
abbrev Kx (D : va_G) (kA : Nat → ClassId) (U : State) : Prop := va_K D vwCl (tysA kA) U
def Wd (D : va_G) (kA : Nat → ClassId) (ad : Nat → Nat) (b : Nat) (σ : Sg) (H : Heap) : Prop :=
  (∀ a, 1 ≤ a → ad a = b + a) ∧ H.size = b + σ.1 ∧ 1 ≤ σ.1 ∧ ∀ a, 1 ≤ a → a < σ.1 → va_at D vwCl (ad a, ce kA ad σ a) H
/-- a method: its name, code, locals, answer; the law's script -/
abbrev MD : Type := MethodName × ByteArray × Nat × Option FieldType × Option (Nat × (Nat → Int32))
abbrev shL (ad : Nat → Nat) (L : List (Nat × Value)) : List (Nat × Value) := L.map (fun q => (q.1, sh ad q.2))
abbrev rmM (d kc ks : Nat) : Room := { frames := d, cells := kc, slots := ks, locals := 64 * d }
def scOk (sc : Option (Nat × (Nat → Int32))) (ad : Nat → Nat) (b : Nat) (s : State) : Prop := match sc with
  | none => True
  | some q => va_X (ad 0) q.1 q.2 s s.heap ∧ ad 0 < s.heap.size ∧ ad 0 ≤ b
def retI (cc : ByteArray) (ret : Option FieldType) (pc : Nat) (v : Option Value) : Prop := match v with
  | none => decode cc pc = .ok (.return_, 1) ∧ ret = none
  | some (.int x) => decode cc pc = .ok (.ireturn, 1) ∧ ∃ ty, ret = some ty ∧ narrow ty (.int x) = .int x
  | some (.long _) => decode cc pc = .ok (.lreturn, 1) ∧ ret = some .long
  | some (.ref _) => decode cc pc = .ok (.areturn, 1) ∧ ∃ ty, ret = some ty ∧ ((∃ n, ty = .object n) ∨ ∃ t, ty = .array t)
  | _ => False
abbrev AB (b : Nat) : Nat → Prop := fun q => b + 1 ≤ q
def HRet (M : MD) (Q : Option Value → Sg → Prop) (p : Program) (l : Launch) (e : Env) (R : Room) (s : State) (m : MethodId) (args : Array Value) (below : List Frame) (meth : Method) (c : Code) (mc ms : Nat) (Z : State → Prop) (D : va_G) (kA : Nat → ClassId) (ad : Nat → Nat) (b : Nat) : Prop :=
  ∀ (H : Heap) (locs : List Loc) (ls : Array Slot) (pc : Nat) (σ : Sg) (v : Option Value), Q v σ → Wd D kA ad b σ H → va_S (AB b) s.heap H locs → retI M.2.1 M.2.2.2.1 pc v → W p l e R s m args below meth c H locs mc ms Z (F0 m pc ls ((v.map (sh ad)).toList))
/-- words that are handed on as facts of the state, not among the words -/
def NX (U : State) : Prop := va_Nw (.methodLinkNest RX8 9 yX1_init "SlashKinds") U ∧ va_Nw (.methodLinkNest RX8 45 yX4_init "SlashKinds") U ∧ va_Nw (.methodLinkNest RX8 48 yX3_init "SlashKinds") U ∧ va_AO "SlashKinds$Kind" U ∧ (Cond.arrayOver (.array .int)).before #[] U = true ∧ va_Nw (.castable "[I" "java/lang/Cloneable") U
theorem NX.call {U : State} (h : NX U) (g : JFrame) (mk : MethodId) (a : Array Value) : NX (U.calling g mk a) := h
theorem va_AOI_moved {u U : State} (hvm : u.vm.Alike U.vm) (h : (Cond.arrayOver (.array .int)).before #[] u = true) : (Cond.arrayOver (.array .int)).before #[] U = true := by
  have e := Cond.arrayOver_setVmC (args := #[]) (s := u) (vm' := U.vm) hvm (.array .int)
  have e2 : (Cond.arrayOver (.array .int)).before #[] (u.setVm U.vm) = (Cond.arrayOver (.array .int)).before #[] U := rfl
  rw [← e2, e]
  exact h
theorem NX.warm {s U : State} (h : NX s) (hW : s.WarmedH U.vm) : NX U := ⟨va_Nw.warmM hW h.1, va_Nw.warmM hW h.2.1, va_Nw.warmM hW h.2.2.1, h.2.2.2.1.moved hW.alike, va_AOI_moved hW.alike h.2.2.2.2.1, va_Nw.warmC hW h.2.2.2.2.2⟩
def Cxt (M : MD) (d kc ks : Nat) (σ : Sg) (L : List (Nat × Value)) (Q : Option Value → Sg → Prop) (p : Program) (l : Launch) (e : Env) (R : Room) (s : State) (m : MethodId) (args : Array Value) (below : List Frame) (meth : Method) (c : Code) (H : Heap) (locs : List Loc) (cells slots mc ms : Nat) (Z : State → Prop) (D : va_G) (kA : Nat → ClassId) (ad : Nat → Nat) (b : Nat) (ls : Array Slot) : Prop :=
  p.tables.exec = Jvm.exec ∧ c.code = M.2.1 ∧ c.maxLocals = M.2.2.1 ∧ s.vm.findClass M.1.cls = some m.cls ∧ (∀ w ∈ WA, w.before args s = true) ∧ meth.name = M.1.name ∧ Kx D kA s ∧ Wd D kA ad b σ H ∧ va_S (AB b) s.heap H locs ∧
  (d ≤ R.frames ∧ 64 * d ≤ R.locals) ∧ (cells + kc ≤ mc ∧ slots + ks ≤ ms ∧ mc ≤ R.cells ∧ ms ≤ R.slots) ∧ lv_has ls M.2.2.1 (shL ad L) ∧ scOk M.2.2.2.2 ad b s ∧ NX s ∧ HRet M Q p l e R s m args below meth c mc ms Z D kA ad b
def E0 (M : MD) (d kc ks : Nat) (σ : Sg) (L : List (Nat × Value)) (st : List Value) (pc : Nat) (Q : Option Value → Sg → Prop) : Prop :=
  ∀ (p : Program) (l : Launch) (e : Env) (R : Room) (s : State) (m : MethodId) (args : Array Value) (below : List Frame) (meth : Method) (c : Code) (H : Heap) (locs : List Loc) (cells slots mc ms : Nat) (Z : State → Prop) (D : va_G) (kA : Nat → ClassId) (ad : Nat → Nat) (b : Nat) (ls : Array Slot),
    Cxt M d kc ks σ L Q p l e R s m args below meth c H locs cells slots mc ms Z D kA ad b ls → W p l e R s m args below meth c H locs cells slots Z (F0 m pc ls (st.map (sh ad)))
theorem sh_cat (ad : Nat → Nat) (v : Value) : (sh ad v).category = v.category := by cases v <;> rfl
theorem shL_filter (ad : Nat → Nat) (f : Nat → Nat → Bool) (L : List (Nat × Value)) : (shL ad L).filter (fun q => f q.1 q.2.category) = shL ad (L.filter (fun q => f q.1 q.2.category)) := by
  unfold shL
  rw [List.filter_map]
  congr 1
  apply List.filter_congr
  intro q _
  simp [sh_cat]
theorem shL_get {ad : Nat → Nat} {L : List (Nat × Value)} {k i : Nat} {v : Value} (h : L[k]? = some (i, v)) : (shL ad L)[k]? = some (i, sh ad v) := by simp [shL, h]
theorem lv_args_sh (ad : Nat → Nat) : ∀ (vs : List Value) (n : Nat), lv_args n (vs.map (sh ad)) = shL ad (lv_args n vs)
  | [], _ => rfl
  | v :: vs, n => by
    show (n, sh ad v) :: lv_args (if (sh ad v).category = 2 then n + 2 else n + 1) (vs.map (sh ad)) = (n, sh ad v) :: shL ad (lv_args (if v.category = 2 then n + 2 else n + 1) vs)
    rw [sh_cat, lv_args_sh ad vs]
abbrev stI (i : Nat) (v : Value) (L : List (Nat × Value)) : List (Nat × Value) := (i, v) :: L.filter (fun q => !(q.1 == i) && !(q.1 + 1 == i && q.2.category == 2))
abbrev stJ (i : Nat) (v : Value) (L : List (Nat × Value)) : List (Nat × Value) := (i, v) :: L.filter (fun q => !(q.1 == i) && (!(q.1 == i + 1) && !(q.1 + 1 == i && q.2.category == 2)))
theorem stI_sh (ad : Nat → Nat) (i : Nat) (v : Value) (L : List (Nat × Value)) : stI i (sh ad v) (shL ad L) = shL ad (stI i v L) := by
  show (i, sh ad v) :: _ = (i, sh ad v) :: _
  congr 1
  exact shL_filter ad (fun a c => !(a == i) && !(a + 1 == i && c == 2)) L
theorem stJ_sh (ad : Nat → Nat) (i : Nat) (v : Value) (L : List (Nat × Value)) : stJ i (sh ad v) (shL ad L) = shL ad (stJ i v L) := by
  show (i, sh ad v) :: _ = (i, sh ad v) :: _
  congr 1
  exact shL_filter ad (fun a c => !(a == i) && (!(a == i + 1) && !(a + 1 == i && c == 2))) L
section ER
variable {M : MD} {d kc ks : Nat} {σ : Sg} {L : List (Nat × Value)} {st : List Value} {pc : Nat} {Q : Option Value → Sg → Prop}

theorem E_iload_n {j : Fin 4} {x : Int} (hd : decode M.2.1 pc = .ok (.iload_n j, 1)) (q : Nat) {i : Nat} (hi : (j : Nat) = i) (hq : L[q]? = some (i, .int (iI x))) (k : E0 M d kc ks σ L (.int (iI x) :: st) (pc + 1) Q) : E0 M d kc ks σ L st pc Q := by
  intro p l e R s m args below meth c H locs cells slots mc ms Z D kA ad b ls X
  obtain ⟨hx, hb, hml, hown, hts, hnm, hK, hW, hS, hd9, hc9, hl, hX9, hN9, hR⟩ := id X
  exact lv_iload_n hx hb hd hi (lv_at hl q (shL_get hq)) (k p l e R s m args below meth c H locs cells slots mc ms Z D kA ad b ls X)
theorem E_iload {i : Nat} {x : Int} (hd : decode M.2.1 pc = .ok (.iload i, 2)) (q : Nat) (hq : L[q]? = some (i, .int (iI x))) (k : E0 M d kc ks σ L (.int (iI x) :: st) (pc + 2) Q) : E0 M d kc ks σ L st pc Q := by
  intro p l e R s m args below meth c H locs cells slots mc ms Z D kA ad b ls X
  obtain ⟨hx, hb, hml, hown, hts, hnm, hK, hW, hS, hd9, hc9, hl, hX9, hN9, hR⟩ := id X
  exact lv_iload hx hb hd (lv_at hl q (shL_get hq)) (k p l e R s m args below meth c H locs cells slots mc ms Z D kA ad b ls X)
theorem E_lload_n {j : Fin 4} {x : Int64} (hd : decode M.2.1 pc = .ok (.lload_n j, 1)) (q : Nat) {i : Nat} (hi : (j : Nat) = i) (hq : L[q]? = some (i, .long (x))) (k : E0 M d kc ks σ L (.long (x) :: st) (pc + 1) Q) : E0 M d kc ks σ L st pc Q := by
  intro p l e R s m args below meth c H locs cells slots mc ms Z D kA ad b ls X
  obtain ⟨hx, hb, hml, hown, hts, hnm, hK, hW, hS, hd9, hc9, hl, hX9, hN9, hR⟩ := id X
  exact lv_lload_n hx hb hd hi (lv_at hl q (shL_get hq)) (k p l e R s m args below meth c H locs cells slots mc ms Z D kA ad b ls X)
theorem E_lload {i : Nat} {x : Int64} (hd : decode M.2.1 pc = .ok (.lload i, 2)) (q : Nat) (hq : L[q]? = some (i, .long (x))) (k : E0 M d kc ks σ L (.long (x) :: st) (pc + 2) Q) : E0 M d kc ks σ L st pc Q := by
  intro p l e R s m args below meth c H locs cells slots mc ms Z D kA ad b ls X
  obtain ⟨hx, hb, hml, hown, hts, hnm, hK, hW, hS, hd9, hc9, hl, hX9, hN9, hR⟩ := id X
  exact lv_lload hx hb hd (lv_at hl q (shL_get hq)) (k p l e R s m args below meth c H locs cells slots mc ms Z D kA ad b ls X)
theorem E_aload_n {j : Fin 4} {x : Nat} (hd : decode M.2.1 pc = .ok (.aload_n j, 1)) (q : Nat) {i : Nat} (hi : (j : Nat) = i) (hq : L[q]? = some (i, .ref (x))) (k : E0 M d kc ks σ L (.ref (x) :: st) (pc + 1) Q) : E0 M d kc ks σ L st pc Q := by
  intro p l e R s m args below meth c H locs cells slots mc ms Z D kA ad b ls X
  obtain ⟨hx, hb, hml, hown, hts, hnm, hK, hW, hS, hd9, hc9, hl, hX9, hN9, hR⟩ := id X
  exact lv_aload_n hx hb hd hi (lv_at hl q (shL_get hq)) (k p l e R s m args below meth c H locs cells slots mc ms Z D kA ad b ls X)
theorem E_aload {i : Nat} {x : Nat} (hd : decode M.2.1 pc = .ok (.aload i, 2)) (q : Nat) (hq : L[q]? = some (i, .ref (x))) (k : E0 M d kc ks σ L (.ref (x) :: st) (pc + 2) Q) : E0 M d kc ks σ L st pc Q := by
  intro p l e R s m args below meth c H locs cells slots mc ms Z D kA ad b ls X
  obtain ⟨hx, hb, hml, hown, hts, hnm, hK, hW, hS, hd9, hc9, hl, hX9, hN9, hR⟩ := id X
  exact lv_aload hx hb hd (lv_at hl q (shL_get hq)) (k p l e R s m args below meth c H locs cells slots mc ms Z D kA ad b ls X)
theorem E_istore_n {j : Fin 4} {i : Nat} {x : Int} {L2 : List (Nat × Value)} (hd : decode M.2.1 pc = .ok (.istore_n j, 1)) (hi : (j : Nat) = i) (hn : i < M.2.2.1) (hL : stI i (.int (iI x)) L = L2) (k : E0 M d kc ks σ L2 (st) (pc + 1) Q) : E0 M d kc ks σ L (.int (iI x) :: st) pc Q := by
  intro p l e R s m args below meth c H locs cells slots mc ms Z D kA ad b ls X
  obtain ⟨hx, hb, hml, hown, hts, hnm, hK, hW, hS, hd9, hc9, hl, hX9, hN9, hR⟩ := id X
  refine lv_istore_n (lv' := shL ad L2) hx hb hd hi hl hn ?_ (fun ls2 hl2 => k p l e R s m args below meth c H locs cells slots mc ms Z D kA ad b ls2 ⟨hx, hb, hml, hown, hts, hnm, hK, hW, hS, hd9, hc9, hl2, hX9, hN9, hR⟩)
  rw [← hL]
  exact stI_sh ad i (.int (iI x)) L
theorem E_istore {i : Nat} {x : Int} {L2 : List (Nat × Value)} (hd : decode M.2.1 pc = .ok (.istore i, 2)) (hn : i < M.2.2.1) (hL : stI i (.int (iI x)) L = L2) (k : E0 M d kc ks σ L2 (st) (pc + 2) Q) : E0 M d kc ks σ L (.int (iI x) :: st) pc Q := by
  intro p l e R s m args below meth c H locs cells slots mc ms Z D kA ad b ls X
  obtain ⟨hx, hb, hml, hown, hts, hnm, hK, hW, hS, hd9, hc9, hl, hX9, hN9, hR⟩ := id X
  refine lv_istore (lv' := shL ad L2) hx hb hd hl hn ?_ (fun ls2 hl2 => k p l e R s m args below meth c H locs cells slots mc ms Z D kA ad b ls2 ⟨hx, hb, hml, hown, hts, hnm, hK, hW, hS, hd9, hc9, hl2, hX9, hN9, hR⟩)
  rw [← hL]
  exact stI_sh ad i (.int (iI x)) L
theorem E_lstore_n {j : Fin 4} {i : Nat} {x : Int64} {L2 : List (Nat × Value)} (hd : decode M.2.1 pc = .ok (.lstore_n j, 1)) (hi : (j : Nat) = i) (hn : i + 1 < M.2.2.1) (hL : stJ i (.long (x)) L = L2) (k : E0 M d kc ks σ L2 (st) (pc + 1) Q) : E0 M d kc ks σ L (.long (x) :: st) pc Q := by
  intro p l e R s m args below meth c H locs cells slots mc ms Z D kA ad b ls X
  obtain ⟨hx, hb, hml, hown, hts, hnm, hK, hW, hS, hd9, hc9, hl, hX9, hN9, hR⟩ := id X
  refine lv_lstore_n (lv' := shL ad L2) hx hb hd hi hl hn ?_ (fun ls2 hl2 => k p l e R s m args below meth c H locs cells slots mc ms Z D kA ad b ls2 ⟨hx, hb, hml, hown, hts, hnm, hK, hW, hS, hd9, hc9, hl2, hX9, hN9, hR⟩)
  rw [← hL]
  exact stJ_sh ad i (.long (x)) L
theorem E_lstore {i : Nat} {x : Int64} {L2 : List (Nat × Value)} (hd : decode M.2.1 pc = .ok (.lstore i, 2)) (hn : i + 1 < M.2.2.1) (hL : stJ i (.long (x)) L = L2) (k : E0 M d kc ks σ L2 (st) (pc + 2) Q) : E0 M d kc ks σ L (.long (x) :: st) pc Q := by
  intro p l e R s m args below meth c H locs cells slots mc ms Z D kA ad b ls X
  obtain ⟨hx, hb, hml, hown, hts, hnm, hK, hW, hS, hd9, hc9, hl, hX9, hN9, hR⟩ := id X
  refine lv_lstore (lv' := shL ad L2) hx hb hd hl hn ?_ (fun ls2 hl2 => k p l e R s m args below meth c H locs cells slots mc ms Z D kA ad b ls2 ⟨hx, hb, hml, hown, hts, hnm, hK, hW, hS, hd9, hc9, hl2, hX9, hN9, hR⟩)
  rw [← hL]
  exact stJ_sh ad i (.long (x)) L
theorem E_astore_n {j : Fin 4} {i : Nat} {x : Nat} {L2 : List (Nat × Value)} (hd : decode M.2.1 pc = .ok (.astore_n j, 1)) (hi : (j : Nat) = i) (hn : i < M.2.2.1) (hL : stI i (.ref (x)) L = L2) (k : E0 M d kc ks σ L2 (st) (pc + 1) Q) : E0 M d kc ks σ L (.ref (x) :: st) pc Q := by
  intro p l e R s m args below meth c H locs cells slots mc ms Z D kA ad b ls X
  obtain ⟨hx, hb, hml, hown, hts, hnm, hK, hW, hS, hd9, hc9, hl, hX9, hN9, hR⟩ := id X
  refine lv_astore_n (lv' := shL ad L2) hx hb hd hi hl hn ?_ (fun ls2 hl2 => k p l e R s m args below meth c H locs cells slots mc ms Z D kA ad b ls2 ⟨hx, hb, hml, hown, hts, hnm, hK, hW, hS, hd9, hc9, hl2, hX9, hN9, hR⟩)
  rw [← hL]
  exact stI_sh ad i (.ref (x)) L
theorem E_astore {i : Nat} {x : Nat} {L2 : List (Nat × Value)} (hd : decode M.2.1 pc = .ok (.astore i, 2)) (hn : i < M.2.2.1) (hL : stI i (.ref (x)) L = L2) (k : E0 M d kc ks σ L2 (st) (pc + 2) Q) : E0 M d kc ks σ L (.ref (x) :: st) pc Q := by
  intro p l e R s m args below meth c H locs cells slots mc ms Z D kA ad b ls X
  obtain ⟨hx, hb, hml, hown, hts, hnm, hK, hW, hS, hd9, hc9, hl, hX9, hN9, hR⟩ := id X
  refine lv_astore (lv' := shL ad L2) hx hb hd hl hn ?_ (fun ls2 hl2 => k p l e R s m args below meth c H locs cells slots mc ms Z D kA ad b ls2 ⟨hx, hb, hml, hown, hts, hnm, hK, hW, hS, hd9, hc9, hl2, hX9, hN9, hR⟩)
  rw [← hL]
  exact stI_sh ad i (.ref (x)) L
theorem E_iinc {i : Nat} {n x : Int} {L2 : List (Nat × Value)} (hd : decode M.2.1 pc = .ok (.iinc i n, 3)) (q : Nat) (hq : L[q]? = some (i, .int (iI x))) (hn : i < M.2.2.1) (hL : stI i (.int (iI (x + n))) L = L2) (k : E0 M d kc ks σ L2 (st) (pc + 3) Q) : E0 M d kc ks σ L st pc Q := by
  intro p l e R s m args below meth c H locs cells slots mc ms Z D kA ad b ls X
  obtain ⟨hx, hb, hml, hown, hts, hnm, hK, hW, hS, hd9, hc9, hl, hX9, hN9, hR⟩ := id X
  refine lv_iinc (v := iI (x + n)) (lv' := shL ad L2) hx hb hd hl (shL_get hq) ?_ hn ?_ (fun ls2 hl2 => k p l e R s m args below meth c H locs cells slots mc ms Z D kA ad b ls2 ⟨hx, hb, hml, hown, hts, hnm, hK, hW, hS, hd9, hc9, hl2, hX9, hN9, hR⟩)
  · exact iI_add x n
  · rw [← hL]
    exact stI_sh ad i (.int (iI (x + n))) L
theorem E_iconst {n : Int} (hd : decode M.2.1 pc = .ok (.iconst n, 1)) (k : E0 M d kc ks σ L (.int (iI n) :: st) (pc + 1) Q) : E0 M d kc ks σ L st pc Q := by
  intro p l e R s m args below meth c H locs cells slots mc ms Z D kA ad b ls X
  obtain ⟨hx, hb, hml, hown, hts, hnm, hK, hW, hS, hd9, hc9, hl, hX9, hN9, hR⟩ := id X
  exact lv_iconst (v := iI n) hx hb hd rfl (k p l e R s m args below meth c H locs cells slots mc ms Z D kA ad b ls X)
theorem E_bipush {n : Int} (hd : decode M.2.1 pc = .ok (.bipush n, 2)) (hv : (Int8.ofInt n).toInt32 = iI n) (k : E0 M d kc ks σ L (.int (iI n) :: st) (pc + 2) Q) : E0 M d kc ks σ L st pc Q := by
  intro p l e R s m args below meth c H locs cells slots mc ms Z D kA ad b ls X
  obtain ⟨hx, hb, hml, hown, hts, hnm, hK, hW, hS, hd9, hc9, hl, hX9, hN9, hR⟩ := id X
  exact lv_bipush (v := iI n) hx hb hd hv (k p l e R s m args below meth c H locs cells slots mc ms Z D kA ad b ls X)
theorem E_sipush {n : Int} (hd : decode M.2.1 pc = .ok (.sipush n, 3)) (hv : (Int16.ofInt n).toInt32 = iI n) (k : E0 M d kc ks σ L (.int (iI n) :: st) (pc + 3) Q) : E0 M d kc ks σ L st pc Q := by
  intro p l e R s m args below meth c H locs cells slots mc ms Z D kA ad b ls X
  obtain ⟨hx, hb, hml, hown, hts, hnm, hK, hW, hS, hd9, hc9, hl, hX9, hN9, hR⟩ := id X
  exact lv_sipush (v := iI n) hx hb hd hv (k p l e R s m args below meth c H locs cells slots mc ms Z D kA ad b ls X)
theorem E_lconst {n : Fin 2} {v : Int64} (hd : decode M.2.1 pc = .ok (.lconst n, 1)) (hv : Int64.ofNat (n : Nat) = v) (k : E0 M d kc ks σ L (.long v :: st) (pc + 1) Q) : E0 M d kc ks σ L st pc Q := by
  intro p l e R s m args below meth c H locs cells slots mc ms Z D kA ad b ls X
  obtain ⟨hx, hb, hml, hown, hts, hnm, hK, hW, hS, hd9, hc9, hl, hX9, hN9, hR⟩ := id X
  exact lv_lconst hx hb hd hv (k p l e R s m args below meth c H locs cells slots mc ms Z D kA ad b ls X)
theorem E_ldc {ix0 : Nat} {n : Int} (hd : decode M.2.1 pc = .ok (.ldc ix0, 2)) (hw : Cond.constant M.1.cls ix0 (iI n) ∈ WA) (k : E0 M d kc ks σ L (.int (iI n) :: st) (pc + 2) Q) : E0 M d kc ks σ L st pc Q := by
  intro p l e R s m args below meth c H locs cells slots mc ms Z D kA ad b ls X
  obtain ⟨hx, hb, hml, hown, hts, hnm, hK, hW, hS, hd9, hc9, hl, hX9, hN9, hR⟩ := id X
  exact lv_ldc hx hb hown (hts _ hw) hd (k p l e R s m args below meth c H locs cells slots mc ms Z D kA ad b ls X)
theorem E_ldcw {ix0 : Nat} {n : Int} (hd : decode M.2.1 pc = .ok (.ldc_w ix0, 3)) (hw : Cond.constant M.1.cls ix0 (iI n) ∈ WA) (k : E0 M d kc ks σ L (.int (iI n) :: st) (pc + 3) Q) : E0 M d kc ks σ L st pc Q := by
  intro p l e R s m args below meth c H locs cells slots mc ms Z D kA ad b ls X
  obtain ⟨hx, hb, hml, hown, hts, hnm, hK, hW, hS, hd9, hc9, hl, hX9, hN9, hR⟩ := id X
  exact lv_ldcw hx hb hown (hts _ hw) hd (k p l e R s m args below meth c H locs cells slots mc ms Z D kA ad b ls X)
theorem E_ldc2 {ix0 : Nat} {v : Int64} (hd : decode M.2.1 pc = .ok (.ldc2_w ix0, 3)) (hw : Cond.constantLong M.1.cls ix0 v ∈ WA) (k : E0 M d kc ks σ L (.long v :: st) (pc + 3) Q) : E0 M d kc ks σ L st pc Q := by
  intro p l e R s m args below meth c H locs cells slots mc ms Z D kA ad b ls X
  obtain ⟨hx, hb, hml, hown, hts, hnm, hK, hW, hS, hd9, hc9, hl, hX9, hN9, hR⟩ := id X
  exact W.ldc2 hx hb hown (hts _ hw) rfl hd (k p l e R s m args below meth c H locs cells slots mc ms Z D kA ad b ls X)
theorem E_iadd {x y : Int} (hd : decode M.2.1 pc = .ok (.iadd, 1)) (k : E0 M d kc ks σ L (.int (iI (x + y)) :: st) (pc + 1) Q) : E0 M d kc ks σ L (.int (iI y) :: .int (iI x) :: st) pc Q := by
  intro p l e R s m args below meth c H locs cells slots mc ms Z D kA ad b ls X
  obtain ⟨hx, hb, hml, hown, hts, hnm, hK, hW, hS, hd9, hc9, hl, hX9, hN9, hR⟩ := id X
  refine lv_iadd hx hb hd ?_
  rw [iI_add]
  exact k p l e R s m args below meth c H locs cells slots mc ms Z D kA ad b ls X
theorem E_isub {x y : Int} (hd : decode M.2.1 pc = .ok (.isub, 1)) (k : E0 M d kc ks σ L (.int (iI (x - y)) :: st) (pc + 1) Q) : E0 M d kc ks σ L (.int (iI y) :: .int (iI x) :: st) pc Q := by
  intro p l e R s m args below meth c H locs cells slots mc ms Z D kA ad b ls X
  obtain ⟨hx, hb, hml, hown, hts, hnm, hK, hW, hS, hd9, hc9, hl, hX9, hN9, hR⟩ := id X
  refine lv_isub hx hb hd ?_
  rw [iI_sub]
  exact k p l e R s m args below meth c H locs cells slots mc ms Z D kA ad b ls X
theorem E_imul {x y : Int} (hd : decode M.2.1 pc = .ok (.imul, 1)) (k : E0 M d kc ks σ L (.int (iI (x * y)) :: st) (pc + 1) Q) : E0 M d kc ks σ L (.int (iI y) :: .int (iI x) :: st) pc Q := by
  intro p l e R s m args below meth c H locs cells slots mc ms Z D kA ad b ls X
  obtain ⟨hx, hb, hml, hown, hts, hnm, hK, hW, hS, hd9, hc9, hl, hX9, hN9, hR⟩ := id X
  refine lv_imul hx hb hd ?_
  rw [iI_mul]
  exact k p l e R s m args below meth c H locs cells slots mc ms Z D kA ad b ls X
theorem E_ineg {x : Int} (hd : decode M.2.1 pc = .ok (.ineg, 1)) (k : E0 M d kc ks σ L (.int (iI (-x)) :: st) (pc + 1) Q) : E0 M d kc ks σ L (.int (iI x) :: st) pc Q := by
  intro p l e R s m args below meth c H locs cells slots mc ms Z D kA ad b ls X
  obtain ⟨hx, hb, hml, hown, hts, hnm, hK, hW, hS, hd9, hc9, hl, hX9, hN9, hR⟩ := id X
  refine lv_ineg hx hb hd ?_
  rw [iI_neg]
  exact k p l e R s m args below meth c H locs cells slots mc ms Z D kA ad b ls X
-- iand
-- ior
-- ishl
-- ishr
-- iushr
theorem E_iand {x y : Int} (hd : decode M.2.1 pc = .ok (.iand, 1)) (k : E0 M d kc ks σ L (.int (iI (ian x y)) :: st) (pc + 1) Q) : E0 M d kc ks σ L (.int (iI y) :: .int (iI x) :: st) pc Q := by
  intro p l e R s m args below meth c H locs cells slots mc ms Z D kA ad b ls X
  obtain ⟨hx, hb, hml, hown, hts, hnm, hK, hW, hS, hd9, hc9, hl, hX9, hN9, hR⟩ := id X
  refine lv_iand hx hb hd ?_
  rw [show iI x &&& iI y = iI (ian x y) from (iI_of _).symm]
  exact k p l e R s m args below meth c H locs cells slots mc ms Z D kA ad b ls X
theorem E_ior {x y : Int} (hd : decode M.2.1 pc = .ok (.ior, 1)) (k : E0 M d kc ks σ L (.int (iI (ior x y)) :: st) (pc + 1) Q) : E0 M d kc ks σ L (.int (iI y) :: .int (iI x) :: st) pc Q := by
  intro p l e R s m args below meth c H locs cells slots mc ms Z D kA ad b ls X
  obtain ⟨hx, hb, hml, hown, hts, hnm, hK, hW, hS, hd9, hc9, hl, hX9, hN9, hR⟩ := id X
  refine lv_ior hx hb hd ?_
  rw [show iI x ||| iI y = iI (ior x y) from (iI_of _).symm]
  exact k p l e R s m args below meth c H locs cells slots mc ms Z D kA ad b ls X
def idv (x y : Int) : Int := (iI x / iI y).toInt
def irm (x y : Int) : Int := (iI x - iI x / iI y * iI y).toInt
def ishl (x y : Int) : Int := (iI x <<< (iI y &&& 31)).toInt
def ius (x y : Int) : Int := ((iI x).toUInt32 >>> ((iI y).toUInt32 &&& Int32.toUInt32 31)).toInt32.toInt
def ishr (x y : Int) : Int := (iI x >>> (iI y &&& 31)).toInt
def l2 (v : Int64) : Int := v.toInt32.toInt
def i2bz (x : Int) : Int := (iI x).toInt8.toInt32.toInt
def lsl (v : Int64) (y : Int) : Int64 := v <<< ((iI y).toInt64 &&& 63)
def lsr (v : Int64) (y : Int) : Int64 := v >>> ((iI y).toInt64 &&& 63)
def lus (v : Int64) (y : Int) : Int64 := (v.toUInt64 >>> ((iI y).toInt64.toUInt64 &&& Int64.toUInt64 63)).toInt64
def i2lz (x : Int) : Int64 := (iI x).toInt64
def lc (x y : Int64) : Int := if x > y then 1 else if x = y then 0 else -1
theorem E_ishl {x y : Int} (hd : decode M.2.1 pc = .ok (.ishl, 1)) (k : E0 M d kc ks σ L (.int (iI (ishl x y)) :: st) (pc + 1) Q) : E0 M d kc ks σ L (.int (iI y) :: .int (iI x) :: st) pc Q := by
  intro p l e R s m args below meth c H locs cells slots mc ms Z D kA ad b ls X
  obtain ⟨hx, hb, hml, hown, hts, hnm, hK, hW, hS, hd9, hc9, hl, hX9, hN9, hR⟩ := id X
  refine lv_ishl hx hb hd ?_
  rw [show iI x <<< (iI y &&& 31) = iI (ishl x y) from (iI_of _).symm]
  exact k p l e R s m args below meth c H locs cells slots mc ms Z D kA ad b ls X
theorem E_ishr {x y : Int} (hd : decode M.2.1 pc = .ok (.ishr, 1)) (k : E0 M d kc ks σ L (.int (iI (ishr x y)) :: st) (pc + 1) Q) : E0 M d kc ks σ L (.int (iI y) :: .int (iI x) :: st) pc Q := by
  intro p l e R s m args below meth c H locs cells slots mc ms Z D kA ad b ls X
  obtain ⟨hx, hb, hml, hown, hts, hnm, hK, hW, hS, hd9, hc9, hl, hX9, hN9, hR⟩ := id X
  refine lv_ishr hx hb hd ?_
  rw [show iI x >>> (iI y &&& 31) = iI (ishr x y) from (iI_of _).symm]
  exact k p l e R s m args below meth c H locs cells slots mc ms Z D kA ad b ls X
theorem E_iushr {x y : Int} (hd : decode M.2.1 pc = .ok (.iushr, 1)) (k : E0 M d kc ks σ L (.int (iI (ius x y)) :: st) (pc + 1) Q) : E0 M d kc ks σ L (.int (iI y) :: .int (iI x) :: st) pc Q := by
  intro p l e R s m args below meth c H locs cells slots mc ms Z D kA ad b ls X
  obtain ⟨hx, hb, hml, hown, hts, hnm, hK, hW, hS, hd9, hc9, hl, hX9, hN9, hR⟩ := id X
  exact lv_iushr (v := iI (ius x y)) hx hb hd (iI_of _).symm (k p l e R s m args below meth c H locs cells slots mc ms Z D kA ad b ls X)
theorem E_idiv {x y : Int} (hd : decode M.2.1 pc = .ok (.idiv, 1)) (hne : ¬ wr y = 0) (k : E0 M d kc ks σ L (.int (iI (idv x y)) :: st) (pc + 1) Q) : E0 M d kc ks σ L (.int (iI y) :: .int (iI x) :: st) pc Q := by
  intro p l e R s m args below meth c H locs cells slots mc ms Z D kA ad b ls X
  obtain ⟨hx, hb, hml, hown, hts, hnm, hK, hW, hS, hd9, hc9, hl, hX9, hN9, hR⟩ := id X
  refine lv_idiv hx hb hd (fun q => hne (by rw [← iI_0, iI_eq] at q; exact q)) ?_
  rw [show iI x / iI y = iI (idv x y) from (iI_of _).symm]
  exact k p l e R s m args below meth c H locs cells slots mc ms Z D kA ad b ls X
theorem E_irem {x y : Int} (hd : decode M.2.1 pc = .ok (.irem, 1)) (hne : ¬ wr y = 0) (k : E0 M d kc ks σ L (.int (iI (irm x y)) :: st) (pc + 1) Q) : E0 M d kc ks σ L (.int (iI y) :: .int (iI x) :: st) pc Q := by
  intro p l e R s m args below meth c H locs cells slots mc ms Z D kA ad b ls X
  obtain ⟨hx, hb, hml, hown, hts, hnm, hK, hW, hS, hd9, hc9, hl, hX9, hN9, hR⟩ := id X
  refine lv_irem hx hb hd (fun q => hne (by rw [← iI_0, iI_eq] at q; exact q)) ?_
  rw [show iI x - iI x / iI y * iI y = iI (irm x y) from (iI_of _).symm]
  exact k p l e R s m args below meth c H locs cells slots mc ms Z D kA ad b ls X
theorem E_ladd {x y : Int64} (hd : decode M.2.1 pc = .ok (.ladd, 1)) (k : E0 M d kc ks σ L (.long (x + y) :: st) (pc + 1) Q) : E0 M d kc ks σ L (.long y :: .long x :: st) pc Q := by
  intro p l e R s m args below meth c H locs cells slots mc ms Z D kA ad b ls X
  obtain ⟨hx, hb, hml, hown, hts, hnm, hK, hW, hS, hd9, hc9, hl, hX9, hN9, hR⟩ := id X
  exact lv_ladd hx hb hd (k p l e R s m args below meth c H locs cells slots mc ms Z D kA ad b ls X)
theorem E_lsub {x y : Int64} (hd : decode M.2.1 pc = .ok (.lsub, 1)) (k : E0 M d kc ks σ L (.long (x - y) :: st) (pc + 1) Q) : E0 M d kc ks σ L (.long y :: .long x :: st) pc Q := by
  intro p l e R s m args below meth c H locs cells slots mc ms Z D kA ad b ls X
  obtain ⟨hx, hb, hml, hown, hts, hnm, hK, hW, hS, hd9, hc9, hl, hX9, hN9, hR⟩ := id X
  exact lv_lsub hx hb hd (k p l e R s m args below meth c H locs cells slots mc ms Z D kA ad b ls X)
theorem E_lmul {x y : Int64} (hd : decode M.2.1 pc = .ok (.lmul, 1)) (k : E0 M d kc ks σ L (.long (x * y) :: st) (pc + 1) Q) : E0 M d kc ks σ L (.long y :: .long x :: st) pc Q := by
  intro p l e R s m args below meth c H locs cells slots mc ms Z D kA ad b ls X
  obtain ⟨hx, hb, hml, hown, hts, hnm, hK, hW, hS, hd9, hc9, hl, hX9, hN9, hR⟩ := id X
  exact lv_lmul hx hb hd (k p l e R s m args below meth c H locs cells slots mc ms Z D kA ad b ls X)
theorem E_land {x y : Int64} (hd : decode M.2.1 pc = .ok (.land, 1)) (k : E0 M d kc ks σ L (.long (x &&& y) :: st) (pc + 1) Q) : E0 M d kc ks σ L (.long y :: .long x :: st) pc Q := by
  intro p l e R s m args below meth c H locs cells slots mc ms Z D kA ad b ls X
  obtain ⟨hx, hb, hml, hown, hts, hnm, hK, hW, hS, hd9, hc9, hl, hX9, hN9, hR⟩ := id X
  exact lv_land hx hb hd (k p l e R s m args below meth c H locs cells slots mc ms Z D kA ad b ls X)
theorem E_lor {x y : Int64} (hd : decode M.2.1 pc = .ok (.lor, 1)) (k : E0 M d kc ks σ L (.long (x ||| y) :: st) (pc + 1) Q) : E0 M d kc ks σ L (.long y :: .long x :: st) pc Q := by
  intro p l e R s m args below meth c H locs cells slots mc ms Z D kA ad b ls X
  obtain ⟨hx, hb, hml, hown, hts, hnm, hK, hW, hS, hd9, hc9, hl, hX9, hN9, hR⟩ := id X
  exact lv_lor hx hb hd (k p l e R s m args below meth c H locs cells slots mc ms Z D kA ad b ls X)
theorem E_lrem {x y : Int64} (hd : decode M.2.1 pc = .ok (.lrem, 1)) (hne : ¬ y = 0) (k : E0 M d kc ks σ L (.long (x - x / y * y) :: st) (pc + 1) Q) : E0 M d kc ks σ L (.long y :: .long x :: st) pc Q := by
  intro p l e R s m args below meth c H locs cells slots mc ms Z D kA ad b ls X
  obtain ⟨hx, hb, hml, hown, hts, hnm, hK, hW, hS, hd9, hc9, hl, hX9, hN9, hR⟩ := id X
  exact lv_lrem hx hb hd hne (k p l e R s m args below meth c H locs cells slots mc ms Z D kA ad b ls X)
theorem E_lshl {x : Int64} {y : Int} (hd : decode M.2.1 pc = .ok (.lshl, 1)) (k : E0 M d kc ks σ L (.long (lsl x y) :: st) (pc + 1) Q) : E0 M d kc ks σ L (.int (iI y) :: .long x :: st) pc Q := by
  intro p l e R s m args below meth c H locs cells slots mc ms Z D kA ad b ls X
  obtain ⟨hx, hb, hml, hown, hts, hnm, hK, hW, hS, hd9, hc9, hl, hX9, hN9, hR⟩ := id X
  exact lv_lshl hx hb hd rfl (k p l e R s m args below meth c H locs cells slots mc ms Z D kA ad b ls X)
theorem E_lshr {x : Int64} {y : Int} (hd : decode M.2.1 pc = .ok (.lshr, 1)) (k : E0 M d kc ks σ L (.long (lsr x y) :: st) (pc + 1) Q) : E0 M d kc ks σ L (.int (iI y) :: .long x :: st) pc Q := by
  intro p l e R s m args below meth c H locs cells slots mc ms Z D kA ad b ls X
  obtain ⟨hx, hb, hml, hown, hts, hnm, hK, hW, hS, hd9, hc9, hl, hX9, hN9, hR⟩ := id X
  exact lv_lshr hx hb hd rfl (k p l e R s m args below meth c H locs cells slots mc ms Z D kA ad b ls X)
theorem E_lushr {x : Int64} {y : Int} (hd : decode M.2.1 pc = .ok (.lushr, 1)) (k : E0 M d kc ks σ L (.long (lus x y) :: st) (pc + 1) Q) : E0 M d kc ks σ L (.int (iI y) :: .long x :: st) pc Q := by
  intro p l e R s m args below meth c H locs cells slots mc ms Z D kA ad b ls X
  obtain ⟨hx, hb, hml, hown, hts, hnm, hK, hW, hS, hd9, hc9, hl, hX9, hN9, hR⟩ := id X
  exact lv_lushr hx hb hd rfl (k p l e R s m args below meth c H locs cells slots mc ms Z D kA ad b ls X)
theorem E_i2l {x : Int} (hd : decode M.2.1 pc = .ok (.i2l, 1)) (k : E0 M d kc ks σ L (.long (i2lz x) :: st) (pc + 1) Q) : E0 M d kc ks σ L (.int (iI x) :: st) pc Q := by
  intro p l e R s m args below meth c H locs cells slots mc ms Z D kA ad b ls X
  obtain ⟨hx, hb, hml, hown, hts, hnm, hK, hW, hS, hd9, hc9, hl, hX9, hN9, hR⟩ := id X
  exact lv_i2l hx hb hd rfl (k p l e R s m args below meth c H locs cells slots mc ms Z D kA ad b ls X)
theorem E_l2i {x : Int64} (hd : decode M.2.1 pc = .ok (.l2i, 1)) (k : E0 M d kc ks σ L (.int (iI (l2 x)) :: st) (pc + 1) Q) : E0 M d kc ks σ L (.long x :: st) pc Q := by
  intro p l e R s m args below meth c H locs cells slots mc ms Z D kA ad b ls X
  obtain ⟨hx, hb, hml, hown, hts, hnm, hK, hW, hS, hd9, hc9, hl, hX9, hN9, hR⟩ := id X
  exact lv_l2i (v := iI (l2 x)) hx hb hd (iI_of _).symm (k p l e R s m args below meth c H locs cells slots mc ms Z D kA ad b ls X)
theorem E_i2b {x : Int} (hd : decode M.2.1 pc = .ok (.i2b, 1)) (k : E0 M d kc ks σ L (.int (iI (i2bz x)) :: st) (pc + 1) Q) : E0 M d kc ks σ L (.int (iI x) :: st) pc Q := by
  intro p l e R s m args below meth c H locs cells slots mc ms Z D kA ad b ls X
  obtain ⟨hx, hb, hml, hown, hts, hnm, hK, hW, hS, hd9, hc9, hl, hX9, hN9, hR⟩ := id X
  exact lv_i2b (v := iI (i2bz x)) hx hb hd (iI_of _).symm (k p l e R s m args below meth c H locs cells slots mc ms Z D kA ad b ls X)
theorem iI_lc (x y : Int64) : lg_cmp x y = iI (lc x y) := by
  unfold lg_cmp lc
  split
  · rfl
  · split <;> rfl
theorem E_lcmp {x y : Int64} (hd : decode M.2.1 pc = .ok (.lcmp, 1)) (k : E0 M d kc ks σ L (.int (iI (lc x y)) :: st) (pc + 1) Q) : E0 M d kc ks σ L (.long y :: .long x :: st) pc Q := by
  intro p l e R s m args below meth c H locs cells slots mc ms Z D kA ad b ls X
  obtain ⟨hx, hb, hml, hown, hts, hnm, hK, hW, hS, hd9, hc9, hl, hX9, hN9, hR⟩ := id X
  refine W.lcmp hx hb hd ?_
  rw [iI_lc]
  exact k p l e R s m args below meth c H locs cells slots mc ms Z D kA ad b ls X
theorem E_icmp_eq {x y off : Int} {tgt : Nat} (hd : decode M.2.1 pc = .ok (.if_icmp .eq off, 3)) (ht : (pc : Int) + off = (tgt : Int)) (kt : wr x = wr y → E0 M d kc ks σ L st tgt Q) (kf : ¬ wr x = wr y → E0 M d kc ks σ L st (pc + 3) Q) : E0 M d kc ks σ L (.int (iI y) :: .int (iI x) :: st) pc Q := by
  intro p l e R s m args below meth c H locs cells slots mc ms Z D kA ad b ls X
  obtain ⟨hx, hb, hml, hown, hts, hnm, hK, hW, hS, hd9, hc9, hl, hX9, hN9, hR⟩ := id X
  exact lv_icmp_eq hx hb hd ht (fun q => kt (by rw [iI_eq] at q; exact q) p l e R s m args below meth c H locs cells slots mc ms Z D kA ad b ls X) (fun q => kf (by rw [iI_eq] at q; exact q) p l e R s m args below meth c H locs cells slots mc ms Z D kA ad b ls X)
theorem E_if_eq {x off : Int} {tgt : Nat} (hd : decode M.2.1 pc = .ok (.ifCond .eq off, 3)) (ht : (pc : Int) + off = (tgt : Int)) (kt : wr x = 0 → E0 M d kc ks σ L st tgt Q) (kf : ¬ wr x = 0 → E0 M d kc ks σ L st (pc + 3) Q) : E0 M d kc ks σ L (.int (iI x) :: st) pc Q := by
  intro p l e R s m args below meth c H locs cells slots mc ms Z D kA ad b ls X
  obtain ⟨hx, hb, hml, hown, hts, hnm, hK, hW, hS, hd9, hc9, hl, hX9, hN9, hR⟩ := id X
  exact lv_if_eq hx hb hd ht (fun q => kt (by rw [← iI_0, iI_eq, wr_0] at q; exact q) p l e R s m args below meth c H locs cells slots mc ms Z D kA ad b ls X) (fun q => kf (by rw [← iI_0, iI_eq, wr_0] at q; exact q) p l e R s m args below meth c H locs cells slots mc ms Z D kA ad b ls X)
theorem E_icmp_ne {x y off : Int} {tgt : Nat} (hd : decode M.2.1 pc = .ok (.if_icmp .ne off, 3)) (ht : (pc : Int) + off = (tgt : Int)) (kt : ¬ wr x = wr y → E0 M d kc ks σ L st tgt Q) (kf : wr x = wr y → E0 M d kc ks σ L st (pc + 3) Q) : E0 M d kc ks σ L (.int (iI y) :: .int (iI x) :: st) pc Q := by
  intro p l e R s m args below meth c H locs cells slots mc ms Z D kA ad b ls X
  obtain ⟨hx, hb, hml, hown, hts, hnm, hK, hW, hS, hd9, hc9, hl, hX9, hN9, hR⟩ := id X
  exact lv_icmp_ne hx hb hd ht (fun q => kt (by rw [iI_eq] at q; exact q) p l e R s m args below meth c H locs cells slots mc ms Z D kA ad b ls X) (fun q => kf (by rw [iI_eq] at q; exact q) p l e R s m args below meth c H locs cells slots mc ms Z D kA ad b ls X)
theorem E_if_ne {x off : Int} {tgt : Nat} (hd : decode M.2.1 pc = .ok (.ifCond .ne off, 3)) (ht : (pc : Int) + off = (tgt : Int)) (kt : ¬ wr x = 0 → E0 M d kc ks σ L st tgt Q) (kf : wr x = 0 → E0 M d kc ks σ L st (pc + 3) Q) : E0 M d kc ks σ L (.int (iI x) :: st) pc Q := by
  intro p l e R s m args below meth c H locs cells slots mc ms Z D kA ad b ls X
  obtain ⟨hx, hb, hml, hown, hts, hnm, hK, hW, hS, hd9, hc9, hl, hX9, hN9, hR⟩ := id X
  exact lv_if_ne hx hb hd ht (fun q => kt (by rw [← iI_0, iI_eq, wr_0] at q; exact q) p l e R s m args below meth c H locs cells slots mc ms Z D kA ad b ls X) (fun q => kf (by rw [← iI_0, iI_eq, wr_0] at q; exact q) p l e R s m args below meth c H locs cells slots mc ms Z D kA ad b ls X)
theorem E_icmp_lt {x y off : Int} {tgt : Nat} (hd : decode M.2.1 pc = .ok (.if_icmp .lt off, 3)) (ht : (pc : Int) + off = (tgt : Int)) (kt : wr x < wr y → E0 M d kc ks σ L st tgt Q) (kf : ¬ wr x < wr y → E0 M d kc ks σ L st (pc + 3) Q) : E0 M d kc ks σ L (.int (iI y) :: .int (iI x) :: st) pc Q := by
  intro p l e R s m args below meth c H locs cells slots mc ms Z D kA ad b ls X
  obtain ⟨hx, hb, hml, hown, hts, hnm, hK, hW, hS, hd9, hc9, hl, hX9, hN9, hR⟩ := id X
  exact lv_icmp_lt hx hb hd ht (fun q => kt (by rw [iI_lt] at q; exact q) p l e R s m args below meth c H locs cells slots mc ms Z D kA ad b ls X) (fun q => kf (by rw [iI_lt] at q; exact q) p l e R s m args below meth c H locs cells slots mc ms Z D kA ad b ls X)
theorem E_if_lt {x off : Int} {tgt : Nat} (hd : decode M.2.1 pc = .ok (.ifCond .lt off, 3)) (ht : (pc : Int) + off = (tgt : Int)) (kt : wr x < 0 → E0 M d kc ks σ L st tgt Q) (kf : ¬ wr x < 0 → E0 M d kc ks σ L st (pc + 3) Q) : E0 M d kc ks σ L (.int (iI x) :: st) pc Q := by
  intro p l e R s m args below meth c H locs cells slots mc ms Z D kA ad b ls X
  obtain ⟨hx, hb, hml, hown, hts, hnm, hK, hW, hS, hd9, hc9, hl, hX9, hN9, hR⟩ := id X
  exact lv_if_lt hx hb hd ht (fun q => kt (by rw [← iI_0, iI_lt, wr_0] at q; exact q) p l e R s m args below meth c H locs cells slots mc ms Z D kA ad b ls X) (fun q => kf (by rw [← iI_0, iI_lt, wr_0] at q; exact q) p l e R s m args below meth c H locs cells slots mc ms Z D kA ad b ls X)
theorem E_icmp_ge {x y off : Int} {tgt : Nat} (hd : decode M.2.1 pc = .ok (.if_icmp .ge off, 3)) (ht : (pc : Int) + off = (tgt : Int)) (kt : wr y ≤ wr x → E0 M d kc ks σ L st tgt Q) (kf : ¬ wr y ≤ wr x → E0 M d kc ks σ L st (pc + 3) Q) : E0 M d kc ks σ L (.int (iI y) :: .int (iI x) :: st) pc Q := by
  intro p l e R s m args below meth c H locs cells slots mc ms Z D kA ad b ls X
  obtain ⟨hx, hb, hml, hown, hts, hnm, hK, hW, hS, hd9, hc9, hl, hX9, hN9, hR⟩ := id X
  exact lv_icmp_ge hx hb hd ht (fun q => kt (by rw [iI_le] at q; exact q) p l e R s m args below meth c H locs cells slots mc ms Z D kA ad b ls X) (fun q => kf (by rw [iI_le] at q; exact q) p l e R s m args below meth c H locs cells slots mc ms Z D kA ad b ls X)
theorem E_if_ge {x off : Int} {tgt : Nat} (hd : decode M.2.1 pc = .ok (.ifCond .ge off, 3)) (ht : (pc : Int) + off = (tgt : Int)) (kt : 0 ≤ wr x → E0 M d kc ks σ L st tgt Q) (kf : ¬ 0 ≤ wr x → E0 M d kc ks σ L st (pc + 3) Q) : E0 M d kc ks σ L (.int (iI x) :: st) pc Q := by
  intro p l e R s m args below meth c H locs cells slots mc ms Z D kA ad b ls X
  obtain ⟨hx, hb, hml, hown, hts, hnm, hK, hW, hS, hd9, hc9, hl, hX9, hN9, hR⟩ := id X
  exact lv_if_ge hx hb hd ht (fun q => kt (by rw [← iI_0, iI_le, wr_0] at q; exact q) p l e R s m args below meth c H locs cells slots mc ms Z D kA ad b ls X) (fun q => kf (by rw [← iI_0, iI_le, wr_0] at q; exact q) p l e R s m args below meth c H locs cells slots mc ms Z D kA ad b ls X)
theorem E_icmp_gt {x y off : Int} {tgt : Nat} (hd : decode M.2.1 pc = .ok (.if_icmp .gt off, 3)) (ht : (pc : Int) + off = (tgt : Int)) (kt : wr y < wr x → E0 M d kc ks σ L st tgt Q) (kf : ¬ wr y < wr x → E0 M d kc ks σ L st (pc + 3) Q) : E0 M d kc ks σ L (.int (iI y) :: .int (iI x) :: st) pc Q := by
  intro p l e R s m args below meth c H locs cells slots mc ms Z D kA ad b ls X
  obtain ⟨hx, hb, hml, hown, hts, hnm, hK, hW, hS, hd9, hc9, hl, hX9, hN9, hR⟩ := id X
  exact lv_icmp_gt hx hb hd ht (fun q => kt (by rw [iI_lt] at q; exact q) p l e R s m args below meth c H locs cells slots mc ms Z D kA ad b ls X) (fun q => kf (by rw [iI_lt] at q; exact q) p l e R s m args below meth c H locs cells slots mc ms Z D kA ad b ls X)
theorem E_if_gt {x off : Int} {tgt : Nat} (hd : decode M.2.1 pc = .ok (.ifCond .gt off, 3)) (ht : (pc : Int) + off = (tgt : Int)) (kt : 0 < wr x → E0 M d kc ks σ L st tgt Q) (kf : ¬ 0 < wr x → E0 M d kc ks σ L st (pc + 3) Q) : E0 M d kc ks σ L (.int (iI x) :: st) pc Q := by
  intro p l e R s m args below meth c H locs cells slots mc ms Z D kA ad b ls X
  obtain ⟨hx, hb, hml, hown, hts, hnm, hK, hW, hS, hd9, hc9, hl, hX9, hN9, hR⟩ := id X
  exact lv_if_gt hx hb hd ht (fun q => kt (by rw [← iI_0, iI_lt, wr_0] at q; exact q) p l e R s m args below meth c H locs cells slots mc ms Z D kA ad b ls X) (fun q => kf (by rw [← iI_0, iI_lt, wr_0] at q; exact q) p l e R s m args below meth c H locs cells slots mc ms Z D kA ad b ls X)
theorem E_icmp_le {x y off : Int} {tgt : Nat} (hd : decode M.2.1 pc = .ok (.if_icmp .le off, 3)) (ht : (pc : Int) + off = (tgt : Int)) (kt : wr x ≤ wr y → E0 M d kc ks σ L st tgt Q) (kf : ¬ wr x ≤ wr y → E0 M d kc ks σ L st (pc + 3) Q) : E0 M d kc ks σ L (.int (iI y) :: .int (iI x) :: st) pc Q := by
  intro p l e R s m args below meth c H locs cells slots mc ms Z D kA ad b ls X
  obtain ⟨hx, hb, hml, hown, hts, hnm, hK, hW, hS, hd9, hc9, hl, hX9, hN9, hR⟩ := id X
  exact lv_icmp_le hx hb hd ht (fun q => kt (by rw [iI_le] at q; exact q) p l e R s m args below meth c H locs cells slots mc ms Z D kA ad b ls X) (fun q => kf (by rw [iI_le] at q; exact q) p l e R s m args below meth c H locs cells slots mc ms Z D kA ad b ls X)
theorem E_if_le {x off : Int} {tgt : Nat} (hd : decode M.2.1 pc = .ok (.ifCond .le off, 3)) (ht : (pc : Int) + off = (tgt : Int)) (kt : wr x ≤ 0 → E0 M d kc ks σ L st tgt Q) (kf : ¬ wr x ≤ 0 → E0 M d kc ks σ L st (pc + 3) Q) : E0 M d kc ks σ L (.int (iI x) :: st) pc Q := by
  intro p l e R s m args below meth c H locs cells slots mc ms Z D kA ad b ls X
  obtain ⟨hx, hb, hml, hown, hts, hnm, hK, hW, hS, hd9, hc9, hl, hX9, hN9, hR⟩ := id X
  exact lv_if_le hx hb hd ht (fun q => kt (by rw [← iI_0, iI_le, wr_0] at q; exact q) p l e R s m args below meth c H locs cells slots mc ms Z D kA ad b ls X) (fun q => kf (by rw [← iI_0, iI_le, wr_0] at q; exact q) p l e R s m args below meth c H locs cells slots mc ms Z D kA ad b ls X)
theorem E_goto {off : Int} {tgt : Nat} (hd : decode M.2.1 pc = .ok (.goto off, 3)) (ht : (pc : Int) + off = (tgt : Int)) (k : E0 M d kc ks σ L st tgt Q) : E0 M d kc ks σ L st pc Q := by
  intro p l e R s m args below meth c H locs cells slots mc ms Z D kA ad b ls X
  obtain ⟨hx, hb, hml, hown, hts, hnm, hK, hW, hS, hd9, hc9, hl, hX9, hN9, hR⟩ := id X
  exact lv_goto hx hb hd ht (k p l e R s m args below meth c H locs cells slots mc ms Z D kA ad b ls X)
theorem E_tableIn {x dflt lo hi off : Int} {offs : Array Int} {len : Nat} {tgt : Nat} (hd : decode M.2.1 pc = .ok (.tableswitch dflt lo hi offs, len)) (h1 : ¬ wr x < lo) (h2 : ¬ hi < wr x) (ho : offs[(wr x - lo).toNat]? = some off) (ht : (pc : Int) + off = (tgt : Int)) (k : E0 M d kc ks σ L st tgt Q) : E0 M d kc ks σ L (.int (iI x) :: st) pc Q := by
  intro p l e R s m args below meth c H locs cells slots mc ms Z D kA ad b ls X
  obtain ⟨hx, hb, hml, hown, hts, hnm, hK, hW, hS, hd9, hc9, hl, hX9, hN9, hR⟩ := id X
  exact lv_tableIn hx hb hd (by rw [iI_toInt]; exact h1) (by rw [iI_toInt]; exact h2) (by rw [iI_toInt]; exact ho) ht (k p l e R s m args below meth c H locs cells slots mc ms Z D kA ad b ls X)
theorem E_tableOut {x dflt lo hi : Int} {offs : Array Int} {len : Nat} {tgt : Nat} (hd : decode M.2.1 pc = .ok (.tableswitch dflt lo hi offs, len)) (h : wr x < lo ∨ hi < wr x) (ht : (pc : Int) + dflt = (tgt : Int)) (k : E0 M d kc ks σ L st tgt Q) : E0 M d kc ks σ L (.int (iI x) :: st) pc Q := by
  intro p l e R s m args below meth c H locs cells slots mc ms Z D kA ad b ls X
  obtain ⟨hx, hb, hml, hown, hts, hnm, hK, hW, hS, hd9, hc9, hl, hX9, hN9, hR⟩ := id X
  exact lv_tableOut hx hb hd (by rw [iI_toInt]; exact h) ht (k p l e R s m args below meth c H locs cells slots mc ms Z D kA ad b ls X)
theorem E_lookup {x dflt off : Int} {ps : Array (Int × Int)} {len : Nat} {tgt : Nat} (hd : decode M.2.1 pc = .ok (.lookupswitch dflt ps, len)) (hp : (ps.toList.zip (ps.toList.drop 1)).all (fun (a, next) => a.1 < next.1) = true) (ho : Op.lookupswitch.offset ps.toList dflt (wr x) = off) (ht : (pc : Int) + off = (tgt : Int)) (k : E0 M d kc ks σ L st tgt Q) : E0 M d kc ks σ L (.int (iI x) :: st) pc Q := by
  intro p l e R s m args below meth c H locs cells slots mc ms Z D kA ad b ls X
  obtain ⟨hx, hb, hml, hown, hts, hnm, hK, hW, hS, hd9, hc9, hl, hX9, hN9, hR⟩ := id X
  exact lv_lookup hx hb hd hp (by rw [iI_toInt]; exact ho) ht (k p l e R s m args below meth c H locs cells slots mc ms Z D kA ad b ls X)
theorem E_pop {v : Value} (hd : decode M.2.1 pc = .ok (.pop, 1)) (hv : v.category = 1) (k : E0 M d kc ks σ L st (pc + 1) Q) : E0 M d kc ks σ L (v :: st) pc Q := by
  intro p l e R s m args below meth c H locs cells slots mc ms Z D kA ad b ls X
  obtain ⟨hx, hb, hml, hown, hts, hnm, hK, hW, hS, hd9, hc9, hl, hX9, hN9, hR⟩ := id X
  exact lv_pop hx hb hd (by rw [sh_cat]; exact hv) (k p l e R s m args below meth c H locs cells slots mc ms Z D kA ad b ls X)
theorem E_dup {v : Value} (hd : decode M.2.1 pc = .ok (.dup, 1)) (hv : v.category = 1) (k : E0 M d kc ks σ L (v :: v :: st) (pc + 1) Q) : E0 M d kc ks σ L (v :: st) pc Q := by
  intro p l e R s m args below meth c H locs cells slots mc ms Z D kA ad b ls X
  obtain ⟨hx, hb, hml, hown, hts, hnm, hK, hW, hS, hd9, hc9, hl, hX9, hN9, hR⟩ := id X
  exact lv_dup hx hb hd (by rw [sh_cat]; exact hv) (k p l e R s m args below meth c H locs cells slots mc ms Z D kA ad b ls X)
theorem E_dup2 {v w : Value} (hd : decode M.2.1 pc = .ok (.dup2, 1)) (hv : v.category = 1) (hw : w.category = 1) (k : E0 M d kc ks σ L (v :: w :: v :: w :: st) (pc + 1) Q) : E0 M d kc ks σ L (v :: w :: st) pc Q := by
  intro p l e R s m args below meth c H locs cells slots mc ms Z D kA ad b ls X
  obtain ⟨hx, hb, hml, hown, hts, hnm, hK, hW, hS, hd9, hc9, hl, hX9, hN9, hR⟩ := id X
  exact lv_dup2_11 hx hb hd (by rw [sh_cat]; exact hv) (by rw [sh_cat]; exact hw) (k p l e R s m args below meth c H locs cells slots mc ms Z D kA ad b ls X)
theorem E_sub {L2 : List (Nat × Value)} (qs : List Nat) (hL : lv_pick L qs = L2) (k : E0 M d kc ks σ L2 st pc Q) : E0 M d kc ks σ L st pc Q := by
  intro p l e R s m args below meth c H locs cells slots mc ms Z D kA ad b ls X
  obtain ⟨hx, hb, hml, hown, hts, hnm, hK, hW, hS, hd9, hc9, hl, hX9, hN9, hR⟩ := id X
  refine k p l e R s m args below meth c H locs cells slots mc ms Z D kA ad b ls ⟨hx, hb, hml, hown, hts, hnm, hK, hW, hS, hd9, hc9, lv_sub hl qs ?_, hX9, hN9, hR⟩
  rw [← hL]
  simp only [lv_pick, shL]
  rw [List.map_filterMap]
  congr 1
  funext i
  simp
end ER
end
section

def FLok (own : String) (idx ci k : Nat) : Prop := ∃ (C : String) (T : u_T) (N : Nat), vwCl[ci]? = some (C, T, N) ∧ k < N ∧ Cond.fieldLink own idx (T k).1 (T k).2.1 (T k).2.2.1 ∈ WA
def NWok (own : String) (idx ci : Nat) : Prop := ∃ (C : String) (T : u_T) (N : Nat), vwCl[ci]? = some (C, T, N) ∧ Cond.classLink own idx C ∈ WA ∧ Cond.instantiable C N ∈ WA ∧ Cond.initialized C ∈ WA
def fvA (σ : Sg) (a : Nat) (ty : FieldType) (k : Nat) : Value := match ty with
  | .int => .int (iI (σ.2.1 a k))
  | .boolean => .int (iI (σ.2.1 a k))
  | .long => .long (σ.2.2.1 a k)
  | _ => va_rf (σ.2.2.2 a k)
theorem fvA_sh (ad : Nat → Nat) (σ : Sg) (a : Nat) (ty : FieldType) (k : Nat) : sh ad (fvA σ a ty k) = fvv ad σ a ty k := by
  cases ty <;> first | rfl | (unfold fvA fvv; cases σ.2.2.2 a k <;> rfl)
theorem cl_cases {ci : Nat} {q : vw_C} (h : vwCl[ci]? = some q) : (∀ w ∈ u_ws q.1 q.2.1 q.2.2, w ∈ WA) ∧ (∀ k, k < q.2.2 → parseFieldDescriptor (q.2.1 k).2.2.1 = some (clTy ci k)) ∧ (∀ a, a < q.2.2 → ∀ b, b < q.2.2 → a ≠ b → (q.2.1 a).2.1 ≠ (q.2.1 b).2.1) ∧ nFl ci = q.2.2 := by
  have hn : nFl ci = q.2.2 := by
    unfold nFl
    rw [h]
  match ci, h with
  | 0, h => cases h; exact ⟨inlX0, tyX0_ok, nmX0, hn⟩
  | 1, h => cases h; exact ⟨inlX1, tyX1_ok, nmX1, hn⟩
  | 2, h => cases h; exact ⟨inlX2, tyX2_ok, nmX2, hn⟩
  | 3, h => cases h; exact ⟨inlX3, tyX3_ok, nmX3, hn⟩
  | 4, h => cases h; exact ⟨inlX4, tyX4_ok, nmX4, hn⟩
  | 5, h => cases h; exact ⟨inlX6, tyX6_ok, nmX6, hn⟩
  | 6, h => cases h; exact ⟨inlX7, tyX7_ok, nmX7, hn⟩
  | 7, h => cases h; exact ⟨inlX8, tyX8_ok, nmX8, hn⟩
  | 8, h => cases h; exact ⟨inlX9, tyX9_ok, nmX9, hn⟩
  | n + 9, h => simp [vwCl] at h
theorem ce_obj {kA : Nat → ClassId} {ad : Nat → Nat} {σ : Sg} {a c : Nat} (hs : shp a = .inl c) : ce kA ad σ a = .inr (c, (List.range (nFl c)).map (fun k => fvv ad σ a (clTy c k) k)) := by
  unfold ce
  rw [hs]
theorem ce_arr {kA : Nat → ClassId} {ad : Nat → Nat} {σ : Sg} {a t n : Nat} (hs : shp a = .inr (t, n)) : ce kA ad σ a = .inl (kA t, arc ad σ a t n) := by
  unfold ce
  rw [hs]
theorem Wd.ad {D : va_G} {kA : Nat → ClassId} {ad : Nat → Nat} {b : Nat} {σ : Sg} {H : Heap} (h : Wd D kA ad b σ H) {a : Nat} (h1 : 1 ≤ a) : ad a = b + a := h.1 a h1
theorem Wd.P {D : va_G} {kA : Nat → ClassId} {ad : Nat → Nat} {b : Nat} {σ : Sg} {H : Heap} (h : Wd D kA ad b σ H) {a : Nat} (h1 : 1 ≤ a) (h2 : a < σ.1) : va_P D vwCl [(ad a, ce kA ad σ a)] H := by
  intro k q hk
  have h0 : k < 1 := (List.getElem?_eq_some_iff.mp hk).1
  rw [show k = 0 by omega] at hk
  cases hk
  exact h.2.2.2 a h1 h2
/-- behind a store into cell a -/
theorem Wd.set {D : va_G} {kA : Nat → ClassId} {ad : Nat → Nat} {b : Nat} {σ σ2 : Sg} {H H1 : Heap} (h : Wd D kA ad b σ H) {a : Nat} (h1 : 1 ≤ a) (hn : σ2.1 = σ.1) (z : H1.size = H.size) (oq : ∀ q : Nat, q ≠ ad a → H1[q]? = H[q]?) (he : va_at D vwCl (ad a, ce kA ad σ2 a) H1) (hne : ∀ x, x ≠ a → ce kA ad σ2 x = ce kA ad σ x) : Wd D kA ad b σ2 H1 := by
  refine ⟨h.1, by rw [z, hn]; exact h.2.1, by rw [hn]; exact h.2.2.1, fun x hx1 hx2 => ?_⟩
  by_cases e : x = a
  · rw [e]; exact he
  · rw [hne x e]
    rw [hn] at hx2
    refine (h.2.2.2 x hx1 hx2).kept (oq _ ?_)
    show ad x ≠ ad a
    rw [h.1 x hx1, h.1 a h1]
    omega
theorem up2_ne {α : Type} {f : Nat → Nat → α} {a k b : Nat} {v : α} (h : b ≠ a) : up2 f a k v b = f b := by
  funext j
  simp [up2, h]
theorem up2_eq {α : Type} {f : Nat → Nat → α} {a k : Nat} {v : α} (j : Nat) : up2 f a k v a j = if j = k then v else f a j := by simp [up2]
theorem ce_cong {kA : Nat → ClassId} {ad : Nat → Nat} {σ σ2 : Sg} {a : Nat} (h1 : σ2.2.1 a = σ.2.1 a) (h2 : σ2.2.2.1 a = σ.2.2.1 a) (h3 : σ2.2.2.2 a = σ.2.2.2 a) : ce kA ad σ2 a = ce kA ad σ a := by
  unfold ce arc fvv
  rw [h1, h2, h3]
theorem ce_setI {kA : Nat → ClassId} {ad : Nat → Nat} {σ : Sg} {a k x : Nat} {v : Int} (h : x ≠ a) : ce kA ad (setI σ a k v) x = ce kA ad σ x := ce_cong (up2_ne h) rfl rfl
theorem ce_setJ {kA : Nat → ClassId} {ad : Nat → Nat} {σ : Sg} {a k x : Nat} {v : Int64} (h : x ≠ a) : ce kA ad (setJ σ a k v) x = ce kA ad σ x := ce_cong rfl (up2_ne h) rfl
theorem ce_setQ {kA : Nat → ClassId} {ad : Nat → Nat} {σ : Sg} {a k x : Nat} {v : Option Nat} (h : x ≠ a) : ce kA ad (setQ σ a k v) x = ce kA ad σ x := ce_cong rfl rfl (up2_ne h)
section ER2
variable {M : MD} {d kc ks : Nat} {σ : Sg} {L : List (Nat × Value)} {st : List Value} {pc : Nat} {Q : Option Value → Sg → Prop}
theorem E_get {a ci k idx : Nat} {v : Value} (hd : decode M.2.1 pc = .ok (.getfield idx, 3)) (hf : FLok M.1.cls idx ci k) (hs : shp a = .inl ci) (h1 : 1 ≤ a) (h2 : a < σ.1) (hv : fvA σ a (clTy ci k) k = v) (kk : E0 M d kc ks σ L (v :: st) (pc + 3) Q) : E0 M d kc ks σ L (.ref a :: st) pc Q := by
  intro p l e R s m args below meth c H locs cells slots mc ms Z D kA ad b ls X
  obtain ⟨hx, hb, hml, hown, hts, hnm, hK, hW, hS, hd9, hc9, hl, hX9, hN9, hR⟩ := id X
  obtain ⟨C, T, N, hq, hk, hw⟩ := hf
  obtain ⟨g1, g2, g3, g4⟩ := cl_cases hq
  refine va_get (D := D) (cl := vwCl) (ws := [(ad a, ce kA ad σ a)]) (ci := ci) (C := C) (T := T) (N := N) (Ts := WA) (fs := (List.range (nFl ci)).map (fun k => fvv ad σ a (clTy ci k) k)) hx hb hts g1 hown hK (hW.P h1 h2) 0 (by rw [ce_obj hs]; rfl) hq k hk (hts _ hw) (fun _ h => h) (v := sh ad v) ?_ hd (kk p l e R s m args below meth c H locs cells slots mc ms Z D kA ad b ls X)
  rw [g4, ← hv, fvA_sh]
  simp [hk]


theorem E_putI {a ci k idx : Nat} {v : Int} (hd : decode M.2.1 pc = .ok (.putfield idx, 3)) (hf : FLok M.1.cls idx ci k) (hfin : ∀ T C N, vwCl[ci]? = some (C, T, N) → (T k).2.2.2 = false) (hs : shp a = .inl ci) (h1 : 1 ≤ a) (h2 : a < σ.1) (hty : clTy ci k = .int ∨ (clTy ci k = .boolean ∧ (v = 0 ∨ v = 1))) (kk : E0 M d kc ks (setI σ a k (v)) L st (pc + 3) Q) : E0 M d kc ks σ L (.int (iI v) :: .ref a :: st) pc Q := by
  intro p l e R s m args below meth c H locs cells slots mc ms Z D kA ad b ls X
  obtain ⟨hx, hb, hml, hown, hts, hnm, hK, hW, hS, hd9, hc9, hl, hX9, hN9, hR⟩ := id X
  obtain ⟨C, T, N, hq, hk, hw⟩ := hf
  obtain ⟨g1, g2, g3, g4⟩ := cl_cases hq
  have hap := va_apart (own := M.1.cls) hts g1 (clTy ci) g2 g3 hK hq
  obtain ⟨r, e1, cell, q1, q2, q3, q4⟩ := (show va_at D vwCl (ad a, .inr (ci, (List.range (nFl ci)).map (fun k => fvv ad σ a (clTy ci k) k))) H by rw [← ce_obj hs]; exact hW.2.2.2 a h1 h2)
  have hr : r = (C, T, N) := Option.some.inj (e1.symm.trans hq)
  subst hr
  obtain ⟨hS9, hfc, kC, hkC, hkind⟩ := hK.1 ci _ hq
  obtain ⟨cf, kf, fi, f, hi, hsl⟩ := hS9 k hk
  have hlay := hts _ (g1 _ (u_in_lay hk))
  unfold u_lay at hlay
  rw [if_neg (by rw [hfin T C N hq]; decide)] at hlay
  have hst := (u_facts hfc hkC (u_lays hts g1 hk) hi).1
  have hnf : narrow (clTy ci k) (sh ad (.int (iI v))) = sh ad (.int (iI v)) ∧ fits (clTy ci k) (sh ad (.int (iI v))) = true := by
    rcases hty with h | ⟨h, h9 | h9⟩
    · rw [h]; exact ⟨rfl, rfl⟩
    · rw [h, h9]; exact ⟨rfl, rfl⟩
    · rw [h, h9]; exact ⟨rfl, rfl⟩
  have h6 := u_store hfc hkC hkind hlay hi (g2 k hk) hnf.1 hnf.2
  refine W.putK hx hb (f := f) ⟨hown, hts _ hw, ⟨_, _, _, hi⟩, hst⟩ (by rw [q2]; exact h6) q1 q3 (by rw [hsl]; exact k2_hasslot (q4 k hk)) rfl rfl hd fun H' f1 f2 f3 => ?_
  rw [hsl] at f1 ⊢
  have hA : AB b (ad a) := by show b + 1 ≤ ad a; rw [hW.ad h1]; omega
  refine kk p l e R s m args below meth c H' _ cells slots mc ms Z D kA ad b ls ⟨hx, hb, hml, hown, hts, hnm, hK, hW.set h1 rfl f2 f3 ?_ (fun x hx9 => ce_setI hx9), hS.put f2 f3 hA, hd9, hc9, hl, hX9, hN9, hR⟩
  rw [ce_obj hs]
  refine ⟨_, hq, t_OB.to (V := updV (vp_V ((List.range (nFl ci)).map (fun k => fvv ad σ a (clTy ci k) k))) k (sh ad (.int (iI v)))) ⟨_, f1, q2, q3, t_set q4 hap hk _⟩ (fun j hj => ?_)⟩
  have hj9 : j < N := hj
  by_cases e : j = k
  · subst e
    rw [g4]
    rcases hty with h | ⟨h, -⟩ <;> simp [updV, vp_V, List.getD, hj9, fvv, up2_eq, sh, h]
  · rw [g4]
    simp [updV, vp_V, List.getD, hj9, e, fvv, up2_eq]

theorem E_putJ {a ci k idx : Nat} {v : Int64} (hd : decode M.2.1 pc = .ok (.putfield idx, 3)) (hf : FLok M.1.cls idx ci k) (hfin : ∀ T C N, vwCl[ci]? = some (C, T, N) → (T k).2.2.2 = false) (hs : shp a = .inl ci) (h1 : 1 ≤ a) (h2 : a < σ.1) (hty : clTy ci k = .long) (kk : E0 M d kc ks (setJ σ a k (v)) L st (pc + 3) Q) : E0 M d kc ks σ L (.long v :: .ref a :: st) pc Q := by
  intro p l e R s m args below meth c H locs cells slots mc ms Z D kA ad b ls X
  obtain ⟨hx, hb, hml, hown, hts, hnm, hK, hW, hS, hd9, hc9, hl, hX9, hN9, hR⟩ := id X
  obtain ⟨C, T, N, hq, hk, hw⟩ := hf
  obtain ⟨g1, g2, g3, g4⟩ := cl_cases hq
  have hap := va_apart (own := M.1.cls) hts g1 (clTy ci) g2 g3 hK hq
  obtain ⟨r, e1, cell, q1, q2, q3, q4⟩ := (show va_at D vwCl (ad a, .inr (ci, (List.range (nFl ci)).map (fun k => fvv ad σ a (clTy ci k) k))) H by rw [← ce_obj hs]; exact hW.2.2.2 a h1 h2)
  have hr : r = (C, T, N) := Option.some.inj (e1.symm.trans hq)
  subst hr
  obtain ⟨hS9, hfc, kC, hkC, hkind⟩ := hK.1 ci _ hq
  obtain ⟨cf, kf, fi, f, hi, hsl⟩ := hS9 k hk
  have hlay := hts _ (g1 _ (u_in_lay hk))
  unfold u_lay at hlay
  rw [if_neg (by rw [hfin T C N hq]; decide)] at hlay
  have hst := (u_facts hfc hkC (u_lays hts g1 hk) hi).1
  have hnf : narrow (clTy ci k) (sh ad (.long v)) = sh ad (.long v) ∧ fits (clTy ci k) (sh ad (.long v)) = true := by
    rw [hty]
    exact ⟨rfl, rfl⟩
  have h6 := u_store hfc hkC hkind hlay hi (g2 k hk) hnf.1 hnf.2
  refine W.putK hx hb (f := f) ⟨hown, hts _ hw, ⟨_, _, _, hi⟩, hst⟩ (by rw [q2]; exact h6) q1 q3 (by rw [hsl]; exact k2_hasslot (q4 k hk)) rfl rfl hd fun H' f1 f2 f3 => ?_
  rw [hsl] at f1 ⊢
  have hA : AB b (ad a) := by show b + 1 ≤ ad a; rw [hW.ad h1]; omega
  refine kk p l e R s m args below meth c H' _ cells slots mc ms Z D kA ad b ls ⟨hx, hb, hml, hown, hts, hnm, hK, hW.set h1 rfl f2 f3 ?_ (fun x hx9 => ce_setJ hx9), hS.put f2 f3 hA, hd9, hc9, hl, hX9, hN9, hR⟩
  rw [ce_obj hs]
  refine ⟨_, hq, t_OB.to (V := updV (vp_V ((List.range (nFl ci)).map (fun k => fvv ad σ a (clTy ci k) k))) k (sh ad (.long v))) ⟨_, f1, q2, q3, t_set q4 hap hk _⟩ (fun j hj => ?_)⟩
  have hj9 : j < N := hj
  by_cases e : j = k
  · subst e
    rw [g4]
    simp [updV, vp_V, List.getD, hj9, fvv, up2_eq, sh, hty]
  · rw [g4]
    simp [updV, vp_V, List.getD, hj9, e, fvv, up2_eq]

theorem E_putQ {a ci k idx : Nat} {v : Nat} (hd : decode M.2.1 pc = .ok (.putfield idx, 3)) (hf : FLok M.1.cls idx ci k) (hfin : ∀ T C N, vwCl[ci]? = some (C, T, N) → (T k).2.2.2 = false) (hs : shp a = .inl ci) (h1 : 1 ≤ a) (h2 : a < σ.1) (hty : (∃ n, clTy ci k = .object n) ∨ ∃ t, clTy ci k = .array t) (kk : E0 M d kc ks (setQ σ a k (some v)) L st (pc + 3) Q) : E0 M d kc ks σ L (.ref v :: .ref a :: st) pc Q := by
  intro p l e R s m args below meth c H locs cells slots mc ms Z D kA ad b ls X
  obtain ⟨hx, hb, hml, hown, hts, hnm, hK, hW, hS, hd9, hc9, hl, hX9, hN9, hR⟩ := id X
  obtain ⟨C, T, N, hq, hk, hw⟩ := hf
  obtain ⟨g1, g2, g3, g4⟩ := cl_cases hq
  have hap := va_apart (own := M.1.cls) hts g1 (clTy ci) g2 g3 hK hq
  obtain ⟨r, e1, cell, q1, q2, q3, q4⟩ := (show va_at D vwCl (ad a, .inr (ci, (List.range (nFl ci)).map (fun k => fvv ad σ a (clTy ci k) k))) H by rw [← ce_obj hs]; exact hW.2.2.2 a h1 h2)
  have hr : r = (C, T, N) := Option.some.inj (e1.symm.trans hq)
  subst hr
  obtain ⟨hS9, hfc, kC, hkC, hkind⟩ := hK.1 ci _ hq
  obtain ⟨cf, kf, fi, f, hi, hsl⟩ := hS9 k hk
  have hlay := hts _ (g1 _ (u_in_lay hk))
  unfold u_lay at hlay
  rw [if_neg (by rw [hfin T C N hq]; decide)] at hlay
  have hst := (u_facts hfc hkC (u_lays hts g1 hk) hi).1
  have hnf : narrow (clTy ci k) (sh ad (.ref v)) = sh ad (.ref v) ∧ fits (clTy ci k) (sh ad (.ref v)) = true := by
    rcases hty with ⟨n, h⟩ | ⟨n, h⟩ <;> rw [h] <;> exact ⟨rfl, rfl⟩
  have h6 := u_store hfc hkC hkind hlay hi (g2 k hk) hnf.1 hnf.2
  refine W.putK hx hb (f := f) ⟨hown, hts _ hw, ⟨_, _, _, hi⟩, hst⟩ (by rw [q2]; exact h6) q1 q3 (by rw [hsl]; exact k2_hasslot (q4 k hk)) rfl rfl hd fun H' f1 f2 f3 => ?_
  rw [hsl] at f1 ⊢
  have hA : AB b (ad a) := by show b + 1 ≤ ad a; rw [hW.ad h1]; omega
  refine kk p l e R s m args below meth c H' _ cells slots mc ms Z D kA ad b ls ⟨hx, hb, hml, hown, hts, hnm, hK, hW.set h1 rfl f2 f3 ?_ (fun x hx9 => ce_setQ hx9), hS.put f2 f3 hA, hd9, hc9, hl, hX9, hN9, hR⟩
  rw [ce_obj hs]
  refine ⟨_, hq, t_OB.to (V := updV (vp_V ((List.range (nFl ci)).map (fun k => fvv ad σ a (clTy ci k) k))) k (sh ad (.ref v))) ⟨_, f1, q2, q3, t_set q4 hap hk _⟩ (fun j hj => ?_)⟩
  have hj9 : j < N := hj
  by_cases e : j = k
  · subst e
    rw [g4]
    rcases hty with ⟨n, h⟩ | ⟨n, h⟩ <;> simp [updV, vp_V, List.getD, hj9, fvv, up2_eq, sh, h, va_rf]
  · rw [g4]
    simp [updV, vp_V, List.getD, hj9, e, fvv, up2_eq]


theorem E_putIF {a ci k idx : Nat} {v : Int} (hd : decode M.2.1 pc = .ok (.putfield idx, 3)) (hf : FLok M.1.cls idx ci k) (hfin : (∀ T C N, vwCl[ci]? = some (C, T, N) → (T k).2.2.2 = true ∧ (T k).1 = M.1.cls) ∧ M.1.name = "<init>") (hs : shp a = .inl ci) (h1 : 1 ≤ a) (h2 : a < σ.1) (hty : clTy ci k = .int ∨ (clTy ci k = .boolean ∧ (v = 0 ∨ v = 1))) (kk : E0 M d kc ks (setI σ a k (v)) L st (pc + 3) Q) : E0 M d kc ks σ L (.int (iI v) :: .ref a :: st) pc Q := by
  intro p l e R s m args below meth c H locs cells slots mc ms Z D kA ad b ls X
  obtain ⟨hx, hb, hml, hown, hts, hnm, hK, hW, hS, hd9, hc9, hl, hX9, hN9, hR⟩ := id X
  obtain ⟨C, T, N, hq, hk, hw⟩ := hf
  obtain ⟨g1, g2, g3, g4⟩ := cl_cases hq
  have hap := va_apart (own := M.1.cls) hts g1 (clTy ci) g2 g3 hK hq
  obtain ⟨r, e1, cell, q1, q2, q3, q4⟩ := (show va_at D vwCl (ad a, .inr (ci, (List.range (nFl ci)).map (fun k => fvv ad σ a (clTy ci k) k))) H by rw [← ce_obj hs]; exact hW.2.2.2 a h1 h2)
  have hr : r = (C, T, N) := Option.some.inj (e1.symm.trans hq)
  subst hr
  obtain ⟨hS9, hfc, kC, hkC, hkind⟩ := hK.1 ci _ hq
  obtain ⟨cf, kf, fi, f, hi, hsl⟩ := hS9 k hk
  have hlay := hts _ (g1 _ (u_in_lay hk))
  unfold u_lay at hlay
  rw [if_pos (hfin.1 T C N hq).1] at hlay
  have hst := (u_facts hfc hkC (u_lays hts g1 hk) hi).1
  have hnf : narrow (clTy ci k) (sh ad (.int (iI v))) = sh ad (.int (iI v)) ∧ fits (clTy ci k) (sh ad (.int (iI v))) = true := by
    rcases hty with h | ⟨h, h9 | h9⟩
    · rw [h]; exact ⟨rfl, rfl⟩
    · rw [h, h9]; exact ⟨rfl, rfl⟩
    · rw [h, h9]; exact ⟨rfl, rfl⟩
  have hcf : m.cls = cf := by
    obtain ⟨_, _, c', _, _, _, -, -, hf', -, -, -, hown2, -⟩ := Cond.laysFinal_spec hlay
    have e9 : c' = cf := by have := hi.symm.trans hf'; simp at this; exact this.1.symm
    rw [(hfin.1 T C N hq).2] at hown2
    rw [← e9]; exact Option.some.inj (hown.symm.trans hown2)
  have h6 := u_fits hfc hkC hkind (Or.inr hlay) hi (g2 k hk) hnf.1 hnf.2
  refine W.putFinK hx hb hown (hts _ hw) hi hst hcf (hnm.trans hfin.2) (by rw [q2]; exact h6) q1 q3 (by rw [hsl]; exact k2_hasslot (q4 k hk)) rfl rfl hd fun H' f1 f2 f3 => ?_
  rw [hsl] at f1 ⊢
  have hA : AB b (ad a) := by show b + 1 ≤ ad a; rw [hW.ad h1]; omega
  refine kk p l e R s m args below meth c H' _ cells slots mc ms Z D kA ad b ls ⟨hx, hb, hml, hown, hts, hnm, hK, hW.set h1 rfl f2 f3 ?_ (fun x hx9 => ce_setI hx9), hS.put f2 f3 hA, hd9, hc9, hl, hX9, hN9, hR⟩
  rw [ce_obj hs]
  refine ⟨_, hq, t_OB.to (V := updV (vp_V ((List.range (nFl ci)).map (fun k => fvv ad σ a (clTy ci k) k))) k (sh ad (.int (iI v)))) ⟨_, f1, q2, q3, t_set q4 hap hk _⟩ (fun j hj => ?_)⟩
  have hj9 : j < N := hj
  by_cases e : j = k
  · subst e
    rw [g4]
    rcases hty with h | ⟨h, -⟩ <;> simp [updV, vp_V, List.getD, hj9, fvv, up2_eq, sh, h]
  · rw [g4]
    simp [updV, vp_V, List.getD, hj9, e, fvv, up2_eq]

theorem E_putJF {a ci k idx : Nat} {v : Int64} (hd : decode M.2.1 pc = .ok (.putfield idx, 3)) (hf : FLok M.1.cls idx ci k) (hfin : (∀ T C N, vwCl[ci]? = some (C, T, N) → (T k).2.2.2 = true ∧ (T k).1 = M.1.cls) ∧ M.1.name = "<init>") (hs : shp a = .inl ci) (h1 : 1 ≤ a) (h2 : a < σ.1) (hty : clTy ci k = .long) (kk : E0 M d kc ks (setJ σ a k (v)) L st (pc + 3) Q) : E0 M d kc ks σ L (.long v :: .ref a :: st) pc Q := by
  intro p l e R s m args below meth c H locs cells slots mc ms Z D kA ad b ls X
  obtain ⟨hx, hb, hml, hown, hts, hnm, hK, hW, hS, hd9, hc9, hl, hX9, hN9, hR⟩ := id X
  obtain ⟨C, T, N, hq, hk, hw⟩ := hf
  obtain ⟨g1, g2, g3, g4⟩ := cl_cases hq
  have hap := va_apart (own := M.1.cls) hts g1 (clTy ci) g2 g3 hK hq
  obtain ⟨r, e1, cell, q1, q2, q3, q4⟩ := (show va_at D vwCl (ad a, .inr (ci, (List.range (nFl ci)).map (fun k => fvv ad σ a (clTy ci k) k))) H by rw [← ce_obj hs]; exact hW.2.2.2 a h1 h2)
  have hr : r = (C, T, N) := Option.some.inj (e1.symm.trans hq)
  subst hr
  obtain ⟨hS9, hfc, kC, hkC, hkind⟩ := hK.1 ci _ hq
  obtain ⟨cf, kf, fi, f, hi, hsl⟩ := hS9 k hk
  have hlay := hts _ (g1 _ (u_in_lay hk))
  unfold u_lay at hlay
  rw [if_pos (hfin.1 T C N hq).1] at hlay
  have hst := (u_facts hfc hkC (u_lays hts g1 hk) hi).1
  have hnf : narrow (clTy ci k) (sh ad (.long v)) = sh ad (.long v) ∧ fits (clTy ci k) (sh ad (.long v)) = true := by
    rw [hty]
    exact ⟨rfl, rfl⟩
  have hcf : m.cls = cf := by
    obtain ⟨_, _, c', _, _, _, -, -, hf', -, -, -, hown2, -⟩ := Cond.laysFinal_spec hlay
    have e9 : c' = cf := by have := hi.symm.trans hf'; simp at this; exact this.1.symm
    rw [(hfin.1 T C N hq).2] at hown2
    rw [← e9]; exact Option.some.inj (hown.symm.trans hown2)
  have h6 := u_fits hfc hkC hkind (Or.inr hlay) hi (g2 k hk) hnf.1 hnf.2
  refine W.putFinK hx hb hown (hts _ hw) hi hst hcf (hnm.trans hfin.2) (by rw [q2]; exact h6) q1 q3 (by rw [hsl]; exact k2_hasslot (q4 k hk)) rfl rfl hd fun H' f1 f2 f3 => ?_
  rw [hsl] at f1 ⊢
  have hA : AB b (ad a) := by show b + 1 ≤ ad a; rw [hW.ad h1]; omega
  refine kk p l e R s m args below meth c H' _ cells slots mc ms Z D kA ad b ls ⟨hx, hb, hml, hown, hts, hnm, hK, hW.set h1 rfl f2 f3 ?_ (fun x hx9 => ce_setJ hx9), hS.put f2 f3 hA, hd9, hc9, hl, hX9, hN9, hR⟩
  rw [ce_obj hs]
  refine ⟨_, hq, t_OB.to (V := updV (vp_V ((List.range (nFl ci)).map (fun k => fvv ad σ a (clTy ci k) k))) k (sh ad (.long v))) ⟨_, f1, q2, q3, t_set q4 hap hk _⟩ (fun j hj => ?_)⟩
  have hj9 : j < N := hj
  by_cases e : j = k
  · subst e
    rw [g4]
    simp [updV, vp_V, List.getD, hj9, fvv, up2_eq, sh, hty]
  · rw [g4]
    simp [updV, vp_V, List.getD, hj9, e, fvv, up2_eq]

theorem E_putQF {a ci k idx : Nat} {v : Nat} (hd : decode M.2.1 pc = .ok (.putfield idx, 3)) (hf : FLok M.1.cls idx ci k) (hfin : (∀ T C N, vwCl[ci]? = some (C, T, N) → (T k).2.2.2 = true ∧ (T k).1 = M.1.cls) ∧ M.1.name = "<init>") (hs : shp a = .inl ci) (h1 : 1 ≤ a) (h2 : a < σ.1) (hty : (∃ n, clTy ci k = .object n) ∨ ∃ t, clTy ci k = .array t) (kk : E0 M d kc ks (setQ σ a k (some v)) L st (pc + 3) Q) : E0 M d kc ks σ L (.ref v :: .ref a :: st) pc Q := by
  intro p l e R s m args below meth c H locs cells slots mc ms Z D kA ad b ls X
  obtain ⟨hx, hb, hml, hown, hts, hnm, hK, hW, hS, hd9, hc9, hl, hX9, hN9, hR⟩ := id X
  obtain ⟨C, T, N, hq, hk, hw⟩ := hf
  obtain ⟨g1, g2, g3, g4⟩ := cl_cases hq
  have hap := va_apart (own := M.1.cls) hts g1 (clTy ci) g2 g3 hK hq
  obtain ⟨r, e1, cell, q1, q2, q3, q4⟩ := (show va_at D vwCl (ad a, .inr (ci, (List.range (nFl ci)).map (fun k => fvv ad σ a (clTy ci k) k))) H by rw [← ce_obj hs]; exact hW.2.2.2 a h1 h2)
  have hr : r = (C, T, N) := Option.some.inj (e1.symm.trans hq)
  subst hr
  obtain ⟨hS9, hfc, kC, hkC, hkind⟩ := hK.1 ci _ hq
  obtain ⟨cf, kf, fi, f, hi, hsl⟩ := hS9 k hk
  have hlay := hts _ (g1 _ (u_in_lay hk))
  unfold u_lay at hlay
  rw [if_pos (hfin.1 T C N hq).1] at hlay
  have hst := (u_facts hfc hkC (u_lays hts g1 hk) hi).1
  have hnf : narrow (clTy ci k) (sh ad (.ref v)) = sh ad (.ref v) ∧ fits (clTy ci k) (sh ad (.ref v)) = true := by
    rcases hty with ⟨n, h⟩ | ⟨n, h⟩ <;> rw [h] <;> exact ⟨rfl, rfl⟩
  have hcf : m.cls = cf := by
    obtain ⟨_, _, c', _, _, _, -, -, hf', -, -, -, hown2, -⟩ := Cond.laysFinal_spec hlay
    have e9 : c' = cf := by have := hi.symm.trans hf'; simp at this; exact this.1.symm
    rw [(hfin.1 T C N hq).2] at hown2
    rw [← e9]; exact Option.some.inj (hown.symm.trans hown2)
  have h6 := u_fits hfc hkC hkind (Or.inr hlay) hi (g2 k hk) hnf.1 hnf.2
  refine W.putFinK hx hb hown (hts _ hw) hi hst hcf (hnm.trans hfin.2) (by rw [q2]; exact h6) q1 q3 (by rw [hsl]; exact k2_hasslot (q4 k hk)) rfl rfl hd fun H' f1 f2 f3 => ?_
  rw [hsl] at f1 ⊢
  have hA : AB b (ad a) := by show b + 1 ≤ ad a; rw [hW.ad h1]; omega
  refine kk p l e R s m args below meth c H' _ cells slots mc ms Z D kA ad b ls ⟨hx, hb, hml, hown, hts, hnm, hK, hW.set h1 rfl f2 f3 ?_ (fun x hx9 => ce_setQ hx9), hS.put f2 f3 hA, hd9, hc9, hl, hX9, hN9, hR⟩
  rw [ce_obj hs]
  refine ⟨_, hq, t_OB.to (V := updV (vp_V ((List.range (nFl ci)).map (fun k => fvv ad σ a (clTy ci k) k))) k (sh ad (.ref v))) ⟨_, f1, q2, q3, t_set q4 hap hk _⟩ (fun j hj => ?_)⟩
  have hj9 : j < N := hj
  by_cases e : j = k
  · subst e
    rw [g4]
    rcases hty with ⟨n, h⟩ | ⟨n, h⟩ <;> simp [updV, vp_V, List.getD, hj9, fvv, up2_eq, sh, h, va_rf]
  · rw [g4]
    simp [updV, vp_V, List.getD, hj9, e, fvv, up2_eq]

end ER2
end
section
section ER3
variable {M : MD} {d kc ks : Nat} {σ : Sg} {L : List (Nat × Value)} {st : List Value} {pc : Nat} {Q : Option Value → Sg → Prop}
theorem arr_at {D : va_G} {kA : Nat → ClassId} {ad : Nat → Nat} {b : Nat} {σ : Sg} {H : Heap} (h : Wd D kA ad b σ H) {a t n : Nat} (hs : shp a = .inr (t, n)) (h1 : 1 ≤ a) (h2 : a < σ.1) : H[ad a]? = some (vp_cell (kA t) (arc ad σ a t n)) := by
  have h3 : va_at D vwCl (ad a, ce kA ad σ a) H := h.2.2.2 a h1 h2
  rw [ce_arr hs] at h3
  exact h3
theorem E_iald {a n : Nat} {x : Int} (hd : decode M.2.1 pc = .ok (.iaload, 1)) (hs : shp a = .inr (0, n)) (h1 : 1 ≤ a) (h2 : a < σ.1) (hin : inb x n) (kk : E0 M d kc ks σ L (.int (iI (σ.2.1 a (ix x))) :: st) (pc + 1) Q) : E0 M d kc ks σ L (.int (iI x) :: .ref a :: st) pc Q := by
  intro p l e R s m args below meth c H locs cells slots mc ms Z D kA ad b ls X
  obtain ⟨hx, hb, hml, hown, hts, hnm, hK, hW, hS, hd9, hc9, hl, hX9, hN9, hR⟩ := id X
  refine va_iald (D := D) (cl := vwCl) (ws := [(ad a, ce kA ad σ a)]) (tys := tysA kA) hx hb hK (hW.P h1 h2) 0 0 (by rw [ce_arr hs]; rfl) rfl (inb_vp hin) hd ?_
  rw [iI_clamp]
  exact kk p l e R s m args below meth c H locs cells slots mc ms Z D kA ad b ls X
theorem E_zald {a n : Nat} {x : Int} (hd : decode M.2.1 pc = .ok (.baload, 1)) (hs : shp a = .inr (2, n)) (h1 : 1 ≤ a) (h2 : a < σ.1) (hin : inb x n) (kk : E0 M d kc ks σ L (.int (iI (σ.2.1 a (ix x))) :: st) (pc + 1) Q) : E0 M d kc ks σ L (.int (iI x) :: .ref a :: st) pc Q := by
  intro p l e R s m args below meth c H locs cells slots mc ms Z D kA ad b ls X
  obtain ⟨hx, hb, hml, hown, hts, hnm, hK, hW, hS, hd9, hc9, hl, hX9, hN9, hR⟩ := id X
  refine va_zald (D := D) (cl := vwCl) (ws := [(ad a, ce kA ad σ a)]) (tys := tysA kA) hx hb hK (hW.P h1 h2) 0 2 (by rw [ce_arr hs]; rfl) rfl (inb_vp hin) hd ?_
  rw [iI_clamp]
  exact kk p l e R s m args below meth c H locs cells slots mc ms Z D kA ad b ls X
theorem E_lald {a n : Nat} {x : Int} (hd : decode M.2.1 pc = .ok (.laload, 1)) (hs : shp a = .inr (1, n)) (h1 : 1 ≤ a) (h2 : a < σ.1) (hin : inb x n) (kk : E0 M d kc ks σ L (.long (σ.2.2.1 a (ix x)) :: st) (pc + 1) Q) : E0 M d kc ks σ L (.int (iI x) :: .ref a :: st) pc Q := by
  intro p l e R s m args below meth c H locs cells slots mc ms Z D kA ad b ls X
  obtain ⟨hx, hb, hml, hown, hts, hnm, hK, hW, hS, hd9, hc9, hl, hX9, hN9, hR⟩ := id X
  refine va_lald (D := D) (cl := vwCl) (ws := [(ad a, ce kA ad σ a)]) (tys := tysA kA) hx hb hK (hW.P h1 h2) 0 1 (by rw [ce_arr hs]; rfl) rfl (inb_vp hin) hd ?_
  rw [iI_clamp]
  exact kk p l e R s m args below meth c H locs cells slots mc ms Z D kA ad b ls X
theorem E_aald {a n r : Nat} {x : Int} (hd : decode M.2.1 pc = .ok (.aaload, 1)) (hs : shp a = .inr (3, n)) (h1 : 1 ≤ a) (h2 : a < σ.1) (hin : inb x n) (hr : σ.2.2.2 a (ix x) = some r) (kk : E0 M d kc ks σ L (.ref r :: st) (pc + 1) Q) : E0 M d kc ks σ L (.int (iI x) :: .ref a :: st) pc Q := by
  intro p l e R s m args below meth c H locs cells slots mc ms Z D kA ad b ls X
  obtain ⟨hx, hb, hml, hown, hts, hnm, hK, hW, hS, hd9, hc9, hl, hX9, hN9, hR⟩ := id X
  have hc9 := arr_at hW hs h1 h2
  have hv := inb_vp hin
  have hlt : (iI x).toNatClampNeg < n := Nat.not_le.mp fun q => hv (Or.inr q)
  refine W.aald (v := .ref (ad r)) (ty := .object "SlashKinds$Kind") hx hb hc9 ((hK.2 3 _ rfl).1 n (fun j => va_rf ((σ.2.2.2 a j).map ad))) rfl (fun q => by cases q) (by show ¬ (iI x < 0 ∨ (arrV _ _ _).slots.size ≤ _); rw [arrV_size]; exact hv) ?_ rfl rfl hd (kk p l e R s m args below meth c H locs cells slots mc ms Z D kA ad b ls X)
  show (arrV (kA 3) n (fun j => va_rf ((σ.2.2.2 a j).map ad))).slots[(iI x).toNatClampNeg]? = _
  rw [arrV_read _ _ hlt, iI_clamp, hr]
  rfl
theorem E_aald4 {a n r : Nat} {x : Int} (hd : decode M.2.1 pc = .ok (.aaload, 1)) (hs : shp a = .inr (4, n)) (h1 : 1 ≤ a) (h2 : a < σ.1) (hin : inb x n) (hr : σ.2.2.2 a (ix x) = some r) (kk : E0 M d kc ks σ L (.ref r :: st) (pc + 1) Q) : E0 M d kc ks σ L (.int (iI x) :: .ref a :: st) pc Q := by
  intro p l e R s m args below meth c H locs cells slots mc ms Z D kA ad b ls X
  obtain ⟨hx, hb, hml, hown, hts, hnm, hK, hW, hS, hd9, hc9, hl, hX9, hN9, hR⟩ := id X
  have hc9 := arr_at hW hs h1 h2
  have hv := inb_vp hin
  have hlt : (iI x).toNatClampNeg < n := Nat.not_le.mp fun q => hv (Or.inr q)
  refine W.aald (v := .ref (ad r)) (ty := .array .int) hx hb hc9 ((hK.2 4 _ rfl).1 n (fun j => va_rf ((σ.2.2.2 a j).map ad))) rfl (fun q => by cases q) (by show ¬ (iI x < 0 ∨ (arrV _ _ _).slots.size ≤ _); rw [arrV_size]; exact hv) ?_ rfl rfl hd (kk p l e R s m args below meth c H locs cells slots mc ms Z D kA ad b ls X)
  show (arrV (kA 4) n (fun j => va_rf ((σ.2.2.2 a j).map ad))).slots[(iI x).toNatClampNeg]? = _
  rw [arrV_read _ _ hlt, iI_clamp, hr]
  rfl
theorem E_iast {a n : Nat} {x : Int} {v : Int} (hd : decode M.2.1 pc = .ok (.iastore, 1)) (hs : shp a = .inr (0, n)) (h1 : 1 ≤ a) (h2 : a < σ.1) (hin : inb x n) (kk : E0 M d kc ks (setI σ a (ix x) (v)) L st (pc + 1) Q) : E0 M d kc ks σ L (.int (iI v) :: .int (iI x) :: .ref a :: st) pc Q := by
  intro p l e9 R s m args below meth c H locs cells slots mc ms Z D kA ad b ls X
  obtain ⟨hx, hb, hml, hown, hts, hnm, hK, hW, hS, hd9, hc9, hl, hX9, hN9, hR⟩ := id X
  have hc8 := arr_at hW hs h1 h2
  have hv := inb_vp hin
  have hA : AB b (ad a) := by show b + 1 ≤ ad a; rw [hW.ad h1]; omega
  refine W.iast hx hb hc8 ((hK.2 0 _ rfl).1 n _) (fun q => by cases q) (by show ¬ (iI x < 0 ∨ (arrV _ _ _).slots.size ≤ _); rw [arrV_size]; exact hv) rfl rfl hd fun H1 e z oq => ?_
  refine kk p l e9 R s m args below meth c H1 _ cells slots mc ms Z D kA ad b ls ⟨hx, hb, hml, hown, hts, hnm, hK, hW.set h1 rfl z oq ?_ (fun x9 hx9 => ce_setI hx9), hS.put z oq hA, hd9, hc9, hl, hX9, hN9, hR⟩
  rw [ce_arr hs]
  show H1[ad a]? = some (vp_cell _ _)
  rw [e]
  refine congrArg some ?_
  show (vp_cell (kA 0) (arc ad σ a 0 n)).setSlot (iI x).toNatClampNeg (.int (iI v)) = vp_cell (kA 0) (arc ad (setI σ a (ix x) (v)) a 0 n)
  rw [show arc ad σ a 0 n = (n, .inl (fun j => iI (σ.2.1 a j))) from rfl, vp_cell_i, arrV_store]
  rw [show arc ad (setI σ a (ix x) (v)) a 0 n = (n, .inl (fun j => iI ((setI σ a (ix x) (v)).2.1 a j))) from rfl, vp_cell_i]
  congr 1
  funext q
  rw [iI_clamp]
  by_cases hq : q = ix x
  · subst hq
    simp [updV, up2_eq]
  · simp [updV, up2_eq, hq]
theorem E_zast {a n : Nat} {x : Int} {v : Int} (hv2 : narrow .boolean (.int (iI v)) = .int (iI v)) (hd : decode M.2.1 pc = .ok (.bastore, 1)) (hs : shp a = .inr (2, n)) (h1 : 1 ≤ a) (h2 : a < σ.1) (hin : inb x n) (kk : E0 M d kc ks (setI σ a (ix x) (v)) L st (pc + 1) Q) : E0 M d kc ks σ L (.int (iI v) :: .int (iI x) :: .ref a :: st) pc Q := by
  intro p l e9 R s m args below meth c H locs cells slots mc ms Z D kA ad b ls X
  obtain ⟨hx, hb, hml, hown, hts, hnm, hK, hW, hS, hd9, hc9, hl, hX9, hN9, hR⟩ := id X
  have hc8 := arr_at hW hs h1 h2
  have hv := inb_vp hin
  have hA : AB b (ad a) := by show b + 1 ≤ ad a; rw [hW.ad h1]; omega
  refine W.zast hx hb hc8 ((hK.2 2 _ rfl).1 n _) (fun q => by cases q) (by show ¬ (iI x < 0 ∨ (arrV _ _ _).slots.size ≤ _); rw [arrV_size]; exact hv) rfl rfl hd fun H1 e z oq => ?_
  refine kk p l e9 R s m args below meth c H1 _ cells slots mc ms Z D kA ad b ls ⟨hx, hb, hml, hown, hts, hnm, hK, hW.set h1 rfl z oq ?_ (fun x9 hx9 => ce_setI hx9), hS.put z oq hA, hd9, hc9, hl, hX9, hN9, hR⟩
  rw [ce_arr hs]
  show H1[ad a]? = some (vp_cell _ _)
  rw [e]
  refine congrArg some ?_
  show (vp_cell (kA 2) (arc ad σ a 2 n)).setSlot (iI x).toNatClampNeg (narrow .boolean (.int (iI v))) = vp_cell (kA 2) (arc ad (setI σ a (ix x) (v)) a 2 n)
  rw [show arc ad σ a 2 n = (n, .inl (fun j => iI (σ.2.1 a j))) from rfl, vp_cell_i, arrV_store]
  rw [show arc ad (setI σ a (ix x) (v)) a 2 n = (n, .inl (fun j => iI ((setI σ a (ix x) (v)).2.1 a j))) from rfl, vp_cell_i]
  congr 1
  funext q
  rw [iI_clamp]
  by_cases hq : q = ix x
  · subst hq
    simp [updV, up2_eq, hv2]
  · simp [updV, up2_eq, hq]
theorem E_last {a n : Nat} {x : Int} {v : Int64} (hd : decode M.2.1 pc = .ok (.lastore, 1)) (hs : shp a = .inr (1, n)) (h1 : 1 ≤ a) (h2 : a < σ.1) (hin : inb x n) (kk : E0 M d kc ks (setJ σ a (ix x) (v)) L st (pc + 1) Q) : E0 M d kc ks σ L (.long v :: .int (iI x) :: .ref a :: st) pc Q := by
  intro p l e9 R s m args below meth c H locs cells slots mc ms Z D kA ad b ls X
  obtain ⟨hx, hb, hml, hown, hts, hnm, hK, hW, hS, hd9, hc9, hl, hX9, hN9, hR⟩ := id X
  have hc8 := arr_at hW hs h1 h2
  have hv := inb_vp hin
  have hA : AB b (ad a) := by show b + 1 ≤ ad a; rw [hW.ad h1]; omega
  refine W.last hx hb hc8 ((hK.2 1 _ rfl).1 n _) (fun q => by cases q) (by show ¬ (iI x < 0 ∨ (arrV _ _ _).slots.size ≤ _); rw [arrV_size]; exact hv) rfl rfl hd fun H1 e z oq => ?_
  refine kk p l e9 R s m args below meth c H1 _ cells slots mc ms Z D kA ad b ls ⟨hx, hb, hml, hown, hts, hnm, hK, hW.set h1 rfl z oq ?_ (fun x9 hx9 => ce_setJ hx9), hS.put z oq hA, hd9, hc9, hl, hX9, hN9, hR⟩
  rw [ce_arr hs]
  show H1[ad a]? = some (vp_cell _ _)
  rw [e]
  refine congrArg some ?_
  show (vp_cell (kA 1) (arc ad σ a 1 n)).setSlot (iI x).toNatClampNeg (.long v) = vp_cell (kA 1) (arc ad (setJ σ a (ix x) (v)) a 1 n)
  rw [show arc ad σ a 1 n = (n, .inr (.inl (σ.2.2.1 a))) from rfl, vp_cell_l, arrV_store]
  rw [show arc ad (setJ σ a (ix x) (v)) a 1 n = (n, .inr (.inl ((setJ σ a (ix x) (v)).2.2.1 a))) from rfl, vp_cell_l]
  congr 1
  funext q
  rw [iI_clamp]
  by_cases hq : q = ix x
  · subst hq
    simp [updV, up2_eq]
  · simp [updV, up2_eq, hq]
theorem E_aast {a n : Nat} {x : Int} {v : Nat} (hd : decode M.2.1 pc = .ok (.aastore, 1)) (hs : shp a = .inr (3, n)) (h1 : 1 ≤ a) (h2 : a < σ.1) (hin : inb x n) (hv1 : 1 ≤ v) (hv2 : v < σ.1) (hvs : shp v = .inl 0) (kk : E0 M d kc ks (setQ σ a (ix x) (some v)) L st (pc + 1) Q) : E0 M d kc ks σ L (.ref v :: .int (iI x) :: .ref a :: st) pc Q := by
  intro p l e9 R s m args below meth c H locs cells slots mc ms Z D kA ad b ls X
  obtain ⟨hx, hb, hml, hown, hts, hnm, hK, hW, hS, hd9, hc9, hl, hX9, hN9, hR⟩ := id X
  have hc8 := arr_at hW hs h1 h2
  have hv := inb_vp hin
  have hA : AB b (ad a) := by show b + 1 ≤ ad a; rw [hW.ad h1]; omega
  have hlt : (iI x).toNatClampNeg < n := Nat.not_le.mp fun q => hv (Or.inr q)
  have h0 : ¬ iI x < 0 := fun q => hv (Or.inl q)
  obtain ⟨r', hr', cellV, g1, g2, g3, -⟩ := (show va_at D vwCl (ad v, .inr (0, (List.range (nFl 0)).map (fun k => fvv ad σ v (clTy 0 k) k))) H by rw [← ce_obj hvs]; exact hW.2.2.2 v hv1 hv2)
  have hcls := (hK.1 0 (RX0, TX0, 12) rfl).2
  obtain ⟨kB, comp, k1, k2, k3, -⟩ := (hK.2 3 _ rfl).2
  have hcomp : comp = D.1 0 := Option.some.inj (k3.symm.trans hcls.1)
  subst hcomp
  obtain ⟨kC, hkC, -⟩ := hcls.2
  refine W.aast hx hb hc8 (fun q h => by cases h) (fun h => by cases h) k1 k2 rfl hkC ⟨h0, by show _ < (arrV _ _ _).slots.size; rw [arrV_size]; exact hlt⟩ g1 (fun q h => by rw [g3] at h; cases h) (by rw [g2]; exact hkC) (by rw [g2]; exact va_assign hcls) rfl rfl hd fun H1 e z oq => ?_
  refine kk p l e9 R s m args below meth c H1 _ cells slots mc ms Z D kA ad b ls ⟨hx, hb, hml, hown, hts, hnm, hK, hW.set h1 rfl z oq ?_ (fun x9 hx9 => ce_setQ hx9), hS.put z oq hA, hd9, hc9, hl, hX9, hN9, hR⟩
  rw [ce_arr hs]
  show H1[ad a]? = some (vp_cell _ _)
  rw [e]
  refine congrArg some ?_
  show (vp_cell (kA 3) (arc ad σ a 3 n)).setSlot (iI x).toNatClampNeg (.ref (ad v)) = vp_cell (kA 3) (arc ad (setQ σ a (ix x) (some v)) a 3 n)
  rw [show arc ad σ a 3 n = (n, .inr (.inr (.inr (.inr (fun j => (σ.2.2.2 a j).map ad))))) from rfl, vp_cell_q, arrV_store]
  rw [show arc ad (setQ σ a (ix x) (some v)) a 3 n = (n, .inr (.inr (.inr (.inr (fun j => ((setQ σ a (ix x) (some v)).2.2.2 a j).map ad))))) from rfl, vp_cell_q]
  congr 1
  funext q
  rw [iI_clamp]
  by_cases hq : q = ix x
  · subst hq
    simp [updV, up2_eq, va_rf, sh]
  · simp [updV, up2_eq, hq]
theorem iI_len (n : Nat) : Int32.ofNat n = iI (n : Int) := by
  unfold iI
  rfl
theorem E_alen {a t n : Nat} (hd : decode M.2.1 pc = .ok (.arraylength, 1)) (hs : shp a = .inr (t, n)) (ht : t < 5) (h1 : 1 ≤ a) (h2 : a < σ.1) (kk : E0 M d kc ks σ L (.int (iI (n : Int)) :: st) (pc + 1) Q) : E0 M d kc ks σ L (.ref a :: st) pc Q := by
  intro p l e9 R s m args below meth c H locs cells slots mc ms Z D kA ad b ls X
  obtain ⟨hx, hb, hml, hown, hts, hnm, hK, hW, hS, hd9, hc9, hl, hX9, hN9, hR⟩ := id X
  have hn : (arc ad σ a t n).1 = n := by unfold arc; split <;> rfl
  refine va_alen (D := D) (cl := vwCl) (ws := [(ad a, ce kA ad σ a)]) (tys := tysA kA) (ty := tyA t) (x := arc ad σ a t n) (cA := kA t) hx hb hK (hW.P h1 h2) 0 t (by rw [ce_arr hs]; rfl) ?_ (v := iI (n : Int)) (by rw [hn]; exact iI_len n) hd (kk p l e9 R s m args below meth c H locs cells slots mc ms Z D kA ad b ls X)
  match t, ht with
  | 0, _ => rfl
  | 1, _ => rfl
  | 2, _ => rfl
  | 3, _ => rfl
  | 4, _ => rfl
def clr {α : Type} (f : Nat → Nat → α) (a : Nat) (v : α) : Nat → Nat → α := fun b j => if b = a then v else f b j
abbrev newS (σ : Sg) : Sg := (σ.1 + 1, clr σ.2.1 σ.1 0, clr σ.2.2.1 σ.1 0, clr σ.2.2.2 σ.1 none)
theorem clr_ne {α : Type} {f : Nat → Nat → α} {a b : Nat} {v : α} (h : b ≠ a) : clr f a v b = f b := by
  funext j
  simp [clr, h]
theorem clr_eq {α : Type} {f : Nat → Nat → α} {a j : Nat} {v : α} : clr f a v a j = v := by simp [clr]
theorem Wd.new {D : va_G} {kA : Nat → ClassId} {ad : Nat → Nat} {b : Nat} {σ : Sg} {H H1 : Heap} (h : Wd D kA ad b σ H) (z : H1.size = H.size + 1) (oq : ∀ q : Nat, q < H.size → H1[q]? = H[q]?) (he : va_at D vwCl (H.size, ce kA ad (newS σ) σ.1) H1) : Wd D kA ad b (newS σ) H1 := by
  have h0 := h.2.1
  refine ⟨h.1, by rw [z, h0]; show _ = b + (σ.1 + 1); omega, by show 1 ≤ σ.1 + 1; omega, fun x hx1 hx2 => ?_⟩
  have hx3 : x < σ.1 + 1 := hx2
  by_cases e : x = σ.1
  · subst e
    rw [h.1 _ hx1, ← h0]
    exact he
  · have hx4 : x < σ.1 := by omega
    rw [ce_cong (σ := σ) (clr_ne e) (clr_ne e) (clr_ne e)]
    refine (h.2.2.2 x hx1 hx4).kept (oq _ ?_)
    show ad x < H.size
    rw [h.1 x hx1, h0]
    omega
theorem Sn {b : Nat} {H0 H H1 : Heap} {locs : List Loc} (hS : va_S (AB b) H0 H locs) (z : H1.size = H.size + 1) (oq : ∀ q : Nat, q < H.size → H1[q]? = H[q]?) : va_S (AB b) H0 H1 locs := ⟨Nat.le_trans hS.1 (by omega), fun x h1 h2 => (oq x (Nat.lt_of_lt_of_le h1 hS.1)).trans (hS.2.1 x h1 h2), hS.2.2⟩
theorem fv_new (ad : Nat → Nat) (σ : Sg) (ty : FieldType) (k : Nat) (h : ty = .int ∨ ty = .boolean ∨ ty = .long ∨ (∃ n, ty = .object n) ∨ ∃ t, ty = .array t) : defaultValue ty = fvv ad (newS σ) σ.1 ty k := by
  rcases h with h | h | h | ⟨n, h⟩ | ⟨n, h⟩ <;> subst h <;> simp [fvv, clr_eq, va_rf, defaultValue, iI_0]
theorem E_new {ci idx n : Nat} (hd : decode M.2.1 pc = .ok (.new idx, 3)) (hf : NWok M.1.cls idx ci) (hs : shp σ.1 = .inl ci) (hn : nFl ci = n) (hty : ∀ k, k < n → clTy ci k = .int ∨ clTy ci k = .boolean ∨ clTy ci k = .long ∨ (∃ n, clTy ci k = .object n) ∨ ∃ t, clTy ci k = .array t) (kk : E0 M d kc ks (newS σ) L (.ref σ.1 :: st) (pc + 3) Q) : E0 M d (kc + 1) (ks + n) σ L st pc Q := by
  intro p l e9 R s m args below meth c H locs cells slots mc ms Z D kA ad b ls X
  obtain ⟨hx, hb, hml, hown, hts, hnm, hK, hW, hS, hd9, hc9, hl, hX9, hN9, hR⟩ := id X
  obtain ⟨C, T, N, hq, w1, w2, w3⟩ := hf
  obtain ⟨g1, g2, g3, g4⟩ := cl_cases hq
  have hN : N = n := by rw [← hn]; exact g4.symm
  have hKn := hK.1 ci _ hq
  have hsz := hW.2.1
  refine W.newcK hx hb hown (hts _ w1) (hts _ w2) (hts _ w3) rfl hd (by omega) (by omega) hKn.2.1 rfl fun H1 kC hkC e1 z1 o1 => ?_
  have hadn : ad σ.1 = H.size := by rw [hW.1 _ hW.2.2.1, hsz]
  rw [← hadn]
  refine kk p l e9 R s m args below meth c H1 locs (cells + 1) (slots + N) mc ms Z D kA ad b ls ⟨hx, hb, hml, hown, hts, hnm, hK, hW.new z1 o1 ?_, Sn hS z1 o1, hd9, ⟨by omega, by omega, by omega, by omega⟩, hl, hX9, hN9, hR⟩
  rw [ce_obj hs]
  refine ⟨_, hq, (u_born (clTy ci) hts g1 hKn hkC e1 g2).to fun k hk => ?_⟩
  have hk9 : k < N := hk
  rw [g4]
  simp only [vp_V, List.getD, List.getElem?_map, List.getElem?_range hk9, Option.map_some, Option.getD_some]
  exact fv_new ad σ _ k (hty k (by omega))
theorem E_newa {t n : Nat} {x : Int} {aty : ArrayType} (hd : decode M.2.1 pc = .ok (.newarray aty, 2)) (hs : shp σ.1 = .inr (t, n)) (hty : newarray.typeOf aty = tyA t) (ht : t < 3) (hx0 : wr x = (n : Int)) (hb9 : n * 8 ≤ 536870912) (hw : Cond.arrayClass (newarray.typeOf aty) ∈ WA) (kk : E0 M d kc ks (newS σ) L (.ref σ.1 :: st) (pc + 2) Q) : E0 M d (kc + 1) (ks + n) σ L (.int (iI x) :: st) pc Q := by
  intro p l e9 R s m args below meth c H locs cells slots mc ms Z D kA ad b ls X
  obtain ⟨hx, hb, hml, hown, hts, hnm, hK, hW, hS, hd9, hc9, hl, hX9, hN9, hR⟩ := id X
  have hsz := hW.2.1
  have hix : (iI x).toNatClampNeg = n := by rw [iI_clamp]; unfold ix; omega
  have hcb : n * componentBytes (newarray.typeOf aty) ≤ 536870912 := by
    rw [hty]
    match t, ht with
    | 0, _ => show n * 4 ≤ _; omega
    | 1, _ => exact hb9
    | 2, _ => show n * 1 ≤ _; omega
  refine va_newaK hx hb (hts _ hw) rfl hd rfl (fun q => by rw [← iI_0, iI_lt, wr_0] at q; omega) hix hcb (by omega) (by omega) rfl fun H1 cA e1 z1 o1 hAr hfc => ?_
  have hcA : cA = kA t := by
    rw [hty] at hfc
    match t, ht with
    | 0, _ => exact Option.some.inj (hfc.symm.trans (hK.2 0 _ rfl).2)
    | 1, _ => exact Option.some.inj (hfc.symm.trans (hK.2 1 _ rfl).2)
    | 2, _ => exact Option.some.inj (hfc.symm.trans (hK.2 2 _ rfl).2)
  have hadn : ad σ.1 = H.size := by rw [hW.1 _ hW.2.2.1, hsz]
  rw [← hadn]
  refine kk p l e9 R s m args below meth c H1 locs (cells + 1) (slots + n) mc ms Z D kA ad b ls ⟨hx, hb, hml, hown, hts, hnm, hK, hW.new z1 o1 ?_, Sn hS z1 o1, hd9, ⟨by omega, by omega, by omega, by omega⟩, hl, hX9, hN9, hR⟩
  rw [ce_arr hs]
  show H1[H.size]? = some (vp_cell _ _)
  rw [e1, hcA, hty]
  congr 1
  match t, ht with
  | 0, _ => rw [show arc ad (newS σ) σ.1 0 n = (n, .inl (fun j => iI ((newS σ).2.1 σ.1 j))) from rfl, vp_cell_i]; congr 1; funext q; simp [clr_eq, tyA, defaultValue, iI_0]
  | 1, _ => rw [show arc ad (newS σ) σ.1 1 n = (n, .inr (.inl ((newS σ).2.2.1 σ.1))) from rfl, vp_cell_l]; congr 1; funext q; simp [clr_eq, tyA, defaultValue]
  | 2, _ => rw [show arc ad (newS σ) σ.1 2 n = (n, .inl (fun j => iI ((newS σ).2.1 σ.1 j))) from rfl, vp_cell_i]; congr 1; funext q; simp [clr_eq, tyA, defaultValue, iI_0]
theorem E_anew {n idx : Nat} {x : Int} (hd : decode M.2.1 pc = .ok (.anewarray idx, 3)) (hs : shp σ.1 = .inr (3, n)) (hx0 : wr x = (n : Int)) (hb9 : n * 4 ≤ 536870912) (hw : Cond.classLink M.1.cls idx "SlashKinds$Kind" ∈ WA) (kk : E0 M d kc ks (newS σ) L (.ref σ.1 :: st) (pc + 3) Q) : E0 M d (kc + 1) (ks + n) σ L (.int (iI x) :: st) pc Q := by
  intro p l e9 R s m args below meth c H locs cells slots mc ms Z D kA ad b ls X
  obtain ⟨hx, hb, hml, hown, hts, hnm, hK, hW, hS, hd9, hc9, hl, hX9, hN9, hR⟩ := id X
  have hsz := hW.2.1
  have hix : (iI x).toNatClampNeg = n := by rw [iI_clamp]; unfold ix; omega
  refine W.anew hx hb hown (hts _ hw) hN9.2.2.2.1.use rfl hd rfl (fun q => by rw [← iI_0, iI_lt, wr_0] at q; omega) (by rw [hix]; exact hb9) (by omega) (by rw [hix]; omega) fun cA kB comp f1 f2 f3 f4 => ?_
  rw [hix]
  generalize hH1 : H.push ({ cls := cA, slots := Array.replicate n .null, vm := .none } : Cell) = H1
  have z1 : H1.size = H.size + 1 := by rw [← hH1, Array.size_push]
  have e1 : H1[H.size]? = some (arrV cA n (fun _ => .null)) := by rw [← hH1, Array.getElem?_push_size, ← arrV_new]
  have o1 : ∀ q : Nat, q < H.size → H1[q]? = H[q]? := fun q hq => by rw [← hH1, Array.getElem?_push, if_neg (Nat.ne_of_lt hq)]
  have hcA : cA = kA 3 := by
    obtain ⟨_, _, _, _, _, g⟩ := (hK.2 3 _ rfl).2
    first | exact Option.some.inj (f1.symm.trans g) | exact Option.some.inj (f2.symm.trans g) | exact Option.some.inj (f3.symm.trans g) | exact Option.some.inj (f4.symm.trans g)
  have hadn : ad σ.1 = H.size := by rw [hW.1 _ hW.2.2.1, hsz]
  rw [← hadn]
  refine kk p l e9 R s m args below meth c H1 locs (cells + 1) (slots + n) mc ms Z D kA ad b ls ⟨hx, hb, hml, hown, hts, hnm, hK, hW.new z1 o1 ?_, Sn hS z1 o1, hd9, ⟨by omega, by omega, by omega, by omega⟩, hl, hX9, hN9, hR⟩
  rw [ce_arr hs]
  show H1[H.size]? = some (vp_cell _ _)
  rw [e1, hcA]
  congr 1
  rw [show arc ad (newS σ) σ.1 3 n = (n, .inr (.inr (.inr (.inr (fun j => ((newS σ).2.2.2 σ.1 j).map ad))))) from rfl, vp_cell_q]
  congr 1
  funext q
  simp [clr_eq, va_rf]
theorem E_ireturn {v : Int} (hd : decode M.2.1 pc = .ok (.ireturn, 1)) (hr : ∃ ty, M.2.2.2.1 = some ty ∧ narrow ty (.int (iI v)) = .int (iI v)) (hq : Q (some (.int (iI v))) σ) : E0 M d kc ks σ L [.int (iI v)] pc Q := by
  intro p l e9 R s m args below meth c H locs cells slots mc ms Z D kA ad b ls X
  obtain ⟨hx, hb, hml, hown, hts, hnm, hK, hW, hS, hd9, hc9, hl, hX9, hN9, hR⟩ := id X
  exact W.widen (k := mc) (n := ms) (by omega) (by omega) (hR H locs ls pc σ (some (.int (iI v))) hq hW hS ⟨hd, hr⟩)
theorem E_lreturn {v : Int64} (hd : decode M.2.1 pc = .ok (.lreturn, 1)) (hr : M.2.2.2.1 = some .long) (hq : Q (some (.long v)) σ) : E0 M d kc ks σ L [.long v] pc Q := by
  intro p l e9 R s m args below meth c H locs cells slots mc ms Z D kA ad b ls X
  obtain ⟨hx, hb, hml, hown, hts, hnm, hK, hW, hS, hd9, hc9, hl, hX9, hN9, hR⟩ := id X
  exact W.widen (k := mc) (n := ms) (by omega) (by omega) (hR H locs ls pc σ (some (.long v)) hq hW hS ⟨hd, hr⟩)
theorem E_areturn {v : Nat} (hd : decode M.2.1 pc = .ok (.areturn, 1)) (hr : ∃ ty, M.2.2.2.1 = some ty ∧ ((∃ n, ty = .object n) ∨ ∃ t, ty = .array t)) (hq : Q (some (.ref v)) σ) : E0 M d kc ks σ L [.ref v] pc Q := by
  intro p l e9 R s m args below meth c H locs cells slots mc ms Z D kA ad b ls X
  obtain ⟨hx, hb, hml, hown, hts, hnm, hK, hW, hS, hd9, hc9, hl, hX9, hN9, hR⟩ := id X
  exact W.widen (k := mc) (n := ms) (by omega) (by omega) (hR H locs ls pc σ (some (.ref v)) hq hW hS ⟨hd, hr⟩)
theorem E_return (hd : decode M.2.1 pc = .ok (.return_, 1)) (hr : M.2.2.2.1 = none) (hq : Q none σ) : E0 M d kc ks σ L [] pc Q := by
  intro p l e9 R s m args below meth c H locs cells slots mc ms Z D kA ad b ls X
  obtain ⟨hx, hb, hml, hown, hts, hnm, hK, hW, hS, hd9, hc9, hl, hX9, hN9, hR⟩ := id X
  exact W.widen (k := mc) (n := ms) (by omega) (by omega) (hR H locs ls pc σ none hq hW hS ⟨hd, hr⟩)
theorem E_sld {i : Int} {Ls : Nat} {xs : Nat → Int32} (hd : decode M.2.1 pc = .ok (.iaload, 1)) (hsc : M.2.2.2.2 = some (Ls, xs)) (hin : inb i Ls) (kk : E0 M d kc ks σ L (.int (xs (ix i)) :: st) (pc + 1) Q) : E0 M d kc ks σ L (.int (iI i) :: .ref 0 :: st) pc Q := by
  intro p l e9 R s m args below meth c H locs cells slots mc ms Z D kA ad b ls X
  obtain ⟨hx, hb, hml, hown, hts, hnm, hK, hW, hS, hd9, hc9, hl, hX9, hN9, hR⟩ := id X
  rw [hsc] at hX9
  obtain ⟨y1, y2, y3⟩ := hX9
  refine va_sld hx hb y1 y2 (fun q => by have q9 : b + 1 ≤ ad 0 := q; omega) hS (inb_vp hin) hd ?_
  rw [iI_clamp]
  exact kk p l e9 R s m args below meth c H locs cells slots mc ms Z D kA ad b ls X
theorem E_slen {Ls : Nat} {xs : Nat → Int32} (hd : decode M.2.1 pc = .ok (.arraylength, 1)) (hsc : M.2.2.2.2 = some (Ls, xs)) (kk : E0 M d kc ks σ L (.int (iI (Ls : Int)) :: st) (pc + 1) Q) : E0 M d kc ks σ L (.ref 0 :: st) pc Q := by
  intro p l e9 R s m args below meth c H locs cells slots mc ms Z D kA ad b ls X
  obtain ⟨hx, hb, hml, hown, hts, hnm, hK, hW, hS, hd9, hc9, hl, hX9, hN9, hR⟩ := id X
  rw [hsc] at hX9
  obtain ⟨y1, y2, y3⟩ := hX9
  refine va_slen hx hb y1 y2 (fun q => by have q9 : b + 1 ≤ ad 0 := q; omega) hS hd ?_
  exact kk p l e9 R s m args below meth c H locs cells slots mc ms Z D kA ad b ls X
theorem E_objInit {a idx : Nat} (hd : decode M.2.1 pc = .ok (.invokespecial idx, 3)) (hw : Cond.methodLink M.1.cls idx objectInit ∈ WA) (hw2 : Cond.instanceMethod objectInit ∈ WA) (hw3 : Cond.code objectInit ⟨#[0xb1]⟩ 1 none ∈ WA) (hd1 : 1 ≤ d) (hst : (st.map fun v => v.category).sum ≤ 40) (kk : E0 M d kc ks σ L st (pc + 3) Q) : E0 M d kc ks σ L (.ref a :: st) pc Q := by
  intro p l e9 R s m args below meth c H locs cells slots mc ms Z D kA ad b ls X
  obtain ⟨hx, hb, hml, hown, hts, hnm, hK, hW, hS, hd9, hc9, hl, hX9, hN9, hR⟩ := id X
  have hsum : ((st.map (sh ad)).map fun v => v.category).sum = (st.map fun v => v.category).sum := by
    rw [List.map_map]
    congr 2
    funext v
    exact sh_cat ad v
  refine W.objInit hx hb hown (hts _ hw) (hts _ hw2) (hts _ hw3) rfl (by rw [hml]; exact hl.1) rfl hd (by omega) ?_ (kk p l e9 R s m args below meth c H locs cells slots mc ms Z D kA ad b ls X)
  rw [hsum]
  show 2 * 0 + _ + 12 ≤ R.locals
  omega
end ER3
end
section
/-- a call of method M on these values in this state comes back, and Q holds of its answer and the state behind it -/
def Mt0 (M : MD) (d kc ks : Nat) (vs : List Value) (σ : Sg) (Q : Option Value → Sg → Prop) : Prop := ∀ (l : Launch) (D : va_G) (kA : Nat → ClassId) (ad : Nat → Nat) (b : Nat),
  Met l M.1 (Cond.code M.1 M.2.1 M.2.2.1 M.2.2.2.1 :: WA) (rmM d kc ks) (va_Pc (vs.map (sh ad)) (fun U => Wd D kA ad b σ U.heap ∧ Kx D kA U ∧ NX U)) (fun _ st oc t => (∃ (v : Option Value) (σ' : Sg), oc = .returned (v.map (sh ad)) ∧ Q v σ' ∧ Wd D kA ad b σ' t.heap) ∧ va_F (AB b) st t) kc ks (AB b)
theorem lg_sl_sh (ad : Nat → Nat) : ∀ vs : List Value, (lg_sl (vs.map (sh ad))).length = (lg_sl vs).length
  | [] => rfl
  | v :: vs => by
    have ih := lg_sl_sh ad vs
    unfold lg_sl at ih ⊢
    simp only [List.map_cons, List.flatMap_cons, List.length_append, ih]
    cases v <;> rfl
theorem Mt0.of {M : MD} {d kc ks : Nat} {vs : List Value} {σ : Sg} {Q : Option Value → Sg → Prop} (hy : plainName M.1.cls = true) (hsc : M.2.2.2.2 = none) (hlen : (lg_sl vs).length ≤ M.2.2.1) (h : E0 M d kc ks σ (lv_args 0 vs) [] 0 Q) : Mt0 M d kc ks vs σ Q := by
  intro l D kA ad b
  refine Met.ofW (cc := M.2.1) (maxL := M.2.2.1) (ret := M.2.2.2.1) hy rfl ?_
  intro p e s m args below meth c s₁ B hml hv
  obtain ⟨rfl, hW, hK, hN9⟩ := hv
  have hx := B.exec
  have hb := B.bytes
  have hr := B.returns
  have hts0 := atoms_spec (ws := Cond.code M.1 M.2.1 M.2.2.1 M.2.2.2.1 :: WA) B.pre
  have hts : ∀ w ∈ WA, w.before (vs.map (sh ad)).toArray s = true := fun w hw => hts0 w (List.mem_cons_of_mem _ hw)
  have hown : s.vm.findClass M.1.cls = some m.cls := findClass_of_methodNamed B.named
  have hlocks := B.notSynchronized
  have hnm := (name_of_methodNamed B.named B.method).1
  have hl := lv_entry (vs.map (sh ad)) (n := M.2.2.1) (by rw [lg_sl_sh]; exact hlen)
  rw [lg_entry_eq]
  generalize (lg_sl (vs.map (sh ad)) ++ List.replicate (M.2.2.1 - (lg_sl (vs.map (sh ad))).length) Slot.unset).toArray = ls at hl ⊢
  rw [lv_args_sh] at hl
  refine h p l e (rmM d kc ks) s m (vs.map (sh ad)).toArray below meth c s.heap [] 0 0 kc ks _ D kA ad b ls ⟨hx, hb, hml, hown, hts, hnm, hK, hW, va_S.rf, ⟨Nat.le_refl _, Nat.le_refl _⟩, ⟨by omega, by omega, Nat.le_refl _, Nat.le_refl _⟩, hl, by rw [hsc]; exact trivial, hN9, ?_⟩
  intro H locs ls2 pc σ2 v hq hW2 hS2 hri
  match v, hri with
  | none, hri => exact W.vret hx hb (hr.trans hri.2) (fun t ht hWt => ⟨⟨none, σ2, rfl, hq, by rw [ht]; exact hW2⟩, hS2.F ht⟩) hS2.2.2 hri.1
  | some (.int x), hri =>
    obtain ⟨h1, ty, h2, h3⟩ := hri
    exact W.zret hx hb (hr.trans h2) h3 (fun t ht hWt => ⟨⟨some (.int x), σ2, rfl, hq, by rw [ht]; exact hW2⟩, hS2.F ht⟩) hS2.2.2 h1
  | some (.long x), hri => exact W.lret hx hb (hr.trans hri.2) (fun t ht hWt => ⟨⟨some (.long x), σ2, rfl, hq, by rw [ht]; exact hW2⟩, hS2.F ht⟩) hS2.2.2 hri.1
  | some (.ref x), hri =>
    obtain ⟨h1, ty, h2, h3⟩ := hri
    exact W.aret hx hb (hr.trans h2) h3 (Or.inr ⟨_, rfl⟩) (fun t ht hWt => ⟨⟨some (.ref x), σ2, rfl, hq, by rw [ht]; exact hW2⟩, hS2.F ht⟩) hS2.2.2 h1
theorem Mt0.mono {M : MD} {d kc ks : Nat} {vs : List Value} {σ : Sg} {Q Q2 : Option Value → Sg → Prop} (h : Mt0 M d kc ks vs σ Q) (hq : ∀ v σ', Q v σ' → Q2 v σ') : Mt0 M d kc ks vs σ Q2 := by
  intro l D kA ad b p e ha hc hk s m args below hf hfit hheap happ
  obtain ⟨k, o, h1, h2, h3, ⟨⟨v, σ', g1, g2, g3⟩, g4⟩, g5⟩ := h l D kA ad b p e ha hc hk s m args below hf hfit hheap happ
  exact ⟨k, o, h1, h2, h3, ⟨⟨v, σ', g1, hq v σ' g2, g3⟩, g4⟩, g5⟩
section EC
variable {M Mc : MD} {d kc ks kc0 ks0 : Nat} {σ : Sg} {L : List (Nat × Value)} {st As : List Value} {pc : Nat} {Q : Option Value → Sg → Prop}
/-- the words and numbers of a call's callee -/
def Cok (Mc : MD) (n : Nat) : Prop := Cond.code Mc.1 Mc.2.1 Mc.2.2.1 Mc.2.2.2.1 ∈ WA ∧ Cond.initialized Mc.1.cls ∈ WA ∧ (Mc.1.cls ≠ "java/lang/invoke/MethodHandle" ∧ Mc.1.cls ≠ "java/lang/invoke/VarHandle" ∧ (parseMethodDescriptor Mc.1.desc).map (fun d => d.parameters.length) = some n) ∧ Mc.2.2.1 ≤ 40
def CokV (Mc : MD) (n ci : Nat) : Prop := Cok Mc n ∧ Cond.instanceMethod Mc.1 ∈ WA ∧ Cond.selects Mc.1.cls Mc.1 Mc.1 ∈ WA ∧ (∃ (T : u_T) (N : Nat), vwCl[ci]? = some (Mc.1.cls, T, N))
theorem Cok.B {R : Room} {s : State} {args : Array Value} {own : String} {idx n d0 : Nat} (h : Cok Mc n) (hts : ∀ w ∈ WA, w.before args s = true) (hl : Cond.methodLink own idx Mc.1 ∈ WA) (hd : d0 + 1 ≤ R.frames ∧ 64 * (d0 + 1) ≤ R.locals) : CallB R s args own idx Mc.1 Mc.2.1 Mc.2.2.1 Mc.2.2.2.1 (Cond.code Mc.1 Mc.2.1 Mc.2.2.1 Mc.2.2.2.1 :: WA) (rmM d0 kc0 ks0) kc0 ks0 n :=
  callB_of n hts (fun w hw => by
    rcases List.mem_cons.mp hw with e | e
    · rw [e]; exact WA_good _ h.1
    · exact WA_good w e) rfl rfl rfl (hts _ h.2.1) (hts _ hl) h.2.2.1 ⟨hd.1, by show 8 + (Mc.2.2.1 + 11) + 64 * d0 ≤ R.locals; have := h.2.2.2; omega⟩
theorem Cok.N {R : Room} {s : State} {args : Array Value} {own host : String} {idx n d0 : Nat} (h : Cok Mc n) (hts : ∀ w ∈ WA, w.before args s = true) (hl : va_Nw (.methodLinkNest own idx Mc.1 host) s) (hd : d0 + 1 ≤ R.frames ∧ 64 * (d0 + 1) ≤ R.locals) : va_CN R s args own idx Mc.1 host Mc.2.1 Mc.2.2.1 Mc.2.2.2.1 (Cond.code Mc.1 Mc.2.1 Mc.2.2.1 Mc.2.2.2.1 :: WA) (rmM d0 kc0 ks0) kc0 ks0 n := by
  have hb := callB_of (R := R) (own := own) (index := idx) (y := Mc.1) (bytes := Mc.2.1) (maxL := Mc.2.2.1) (ret := Mc.2.2.2.1) (ws := Cond.code Mc.1 Mc.2.1 Mc.2.2.1 Mc.2.2.2.1 :: WA) (rm := rmM d0 kc0 ks0) (mc := kc0) (ms := ks0) (args := args) (s := s) n hts (fun w hw => by
    rcases List.mem_cons.mp hw with e | e
    · rw [e]; exact WA_good _ h.1
    · exact WA_good w e) rfl rfl rfl (hts _ h.2.1)
  refine ⟨⟨rfl, rfl, hd.1, by show 8 + (Mc.2.2.1 + 11) + 64 * d0 ≤ R.locals; have := h.2.2.2; omega, pay_in hts (fun w hw => by
    rcases List.mem_cons.mp hw with e | e
    · rw [e]; exact WA_good _ h.1
    · exact WA_good w e), List.mem_cons_self⟩, hts _ h.1, hts _ h.2.1, ⟨h.2.2.1.1, h.2.2.1.2.1⟩, fun sig hs => ?_, va_Nw.use rfl hl⟩
  have h2 := h.2.2.1.2.2
  rw [hs] at h2
  exact (Option.some.inj h2).symm
theorem blind {D : va_G} {kA : Nat → ClassId} {ad : Nat → Nat} {b : Nat} {vs : List Value} : FrameBlind (va_Pc vs (fun U => Wd D kA ad b σ U.heap ∧ Kx D kA U ∧ NX U)) := fun a U g mk q => by
  obtain ⟨q0, q1, q2, q3⟩ := q
  exact ⟨q0, q1, va_K.moved (u := U) (U := U.calling g mk a) (Vm.Alike.refl U.vm) q2, q3.call g mk a⟩
/-- behind a call, whatever its kind -/
theorem E_cont {p : Program} {l : Launch} {e9 : Env} {R : Room} {s : State} {m : MethodId} {args : Array Value} {below : List Frame} {meth : Method} {c : Code} {H : Heap} {locs : List Loc} {cells slots mc ms : Nat} {Z : State → Prop} {D : va_G} {kA : Nat → ClassId} {ad : Nat → Nat} {b : Nat} {ls : Array Slot} {cl : List Value} {a9 : Array Value}
    (X : Cxt M d (kc0 + kc) (ks0 + ks) σ L Q p l e9 R s m args below meth c H locs cells slots mc ms Z D kA ad b ls)
    (hr : va_Run p l e9 R s m args below meth c H locs cells slots kc0 ks0 (F0 m pc ls cl) (st.map (sh ad)) ((fun _ stt oc t => (∃ (v : Option Value) (σ' : Sg), oc = .returned (v.map (sh ad)) ∧ (σ.1 ≤ σ'.1 → E0 M d kc ks σ' L (v.toList ++ st) (pc + 3) Q) ∧ Wd D kA ad b σ' t.heap) ∧ va_F (AB b) stt t : Array Value → State → Outcome → State → Prop) a9) (AB b)) : W p l e9 R s m args below meth c H locs cells slots Z (F0 m pc ls cl) := by
  obtain ⟨hx, hb, hml, hown, hts, hnm, hK, hW, hS, hd9, hc9, hl, hX9, hN9, hR⟩ := id X
  intro T hT XS
  obtain ⟨v, st₀, t, T', L9, h0, X', hL, e1, e2, ⟨⟨v', σ', hv, hq, hW'⟩, hz, hk⟩, stp⟩ := hr T hT XS
  cases hv
  rw [h0] at hz hk
  have hS' : va_S (AB b) s.heap T'.heap (locs ++ L9) := ⟨Nat.le_trans hS.1 (by rw [e1]; exact hz), fun q h1 h2 => by rw [e1, hk q (Nat.lt_of_lt_of_le h1 hS.1) h2]; exact hS.2.1 q h1 h2, fun q hq => by
      rcases List.mem_append.mp hq with h | h
      · exact hS.2.2 q h
      · exact hL q h⟩
  have hW2 : Wd D kA ad b σ' T'.heap := by rw [e1]; exact hW'
  have hcc : cells + kc0 + kc ≤ mc := by omega
  have hss : slots + ks0 + ks ≤ ms := by omega
  have hle : σ.1 ≤ σ'.1 := by
    have z1 := hW.2.1
    have z2 := hW2.2.1
    have z3 : H.size ≤ T'.heap.size := by rw [e1]; exact hz
    omega
  obtain ⟨t2, a1, b1⟩ := hq hle p l e9 R s m args below meth c T'.heap (locs ++ L9) (cells + kc0) (slots + ks0) mc ms Z D kA ad b ls ⟨hx, hb, hml, hown, hts, hnm, hK, hW2, hS', hd9, ⟨hcc, hss, hc9.2.2⟩, hl, hX9, hN9, hR⟩ T' rfl X'
  refine ⟨t2, stp t2 ?_, b1⟩
  have ee : (Option.map (sh ad) v').toList ++ List.map (sh ad) st = List.map (sh ad) (v'.toList ++ st) := by cases v' <;> simp
  show Steps p.tables e9 below (T'.setTop (F0 m (pc + 3) ls ((Option.map (sh ad) v').toList ++ List.map (sh ad) st))) t2
  rw [ee]
  exact a1
theorem cats_sh (ad : Nat → Nat) (st : List Value) : ((st.map (sh ad)).map fun v => v.category).sum = (st.map fun v => v.category).sum := by
  rw [List.map_map]
  congr 2
  funext v
  exact sh_cat ad v

theorem E_invV {n idx a ci : Nat} {host : String} (hd : decode M.2.1 pc = .ok (.invokevirtual idx, 3)) (hC : CokV Mc n ci) (hlk : Cond.methodLink M.1.cls idx Mc.1 ∈ WA) (hs : shp a = .inl ci) (h1 : 1 ≤ a) (h2 : a < σ.1) (hn : As.length = n) (hst : (st.map fun v => v.category).sum ≤ 8) (hM : Mt0 Mc d kc0 ks0 (.ref a :: As) σ (fun v σ2 => σ.1 ≤ σ2.1 → E0 M (d + 1) kc ks σ2 L (v.toList ++ st) (pc + 3) Q)) : E0 M (d + 1) (kc0 + kc) (ks0 + ks) σ L (As.reverse ++ .ref a :: st) pc Q := by
  intro p l e9 R s m args below meth c H locs cells slots mc ms Z D kA ad b ls X
  obtain ⟨hx, hb, hml, hown, hts, hnm, hK, hW, hS, hd9, hc9, hl, hX9, hN9, hR⟩ := id X
  obtain ⟨T9, N9, hq9⟩ := hC.2.2.2
  have hat : va_at D vwCl (ad a, .inr (ci, (List.range (nFl ci)).map (fun k => fvv ad σ a (clTy ci k) k))) H := by rw [← ce_obj hs]; exact hW.2.2.2 a h1 h2
  obtain ⟨q', e1, cell, g1, g2, g3, -⟩ := hat
  have hrecv : ∃ cellB : Cell, H[ad a]? = some cellB ∧ cellB.vm.isStatics = false ∧ s.vm.findClass Mc.1.cls = some cellB.cls := ⟨cell, g1, by rw [g3]; rfl, by rw [g2]; exact (hK.1 ci _ hq9).2.1⟩
  have hM9 : Met l Mc.1 (Cond.code Mc.1 Mc.2.1 Mc.2.2.1 Mc.2.2.2.1 :: WA) (rmM d kc0 ks0) (va_Pc ((.ref a :: As).map (sh ad)) (fun U => Wd D kA ad b σ U.heap ∧ Kx D kA U ∧ NX U)) (fun (_ : Array Value) (stt : State) (oc : Outcome) (t : State) => (∃ (v : Option Value) (σ' : Sg), oc = .returned (v.map (sh ad)) ∧ (σ.1 ≤ σ'.1 → E0 M (d + 1) kc ks σ' L (v.toList ++ st) (pc + 3) Q) ∧ Wd D kA ad b σ' t.heap) ∧ va_F (AB b) stt t) kc0 ks0 (AB b) := hM l D kA ad b
  have hcw : CallW R s args M.1.cls Mc.1.cls idx Mc.1 Mc.2.1 Mc.2.2.1 Mc.2.2.2.1 (Cond.code Mc.1 Mc.2.1 Mc.2.2.1 Mc.2.2.2.1 :: WA) (rmM d kc0 ks0) kc0 ks0 n := ⟨hC.1.B hts hlk hd9, hts _ hC.2.1, hts _ hC.2.2.1⟩
  have hpr : PreV s H Mc.1.cls (ad a) (va_Pc ((.ref a :: As).map (sh ad)) (fun U => Wd D kA ad b σ U.heap ∧ Kx D kA U ∧ NX U)) (As.map (sh ad)) := ⟨blind, hrecv, fun U hU hWU => ⟨rfl, by rw [hU]; exact hW, va_K.moved hWU.alike hK, hN9.warm hWU⟩⟩
  have hlen9 : (As.map (sh ad)).length = n := by rw [List.length_map]; exact hn
  have hrm : 2 * (F0 m pc ls ((As.reverse ++ .ref a :: st).map (sh ad))).monitorRoom + ((st.map (sh ad)).map fun v => v.category).sum ≤ 8 := by
    rw [cats_sh]
    show 2 * 0 + _ ≤ 8
    omega
  have hfc : cells + kc0 ≤ R.cells ∧ slots + ks0 ≤ R.slots := ⟨by omega, by omega⟩
  have hrun := va_runV (e := e9) (below := below) (meth := meth) (locs := locs) (g := F0 m pc ls ((As.reverse ++ .ref a :: st).map (sh ad))) (rest := st.map (sh ad)) ⟨hx, hb, hml, hown, hts⟩ hM9 hcw hpr rfl hlen9 hl.1 (by show List.map (sh ad) (As.reverse ++ .ref a :: st) = _; simp [sh]) hrm hd hfc
  exact E_cont (a9 := #[]) X hrun

theorem E_invS {n idx a : Nat} {host : String} (hd : decode M.2.1 pc = .ok (.invokestatic idx, 3)) (hC : Cok Mc n) (hsm : Cond.static Mc.1 ∈ WA) (hlk : Cond.methodLink M.1.cls idx Mc.1 ∈ WA) (hn : As.length = n) (hst : (st.map fun v => v.category).sum ≤ 8) (hM : Mt0 Mc d kc0 ks0 (As) σ (fun v σ2 => σ.1 ≤ σ2.1 → E0 M (d + 1) kc ks σ2 L (v.toList ++ st) (pc + 3) Q)) : E0 M (d + 1) (kc0 + kc) (ks0 + ks) σ L (As.reverse ++ st) pc Q := by
  intro p l e9 R s m args below meth c H locs cells slots mc ms Z D kA ad b ls X
  obtain ⟨hx, hb, hml, hown, hts, hnm, hK, hW, hS, hd9, hc9, hl, hX9, hN9, hR⟩ := id X
  have hM9 : Met l Mc.1 (Cond.code Mc.1 Mc.2.1 Mc.2.2.1 Mc.2.2.2.1 :: WA) (rmM d kc0 ks0) (va_Pc ((As).map (sh ad)) (fun U => Wd D kA ad b σ U.heap ∧ Kx D kA U ∧ NX U)) (fun (_ : Array Value) (stt : State) (oc : Outcome) (t : State) => (∃ (v : Option Value) (σ' : Sg), oc = .returned (v.map (sh ad)) ∧ (σ.1 ≤ σ'.1 → E0 M (d + 1) kc ks σ' L (v.toList ++ st) (pc + 3) Q) ∧ Wd D kA ad b σ' t.heap) ∧ va_F (AB b) stt t) kc0 ks0 (AB b) := hM l D kA ad b
  have hcw : CallB R s args M.1.cls idx Mc.1 Mc.2.1 Mc.2.2.1 Mc.2.2.2.1 (Cond.code Mc.1 Mc.2.1 Mc.2.2.1 Mc.2.2.2.1 :: WA) (rmM d kc0 ks0) kc0 ks0 n ∧ (Cond.static Mc.1).before args s = true := ⟨hC.B hts hlk hd9, hts _ hsm⟩
  have hpr : PreS s H (va_Pc ((As).map (sh ad)) (fun U => Wd D kA ad b σ U.heap ∧ Kx D kA U ∧ NX U)) (As.map (sh ad)) := ⟨blind, fun U hU hWU => ⟨rfl, by rw [hU]; exact hW, va_K.moved hWU.alike hK, hN9.warm hWU⟩⟩
  have hlen9 : (As.map (sh ad)).length = n := by rw [List.length_map]; exact hn
  have hrm : 2 * (F0 m pc ls ((As.reverse ++ st).map (sh ad))).monitorRoom + ((st.map (sh ad)).map fun v => v.category).sum ≤ 8 := by
    rw [cats_sh]
    show 2 * 0 + _ ≤ 8
    omega
  have hfc : cells + kc0 ≤ R.cells ∧ slots + ks0 ≤ R.slots := ⟨by omega, by omega⟩
  have hrun := va_runS (e := e9) (below := below) (meth := meth) (locs := locs) (g := F0 m pc ls ((As.reverse ++ st).map (sh ad))) (rest := st.map (sh ad)) ⟨hx, hb, hml, hown, hts⟩ hM9 hcw hpr rfl hlen9 hl.1 (by show List.map (sh ad) (As.reverse ++ st) = _; simp [sh]) hrm hd hfc
  exact E_cont (a9 := #[]) X hrun

theorem E_invI {n idx a : Nat} {host : String} (hd : decode M.2.1 pc = .ok (.invokespecial idx, 3)) (hC : Cok Mc n) (hrt : Mc.2.2.2.1 = none) (hi : Mc.1.name = "<init>") (hin : Cond.instanceMethod Mc.1 ∈ WA) (hlk : Cond.methodLink M.1.cls idx Mc.1 ∈ WA) (hn : As.length = n) (hst : (st.map fun v => v.category).sum ≤ 8) (hM : Mt0 Mc d kc0 ks0 (.ref a :: As) σ (fun v σ2 => σ.1 ≤ σ2.1 → E0 M (d + 1) kc ks σ2 L (v.toList ++ st) (pc + 3) Q)) : E0 M (d + 1) (kc0 + kc) (ks0 + ks) σ L (As.reverse ++ .ref a :: st) pc Q := by
  intro p l e9 R s m args below meth c H locs cells slots mc ms Z D kA ad b ls X
  obtain ⟨hx, hb, hml, hown, hts, hnm, hK, hW, hS, hd9, hc9, hl, hX9, hN9, hR⟩ := id X
  have hM9 : Met l Mc.1 (Cond.code Mc.1 Mc.2.1 Mc.2.2.1 none :: WA) (rmM d kc0 ks0) (va_Pc ((.ref a :: As).map (sh ad)) (fun U => Wd D kA ad b σ U.heap ∧ Kx D kA U ∧ NX U)) (fun (_ : Array Value) (stt : State) (oc : Outcome) (t : State) => (∃ (v : Option Value) (σ' : Sg), oc = .returned (v.map (sh ad)) ∧ (σ.1 ≤ σ'.1 → E0 M (d + 1) kc ks σ' L (v.toList ++ st) (pc + 3) Q) ∧ Wd D kA ad b σ' t.heap) ∧ va_F (AB b) stt t) kc0 ks0 (AB b) := hrt ▸ hM l D kA ad b
  have hcw : CallB R s args M.1.cls idx Mc.1 Mc.2.1 Mc.2.2.1 none (Cond.code Mc.1 Mc.2.1 Mc.2.2.1 none :: WA) (rmM d kc0 ks0) kc0 ks0 n ∧ Mc.1.name = "<init>" ∧ (Cond.instanceMethod Mc.1).before args s = true := ⟨hrt ▸ hC.B hts hlk hd9, hi, hts _ hin⟩
  have hpr : PreS s H (va_Pc ((.ref a :: As).map (sh ad)) (fun U => Wd D kA ad b σ U.heap ∧ Kx D kA U ∧ NX U)) (.ref (ad a) :: As.map (sh ad)) := ⟨blind, fun U hU hWU => ⟨rfl, by rw [hU]; exact hW, va_K.moved hWU.alike hK, hN9.warm hWU⟩⟩
  have hlen9 : (As.map (sh ad)).length = n := by rw [List.length_map]; exact hn
  have hrm : 2 * (F0 m pc ls ((As.reverse ++ .ref a :: st).map (sh ad))).monitorRoom + ((st.map (sh ad)).map fun v => v.category).sum ≤ 8 := by
    rw [cats_sh]
    show 2 * 0 + _ ≤ 8
    omega
  have hfc : cells + kc0 ≤ R.cells ∧ slots + ks0 ≤ R.slots := ⟨by omega, by omega⟩
  have hrun := va_runI (e := e9) (below := below) (meth := meth) (locs := locs) (g := F0 m pc ls ((As.reverse ++ .ref a :: st).map (sh ad))) (rest := st.map (sh ad)) ⟨hx, hb, hml, hown, hts⟩ hM9 hcw hpr rfl hlen9 hl.1 (by show List.map (sh ad) (As.reverse ++ .ref a :: st) = _; simp [sh]) hrm hd hfc
  exact E_cont (a9 := #[]) X hrun

theorem E_invIN {n idx a : Nat} {host : String} (hd : decode M.2.1 pc = .ok (.invokespecial idx, 3)) (hC : Cok Mc n) (hrt : Mc.2.2.2.1 = none) (hi : Mc.1.name = "<init>") (hin : Cond.instanceMethod Mc.1 ∈ WA) (hlk : ∀ U : State, NX U → va_Nw (.methodLinkNest M.1.cls idx Mc.1 host) U) (hn : As.length = n) (hst : (st.map fun v => v.category).sum ≤ 8) (hM : Mt0 Mc d kc0 ks0 (.ref a :: As) σ (fun v σ2 => σ.1 ≤ σ2.1 → E0 M (d + 1) kc ks σ2 L (v.toList ++ st) (pc + 3) Q)) : E0 M (d + 1) (kc0 + kc) (ks0 + ks) σ L (As.reverse ++ .ref a :: st) pc Q := by
  intro p l e9 R s m args below meth c H locs cells slots mc ms Z D kA ad b ls X
  obtain ⟨hx, hb, hml, hown, hts, hnm, hK, hW, hS, hd9, hc9, hl, hX9, hN9, hR⟩ := id X
  have hM9 : Met l Mc.1 (Cond.code Mc.1 Mc.2.1 Mc.2.2.1 none :: WA) (rmM d kc0 ks0) (va_Pc ((.ref a :: As).map (sh ad)) (fun U => Wd D kA ad b σ U.heap ∧ Kx D kA U ∧ NX U)) (fun (_ : Array Value) (stt : State) (oc : Outcome) (t : State) => (∃ (v : Option Value) (σ' : Sg), oc = .returned (v.map (sh ad)) ∧ (σ.1 ≤ σ'.1 → E0 M (d + 1) kc ks σ' L (v.toList ++ st) (pc + 3) Q) ∧ Wd D kA ad b σ' t.heap) ∧ va_F (AB b) stt t) kc0 ks0 (AB b) := hrt ▸ hM l D kA ad b
  have hcw : va_CN R s args M.1.cls idx Mc.1 host Mc.2.1 Mc.2.2.1 none (Cond.code Mc.1 Mc.2.1 Mc.2.2.1 none :: WA) (rmM d kc0 ks0) kc0 ks0 n ∧ Mc.1.name = "<init>" ∧ (Cond.instanceMethod Mc.1).before args s = true := ⟨hrt ▸ hC.N hts (hlk s hN9) hd9, hi, hts _ hin⟩
  have hpr : PreS s H (va_Pc ((.ref a :: As).map (sh ad)) (fun U => Wd D kA ad b σ U.heap ∧ Kx D kA U ∧ NX U)) (.ref (ad a) :: As.map (sh ad)) := ⟨blind, fun U hU hWU => ⟨rfl, by rw [hU]; exact hW, va_K.moved hWU.alike hK, hN9.warm hWU⟩⟩
  have hlen9 : (As.map (sh ad)).length = n := by rw [List.length_map]; exact hn
  have hrm : 2 * (F0 m pc ls ((As.reverse ++ .ref a :: st).map (sh ad))).monitorRoom + ((st.map (sh ad)).map fun v => v.category).sum ≤ 8 := by
    rw [cats_sh]
    show 2 * 0 + _ ≤ 8
    omega
  have hfc : cells + kc0 ≤ R.cells ∧ slots + ks0 ≤ R.slots := ⟨by omega, by omega⟩
  have hrun := va_runIN (e := e9) (below := below) (meth := meth) (locs := locs) (g := F0 m pc ls ((As.reverse ++ .ref a :: st).map (sh ad))) (rest := st.map (sh ad)) ⟨hx, hb, hml, hown, hts⟩ hM9 hcw hpr rfl hlen9 hl.1 (by show List.map (sh ad) (As.reverse ++ .ref a :: st) = _; simp [sh]) hrm hd hfc
  exact E_cont (a9 := #[]) X hrun

end EC
end
section
theorem mW1 {i : Nat} {w : Cond} (h : tables_1_1[i]? = some w) (g : goodWord w = true) : w ∈ WA := List.mem_filter.mpr ⟨List.mem_append_right _ (by
  unfold tables_1
  simp only [List.mem_append]
  exact Or.inl (List.mem_of_getElem? h)), g⟩
theorem mW2 {i : Nat} {w : Cond} (h : tables_1_2[i]? = some w) (g : goodWord w = true) : w ∈ WA := List.mem_filter.mpr ⟨List.mem_append_right _ (by
  unfold tables_1
  simp only [List.mem_append]
  exact Or.inr (Or.inl (List.mem_of_getElem? h))), g⟩
theorem mW3 {i : Nat} {w : Cond} (h : tables_1_3[i]? = some w) (g : goodWord w = true) : w ∈ WA := List.mem_filter.mpr ⟨List.mem_append_right _ (by
  unfold tables_1
  simp only [List.mem_append]
  exact Or.inr (Or.inr (Or.inl (List.mem_of_getElem? h)))), g⟩
theorem mW4 {i : Nat} {w : Cond} (h : tables_1_4[i]? = some w) (g : goodWord w = true) : w ∈ WA := List.mem_filter.mpr ⟨List.mem_append_right _ (by
  unfold tables_1
  simp only [List.mem_append]
  exact Or.inr (Or.inr (Or.inr (Or.inl (List.mem_of_getElem? h))))), g⟩
theorem mW5 {i : Nat} {w : Cond} (h : tables_1_5[i]? = some w) (g : goodWord w = true) : w ∈ WA := List.mem_filter.mpr ⟨List.mem_append_right _ (by
  unfold tables_1
  simp only [List.mem_append]
  exact Or.inr (Or.inr (Or.inr (Or.inr ((List.mem_of_getElem? h)))))), g⟩
abbrev mX0_init : MD := (yX0_init, cX0_init, 11, none, none)
abbrev mX0_of : MD := (yX0_of, cX0_of, 5, (some (.object "SlashKinds$Kind")), none)
abbrev mX0_ofAtom : MD := (yX0_ofAtom, cX0_ofAtom, 2, (some (.object "SlashKinds$Kind")), none)
abbrev mX0_atomsOf : MD := (yX0_atomsOf, cX0_atomsOf, 4, (some .int), none)
abbrev mX0_orderOf : MD := (yX0_orderOf, cX0_orderOf, 3, (some .int), none)
abbrev mX0_goalOf : MD := (yX0_goalOf, cX0_goalOf, 3, (some .int), none)
abbrev mX0_balancesOf : MD := (yX0_balancesOf, cX0_balancesOf, 5, (some .long), none)
abbrev mX0_letterCount : MD := (yX0_letterCount, cX0_letterCount, 1, (some .int), none)
abbrev mX0_balanceOf : MD := (yX0_balanceOf, cX0_balanceOf, 5, (some .int), none)
abbrev mX0_letterAt : MD := (yX0_letterAt, cX0_letterAt, 2, (some .int), none)
abbrev mX0_hasStar : MD := (yX0_hasStar, cX0_hasStar, 1, (some .boolean), none)
abbrev mX0_hasTextOf : MD := (yX0_hasTextOf, cX0_hasTextOf, 3, (some .boolean), none)
abbrev mX0_hasLettersOf : MD := (yX0_hasLettersOf, cX0_hasLettersOf, 3, (some .boolean), none)
abbrev mX0_spell : MD := (yX0_spell, cX0_spell, 9, (some .int), none)
abbrev mX0_spellAtom : MD := (yX0_spellAtom, cX0_spellAtom, 3, (some .int), none)
abbrev mX1_init : MD := (yX1_init, cX1_init, 1, none, none)
abbrev mX1_length : MD := (yX1_length, cX1_length, 1, (some .int), none)
abbrev mX1_hasRoomFor : MD := (yX1_hasRoomFor, cX1_hasRoomFor, 2, (some .boolean), none)
abbrev mX1_append : MD := (yX1_append, cX1_append, 2, none, none)
abbrev mX1_empty : MD := (yX1_empty, cX1_empty, 2, (some .int), none)
abbrev mX1_findFault : MD := (yX1_findFault, cX1_findFault, 3, (some .int), none)
abbrev mX1_parsedKind : MD := (yX1_parsedKind, cX1_parsedKind, 1, (some (.object "SlashKinds$Kind")), none)
abbrev mX1_startKind : MD := (yX1_startKind, cX1_startKind, 2, (some .boolean), none)
abbrev mX1_goOn : MD := (yX1_goOn, cX1_goOn, 3, (some .boolean), none)
abbrev mX1_close : MD := (yX1_close, cX1_close, 4, (some .boolean), none)
abbrev mX1_appendNode : MD := (yX1_appendNode, cX1_appendNode, 4, (some .boolean), none)
abbrev mX2_init : MD := (yX2_init, cX2_init, 3, none, none)
abbrev mX2_allows : MD := (yX2_allows, cX2_allows, 5, (some .boolean), none)
abbrev mX2_countOfMeanings : MD := (yX2_countOfMeanings, cX2_countOfMeanings, 6, (some .int), none)
abbrev mX2_setOfHeads : MD := (yX2_setOfHeads, cX2_setOfHeads, 10, (some .int), none)
abbrev mX2_isBalanced : MD := (yX2_isBalanced, cX2_isBalanced, 6, (some .boolean), none)
abbrev mX2_open : MD := (yX2_open, cX2_open, 3, (some .int), none)
abbrev mX2_mean : MD := (yX2_mean, cX2_mean, 12, (some .long), none)
abbrev mX2_meanAtom : MD := (yX2_meanAtom, cX2_meanAtom, 12, (some .long), none)
abbrev mX2_meanByHead : MD := (yX2_meanByHead, cX2_meanByHead, 8, (some .long), none)
abbrev mX2_useUp : MD := (yX2_useUp, cX2_useUp, 15, (some .long), none)
abbrev mX3_init : MD := (yX3_init, cX3_init, 1, none, none)
abbrev mX3_forget : MD := (yX3_forget, cX3_forget, 1, none, none)
abbrev mX3_find : MD := (yX3_find, cX3_find, 6, (some .int), none)
abbrev mX3_keep : MD := (yX3_keep, cX3_keep, 7, none, none)
abbrev mX3_slotOf : MD := (yX3_slotOf, cX3_slotOf, 4, (some .int), none)
abbrev mX4_init : MD := (yX4_init, cX4_init, 1, none, none)
abbrev mX4_empty : MD := (yX4_empty, cX4_empty, 1, none, none)
abbrev mX4_plant : MD := (yX4_plant, cX4_plant, 7, (some .int), none)
abbrev mX4_plantRow : MD := (yX4_plantRow, cX4_plantRow, 6, (some .long), none)
abbrev mX4_balanceOfRow : MD := (yX4_balanceOfRow, cX4_balanceOfRow, 7, (some .long), none)
abbrev mX4_numberOf : MD := (yX4_numberOf, cX4_numberOf, 7, (some .int), none)
abbrev mX5_at : MD := (yX5_at, cX5_at, 3, (some .int), none)
abbrev mX5_put : MD := (yX5_put, cX5_put, 4, (some .long), none)
abbrev mX5_ahead : MD := (yX5_ahead, cX5_ahead, 3, (some .long), none)
abbrev mX5_part : MD := (yX5_part, cX5_part, 4, (some .long), none)
abbrev mX5_exchange : MD := (yX5_exchange, cX5_exchange, 9, (some .long), none)
abbrev mX5_withGoal : MD := (yX5_withGoal, cX5_withGoal, 3, (some .long), none)
abbrev mX6_init : MD := (yX6_init, cX6_init, 3, none, none)
abbrev mX6_proves : MD := (yX6_proves, cX6_proves, 5, (some .boolean), none)
abbrev mX6_countOfProofs : MD := (yX6_countOfProofs, cX6_countOfProofs, 5, (some .int), none)
abbrev mX6_ask : MD := (yX6_ask, cX6_ask, 6, (some .long), none)
abbrev mX6_prove : MD := (yX6_prove, cX6_prove, 12, (some .long), none)
abbrev mX6_proveByGoal : MD := (yX6_proveByGoal, cX6_proveByGoal, 8, (some .long), none)
abbrev mX6_proveParts : MD := (yX6_proveParts, cX6_proveParts, 14, (some .long), none)
abbrev mX6_proveByPlace : MD := (yX6_proveByPlace, cX6_proveByPlace, 12, (some .long), none)
abbrev mX6_proveUse : MD := (yX6_proveUse, cX6_proveUse, 18, (some .long), none)
abbrev mX6_isEnough : MD := (yX6_isEnough, cX6_isEnough, 3, (some .boolean), none)
abbrev mX6_plus : MD := (yX6_plus, cX6_plus, 5, (some .long), none)
abbrev mX6_times : MD := (yX6_times, cX6_times, 5, (some .long), none)
abbrev mX7_init : MD := (yX7_init, cX7_init, 3, none, none)
abbrev mX7_open : MD := (yX7_open, cX7_open, 8, none, none)
abbrev mX7_countOfReadings : MD := (yX7_countOfReadings, cX7_countOfReadings, 6, (some .int), none)
abbrev mX7_sumOfMeanings : MD := (yX7_sumOfMeanings, cX7_sumOfMeanings, 7, (some .int), none)
abbrev mX7_firstReading : MD := (yX7_firstReading, cX7_firstReading, 5, (some .int), none)
abbrev mX7_kindNumberIn : MD := (yX7_kindNumberIn, cX7_kindNumberIn, 9, (some .int), none)
abbrev mX7_countOfReadableRows : MD := (yX7_countOfReadableRows, cX7_countOfReadableRows, 5, (some .int), none)
abbrev mX7_findNearestRow : MD := (yX7_findNearestRow, cX7_findNearestRow, 6, (some .int), none)
abbrev mX7_wordOfNearestRow : MD := (yX7_wordOfNearestRow, cX7_wordOfNearestRow, 2, (some .int), none)
abbrev mX7_countOfChoices : MD := (yX7_countOfChoices, cX7_countOfChoices, 5, (some .int), none)
abbrev mX7_meaningsOfChoice : MD := (yX7_meaningsOfChoice, cX7_meaningsOfChoice, 6, (some .int), none)
abbrev mX7_countOfRows : MD := (yX7_countOfRows, cX7_countOfRows, 3, (some .int), none)
abbrev mX7_tryRow : MD := (yX7_tryRow, cX7_tryRow, 5, none, none)
abbrev mX7_changesOf : MD := (yX7_changesOf, cX7_changesOf, 5, (some .int), none)
abbrev mX8_init : MD := (yX8_init, cX8_init, 4, none, none)
abbrev mX8_type : MD := (yX8_type, cX8_type, 5, (some .int), none)
abbrev mX8_clear : MD := (yX8_clear, cX8_clear, 1, (some .int), none)
abbrev mX8_read : MD := (yX8_read, cX8_read, 3, (some .int), none)
abbrev mX8_about : MD := (yX8_about, cX8_about, 3, (some .int), none)
abbrev mX8_balance : MD := (yX8_balance, cX8_balance, 3, (some .int), none)
abbrev mX8_letter : MD := (yX8_letter, cX8_letter, 3, (some .int), none)
abbrev mX8_alike : MD := (yX8_alike, cX8_alike, 5, (some .int), none)
abbrev mX8_add : MD := (yX8_add, cX8_add, 2, (some .int), none)
abbrev mX8_wipe : MD := (yX8_wipe, cX8_wipe, 2, (some .int), none)
abbrev mX8_is : MD := (yX8_is, cX8_is, 3, (some .int), none)
abbrev mX8_proofs : MD := (yX8_proofs, cX8_proofs, 3, (some .int), none)
abbrev mX8_meanings : MD := (yX8_meanings, cX8_meanings, 3, (some .int), none)
abbrev mX8_heads : MD := (yX8_heads, cX8_heads, 3, (some .int), none)
abbrev mX8_word : MD := (yX8_word, cX8_word, 4, (some .int), none)
abbrev mX8_say : MD := (yX8_say, cX8_say, 2, (some .int), none)
abbrev mX8_hush : MD := (yX8_hush, cX8_hush, 2, (some .int), none)
abbrev mX8_reads : MD := (yX8_reads, cX8_reads, 4, (some .int), none)
abbrev mX8_first : MD := (yX8_first, cX8_first, 5, (some .int), none)
abbrev mX8_rows : MD := (yX8_rows, cX8_rows, 4, (some .int), none)
abbrev mX8_near : MD := (yX8_near, cX8_near, 5, (some .int), none)
abbrev mX8_count : MD := (yX8_count, cX8_count, 2, (some .int), none)
abbrev mX8_isKindNumber : MD := (yX8_isKindNumber, cX8_isKindNumber, 1, (some .boolean), none)
abbrev mX8_isLogic : MD := (yX8_isLogic, cX8_isLogic, 1, (some .boolean), none)
abbrev mX8_isWord : MD := (yX8_isWord, cX8_isWord, 1, (some .boolean), none)
abbrev mX8_provable : MD := (yX8_provable, cX8_provable, 2, (some .boolean), none)
abbrev mX9_init : MD := (yX9_init, cX9_init, 2, none, none)
abbrev mX9_in : MD := (yX9_in, cX9_in, 3, (some .boolean), none)
abbrev mX9_isKind : MD := (yX9_isKind, cX9_isKind, 1, (some .boolean), none)
abbrev mX9_type : MD := (yX9_type, cX9_type, 5, (some .int), none)
abbrev mX9_clear : MD := (yX9_clear, cX9_clear, 2, (some .int), none)
abbrev mX9_isSign : MD := (yX9_isSign, cX9_isSign, 1, (some .boolean), none)
abbrev mX9_part : MD := (yX9_part, cX9_part, 4, (some .int), none)
abbrev mX9_isRead : MD := (yX9_isRead, cX9_isRead, 9, (some .boolean), none)
abbrev mX9_read : MD := (yX9_read, cX9_read, 3, (some .int), none)
abbrev mX9_atomsOf : MD := (yX9_atomsOf, cX9_atomsOf, 2, (some .int), none)
abbrev mX9_spells : MD := (yX9_spells, cX9_spells, 9, none, none)
abbrev mX9_works : MD := (yX9_works, cX9_works, 9, none, none)
abbrev mX9_about : MD := (yX9_about, cX9_about, 7, (some .int), none)
abbrev mX9_balanceOf : MD := (yX9_balanceOf, cX9_balanceOf, 7, (some .int), none)
abbrev mX9_balance : MD := (yX9_balance, cX9_balance, 3, (some .int), none)
abbrev mX9_letter : MD := (yX9_letter, cX9_letter, 3, (some .int), none)
abbrev mX9_alike : MD := (yX9_alike, cX9_alike, 6, (some .int), none)
abbrev mX9_add : MD := (yX9_add, cX9_add, 4, (some .int), none)
abbrev mX9_wipe : MD := (yX9_wipe, cX9_wipe, 2, (some .int), none)
abbrev mX9_begins : MD := (yX9_begins, cX9_begins, 5, none, none)
abbrev mX9_atoms : MD := (yX9_atoms, cX9_atoms, 3, (some .int), none)
abbrev mX9_hasTimes : MD := (yX9_hasTimes, cX9_hasTimes, 3, (some .boolean), none)
abbrev mX9_find : MD := (yX9_find, cX9_find, 5, (some .int), none)
abbrev mX9_some : MD := (yX9_some, cX9_some, 6, (some .int), none)
abbrev mX9_put : MD := (yX9_put, cX9_put, 10, (some .int), none)
abbrev mX9_adds : MD := (yX9_adds, cX9_adds, 4, none, none)
abbrev mX9_proves : MD := (yX9_proves, cX9_proves, 15, none, none)
abbrev mX9_means : MD := (yX9_means, cX9_means, 9, none, none)
abbrev mX9_spines : MD := (yX9_spines, cX9_spines, 16, none, none)
abbrev mX9_tells : MD := (yX9_tells, cX9_tells, 5, none, none)
abbrev mX9_isLogic : MD := (yX9_isLogic, cX9_isLogic, 1, (some .boolean), none)
abbrev mX9_proved : MD := (yX9_proved, cX9_proved, 4, (some .int), none)
abbrev mX9_is : MD := (yX9_is, cX9_is, 3, (some .int), none)
abbrev mX9_proofs : MD := (yX9_proofs, cX9_proofs, 3, (some .int), none)
abbrev mX9_meanings : MD := (yX9_meanings, cX9_meanings, 3, (some .int), none)
abbrev mX9_heads : MD := (yX9_heads, cX9_heads, 3, (some .int), none)
abbrev mX9_ones : MD := (yX9_ones, cX9_ones, 3, (some .int), none)
abbrev mX9_word : MD := (yX9_word, cX9_word, 4, (some .int), none)
abbrev mX9_say : MD := (yX9_say, cX9_say, 2, (some .int), none)
abbrev mX9_hush : MD := (yX9_hush, cX9_hush, 2, (some .int), none)
abbrev mX9_kindBehind : MD := (yX9_kindBehind, cX9_kindBehind, 4, (some .int), none)
abbrev mX9_choices : MD := (yX9_choices, cX9_choices, 10, (some .int), none)
abbrev mX9_takes : MD := (yX9_takes, cX9_takes, 2, none, none)
abbrev mX9_reads : MD := (yX9_reads, cX9_reads, 4, (some .int), none)
abbrev mX9_first : MD := (yX9_first, cX9_first, 4, (some .int), none)
abbrev mX9_rows : MD := (yX9_rows, cX9_rows, 7, (some .int), none)
abbrev mX9_near : MD := (yX9_near, cX9_near, 9, (some .int), none)
abbrev mX9_count : MD := (yX9_count, cX9_count, 4, (some .int), none)
abbrev mJ6_bitCount_0f7a4 : MD := (yJ6_bitCount_0f7a4, cJ6_bitCount_0f7a4, 1, (some .int), none)
abbrev mJ9_floorMod_7cf53 : MD := (yJ9_floorMod_7cf53, cJ9_floorMod_7cf53, 3, (some .int), none)
abbrev mJ9_max_7cf53 : MD := (yJ9_max_7cf53, cJ9_max_7cf53, 2, (some .int), none)
abbrev mJ9_max_f86c9 : MD := (yJ9_max_f86c9, cJ9_max_f86c9, 4, (some .long), none)
abbrev mJ9_min_7cf53 : MD := (yJ9_min_7cf53, cJ9_min_7cf53, 2, (some .int), none)
abbrev mJ9_min_f86c9 : MD := (yJ9_min_f86c9, cJ9_min_f86c9, 4, (some .long), none)
abbrev mJ7_copyOf_59c91 : MD := (yJ7_copyOf_59c91, cJ7_copyOf_59c91, 3, (some (.array .int)), none)
theorem okmX0_init : Cok mX0_init 4 := ⟨(mW1 (i := 76) rfl rfl), (mW1 (i := 3) rfl rfl), by decide +kernel, by decide⟩
theorem immX0_init : Cond.instanceMethod mX0_init.1 ∈ WA := (mW1 (i := 75) rfl rfl)
theorem okmX0_of : Cok mX0_of 4 := ⟨(mW1 (i := 71) rfl rfl), (mW1 (i := 3) rfl rfl), by decide +kernel, by decide⟩
theorem stmX0_of : Cond.static mX0_of.1 ∈ WA := (mW1 (i := 70) rfl rfl)
theorem okmX0_ofAtom : Cok mX0_ofAtom 1 := ⟨(mW1 (i := 68) rfl rfl), (mW1 (i := 3) rfl rfl), by decide +kernel, by decide⟩
theorem stmX0_ofAtom : Cond.static mX0_ofAtom.1 ∈ WA := (mW1 (i := 67) rfl rfl)
theorem okmX0_atomsOf : Cok mX0_atomsOf 2 := ⟨(mW2 (i := 193) rfl rfl), (mW1 (i := 3) rfl rfl), by decide +kernel, by decide⟩
theorem stmX0_atomsOf : Cond.static mX0_atomsOf.1 ∈ WA := (mW2 (i := 192) rfl rfl)
theorem okmX0_orderOf : Cok mX0_orderOf 3 := ⟨(mW1 (i := 96) rfl rfl), (mW1 (i := 3) rfl rfl), by decide +kernel, by decide⟩
theorem stmX0_orderOf : Cond.static mX0_orderOf.1 ∈ WA := (mW1 (i := 95) rfl rfl)
theorem okmX0_goalOf : Cok mX0_goalOf 3 := ⟨(mW1 (i := 102) rfl rfl), (mW1 (i := 3) rfl rfl), by decide +kernel, by decide⟩
theorem stmX0_goalOf : Cond.static mX0_goalOf.1 ∈ WA := (mW1 (i := 101) rfl rfl)
theorem okmX0_balancesOf : Cok mX0_balancesOf 3 := ⟨(mW1 (i := 105) rfl rfl), (mW1 (i := 3) rfl rfl), by decide +kernel, by decide⟩
theorem stmX0_balancesOf : Cond.static mX0_balancesOf.1 ∈ WA := (mW1 (i := 104) rfl rfl)
theorem okmX0_letterCount : Cok mX0_letterCount 0 := ⟨(mW2 (i := 141) rfl rfl), (mW1 (i := 3) rfl rfl), by decide +kernel, by decide⟩
theorem immX0_letterCount : Cond.instanceMethod mX0_letterCount.1 ∈ WA := (mW2 (i := 139) rfl rfl)
theorem ovmX0_letterCount : CokV mX0_letterCount 0 0 := ⟨okmX0_letterCount, immX0_letterCount, (mW2 (i := 140) rfl rfl), ⟨TX0, 12, rfl⟩⟩
theorem okmX0_balanceOf : Cok mX0_balanceOf 1 := ⟨(mW2 (i := 150) rfl rfl), (mW1 (i := 3) rfl rfl), by decide +kernel, by decide⟩
theorem immX0_balanceOf : Cond.instanceMethod mX0_balanceOf.1 ∈ WA := (mW2 (i := 148) rfl rfl)
theorem ovmX0_balanceOf : CokV mX0_balanceOf 1 0 := ⟨okmX0_balanceOf, immX0_balanceOf, (mW2 (i := 149) rfl rfl), ⟨TX0, 12, rfl⟩⟩
theorem okmX0_letterAt : Cok mX0_letterAt 1 := ⟨(mW2 (i := 158) rfl rfl), (mW1 (i := 3) rfl rfl), by decide +kernel, by decide⟩
theorem immX0_letterAt : Cond.instanceMethod mX0_letterAt.1 ∈ WA := (mW2 (i := 156) rfl rfl)
theorem ovmX0_letterAt : CokV mX0_letterAt 1 0 := ⟨okmX0_letterAt, immX0_letterAt, (mW2 (i := 157) rfl rfl), ⟨TX0, 12, rfl⟩⟩
theorem okmX0_hasStar : Cok mX0_hasStar 0 := ⟨(mW3 (i := 78) rfl rfl), (mW1 (i := 3) rfl rfl), by decide +kernel, by decide⟩
theorem immX0_hasStar : Cond.instanceMethod mX0_hasStar.1 ∈ WA := (mW3 (i := 76) rfl rfl)
theorem ovmX0_hasStar : CokV mX0_hasStar 0 0 := ⟨okmX0_hasStar, immX0_hasStar, (mW3 (i := 77) rfl rfl), ⟨TX0, 12, rfl⟩⟩
theorem okmX0_hasTextOf : Cok mX0_hasTextOf 1 := ⟨(mW2 (i := 167) rfl rfl), (mW1 (i := 3) rfl rfl), by decide +kernel, by decide⟩
theorem immX0_hasTextOf : Cond.instanceMethod mX0_hasTextOf.1 ∈ WA := (mW2 (i := 165) rfl rfl)
theorem ovmX0_hasTextOf : CokV mX0_hasTextOf 1 0 := ⟨okmX0_hasTextOf, immX0_hasTextOf, (mW2 (i := 166) rfl rfl), ⟨TX0, 12, rfl⟩⟩
theorem okmX0_hasLettersOf : Cok mX0_hasLettersOf 1 := ⟨(mW2 (i := 171) rfl rfl), (mW1 (i := 3) rfl rfl), by decide +kernel, by decide⟩
theorem immX0_hasLettersOf : Cond.instanceMethod mX0_hasLettersOf.1 ∈ WA := (mW2 (i := 169) rfl rfl)
theorem ovmX0_hasLettersOf : CokV mX0_hasLettersOf 1 0 := ⟨okmX0_hasLettersOf, immX0_hasLettersOf, (mW2 (i := 170) rfl rfl), ⟨TX0, 12, rfl⟩⟩
theorem okmX0_spell : Cok mX0_spell 5 := ⟨(mW1 (i := 157) rfl rfl), (mW1 (i := 3) rfl rfl), by decide +kernel, by decide⟩
theorem stmX0_spell : Cond.static mX0_spell.1 ∈ WA := (mW1 (i := 156) rfl rfl)
theorem okmX0_spellAtom : Cok mX0_spellAtom 3 := ⟨(mW1 (i := 160) rfl rfl), (mW1 (i := 3) rfl rfl), by decide +kernel, by decide⟩
theorem stmX0_spellAtom : Cond.static mX0_spellAtom.1 ∈ WA := (mW1 (i := 159) rfl rfl)
theorem okmX1_init : Cok mX1_init 0 := ⟨(mW1 (i := 27) rfl rfl), (mW1 (i := 2) rfl rfl), by decide +kernel, by decide⟩
theorem immX1_init : Cond.instanceMethod mX1_init.1 ∈ WA := (mW1 (i := 26) rfl rfl)
theorem okmX1_length : Cok mX1_length 0 := ⟨(mW2 (i := 93) rfl rfl), (mW1 (i := 2) rfl rfl), by decide +kernel, by decide⟩
theorem immX1_length : Cond.instanceMethod mX1_length.1 ∈ WA := (mW2 (i := 91) rfl rfl)
theorem ovmX1_length : CokV mX1_length 0 1 := ⟨okmX1_length, immX1_length, (mW2 (i := 92) rfl rfl), ⟨TX1, 11, rfl⟩⟩
theorem okmX1_hasRoomFor : Cok mX1_hasRoomFor 1 := ⟨(mW2 (i := 85) rfl rfl), (mW1 (i := 2) rfl rfl), by decide +kernel, by decide⟩
theorem immX1_hasRoomFor : Cond.instanceMethod mX1_hasRoomFor.1 ∈ WA := (mW2 (i := 83) rfl rfl)
theorem ovmX1_hasRoomFor : CokV mX1_hasRoomFor 1 1 := ⟨okmX1_hasRoomFor, immX1_hasRoomFor, (mW2 (i := 84) rfl rfl), ⟨TX1, 11, rfl⟩⟩
theorem okmX1_append : Cok mX1_append 1 := ⟨(mW2 (i := 89) rfl rfl), (mW1 (i := 2) rfl rfl), by decide +kernel, by decide⟩
theorem immX1_append : Cond.instanceMethod mX1_append.1 ∈ WA := (mW2 (i := 87) rfl rfl)
theorem ovmX1_append : CokV mX1_append 1 1 := ⟨okmX1_append, immX1_append, (mW2 (i := 88) rfl rfl), ⟨TX1, 11, rfl⟩⟩
theorem okmX1_empty : Cok mX1_empty 0 := ⟨(mW2 (i := 101) rfl rfl), (mW1 (i := 2) rfl rfl), by decide +kernel, by decide⟩
theorem immX1_empty : Cond.instanceMethod mX1_empty.1 ∈ WA := (mW2 (i := 99) rfl rfl)
theorem ovmX1_empty : CokV mX1_empty 0 1 := ⟨okmX1_empty, immX1_empty, (mW2 (i := 100) rfl rfl), ⟨TX1, 11, rfl⟩⟩
theorem okmX1_findFault : Cok mX1_findFault 0 := ⟨(mW2 (i := 112) rfl rfl), (mW1 (i := 2) rfl rfl), by decide +kernel, by decide⟩
theorem immX1_findFault : Cond.instanceMethod mX1_findFault.1 ∈ WA := (mW2 (i := 110) rfl rfl)
theorem ovmX1_findFault : CokV mX1_findFault 0 1 := ⟨okmX1_findFault, immX1_findFault, (mW2 (i := 111) rfl rfl), ⟨TX1, 11, rfl⟩⟩
theorem okmX1_parsedKind : Cok mX1_parsedKind 0 := ⟨(mW2 (i := 132) rfl rfl), (mW1 (i := 2) rfl rfl), by decide +kernel, by decide⟩
theorem immX1_parsedKind : Cond.instanceMethod mX1_parsedKind.1 ∈ WA := (mW2 (i := 130) rfl rfl)
theorem ovmX1_parsedKind : CokV mX1_parsedKind 0 1 := ⟨okmX1_parsedKind, immX1_parsedKind, (mW2 (i := 131) rfl rfl), ⟨TX1, 11, rfl⟩⟩
theorem okmX1_startKind : Cok mX1_startKind 1 := ⟨(mW2 (i := 116) rfl rfl), (mW1 (i := 2) rfl rfl), by decide +kernel, by decide⟩
theorem immX1_startKind : Cond.instanceMethod mX1_startKind.1 ∈ WA := (mW2 (i := 115) rfl rfl)
theorem ovmX1_startKind : CokV mX1_startKind 1 1 := ⟨okmX1_startKind, immX1_startKind, (mS (i := 0) (q := (yX1_startKind, 11)) rfl rfl), ⟨TX1, 11, rfl⟩⟩
theorem okmX1_goOn : Cok mX1_goOn 1 := ⟨(mW2 (i := 124) rfl rfl), (mW1 (i := 2) rfl rfl), by decide +kernel, by decide⟩
theorem immX1_goOn : Cond.instanceMethod mX1_goOn.1 ∈ WA := (mW2 (i := 123) rfl rfl)
theorem ovmX1_goOn : CokV mX1_goOn 1 1 := ⟨okmX1_goOn, immX1_goOn, (mS (i := 2) (q := (yX1_goOn, 11)) rfl rfl), ⟨TX1, 11, rfl⟩⟩
theorem okmX1_close : Cok mX1_close 1 := ⟨(mW2 (i := 128) rfl rfl), (mW1 (i := 2) rfl rfl), by decide +kernel, by decide⟩
theorem immX1_close : Cond.instanceMethod mX1_close.1 ∈ WA := (mW2 (i := 127) rfl rfl)
theorem ovmX1_close : CokV mX1_close 1 1 := ⟨okmX1_close, immX1_close, (mS (i := 3) (q := (yX1_close, 11)) rfl rfl), ⟨TX1, 11, rfl⟩⟩
theorem okmX1_appendNode : Cok mX1_appendNode 3 := ⟨(mW2 (i := 120) rfl rfl), (mW1 (i := 2) rfl rfl), by decide +kernel, by decide⟩
theorem immX1_appendNode : Cond.instanceMethod mX1_appendNode.1 ∈ WA := (mW2 (i := 119) rfl rfl)
theorem ovmX1_appendNode : CokV mX1_appendNode 3 1 := ⟨okmX1_appendNode, immX1_appendNode, (mS (i := 1) (q := (yX1_appendNode, 11)) rfl rfl), ⟨TX1, 11, rfl⟩⟩
theorem okmX2_init : Cok mX2_init 2 := ⟨(mW2 (i := 0) rfl rfl), (mW1 (i := 10) rfl rfl), by decide +kernel, by decide⟩
theorem immX2_init : Cond.instanceMethod mX2_init.1 ∈ WA := (mW1 (i := 239) rfl rfl)
theorem okmX2_allows : Cok mX2_allows 3 := ⟨(mW3 (i := 74) rfl rfl), (mW1 (i := 10) rfl rfl), by decide +kernel, by decide⟩
theorem stmX2_allows : Cond.static mX2_allows.1 ∈ WA := (mW3 (i := 73) rfl rfl)
theorem okmX2_countOfMeanings : Cok mX2_countOfMeanings 4 := ⟨(mW3 (i := 83) rfl rfl), (mW1 (i := 10) rfl rfl), by decide +kernel, by decide⟩
theorem immX2_countOfMeanings : Cond.instanceMethod mX2_countOfMeanings.1 ∈ WA := (mW3 (i := 81) rfl rfl)
theorem ovmX2_countOfMeanings : CokV mX2_countOfMeanings 4 2 := ⟨okmX2_countOfMeanings, immX2_countOfMeanings, (mW3 (i := 82) rfl rfl), ⟨TX2, 3, rfl⟩⟩
theorem okmX2_setOfHeads : Cok mX2_setOfHeads 4 := ⟨(mW3 (i := 127) rfl rfl), (mW1 (i := 10) rfl rfl), by decide +kernel, by decide⟩
theorem immX2_setOfHeads : Cond.instanceMethod mX2_setOfHeads.1 ∈ WA := (mW3 (i := 125) rfl rfl)
theorem ovmX2_setOfHeads : CokV mX2_setOfHeads 4 2 := ⟨okmX2_setOfHeads, immX2_setOfHeads, (mW3 (i := 126) rfl rfl), ⟨TX2, 3, rfl⟩⟩
theorem okmX2_isBalanced : Cok mX2_isBalanced 3 := ⟨(mW3 (i := 86) rfl rfl), (mW1 (i := 10) rfl rfl), by decide +kernel, by decide⟩
theorem stmX2_isBalanced : Cond.static mX2_isBalanced.1 ∈ WA := (mW3 (i := 85) rfl rfl)
theorem okmX2_open : Cok mX2_open 2 := ⟨(mW3 (i := 90) rfl rfl), (mW1 (i := 10) rfl rfl), by decide +kernel, by decide⟩
theorem immX2_open : Cond.instanceMethod mX2_open.1 ∈ WA := (mW3 (i := 89) rfl rfl)
theorem ovmX2_open : CokV mX2_open 2 2 := ⟨okmX2_open, immX2_open, (mS (i := 15) (q := (yX2_open, 3)) rfl rfl), ⟨TX2, 3, rfl⟩⟩
theorem okmX2_mean : Cok mX2_mean 4 := ⟨(mW3 (i := 98) rfl rfl), (mW1 (i := 10) rfl rfl), by decide +kernel, by decide⟩
theorem immX2_mean : Cond.instanceMethod mX2_mean.1 ∈ WA := (mW3 (i := 97) rfl rfl)
theorem ovmX2_mean : CokV mX2_mean 4 2 := ⟨okmX2_mean, immX2_mean, (mS (i := 16) (q := (yX2_mean, 3)) rfl rfl), ⟨TX2, 3, rfl⟩⟩
theorem okmX2_meanAtom : Cok mX2_meanAtom 4 := ⟨(mW3 (i := 105) rfl rfl), (mW1 (i := 10) rfl rfl), by decide +kernel, by decide⟩
theorem immX2_meanAtom : Cond.instanceMethod mX2_meanAtom.1 ∈ WA := (mW3 (i := 104) rfl rfl)
theorem ovmX2_meanAtom : CokV mX2_meanAtom 4 2 := ⟨okmX2_meanAtom, immX2_meanAtom, (mS (i := 17) (q := (yX2_meanAtom, 3)) rfl rfl), ⟨TX2, 3, rfl⟩⟩
theorem okmX2_meanByHead : Cok mX2_meanByHead 5 := ⟨(mW3 (i := 111) rfl rfl), (mW1 (i := 10) rfl rfl), by decide +kernel, by decide⟩
theorem immX2_meanByHead : Cond.instanceMethod mX2_meanByHead.1 ∈ WA := (mW3 (i := 110) rfl rfl)
theorem ovmX2_meanByHead : CokV mX2_meanByHead 5 2 := ⟨okmX2_meanByHead, immX2_meanByHead, (mS (i := 18) (q := (yX2_meanByHead, 3)) rfl rfl), ⟨TX2, 3, rfl⟩⟩
theorem okmX2_useUp : Cok mX2_useUp 6 := ⟨(mW3 (i := 116) rfl rfl), (mW1 (i := 10) rfl rfl), by decide +kernel, by decide⟩
theorem immX2_useUp : Cond.instanceMethod mX2_useUp.1 ∈ WA := (mW3 (i := 115) rfl rfl)
theorem ovmX2_useUp : CokV mX2_useUp 6 2 := ⟨okmX2_useUp, immX2_useUp, (mS (i := 19) (q := (yX2_useUp, 3)) rfl rfl), ⟨TX2, 3, rfl⟩⟩
theorem okmX3_init : Cok mX3_init 0 := ⟨(mW1 (i := 202) rfl rfl), (mW1 (i := 8) rfl rfl), by decide +kernel, by decide⟩
theorem immX3_init : Cond.instanceMethod mX3_init.1 ∈ WA := (mW1 (i := 201) rfl rfl)
theorem okmX3_forget : Cok mX3_forget 0 := ⟨(mW2 (i := 209) rfl rfl), (mW1 (i := 8) rfl rfl), by decide +kernel, by decide⟩
theorem immX3_forget : Cond.instanceMethod mX3_forget.1 ∈ WA := (mW2 (i := 207) rfl rfl)
theorem ovmX3_forget : CokV mX3_forget 0 3 := ⟨okmX3_forget, immX3_forget, (mW2 (i := 208) rfl rfl), ⟨TX3, 4, rfl⟩⟩
theorem okmX3_find : Cok mX3_find 1 := ⟨(mW3 (i := 6) rfl rfl), (mW1 (i := 8) rfl rfl), by decide +kernel, by decide⟩
theorem immX3_find : Cond.instanceMethod mX3_find.1 ∈ WA := (mW3 (i := 4) rfl rfl)
theorem ovmX3_find : CokV mX3_find 1 3 := ⟨okmX3_find, immX3_find, (mW3 (i := 5) rfl rfl), ⟨TX3, 4, rfl⟩⟩
theorem okmX3_keep : Cok mX3_keep 2 := ⟨(mW3 (i := 59) rfl rfl), (mW1 (i := 8) rfl rfl), by decide +kernel, by decide⟩
theorem immX3_keep : Cond.instanceMethod mX3_keep.1 ∈ WA := (mW3 (i := 57) rfl rfl)
theorem ovmX3_keep : CokV mX3_keep 2 3 := ⟨okmX3_keep, immX3_keep, (mW3 (i := 58) rfl rfl), ⟨TX3, 4, rfl⟩⟩
theorem okmX3_slotOf : Cok mX3_slotOf 1 := ⟨(mW3 (i := 9) rfl rfl), (mW1 (i := 8) rfl rfl), by decide +kernel, by decide⟩
theorem stmX3_slotOf : Cond.static mX3_slotOf.1 ∈ WA := (mW3 (i := 8) rfl rfl)
theorem okmX4_init : Cok mX4_init 0 := ⟨(mW1 (i := 165) rfl rfl), (mW1 (i := 7) rfl rfl), by decide +kernel, by decide⟩
theorem immX4_init : Cond.instanceMethod mX4_init.1 ∈ WA := (mW1 (i := 164) rfl rfl)
theorem okmX4_empty : Cok mX4_empty 0 := ⟨(mW2 (i := 205) rfl rfl), (mW1 (i := 7) rfl rfl), by decide +kernel, by decide⟩
theorem immX4_empty : Cond.instanceMethod mX4_empty.1 ∈ WA := (mW2 (i := 203) rfl rfl)
theorem ovmX4_empty : CokV mX4_empty 0 4 := ⟨okmX4_empty, immX4_empty, (mW2 (i := 204) rfl rfl), ⟨TX4, 7, rfl⟩⟩
theorem okmX4_plant : Cok mX4_plant 1 := ⟨(mW2 (i := 213) rfl rfl), (mW1 (i := 7) rfl rfl), by decide +kernel, by decide⟩
theorem immX4_plant : Cond.instanceMethod mX4_plant.1 ∈ WA := (mW2 (i := 211) rfl rfl)
theorem ovmX4_plant : CokV mX4_plant 1 4 := ⟨okmX4_plant, immX4_plant, (mW2 (i := 212) rfl rfl), ⟨TX4, 7, rfl⟩⟩
theorem okmX4_plantRow : Cok mX4_plantRow 2 := ⟨(mW2 (i := 221) rfl rfl), (mW1 (i := 7) rfl rfl), by decide +kernel, by decide⟩
theorem immX4_plantRow : Cond.instanceMethod mX4_plantRow.1 ∈ WA := (mW2 (i := 219) rfl rfl)
theorem ovmX4_plantRow : CokV mX4_plantRow 2 4 := ⟨okmX4_plantRow, immX4_plantRow, (mW2 (i := 220) rfl rfl), ⟨TX4, 7, rfl⟩⟩
theorem okmX4_balanceOfRow : Cok mX4_balanceOfRow 2 := ⟨(mW2 (i := 233) rfl rfl), (mW1 (i := 7) rfl rfl), by decide +kernel, by decide⟩
theorem immX4_balanceOfRow : Cond.instanceMethod mX4_balanceOfRow.1 ∈ WA := (mW2 (i := 231) rfl rfl)
theorem ovmX4_balanceOfRow : CokV mX4_balanceOfRow 2 4 := ⟨okmX4_balanceOfRow, immX4_balanceOfRow, (mW2 (i := 232) rfl rfl), ⟨TX4, 7, rfl⟩⟩
theorem okmX4_numberOf : Cok mX4_numberOf 4 := ⟨(mW2 (i := 217) rfl rfl), (mW1 (i := 7) rfl rfl), by decide +kernel, by decide⟩
theorem immX4_numberOf : Cond.instanceMethod mX4_numberOf.1 ∈ WA := (mW2 (i := 216) rfl rfl)
theorem ovmX4_numberOf : CokV mX4_numberOf 4 4 := ⟨okmX4_numberOf, immX4_numberOf, (mS (i := 6) (q := (yX4_numberOf, 7)) rfl rfl), ⟨TX4, 7, rfl⟩⟩
theorem okmX5_at : Cok mX5_at 2 := ⟨(mW2 (i := 236) rfl rfl), (mW1 (i := 13) rfl rfl), by decide +kernel, by decide⟩
theorem stmX5_at : Cond.static mX5_at.1 ∈ WA := (mW2 (i := 235) rfl rfl)
theorem okmX5_put : Cok mX5_put 3 := ⟨(mW2 (i := 225) rfl rfl), (mW1 (i := 13) rfl rfl), by decide +kernel, by decide⟩
theorem stmX5_put : Cond.static mX5_put.1 ∈ WA := (mW2 (i := 224) rfl rfl)
theorem okmX5_ahead : Cok mX5_ahead 2 := ⟨(mW3 (i := 2) rfl rfl), (mW1 (i := 13) rfl rfl), by decide +kernel, by decide⟩
theorem stmX5_ahead : Cond.static mX5_ahead.1 ∈ WA := (mW3 (i := 1) rfl rfl)
theorem okmX5_part : Cok mX5_part 3 := ⟨(mW3 (i := 27) rfl rfl), (mW1 (i := 13) rfl rfl), by decide +kernel, by decide⟩
theorem stmX5_part : Cond.static mX5_part.1 ∈ WA := (mW3 (i := 26) rfl rfl)
theorem okmX5_exchange : Cok mX5_exchange 5 := ⟨(mW3 (i := 50) rfl rfl), (mW1 (i := 13) rfl rfl), by decide +kernel, by decide⟩
theorem stmX5_exchange : Cond.static mX5_exchange.1 ∈ WA := (mW3 (i := 49) rfl rfl)
theorem okmX5_withGoal : Cok mX5_withGoal 2 := ⟨(mW2 (i := 239) rfl rfl), (mW1 (i := 13) rfl rfl), by decide +kernel, by decide⟩
theorem stmX5_withGoal : Cond.static mX5_withGoal.1 ∈ WA := (mW2 (i := 238) rfl rfl)
theorem okmX6_init : Cok mX6_init 2 := ⟨(mW1 (i := 221) rfl rfl), (mW1 (i := 9) rfl rfl), by decide +kernel, by decide⟩
theorem immX6_init : Cond.instanceMethod mX6_init.1 ∈ WA := (mW1 (i := 220) rfl rfl)
theorem okmX6_proves : Cok mX6_proves 4 := ⟨(mW2 (i := 197) rfl rfl), (mW1 (i := 9) rfl rfl), by decide +kernel, by decide⟩
theorem immX6_proves : Cond.instanceMethod mX6_proves.1 ∈ WA := (mW2 (i := 195) rfl rfl)
theorem ovmX6_proves : CokV mX6_proves 4 5 := ⟨okmX6_proves, immX6_proves, (mW2 (i := 196) rfl rfl), ⟨TX6, 4, rfl⟩⟩
theorem okmX6_countOfProofs : Cok mX6_countOfProofs 4 := ⟨(mW3 (i := 67) rfl rfl), (mW1 (i := 9) rfl rfl), by decide +kernel, by decide⟩
theorem immX6_countOfProofs : Cond.instanceMethod mX6_countOfProofs.1 ∈ WA := (mW3 (i := 65) rfl rfl)
theorem ovmX6_countOfProofs : CokV mX6_countOfProofs 4 5 := ⟨okmX6_countOfProofs, immX6_countOfProofs, (mW3 (i := 66) rfl rfl), ⟨TX6, 4, rfl⟩⟩
theorem okmX6_ask : Cok mX6_ask 4 := ⟨(mW2 (i := 201) rfl rfl), (mW1 (i := 9) rfl rfl), by decide +kernel, by decide⟩
theorem immX6_ask : Cond.instanceMethod mX6_ask.1 ∈ WA := (mW2 (i := 200) rfl rfl)
theorem ovmX6_ask : CokV mX6_ask 4 5 := ⟨okmX6_ask, immX6_ask, (mS (i := 5) (q := (yX6_ask, 4)) rfl rfl), ⟨TX6, 4, rfl⟩⟩
theorem okmX6_prove : Cok mX6_prove 4 := ⟨(mW2 (i := 229) rfl rfl), (mW1 (i := 9) rfl rfl), by decide +kernel, by decide⟩
theorem immX6_prove : Cond.instanceMethod mX6_prove.1 ∈ WA := (mW2 (i := 228) rfl rfl)
theorem ovmX6_prove : CokV mX6_prove 4 5 := ⟨okmX6_prove, immX6_prove, (mS (i := 7) (q := (yX6_prove, 4)) rfl rfl), ⟨TX6, 4, rfl⟩⟩
theorem okmX6_proveByGoal : Cok mX6_proveByGoal 4 := ⟨(mW3 (i := 14) rfl rfl), (mW1 (i := 9) rfl rfl), by decide +kernel, by decide⟩
theorem immX6_proveByGoal : Cond.instanceMethod mX6_proveByGoal.1 ∈ WA := (mW3 (i := 13) rfl rfl)
theorem ovmX6_proveByGoal : CokV mX6_proveByGoal 4 5 := ⟨okmX6_proveByGoal, immX6_proveByGoal, (mS (i := 8) (q := (yX6_proveByGoal, 4)) rfl rfl), ⟨TX6, 4, rfl⟩⟩
theorem okmX6_proveParts : Cok mX6_proveParts 5 := ⟨(mW3 (i := 20) rfl rfl), (mW1 (i := 9) rfl rfl), by decide +kernel, by decide⟩
theorem immX6_proveParts : Cond.instanceMethod mX6_proveParts.1 ∈ WA := (mW3 (i := 19) rfl rfl)
theorem ovmX6_proveParts : CokV mX6_proveParts 5 5 := ⟨okmX6_proveParts, immX6_proveParts, (mS (i := 9) (q := (yX6_proveParts, 4)) rfl rfl), ⟨TX6, 4, rfl⟩⟩
theorem okmX6_proveByPlace : Cok mX6_proveByPlace 5 := ⟨(mW3 (i := 47) rfl rfl), (mW1 (i := 9) rfl rfl), by decide +kernel, by decide⟩
theorem immX6_proveByPlace : Cond.instanceMethod mX6_proveByPlace.1 ∈ WA := (mW3 (i := 46) rfl rfl)
theorem ovmX6_proveByPlace : CokV mX6_proveByPlace 5 5 := ⟨okmX6_proveByPlace, immX6_proveByPlace, (mS (i := 13) (q := (yX6_proveByPlace, 4)) rfl rfl), ⟨TX6, 4, rfl⟩⟩
theorem okmX6_proveUse : Cok mX6_proveUse 6 := ⟨(mW3 (i := 55) rfl rfl), (mW1 (i := 9) rfl rfl), by decide +kernel, by decide⟩
theorem immX6_proveUse : Cond.instanceMethod mX6_proveUse.1 ∈ WA := (mW3 (i := 54) rfl rfl)
theorem ovmX6_proveUse : CokV mX6_proveUse 6 5 := ⟨okmX6_proveUse, immX6_proveUse, (mS (i := 14) (q := (yX6_proveUse, 4)) rfl rfl), ⟨TX6, 4, rfl⟩⟩
theorem okmX6_isEnough : Cok mX6_isEnough 1 := ⟨(mW3 (i := 24) rfl rfl), (mW1 (i := 9) rfl rfl), by decide +kernel, by decide⟩
theorem immX6_isEnough : Cond.instanceMethod mX6_isEnough.1 ∈ WA := (mW3 (i := 23) rfl rfl)
theorem ovmX6_isEnough : CokV mX6_isEnough 1 5 := ⟨okmX6_isEnough, immX6_isEnough, (mS (i := 10) (q := (yX6_isEnough, 4)) rfl rfl), ⟨TX6, 4, rfl⟩⟩
theorem okmX6_plus : Cok mX6_plus 2 := ⟨(mW3 (i := 39) rfl rfl), (mW1 (i := 9) rfl rfl), by decide +kernel, by decide⟩
theorem immX6_plus : Cond.instanceMethod mX6_plus.1 ∈ WA := (mW3 (i := 38) rfl rfl)
theorem ovmX6_plus : CokV mX6_plus 2 5 := ⟨okmX6_plus, immX6_plus, (mS (i := 12) (q := (yX6_plus, 4)) rfl rfl), ⟨TX6, 4, rfl⟩⟩
theorem okmX6_times : Cok mX6_times 2 := ⟨(mW3 (i := 31) rfl rfl), (mW1 (i := 9) rfl rfl), by decide +kernel, by decide⟩
theorem immX6_times : Cond.instanceMethod mX6_times.1 ∈ WA := (mW3 (i := 30) rfl rfl)
theorem ovmX6_times : CokV mX6_times 2 5 := ⟨okmX6_times, immX6_times, (mS (i := 11) (q := (yX6_times, 4)) rfl rfl), ⟨TX6, 4, rfl⟩⟩
theorem okmX7_init : Cok mX7_init 1 := ⟨(mW2 (i := 16) rfl rfl), (mW1 (i := 11) rfl rfl), by decide +kernel, by decide⟩
theorem immX7_init : Cond.instanceMethod mX7_init.1 ∈ WA := (mW2 (i := 15) rfl rfl)
theorem okmX7_open : Cok mX7_open 4 := ⟨(mW3 (i := 156) rfl rfl), (mW1 (i := 11) rfl rfl), by decide +kernel, by decide⟩
theorem immX7_open : Cond.instanceMethod mX7_open.1 ∈ WA := (mW3 (i := 154) rfl rfl)
theorem ovmX7_open : CokV mX7_open 4 6 := ⟨okmX7_open, immX7_open, (mW3 (i := 155) rfl rfl), ⟨TX7, 8, rfl⟩⟩
theorem okmX7_countOfReadings : Cok mX7_countOfReadings 2 := ⟨(mW3 (i := 160) rfl rfl), (mW1 (i := 11) rfl rfl), by decide +kernel, by decide⟩
theorem immX7_countOfReadings : Cond.instanceMethod mX7_countOfReadings.1 ∈ WA := (mW3 (i := 158) rfl rfl)
theorem ovmX7_countOfReadings : CokV mX7_countOfReadings 2 6 := ⟨okmX7_countOfReadings, immX7_countOfReadings, (mW3 (i := 159) rfl rfl), ⟨TX7, 8, rfl⟩⟩
theorem okmX7_sumOfMeanings : Cok mX7_sumOfMeanings 2 := ⟨(mW3 (i := 178) rfl rfl), (mW1 (i := 11) rfl rfl), by decide +kernel, by decide⟩
theorem immX7_sumOfMeanings : Cond.instanceMethod mX7_sumOfMeanings.1 ∈ WA := (mW3 (i := 176) rfl rfl)
theorem ovmX7_sumOfMeanings : CokV mX7_sumOfMeanings 2 6 := ⟨okmX7_sumOfMeanings, immX7_sumOfMeanings, (mW3 (i := 177) rfl rfl), ⟨TX7, 8, rfl⟩⟩
theorem okmX7_firstReading : Cok mX7_firstReading 2 := ⟨(mW3 (i := 187) rfl rfl), (mW1 (i := 11) rfl rfl), by decide +kernel, by decide⟩
theorem immX7_firstReading : Cond.instanceMethod mX7_firstReading.1 ∈ WA := (mW3 (i := 185) rfl rfl)
theorem ovmX7_firstReading : CokV mX7_firstReading 2 6 := ⟨okmX7_firstReading, immX7_firstReading, (mW3 (i := 186) rfl rfl), ⟨TX7, 8, rfl⟩⟩
theorem okmX7_kindNumberIn : Cok mX7_kindNumberIn 4 := ⟨(mW3 (i := 172) rfl rfl), (mW1 (i := 11) rfl rfl), by decide +kernel, by decide⟩
theorem immX7_kindNumberIn : Cond.instanceMethod mX7_kindNumberIn.1 ∈ WA := (mW3 (i := 170) rfl rfl)
theorem ovmX7_kindNumberIn : CokV mX7_kindNumberIn 4 6 := ⟨okmX7_kindNumberIn, immX7_kindNumberIn, (mW3 (i := 171) rfl rfl), ⟨TX7, 8, rfl⟩⟩
theorem okmX7_countOfReadableRows : Cok mX7_countOfReadableRows 1 := ⟨(mW3 (i := 196) rfl rfl), (mW1 (i := 11) rfl rfl), by decide +kernel, by decide⟩
theorem immX7_countOfReadableRows : Cond.instanceMethod mX7_countOfReadableRows.1 ∈ WA := (mW3 (i := 194) rfl rfl)
theorem ovmX7_countOfReadableRows : CokV mX7_countOfReadableRows 1 6 := ⟨okmX7_countOfReadableRows, immX7_countOfReadableRows, (mW3 (i := 195) rfl rfl), ⟨TX7, 8, rfl⟩⟩
theorem okmX7_findNearestRow : Cok mX7_findNearestRow 2 := ⟨(mW3 (i := 216) rfl rfl), (mW1 (i := 11) rfl rfl), by decide +kernel, by decide⟩
theorem immX7_findNearestRow : Cond.instanceMethod mX7_findNearestRow.1 ∈ WA := (mW3 (i := 214) rfl rfl)
theorem ovmX7_findNearestRow : CokV mX7_findNearestRow 2 6 := ⟨okmX7_findNearestRow, immX7_findNearestRow, (mW3 (i := 215) rfl rfl), ⟨TX7, 8, rfl⟩⟩
theorem okmX7_wordOfNearestRow : Cok mX7_wordOfNearestRow 1 := ⟨(mW3 (i := 224) rfl rfl), (mW1 (i := 11) rfl rfl), by decide +kernel, by decide⟩
theorem immX7_wordOfNearestRow : Cond.instanceMethod mX7_wordOfNearestRow.1 ∈ WA := (mW3 (i := 222) rfl rfl)
theorem ovmX7_wordOfNearestRow : CokV mX7_wordOfNearestRow 1 6 := ⟨okmX7_wordOfNearestRow, immX7_wordOfNearestRow, (mW3 (i := 223) rfl rfl), ⟨TX7, 8, rfl⟩⟩
theorem okmX7_countOfChoices : Cok mX7_countOfChoices 2 := ⟨(mW3 (i := 164) rfl rfl), (mW1 (i := 11) rfl rfl), by decide +kernel, by decide⟩
theorem immX7_countOfChoices : Cond.instanceMethod mX7_countOfChoices.1 ∈ WA := (mW3 (i := 163) rfl rfl)
theorem ovmX7_countOfChoices : CokV mX7_countOfChoices 2 6 := ⟨okmX7_countOfChoices, immX7_countOfChoices, (mS (i := 20) (q := (yX7_countOfChoices, 8)) rfl rfl), ⟨TX7, 8, rfl⟩⟩
theorem okmX7_meaningsOfChoice : Cok mX7_meaningsOfChoice 3 := ⟨(mW3 (i := 168) rfl rfl), (mW1 (i := 11) rfl rfl), by decide +kernel, by decide⟩
theorem immX7_meaningsOfChoice : Cond.instanceMethod mX7_meaningsOfChoice.1 ∈ WA := (mW3 (i := 167) rfl rfl)
theorem ovmX7_meaningsOfChoice : CokV mX7_meaningsOfChoice 3 6 := ⟨okmX7_meaningsOfChoice, immX7_meaningsOfChoice, (mS (i := 21) (q := (yX7_meaningsOfChoice, 8)) rfl rfl), ⟨TX7, 8, rfl⟩⟩
theorem okmX7_countOfRows : Cok mX7_countOfRows 1 := ⟨(mW3 (i := 199) rfl rfl), (mW1 (i := 11) rfl rfl), by decide +kernel, by decide⟩
theorem stmX7_countOfRows : Cond.static mX7_countOfRows.1 ∈ WA := (mW3 (i := 198) rfl rfl)
theorem okmX7_tryRow : Cok mX7_tryRow 2 := ⟨(mW3 (i := 203) rfl rfl), (mW1 (i := 11) rfl rfl), by decide +kernel, by decide⟩
theorem immX7_tryRow : Cond.instanceMethod mX7_tryRow.1 ∈ WA := (mW3 (i := 202) rfl rfl)
theorem ovmX7_tryRow : CokV mX7_tryRow 2 6 := ⟨okmX7_tryRow, immX7_tryRow, (mS (i := 22) (q := (yX7_tryRow, 8)) rfl rfl), ⟨TX7, 8, rfl⟩⟩
theorem okmX7_changesOf : Cok mX7_changesOf 2 := ⟨(mW3 (i := 220) rfl rfl), (mW1 (i := 11) rfl rfl), by decide +kernel, by decide⟩
theorem immX7_changesOf : Cond.instanceMethod mX7_changesOf.1 ∈ WA := (mW3 (i := 219) rfl rfl)
theorem ovmX7_changesOf : CokV mX7_changesOf 2 6 := ⟨okmX7_changesOf, immX7_changesOf, (mS (i := 23) (q := (yX7_changesOf, 8)) rfl rfl), ⟨TX7, 8, rfl⟩⟩
theorem okmX8_init : Cok mX8_init 0 := ⟨(mW1 (i := 19) rfl rfl), (mW1 (i := 1) rfl rfl), by decide +kernel, by decide⟩
theorem immX8_init : Cond.instanceMethod mX8_init.1 ∈ WA := (mW1 (i := 18) rfl rfl)
theorem okmX8_type : Cok mX8_type 2 := ⟨(mW2 (i := 81) rfl rfl), (mW1 (i := 1) rfl rfl), by decide +kernel, by decide⟩
theorem immX8_type : Cond.instanceMethod mX8_type.1 ∈ WA := (mW2 (i := 79) rfl rfl)
theorem ovmX8_type : CokV mX8_type 2 7 := ⟨okmX8_type, immX8_type, (mW2 (i := 80) rfl rfl), ⟨TX8, 10, rfl⟩⟩
theorem okmX8_clear : Cok mX8_clear 0 := ⟨(mW2 (i := 97) rfl rfl), (mW1 (i := 1) rfl rfl), by decide +kernel, by decide⟩
theorem immX8_clear : Cond.instanceMethod mX8_clear.1 ∈ WA := (mW2 (i := 95) rfl rfl)
theorem ovmX8_clear : CokV mX8_clear 0 7 := ⟨okmX8_clear, immX8_clear, (mW2 (i := 96) rfl rfl), ⟨TX8, 10, rfl⟩⟩
theorem okmX8_read : Cok mX8_read 1 := ⟨(mW2 (i := 105) rfl rfl), (mW1 (i := 1) rfl rfl), by decide +kernel, by decide⟩
theorem immX8_read : Cond.instanceMethod mX8_read.1 ∈ WA := (mW2 (i := 103) rfl rfl)
theorem ovmX8_read : CokV mX8_read 1 7 := ⟨okmX8_read, immX8_read, (mW2 (i := 104) rfl rfl), ⟨TX8, 10, rfl⟩⟩
theorem okmX8_about : Cok mX8_about 2 := ⟨(mW2 (i := 137) rfl rfl), (mW1 (i := 1) rfl rfl), by decide +kernel, by decide⟩
theorem immX8_about : Cond.instanceMethod mX8_about.1 ∈ WA := (mW2 (i := 135) rfl rfl)
theorem ovmX8_about : CokV mX8_about 2 7 := ⟨okmX8_about, immX8_about, (mW2 (i := 136) rfl rfl), ⟨TX8, 10, rfl⟩⟩
theorem okmX8_balance : Cok mX8_balance 2 := ⟨(mW2 (i := 145) rfl rfl), (mW1 (i := 1) rfl rfl), by decide +kernel, by decide⟩
theorem immX8_balance : Cond.instanceMethod mX8_balance.1 ∈ WA := (mW2 (i := 143) rfl rfl)
theorem ovmX8_balance : CokV mX8_balance 2 7 := ⟨okmX8_balance, immX8_balance, (mW2 (i := 144) rfl rfl), ⟨TX8, 10, rfl⟩⟩
theorem okmX8_letter : Cok mX8_letter 2 := ⟨(mW2 (i := 154) rfl rfl), (mW1 (i := 1) rfl rfl), by decide +kernel, by decide⟩
theorem immX8_letter : Cond.instanceMethod mX8_letter.1 ∈ WA := (mW2 (i := 152) rfl rfl)
theorem ovmX8_letter : CokV mX8_letter 2 7 := ⟨okmX8_letter, immX8_letter, (mW2 (i := 153) rfl rfl), ⟨TX8, 10, rfl⟩⟩
theorem okmX8_alike : Cok mX8_alike 3 := ⟨(mW2 (i := 163) rfl rfl), (mW1 (i := 1) rfl rfl), by decide +kernel, by decide⟩
theorem immX8_alike : Cond.instanceMethod mX8_alike.1 ∈ WA := (mW2 (i := 161) rfl rfl)
theorem ovmX8_alike : CokV mX8_alike 3 7 := ⟨okmX8_alike, immX8_alike, (mW2 (i := 162) rfl rfl), ⟨TX8, 10, rfl⟩⟩
theorem okmX8_add : Cok mX8_add 1 := ⟨(mW2 (i := 175) rfl rfl), (mW1 (i := 1) rfl rfl), by decide +kernel, by decide⟩
theorem immX8_add : Cond.instanceMethod mX8_add.1 ∈ WA := (mW2 (i := 173) rfl rfl)
theorem ovmX8_add : CokV mX8_add 1 7 := ⟨okmX8_add, immX8_add, (mW2 (i := 174) rfl rfl), ⟨TX8, 10, rfl⟩⟩
theorem okmX8_wipe : Cok mX8_wipe 0 := ⟨(mW2 (i := 179) rfl rfl), (mW1 (i := 1) rfl rfl), by decide +kernel, by decide⟩
theorem immX8_wipe : Cond.instanceMethod mX8_wipe.1 ∈ WA := (mW2 (i := 177) rfl rfl)
theorem ovmX8_wipe : CokV mX8_wipe 0 7 := ⟨okmX8_wipe, immX8_wipe, (mW2 (i := 178) rfl rfl), ⟨TX8, 10, rfl⟩⟩
theorem okmX8_is : Cok mX8_is 2 := ⟨(mW2 (i := 183) rfl rfl), (mW1 (i := 1) rfl rfl), by decide +kernel, by decide⟩
theorem immX8_is : Cond.instanceMethod mX8_is.1 ∈ WA := (mW2 (i := 181) rfl rfl)
theorem ovmX8_is : CokV mX8_is 2 7 := ⟨okmX8_is, immX8_is, (mW2 (i := 182) rfl rfl), ⟨TX8, 10, rfl⟩⟩
theorem okmX8_proofs : Cok mX8_proofs 2 := ⟨(mW3 (i := 63) rfl rfl), (mW1 (i := 1) rfl rfl), by decide +kernel, by decide⟩
theorem immX8_proofs : Cond.instanceMethod mX8_proofs.1 ∈ WA := (mW3 (i := 61) rfl rfl)
theorem ovmX8_proofs : CokV mX8_proofs 2 7 := ⟨okmX8_proofs, immX8_proofs, (mW3 (i := 62) rfl rfl), ⟨TX8, 10, rfl⟩⟩
theorem okmX8_meanings : Cok mX8_meanings 2 := ⟨(mW3 (i := 71) rfl rfl), (mW1 (i := 1) rfl rfl), by decide +kernel, by decide⟩
theorem immX8_meanings : Cond.instanceMethod mX8_meanings.1 ∈ WA := (mW3 (i := 69) rfl rfl)
theorem ovmX8_meanings : CokV mX8_meanings 2 7 := ⟨okmX8_meanings, immX8_meanings, (mW3 (i := 70) rfl rfl), ⟨TX8, 10, rfl⟩⟩
theorem okmX8_heads : Cok mX8_heads 2 := ⟨(mW3 (i := 123) rfl rfl), (mW1 (i := 1) rfl rfl), by decide +kernel, by decide⟩
theorem immX8_heads : Cond.instanceMethod mX8_heads.1 ∈ WA := (mW3 (i := 121) rfl rfl)
theorem ovmX8_heads : CokV mX8_heads 2 7 := ⟨okmX8_heads, immX8_heads, (mW3 (i := 122) rfl rfl), ⟨TX8, 10, rfl⟩⟩
theorem okmX8_word : Cok mX8_word 2 := ⟨(mW3 (i := 131) rfl rfl), (mW1 (i := 1) rfl rfl), by decide +kernel, by decide⟩
theorem immX8_word : Cond.instanceMethod mX8_word.1 ∈ WA := (mW3 (i := 129) rfl rfl)
theorem ovmX8_word : CokV mX8_word 2 7 := ⟨okmX8_word, immX8_word, (mW3 (i := 130) rfl rfl), ⟨TX8, 10, rfl⟩⟩
theorem okmX8_say : Cok mX8_say 1 := ⟨(mW3 (i := 144) rfl rfl), (mW1 (i := 1) rfl rfl), by decide +kernel, by decide⟩
theorem immX8_say : Cond.instanceMethod mX8_say.1 ∈ WA := (mW3 (i := 142) rfl rfl)
theorem ovmX8_say : CokV mX8_say 1 7 := ⟨okmX8_say, immX8_say, (mW3 (i := 143) rfl rfl), ⟨TX8, 10, rfl⟩⟩
theorem okmX8_hush : Cok mX8_hush 0 := ⟨(mW3 (i := 148) rfl rfl), (mW1 (i := 1) rfl rfl), by decide +kernel, by decide⟩
theorem immX8_hush : Cond.instanceMethod mX8_hush.1 ∈ WA := (mW3 (i := 146) rfl rfl)
theorem ovmX8_hush : CokV mX8_hush 0 7 := ⟨okmX8_hush, immX8_hush, (mW3 (i := 147) rfl rfl), ⟨TX8, 10, rfl⟩⟩
theorem okmX8_reads : Cok mX8_reads 3 := ⟨(mW3 (i := 152) rfl rfl), (mW1 (i := 1) rfl rfl), by decide +kernel, by decide⟩
theorem immX8_reads : Cond.instanceMethod mX8_reads.1 ∈ WA := (mW3 (i := 150) rfl rfl)
theorem ovmX8_reads : CokV mX8_reads 3 7 := ⟨okmX8_reads, immX8_reads, (mW3 (i := 151) rfl rfl), ⟨TX8, 10, rfl⟩⟩
theorem okmX8_first : Cok mX8_first 3 := ⟨(mW3 (i := 183) rfl rfl), (mW1 (i := 1) rfl rfl), by decide +kernel, by decide⟩
theorem immX8_first : Cond.instanceMethod mX8_first.1 ∈ WA := (mW3 (i := 181) rfl rfl)
theorem ovmX8_first : CokV mX8_first 3 7 := ⟨okmX8_first, immX8_first, (mW3 (i := 182) rfl rfl), ⟨TX8, 10, rfl⟩⟩
theorem okmX8_rows : Cok mX8_rows 3 := ⟨(mW3 (i := 192) rfl rfl), (mW1 (i := 1) rfl rfl), by decide +kernel, by decide⟩
theorem immX8_rows : Cond.instanceMethod mX8_rows.1 ∈ WA := (mW3 (i := 190) rfl rfl)
theorem ovmX8_rows : CokV mX8_rows 3 7 := ⟨okmX8_rows, immX8_rows, (mW3 (i := 191) rfl rfl), ⟨TX8, 10, rfl⟩⟩
theorem okmX8_near : Cok mX8_near 3 := ⟨(mW3 (i := 212) rfl rfl), (mW1 (i := 1) rfl rfl), by decide +kernel, by decide⟩
theorem immX8_near : Cond.instanceMethod mX8_near.1 ∈ WA := (mW3 (i := 210) rfl rfl)
theorem ovmX8_near : CokV mX8_near 3 7 := ⟨okmX8_near, immX8_near, (mW3 (i := 211) rfl rfl), ⟨TX8, 10, rfl⟩⟩
theorem okmX8_count : Cok mX8_count 1 := ⟨(mW3 (i := 228) rfl rfl), (mW1 (i := 1) rfl rfl), by decide +kernel, by decide⟩
theorem immX8_count : Cond.instanceMethod mX8_count.1 ∈ WA := (mW3 (i := 226) rfl rfl)
theorem ovmX8_count : CokV mX8_count 1 7 := ⟨okmX8_count, immX8_count, (mW3 (i := 227) rfl rfl), ⟨TX8, 10, rfl⟩⟩
theorem okmX8_isKindNumber : Cok mX8_isKindNumber 1 := ⟨(mW2 (i := 108) rfl rfl), (mW1 (i := 1) rfl rfl), by decide +kernel, by decide⟩
theorem stmX8_isKindNumber : Cond.static mX8_isKindNumber.1 ∈ WA := (mW2 (i := 107) rfl rfl)
theorem okmX8_isLogic : Cok mX8_isLogic 1 := ⟨(mW2 (i := 186) rfl rfl), (mW1 (i := 1) rfl rfl), by decide +kernel, by decide⟩
theorem stmX8_isLogic : Cond.static mX8_isLogic.1 ∈ WA := (mW2 (i := 185) rfl rfl)
theorem okmX8_isWord : Cok mX8_isWord 1 := ⟨(mW3 (i := 134) rfl rfl), (mW1 (i := 1) rfl rfl), by decide +kernel, by decide⟩
theorem stmX8_isWord : Cond.static mX8_isWord.1 ∈ WA := (mW3 (i := 133) rfl rfl)
theorem okmX8_provable : Cok mX8_provable 1 := ⟨(mW2 (i := 190) rfl rfl), (mW1 (i := 1) rfl rfl), by decide +kernel, by decide⟩
theorem immX8_provable : Cond.instanceMethod mX8_provable.1 ∈ WA := (mW2 (i := 189) rfl rfl)
theorem ovmX8_provable : CokV mX8_provable 1 7 := ⟨okmX8_provable, immX8_provable, (mS (i := 4) (q := (yX8_provable, 10)) rfl rfl), ⟨TX8, 10, rfl⟩⟩
theorem okmX9_init : Cok mX9_init 0 := ⟨(mW3 (i := 233) rfl rfl), (mW1 (i := 12) rfl rfl), by decide +kernel, by decide⟩
theorem immX9_init : Cond.instanceMethod mX9_init.1 ∈ WA := (mW3 (i := 232) rfl rfl)
theorem okmX9_in : Cok mX9_in 3 := ⟨(mW4 (i := 161) rfl rfl), (mW1 (i := 12) rfl rfl), by decide +kernel, by decide⟩
theorem stmX9_in : Cond.static mX9_in.1 ∈ WA := (mW4 (i := 160) rfl rfl)
theorem okmX9_isKind : Cok mX9_isKind 1 := ⟨(mW4 (i := 173) rfl rfl), (mW1 (i := 12) rfl rfl), by decide +kernel, by decide⟩
theorem stmX9_isKind : Cond.static mX9_isKind.1 ∈ WA := (mW4 (i := 172) rfl rfl)
theorem okmX9_type : Cok mX9_type 2 := ⟨(mW4 (i := 158) rfl rfl), (mW1 (i := 12) rfl rfl), by decide +kernel, by decide⟩
theorem immX9_type : Cond.instanceMethod mX9_type.1 ∈ WA := (mW4 (i := 156) rfl rfl)
theorem ovmX9_type : CokV mX9_type 2 8 := ⟨okmX9_type, immX9_type, (mW4 (i := 157) rfl rfl), ⟨TX9, 52, rfl⟩⟩
theorem okmX9_clear : Cok mX9_clear 0 := ⟨(mW4 (i := 166) rfl rfl), (mW1 (i := 12) rfl rfl), by decide +kernel, by decide⟩
theorem immX9_clear : Cond.instanceMethod mX9_clear.1 ∈ WA := (mW4 (i := 164) rfl rfl)
theorem ovmX9_clear : CokV mX9_clear 0 8 := ⟨okmX9_clear, immX9_clear, (mW4 (i := 165) rfl rfl), ⟨TX9, 52, rfl⟩⟩
theorem okmX9_isSign : Cok mX9_isSign 1 := ⟨(mW4 (i := 184) rfl rfl), (mW1 (i := 12) rfl rfl), by decide +kernel, by decide⟩
theorem stmX9_isSign : Cond.static mX9_isSign.1 ∈ WA := (mW4 (i := 183) rfl rfl)
theorem okmX9_part : Cok mX9_part 3 := ⟨(mW4 (i := 181) rfl rfl), (mW1 (i := 12) rfl rfl), by decide +kernel, by decide⟩
theorem immX9_part : Cond.instanceMethod mX9_part.1 ∈ WA := (mW4 (i := 180) rfl rfl)
theorem ovmX9_part : CokV mX9_part 3 8 := ⟨okmX9_part, immX9_part, (mS (i := 25) (q := (yX9_part, 52)) rfl rfl), ⟨TX9, 52, rfl⟩⟩
theorem okmX9_isRead : Cok mX9_isRead 0 := ⟨(mW4 (i := 177) rfl rfl), (mW1 (i := 12) rfl rfl), by decide +kernel, by decide⟩
theorem immX9_isRead : Cond.instanceMethod mX9_isRead.1 ∈ WA := (mW4 (i := 176) rfl rfl)
theorem ovmX9_isRead : CokV mX9_isRead 0 8 := ⟨okmX9_isRead, immX9_isRead, (mS (i := 24) (q := (yX9_isRead, 52)) rfl rfl), ⟨TX9, 52, rfl⟩⟩
theorem okmX9_read : Cok mX9_read 1 := ⟨(mW4 (i := 170) rfl rfl), (mW1 (i := 12) rfl rfl), by decide +kernel, by decide⟩
theorem immX9_read : Cond.instanceMethod mX9_read.1 ∈ WA := (mW4 (i := 168) rfl rfl)
theorem ovmX9_read : CokV mX9_read 1 8 := ⟨okmX9_read, immX9_read, (mW4 (i := 169) rfl rfl), ⟨TX9, 52, rfl⟩⟩
theorem okmX9_atomsOf : Cok mX9_atomsOf 1 := ⟨(mW4 (i := 192) rfl rfl), (mW1 (i := 12) rfl rfl), by decide +kernel, by decide⟩
theorem immX9_atomsOf : Cond.instanceMethod mX9_atomsOf.1 ∈ WA := (mW4 (i := 191) rfl rfl)
theorem ovmX9_atomsOf : CokV mX9_atomsOf 1 8 := ⟨okmX9_atomsOf, immX9_atomsOf, (mS (i := 27) (q := (yX9_atomsOf, 52)) rfl rfl), ⟨TX9, 52, rfl⟩⟩
theorem okmX9_spells : Cok mX9_spells 1 := ⟨(mW4 (i := 188) rfl rfl), (mW1 (i := 12) rfl rfl), by decide +kernel, by decide⟩
theorem immX9_spells : Cond.instanceMethod mX9_spells.1 ∈ WA := (mW4 (i := 187) rfl rfl)
theorem ovmX9_spells : CokV mX9_spells 1 8 := ⟨okmX9_spells, immX9_spells, (mS (i := 26) (q := (yX9_spells, 52)) rfl rfl), ⟨TX9, 52, rfl⟩⟩
theorem okmX9_works : Cok mX9_works 1 := ⟨(mW4 (i := 200) rfl rfl), (mW1 (i := 12) rfl rfl), by decide +kernel, by decide⟩
theorem immX9_works : Cond.instanceMethod mX9_works.1 ∈ WA := (mW4 (i := 199) rfl rfl)
theorem ovmX9_works : CokV mX9_works 1 8 := ⟨okmX9_works, immX9_works, (mS (i := 28) (q := (yX9_works, 52)) rfl rfl), ⟨TX9, 52, rfl⟩⟩
theorem okmX9_about : Cok mX9_about 2 := ⟨(mW4 (i := 196) rfl rfl), (mW1 (i := 12) rfl rfl), by decide +kernel, by decide⟩
theorem immX9_about : Cond.instanceMethod mX9_about.1 ∈ WA := (mW4 (i := 194) rfl rfl)
theorem ovmX9_about : CokV mX9_about 2 8 := ⟨okmX9_about, immX9_about, (mW4 (i := 195) rfl rfl), ⟨TX9, 52, rfl⟩⟩
theorem okmX9_balanceOf : Cok mX9_balanceOf 2 := ⟨(mW4 (i := 208) rfl rfl), (mW1 (i := 12) rfl rfl), by decide +kernel, by decide⟩
theorem immX9_balanceOf : Cond.instanceMethod mX9_balanceOf.1 ∈ WA := (mW4 (i := 207) rfl rfl)
theorem ovmX9_balanceOf : CokV mX9_balanceOf 2 8 := ⟨okmX9_balanceOf, immX9_balanceOf, (mS (i := 29) (q := (yX9_balanceOf, 52)) rfl rfl), ⟨TX9, 52, rfl⟩⟩
theorem okmX9_balance : Cok mX9_balance 2 := ⟨(mW4 (i := 204) rfl rfl), (mW1 (i := 12) rfl rfl), by decide +kernel, by decide⟩
theorem immX9_balance : Cond.instanceMethod mX9_balance.1 ∈ WA := (mW4 (i := 202) rfl rfl)
theorem ovmX9_balance : CokV mX9_balance 2 8 := ⟨okmX9_balance, immX9_balance, (mW4 (i := 203) rfl rfl), ⟨TX9, 52, rfl⟩⟩
theorem okmX9_letter : Cok mX9_letter 2 := ⟨(mW4 (i := 213) rfl rfl), (mW1 (i := 12) rfl rfl), by decide +kernel, by decide⟩
theorem immX9_letter : Cond.instanceMethod mX9_letter.1 ∈ WA := (mW4 (i := 211) rfl rfl)
theorem ovmX9_letter : CokV mX9_letter 2 8 := ⟨okmX9_letter, immX9_letter, (mW4 (i := 212) rfl rfl), ⟨TX9, 52, rfl⟩⟩
theorem okmX9_alike : Cok mX9_alike 3 := ⟨(mW4 (i := 217) rfl rfl), (mW1 (i := 12) rfl rfl), by decide +kernel, by decide⟩
theorem immX9_alike : Cond.instanceMethod mX9_alike.1 ∈ WA := (mW4 (i := 215) rfl rfl)
theorem ovmX9_alike : CokV mX9_alike 3 8 := ⟨okmX9_alike, immX9_alike, (mW4 (i := 216) rfl rfl), ⟨TX9, 52, rfl⟩⟩
theorem okmX9_add : Cok mX9_add 1 := ⟨(mW4 (i := 221) rfl rfl), (mW1 (i := 12) rfl rfl), by decide +kernel, by decide⟩
theorem immX9_add : Cond.instanceMethod mX9_add.1 ∈ WA := (mW4 (i := 219) rfl rfl)
theorem ovmX9_add : CokV mX9_add 1 8 := ⟨okmX9_add, immX9_add, (mW4 (i := 220) rfl rfl), ⟨TX9, 52, rfl⟩⟩
theorem okmX9_wipe : Cok mX9_wipe 0 := ⟨(mW4 (i := 225) rfl rfl), (mW1 (i := 12) rfl rfl), by decide +kernel, by decide⟩
theorem immX9_wipe : Cond.instanceMethod mX9_wipe.1 ∈ WA := (mW4 (i := 223) rfl rfl)
theorem ovmX9_wipe : CokV mX9_wipe 0 8 := ⟨okmX9_wipe, immX9_wipe, (mW4 (i := 224) rfl rfl), ⟨TX9, 52, rfl⟩⟩
theorem okmX9_begins : Cok mX9_begins 3 := ⟨(mW5 (i := 0) rfl rfl), (mW1 (i := 12) rfl rfl), by decide +kernel, by decide⟩
theorem immX9_begins : Cond.instanceMethod mX9_begins.1 ∈ WA := (mW4 (i := 239) rfl rfl)
theorem ovmX9_begins : CokV mX9_begins 3 8 := ⟨okmX9_begins, immX9_begins, (mS (i := 31) (q := (yX9_begins, 52)) rfl rfl), ⟨TX9, 52, rfl⟩⟩
theorem okmX9_atoms : Cok mX9_atoms 0 := ⟨(mW5 (i := 4) rfl rfl), (mW1 (i := 12) rfl rfl), by decide +kernel, by decide⟩
theorem immX9_atoms : Cond.instanceMethod mX9_atoms.1 ∈ WA := (mW5 (i := 3) rfl rfl)
theorem ovmX9_atoms : CokV mX9_atoms 0 8 := ⟨okmX9_atoms, immX9_atoms, (mS (i := 32) (q := (yX9_atoms, 52)) rfl rfl), ⟨TX9, 52, rfl⟩⟩
theorem okmX9_hasTimes : Cok mX9_hasTimes 0 := ⟨(mW5 (i := 50) rfl rfl), (mW1 (i := 12) rfl rfl), by decide +kernel, by decide⟩
theorem immX9_hasTimes : Cond.instanceMethod mX9_hasTimes.1 ∈ WA := (mW5 (i := 49) rfl rfl)
theorem ovmX9_hasTimes : CokV mX9_hasTimes 0 8 := ⟨okmX9_hasTimes, immX9_hasTimes, (mS (i := 41) (q := (yX9_hasTimes, 52)) rfl rfl), ⟨TX9, 52, rfl⟩⟩
theorem okmX9_find : Cok mX9_find 0 := ⟨(mW5 (i := 12) rfl rfl), (mW1 (i := 12) rfl rfl), by decide +kernel, by decide⟩
theorem immX9_find : Cond.instanceMethod mX9_find.1 ∈ WA := (mW5 (i := 11) rfl rfl)
theorem ovmX9_find : CokV mX9_find 0 8 := ⟨okmX9_find, immX9_find, (mS (i := 34) (q := (yX9_find, 52)) rfl rfl), ⟨TX9, 52, rfl⟩⟩
theorem okmX9_some : Cok mX9_some 4 := ⟨(mW5 (i := 34) rfl rfl), (mW1 (i := 12) rfl rfl), by decide +kernel, by decide⟩
theorem immX9_some : Cond.instanceMethod mX9_some.1 ∈ WA := (mW5 (i := 33) rfl rfl)
theorem ovmX9_some : CokV mX9_some 4 8 := ⟨okmX9_some, immX9_some, (mS (i := 39) (q := (yX9_some, 52)) rfl rfl), ⟨TX9, 52, rfl⟩⟩
theorem okmX9_put : Cok mX9_put 6 := ⟨(mW5 (i := 21) rfl rfl), (mW1 (i := 12) rfl rfl), by decide +kernel, by decide⟩
theorem immX9_put : Cond.instanceMethod mX9_put.1 ∈ WA := (mW5 (i := 20) rfl rfl)
theorem ovmX9_put : CokV mX9_put 6 8 := ⟨okmX9_put, immX9_put, (mS (i := 36) (q := (yX9_put, 52)) rfl rfl), ⟨TX9, 52, rfl⟩⟩
theorem okmX9_adds : Cok mX9_adds 3 := ⟨(mW5 (i := 25) rfl rfl), (mW1 (i := 12) rfl rfl), by decide +kernel, by decide⟩
theorem immX9_adds : Cond.instanceMethod mX9_adds.1 ∈ WA := (mW5 (i := 24) rfl rfl)
theorem ovmX9_adds : CokV mX9_adds 3 8 := ⟨okmX9_adds, immX9_adds, (mS (i := 37) (q := (yX9_adds, 52)) rfl rfl), ⟨TX9, 52, rfl⟩⟩
theorem okmX9_proves : Cok mX9_proves 1 := ⟨(mW5 (i := 38) rfl rfl), (mW1 (i := 12) rfl rfl), by decide +kernel, by decide⟩
theorem immX9_proves : Cond.instanceMethod mX9_proves.1 ∈ WA := (mW5 (i := 37) rfl rfl)
theorem ovmX9_proves : CokV mX9_proves 1 8 := ⟨okmX9_proves, immX9_proves, (mS (i := 40) (q := (yX9_proves, 52)) rfl rfl), ⟨TX9, 52, rfl⟩⟩
theorem okmX9_means : Cok mX9_means 1 := ⟨(mW5 (i := 17) rfl rfl), (mW1 (i := 12) rfl rfl), by decide +kernel, by decide⟩
theorem immX9_means : Cond.instanceMethod mX9_means.1 ∈ WA := (mW5 (i := 16) rfl rfl)
theorem ovmX9_means : CokV mX9_means 1 8 := ⟨okmX9_means, immX9_means, (mS (i := 35) (q := (yX9_means, 52)) rfl rfl), ⟨TX9, 52, rfl⟩⟩
theorem okmX9_spines : Cok mX9_spines 3 := ⟨(mW5 (i := 30) rfl rfl), (mW1 (i := 12) rfl rfl), by decide +kernel, by decide⟩
theorem immX9_spines : Cond.instanceMethod mX9_spines.1 ∈ WA := (mW5 (i := 29) rfl rfl)
theorem ovmX9_spines : CokV mX9_spines 3 8 := ⟨okmX9_spines, immX9_spines, (mS (i := 38) (q := (yX9_spines, 52)) rfl rfl), ⟨TX9, 52, rfl⟩⟩
theorem okmX9_tells : Cok mX9_tells 2 := ⟨(mW5 (i := 8) rfl rfl), (mW1 (i := 12) rfl rfl), by decide +kernel, by decide⟩
theorem immX9_tells : Cond.instanceMethod mX9_tells.1 ∈ WA := (mW5 (i := 7) rfl rfl)
theorem ovmX9_tells : CokV mX9_tells 2 8 := ⟨okmX9_tells, immX9_tells, (mS (i := 33) (q := (yX9_tells, 52)) rfl rfl), ⟨TX9, 52, rfl⟩⟩
theorem okmX9_isLogic : Cok mX9_isLogic 1 := ⟨(mW4 (i := 236) rfl rfl), (mW1 (i := 12) rfl rfl), by decide +kernel, by decide⟩
theorem stmX9_isLogic : Cond.static mX9_isLogic.1 ∈ WA := (mW4 (i := 235) rfl rfl)
theorem okmX9_proved : Cok mX9_proved 3 := ⟨(mW4 (i := 233) rfl rfl), (mW1 (i := 12) rfl rfl), by decide +kernel, by decide⟩
theorem immX9_proved : Cond.instanceMethod mX9_proved.1 ∈ WA := (mW4 (i := 232) rfl rfl)
theorem ovmX9_proved : CokV mX9_proved 3 8 := ⟨okmX9_proved, immX9_proved, (mS (i := 30) (q := (yX9_proved, 52)) rfl rfl), ⟨TX9, 52, rfl⟩⟩
theorem okmX9_is : Cok mX9_is 2 := ⟨(mW4 (i := 229) rfl rfl), (mW1 (i := 12) rfl rfl), by decide +kernel, by decide⟩
theorem immX9_is : Cond.instanceMethod mX9_is.1 ∈ WA := (mW4 (i := 227) rfl rfl)
theorem ovmX9_is : CokV mX9_is 2 8 := ⟨okmX9_is, immX9_is, (mW4 (i := 228) rfl rfl), ⟨TX9, 52, rfl⟩⟩
theorem okmX9_proofs : Cok mX9_proofs 2 := ⟨(mW5 (i := 42) rfl rfl), (mW1 (i := 12) rfl rfl), by decide +kernel, by decide⟩
theorem immX9_proofs : Cond.instanceMethod mX9_proofs.1 ∈ WA := (mW5 (i := 40) rfl rfl)
theorem ovmX9_proofs : CokV mX9_proofs 2 8 := ⟨okmX9_proofs, immX9_proofs, (mW5 (i := 41) rfl rfl), ⟨TX9, 52, rfl⟩⟩
theorem okmX9_meanings : Cok mX9_meanings 2 := ⟨(mW5 (i := 46) rfl rfl), (mW1 (i := 12) rfl rfl), by decide +kernel, by decide⟩
theorem immX9_meanings : Cond.instanceMethod mX9_meanings.1 ∈ WA := (mW5 (i := 44) rfl rfl)
theorem ovmX9_meanings : CokV mX9_meanings 2 8 := ⟨okmX9_meanings, immX9_meanings, (mW5 (i := 45) rfl rfl), ⟨TX9, 52, rfl⟩⟩
theorem okmX9_heads : Cok mX9_heads 2 := ⟨(mW5 (i := 54) rfl rfl), (mW1 (i := 12) rfl rfl), by decide +kernel, by decide⟩
theorem immX9_heads : Cond.instanceMethod mX9_heads.1 ∈ WA := (mW5 (i := 52) rfl rfl)
theorem ovmX9_heads : CokV mX9_heads 2 8 := ⟨okmX9_heads, immX9_heads, (mW5 (i := 53) rfl rfl), ⟨TX9, 52, rfl⟩⟩
theorem okmX9_ones : Cok mX9_ones 1 := ⟨(mW5 (i := 61) rfl rfl), (mW1 (i := 12) rfl rfl), by decide +kernel, by decide⟩
theorem stmX9_ones : Cond.static mX9_ones.1 ∈ WA := (mW5 (i := 60) rfl rfl)
theorem okmX9_word : Cok mX9_word 2 := ⟨(mW5 (i := 58) rfl rfl), (mW1 (i := 12) rfl rfl), by decide +kernel, by decide⟩
theorem immX9_word : Cond.instanceMethod mX9_word.1 ∈ WA := (mW5 (i := 56) rfl rfl)
theorem ovmX9_word : CokV mX9_word 2 8 := ⟨okmX9_word, immX9_word, (mW5 (i := 57) rfl rfl), ⟨TX9, 52, rfl⟩⟩
theorem okmX9_say : Cok mX9_say 1 := ⟨(mW5 (i := 65) rfl rfl), (mW1 (i := 12) rfl rfl), by decide +kernel, by decide⟩
theorem immX9_say : Cond.instanceMethod mX9_say.1 ∈ WA := (mW5 (i := 63) rfl rfl)
theorem ovmX9_say : CokV mX9_say 1 8 := ⟨okmX9_say, immX9_say, (mW5 (i := 64) rfl rfl), ⟨TX9, 52, rfl⟩⟩
theorem okmX9_hush : Cok mX9_hush 0 := ⟨(mW5 (i := 69) rfl rfl), (mW1 (i := 12) rfl rfl), by decide +kernel, by decide⟩
theorem immX9_hush : Cond.instanceMethod mX9_hush.1 ∈ WA := (mW5 (i := 67) rfl rfl)
theorem ovmX9_hush : CokV mX9_hush 0 8 := ⟨okmX9_hush, immX9_hush, (mW5 (i := 68) rfl rfl), ⟨TX9, 52, rfl⟩⟩
theorem okmX9_kindBehind : Cok mX9_kindBehind 2 := ⟨(mW5 (i := 85) rfl rfl), (mW1 (i := 12) rfl rfl), by decide +kernel, by decide⟩
theorem immX9_kindBehind : Cond.instanceMethod mX9_kindBehind.1 ∈ WA := (mW5 (i := 84) rfl rfl)
theorem ovmX9_kindBehind : CokV mX9_kindBehind 2 8 := ⟨okmX9_kindBehind, immX9_kindBehind, (mS (i := 44) (q := (yX9_kindBehind, 52)) rfl rfl), ⟨TX9, 52, rfl⟩⟩
theorem okmX9_choices : Cok mX9_choices 4 := ⟨(mW5 (i := 81) rfl rfl), (mW1 (i := 12) rfl rfl), by decide +kernel, by decide⟩
theorem immX9_choices : Cond.instanceMethod mX9_choices.1 ∈ WA := (mW5 (i := 80) rfl rfl)
theorem ovmX9_choices : CokV mX9_choices 4 8 := ⟨okmX9_choices, immX9_choices, (mS (i := 43) (q := (yX9_choices, 52)) rfl rfl), ⟨TX9, 52, rfl⟩⟩
theorem okmX9_takes : Cok mX9_takes 0 := ⟨(mW5 (i := 77) rfl rfl), (mW1 (i := 12) rfl rfl), by decide +kernel, by decide⟩
theorem immX9_takes : Cond.instanceMethod mX9_takes.1 ∈ WA := (mW5 (i := 76) rfl rfl)
theorem ovmX9_takes : CokV mX9_takes 0 8 := ⟨okmX9_takes, immX9_takes, (mS (i := 42) (q := (yX9_takes, 52)) rfl rfl), ⟨TX9, 52, rfl⟩⟩
theorem okmX9_reads : Cok mX9_reads 3 := ⟨(mW5 (i := 73) rfl rfl), (mW1 (i := 12) rfl rfl), by decide +kernel, by decide⟩
theorem immX9_reads : Cond.instanceMethod mX9_reads.1 ∈ WA := (mW5 (i := 71) rfl rfl)
theorem ovmX9_reads : CokV mX9_reads 3 8 := ⟨okmX9_reads, immX9_reads, (mW5 (i := 72) rfl rfl), ⟨TX9, 52, rfl⟩⟩
theorem okmX9_first : Cok mX9_first 3 := ⟨(mW5 (i := 89) rfl rfl), (mW1 (i := 12) rfl rfl), by decide +kernel, by decide⟩
theorem immX9_first : Cond.instanceMethod mX9_first.1 ∈ WA := (mW5 (i := 87) rfl rfl)
theorem ovmX9_first : CokV mX9_first 3 8 := ⟨okmX9_first, immX9_first, (mW5 (i := 88) rfl rfl), ⟨TX9, 52, rfl⟩⟩
theorem okmX9_rows : Cok mX9_rows 3 := ⟨(mW5 (i := 93) rfl rfl), (mW1 (i := 12) rfl rfl), by decide +kernel, by decide⟩
theorem immX9_rows : Cond.instanceMethod mX9_rows.1 ∈ WA := (mW5 (i := 91) rfl rfl)
theorem ovmX9_rows : CokV mX9_rows 3 8 := ⟨okmX9_rows, immX9_rows, (mW5 (i := 92) rfl rfl), ⟨TX9, 52, rfl⟩⟩
theorem okmX9_near : Cok mX9_near 3 := ⟨(mW5 (i := 97) rfl rfl), (mW1 (i := 12) rfl rfl), by decide +kernel, by decide⟩
theorem immX9_near : Cond.instanceMethod mX9_near.1 ∈ WA := (mW5 (i := 95) rfl rfl)
theorem ovmX9_near : CokV mX9_near 3 8 := ⟨okmX9_near, immX9_near, (mW5 (i := 96) rfl rfl), ⟨TX9, 52, rfl⟩⟩
theorem okmX9_count : Cok mX9_count 1 := ⟨(mW5 (i := 101) rfl rfl), (mW1 (i := 12) rfl rfl), by decide +kernel, by decide⟩
theorem immX9_count : Cond.instanceMethod mX9_count.1 ∈ WA := (mW5 (i := 99) rfl rfl)
theorem ovmX9_count : CokV mX9_count 1 8 := ⟨okmX9_count, immX9_count, (mW5 (i := 100) rfl rfl), ⟨TX9, 52, rfl⟩⟩
theorem okmJ6_bitCount_0f7a4 : Cok mJ6_bitCount_0f7a4 1 := ⟨(mW3 (i := 137) rfl rfl), (mW1 (i := 14) rfl rfl), by decide +kernel, by decide⟩
theorem stmJ6_bitCount_0f7a4 : Cond.static mJ6_bitCount_0f7a4.1 ∈ WA := (mW3 (i := 136) rfl rfl)
theorem okmJ9_floorMod_7cf53 : Cok mJ9_floorMod_7cf53 2 := ⟨(mW3 (i := 207) rfl rfl), (mW1 (i := 5) rfl rfl), by decide +kernel, by decide⟩
theorem stmJ9_floorMod_7cf53 : Cond.static mJ9_floorMod_7cf53.1 ∈ WA := (mW3 (i := 206) rfl rfl)
theorem okmJ9_max_7cf53 : Cok mJ9_max_7cf53 2 := ⟨(mW1 (i := 99) rfl rfl), (mW1 (i := 5) rfl rfl), by decide +kernel, by decide⟩
theorem stmJ9_max_7cf53 : Cond.static mJ9_max_7cf53.1 ∈ WA := (mW1 (i := 98) rfl rfl)
theorem okmJ9_max_f86c9 : Cok mJ9_max_f86c9 2 := ⟨(mW3 (i := 42) rfl rfl), (mW1 (i := 5) rfl rfl), by decide +kernel, by decide⟩
theorem stmJ9_max_f86c9 : Cond.static mJ9_max_f86c9.1 ∈ WA := (mW3 (i := 41) rfl rfl)
theorem okmJ9_min_7cf53 : Cok mJ9_min_7cf53 2 := ⟨(mW1 (i := 90) rfl rfl), (mW1 (i := 5) rfl rfl), by decide +kernel, by decide⟩
theorem stmJ9_min_7cf53 : Cond.static mJ9_min_7cf53.1 ∈ WA := (mW1 (i := 89) rfl rfl)
theorem okmJ9_min_f86c9 : Cok mJ9_min_f86c9 2 := ⟨(mW3 (i := 34) rfl rfl), (mW1 (i := 5) rfl rfl), by decide +kernel, by decide⟩
theorem stmJ9_min_f86c9 : Cond.static mJ9_min_f86c9.1 ∈ WA := (mW3 (i := 33) rfl rfl)
theorem okmJ7_copyOf_59c91 : Cok mJ7_copyOf_59c91 2 := ⟨(mW1 (i := 80) rfl rfl), (mW1 (i := 4) rfl rfl), by decide +kernel, by decide⟩
theorem stmJ7_copyOf_59c91 : Cond.static mJ7_copyOf_59c91.1 ∈ WA := (mW1 (i := 79) rfl rfl)
theorem mlL_9 : Cond.methodLink RL 9 mX8_init.1 ∈ WA := (mW1 (i := 17) rfl rfl)
theorem mlX8_1 : Cond.methodLink RX8 1 objectInit ∈ WA := (mW1 (i := 20) rfl rfl)
theorem nwX8_7 : NWok RX8 7 1 := ⟨RX1, TX1, 11, rfl, (mW1 (i := 23) rfl rfl), (mW1 (i := 24) rfl rfl), (mW1 (i := 2) rfl rfl)⟩
theorem mlX8_9 : ∀ U : State, NX U → va_Nw (.methodLinkNest RX8 9 mX1_init.1 "SlashKinds") U := fun U h => h.1
theorem mlX1_1 : Cond.methodLink RX1 1 objectInit ∈ WA := (mW1 (i := 28) rfl rfl)
theorem flX1_9 : FLok RX1 9 1 0 := ⟨RX1, TX1, 11, rfl, by decide, (mW1 (i := 29) rfl rfl)⟩
theorem flX1_13 : FLok RX1 13 1 1 := ⟨RX1, TX1, 11, rfl, by decide, (mW1 (i := 30) rfl rfl)⟩
theorem flX1_19 : FLok RX1 19 1 2 := ⟨RX1, TX1, 11, rfl, by decide, (mW1 (i := 31) rfl rfl)⟩
theorem flX1_22 : FLok RX1 22 1 3 := ⟨RX1, TX1, 11, rfl, by decide, (mW1 (i := 32) rfl rfl)⟩
theorem flX1_25 : FLok RX1 25 1 4 := ⟨RX1, TX1, 11, rfl, by decide, (mW1 (i := 33) rfl rfl)⟩
theorem flX1_28 : FLok RX1 28 1 5 := ⟨RX1, TX1, 11, rfl, by decide, (mW1 (i := 34) rfl rfl)⟩
theorem flX1_31 : FLok RX1 31 1 6 := ⟨RX1, TX1, 11, rfl, by decide, (mW1 (i := 35) rfl rfl)⟩
theorem flX1_34 : FLok RX1 34 1 7 := ⟨RX1, TX1, 11, rfl, by decide, (mW1 (i := 36) rfl rfl)⟩
theorem flX1_37 : FLok RX1 37 1 8 := ⟨RX1, TX1, 11, rfl, by decide, (mW1 (i := 37) rfl rfl)⟩
theorem flX1_40 : FLok RX1 40 1 9 := ⟨RX1, TX1, 11, rfl, by decide, (mW1 (i := 38) rfl rfl)⟩
theorem flX1_43 : FLok RX1 43 1 10 := ⟨RX1, TX1, 11, rfl, by decide, (mW1 (i := 39) rfl rfl)⟩
theorem nwX8_16 : NWok RX8 16 0 := ⟨RX0, TX0, 12, rfl, (mW1 (i := 64) rfl rfl), (mW1 (i := 73) rfl rfl), (mW1 (i := 3) rfl rfl)⟩
theorem mlX8_39 : Cond.methodLink RX8 39 mX0_ofAtom.1 ∈ WA := (mW1 (i := 66) rfl rfl)
theorem mlX0_75 : Cond.methodLink RX0 75 mX0_of.1 ∈ WA := (mW1 (i := 69) rfl rfl)
theorem nwX0_1 : NWok RX0 1 0 := ⟨RX0, TX0, 12, rfl, (mW1 (i := 72) rfl rfl), (mW1 (i := 73) rfl rfl), (mW1 (i := 3) rfl rfl)⟩
theorem mlX0_68 : Cond.methodLink RX0 68 mX0_init.1 ∈ WA := (mW1 (i := 74) rfl rfl)
theorem mlX0_5 : Cond.methodLink RX0 5 objectInit ∈ WA := (mW1 (i := 77) rfl rfl)
theorem mlX0_26 : Cond.methodLink RX0 26 mJ7_copyOf_59c91.1 ∈ WA := (mW1 (i := 78) rfl rfl)
theorem mlX0_44 : Cond.methodLink RX0 44 mX0_orderOf.1 ∈ WA := (mW1 (i := 94) rfl rfl)
theorem mlX0_79 : Cond.methodLink RX0 79 mJ9_max_7cf53.1 ∈ WA := (mW1 (i := 97) rfl rfl)
theorem mlX0_48 : Cond.methodLink RX0 48 mX0_goalOf.1 ∈ WA := (mW1 (i := 100) rfl rfl)
theorem mlX0_51 : Cond.methodLink RX0 51 mX0_balancesOf.1 ∈ WA := (mW1 (i := 103) rfl rfl)
theorem flX0_32 : FLok RX0 32 0 0 := ⟨RX0, TX0, 12, rfl, by decide, (mW1 (i := 106) rfl rfl)⟩
theorem flX4_38 : FLok RX4 38 0 0 := ⟨RX0, TX0, 12, rfl, by decide, (mW1 (i := 107) rfl rfl)⟩
theorem flX0_35 : FLok RX0 35 0 1 := ⟨RX0, TX0, 12, rfl, by decide, (mW1 (i := 108) rfl rfl)⟩
theorem flX4_39 : FLok RX4 39 0 1 := ⟨RX0, TX0, 12, rfl, by decide, (mW1 (i := 109) rfl rfl)⟩
theorem flX0_38 : FLok RX0 38 0 2 := ⟨RX0, TX0, 12, rfl, by decide, (mW1 (i := 110) rfl rfl)⟩
theorem flX4_40 : FLok RX4 40 0 2 := ⟨RX0, TX0, 12, rfl, by decide, (mW1 (i := 111) rfl rfl)⟩
theorem flX0_11 : FLok RX0 11 0 3 := ⟨RX0, TX0, 12, rfl, by decide, (mW1 (i := 112) rfl rfl)⟩
theorem flX4_59 : FLok RX4 59 0 3 := ⟨RX0, TX0, 12, rfl, by decide, (mW1 (i := 113) rfl rfl)⟩
theorem flX0_15 : FLok RX0 15 0 4 := ⟨RX0, TX0, 12, rfl, by decide, (mW1 (i := 114) rfl rfl)⟩
theorem flX4_62 : FLok RX4 62 0 4 := ⟨RX0, TX0, 12, rfl, by decide, (mW1 (i := 115) rfl rfl)⟩
theorem flX0_41 : FLok RX0 41 0 5 := ⟨RX0, TX0, 12, rfl, by decide, (mW1 (i := 116) rfl rfl)⟩
theorem flX4_35 : FLok RX4 35 0 5 := ⟨RX0, TX0, 12, rfl, by decide, (mW1 (i := 117) rfl rfl)⟩
theorem flX0_55 : FLok RX0 55 0 6 := ⟨RX0, TX0, 12, rfl, by decide, (mW1 (i := 118) rfl rfl)⟩
theorem flX2_33 : FLok RX2 33 0 6 := ⟨RX0, TX0, 12, rfl, by decide, (mW1 (i := 119) rfl rfl)⟩
theorem flX8_99 : FLok RX8 99 0 6 := ⟨RX0, TX0, 12, rfl, by decide, (mW1 (i := 120) rfl rfl)⟩
theorem flX0_58 : FLok RX0 58 0 7 := ⟨RX0, TX0, 12, rfl, by decide, (mW1 (i := 121) rfl rfl)⟩
theorem flX8_102 : FLok RX8 102 0 7 := ⟨RX0, TX0, 12, rfl, by decide, (mW1 (i := 122) rfl rfl)⟩
theorem flX0_61 : FLok RX0 61 0 8 := ⟨RX0, TX0, 12, rfl, by decide, (mW1 (i := 123) rfl rfl)⟩
theorem flX8_105 : FLok RX8 105 0 8 := ⟨RX0, TX0, 12, rfl, by decide, (mW1 (i := 124) rfl rfl)⟩
theorem flX0_64 : FLok RX0 64 0 9 := ⟨RX0, TX0, 12, rfl, by decide, (mW1 (i := 125) rfl rfl)⟩
theorem flX2_61 : FLok RX2 61 0 9 := ⟨RX0, TX0, 12, rfl, by decide, (mW1 (i := 126) rfl rfl)⟩
theorem flX0_19 : FLok RX0 19 0 10 := ⟨RX0, TX0, 12, rfl, by decide, (mW1 (i := 127) rfl rfl)⟩
theorem flX0_22 : FLok RX0 22 0 11 := ⟨RX0, TX0, 12, rfl, by decide, (mW1 (i := 128) rfl rfl)⟩
theorem mlX0_71 : Cond.methodLink RX0 71 mX0_spell.1 ∈ WA := (mW1 (i := 155) rfl rfl)
theorem mlX0_86 : Cond.methodLink RX0 86 mX0_spellAtom.1 ∈ WA := (mW1 (i := 158) rfl rfl)
theorem nwX8_43 : NWok RX8 43 4 := ⟨RX4, TX4, 7, rfl, (mW1 (i := 161) rfl rfl), (mW1 (i := 162) rfl rfl), (mW1 (i := 7) rfl rfl)⟩
theorem mlX8_45 : ∀ U : State, NX U → va_Nw (.methodLinkNest RX8 45 mX4_init.1 "SlashKinds") U := fun U h => h.2.1
theorem mlX4_3 : Cond.methodLink RX4 3 objectInit ∈ WA := (mW1 (i := 166) rfl rfl)
theorem flX4_9 : FLok RX4 9 4 0 := ⟨RX4, TX4, 7, rfl, by decide, (mW1 (i := 167) rfl rfl)⟩
theorem flX6_95 : FLok RX6 95 4 0 := ⟨RX4, TX4, 7, rfl, by decide, (mW1 (i := 168) rfl rfl)⟩
theorem flX2_84 : FLok RX2 84 4 0 := ⟨RX4, TX4, 7, rfl, by decide, (mW1 (i := 169) rfl rfl)⟩
theorem flX4_13 : FLok RX4 13 4 1 := ⟨RX4, TX4, 7, rfl, by decide, (mW1 (i := 170) rfl rfl)⟩
theorem flX6_88 : FLok RX6 88 4 1 := ⟨RX4, TX4, 7, rfl, by decide, (mW1 (i := 171) rfl rfl)⟩
theorem flX2_98 : FLok RX2 98 4 1 := ⟨RX4, TX4, 7, rfl, by decide, (mW1 (i := 172) rfl rfl)⟩
theorem flX4_16 : FLok RX4 16 4 2 := ⟨RX4, TX4, 7, rfl, by decide, (mW1 (i := 173) rfl rfl)⟩
theorem flX6_92 : FLok RX6 92 4 2 := ⟨RX4, TX4, 7, rfl, by decide, (mW1 (i := 174) rfl rfl)⟩
theorem flX2_88 : FLok RX2 88 4 2 := ⟨RX4, TX4, 7, rfl, by decide, (mW1 (i := 175) rfl rfl)⟩
theorem flX4_19 : FLok RX4 19 4 3 := ⟨RX4, TX4, 7, rfl, by decide, (mW1 (i := 176) rfl rfl)⟩
theorem flX2_121 : FLok RX2 121 4 3 := ⟨RX4, TX4, 7, rfl, by decide, (mW1 (i := 177) rfl rfl)⟩
theorem flX4_22 : FLok RX4 22 4 4 := ⟨RX4, TX4, 7, rfl, by decide, (mW1 (i := 178) rfl rfl)⟩
theorem flX6_58 : FLok RX6 58 4 4 := ⟨RX4, TX4, 7, rfl, by decide, (mW1 (i := 179) rfl rfl)⟩
theorem flX2_81 : FLok RX2 81 4 4 := ⟨RX4, TX4, 7, rfl, by decide, (mW1 (i := 180) rfl rfl)⟩
theorem flX4_28 : FLok RX4 28 4 5 := ⟨RX4, TX4, 7, rfl, by decide, (mW1 (i := 181) rfl rfl)⟩
theorem flX4_31 : FLok RX4 31 4 6 := ⟨RX4, TX4, 7, rfl, by decide, (mW1 (i := 182) rfl rfl)⟩
theorem nwX8_46 : NWok RX8 46 3 := ⟨RX3, TX3, 4, rfl, (mW1 (i := 198) rfl rfl), (mW1 (i := 199) rfl rfl), (mW1 (i := 8) rfl rfl)⟩
theorem mlX8_48 : ∀ U : State, NX U → va_Nw (.methodLinkNest RX8 48 mX3_init.1 "SlashKinds") U := fun U h => h.2.2.1
theorem mlX3_1 : Cond.methodLink RX3 1 objectInit ∈ WA := (mW1 (i := 203) rfl rfl)
theorem flX3_9 : FLok RX3 9 3 0 := ⟨RX3, TX3, 4, rfl, by decide, (mW1 (i := 204) rfl rfl)⟩
theorem flX3_13 : FLok RX3 13 3 1 := ⟨RX3, TX3, 4, rfl, by decide, (mW1 (i := 205) rfl rfl)⟩
theorem flX3_17 : FLok RX3 17 3 2 := ⟨RX3, TX3, 4, rfl, by decide, (mW1 (i := 206) rfl rfl)⟩
theorem flX3_20 : FLok RX3 20 3 3 := ⟨RX3, TX3, 4, rfl, by decide, (mW1 (i := 207) rfl rfl)⟩
theorem nwX8_49 : NWok RX8 49 5 := ⟨RX6, TX6, 4, rfl, (mW1 (i := 217) rfl rfl), (mW1 (i := 218) rfl rfl), (mW1 (i := 9) rfl rfl)⟩
theorem mlX8_51 : Cond.methodLink RX8 51 mX6_init.1 ∈ WA := (mW1 (i := 219) rfl rfl)
theorem mlX6_3 : Cond.methodLink RX6 3 objectInit ∈ WA := (mW1 (i := 222) rfl rfl)
theorem flX6_18 : FLok RX6 18 5 0 := ⟨RX6, TX6, 4, rfl, by decide, (mW1 (i := 223) rfl rfl)⟩
theorem flX6_22 : FLok RX6 22 5 1 := ⟨RX6, TX6, 4, rfl, by decide, (mW1 (i := 224) rfl rfl)⟩
theorem flX6_9 : FLok RX6 9 5 2 := ⟨RX6, TX6, 4, rfl, by decide, (mW1 (i := 225) rfl rfl)⟩
theorem flX6_15 : FLok RX6 15 5 3 := ⟨RX6, TX6, 4, rfl, by decide, (mW1 (i := 226) rfl rfl)⟩
theorem nwX8_58 : NWok RX8 58 2 := ⟨RX2, TX2, 3, rfl, (mW1 (i := 236) rfl rfl), (mW1 (i := 237) rfl rfl), (mW1 (i := 10) rfl rfl)⟩
theorem mlX8_60 : Cond.methodLink RX8 60 mX2_init.1 ∈ WA := (mW1 (i := 238) rfl rfl)
theorem mlX2_3 : Cond.methodLink RX2 3 objectInit ∈ WA := (mW2 (i := 1) rfl rfl)
theorem flX2_15 : FLok RX2 15 2 0 := ⟨RX2, TX2, 3, rfl, by decide, (mW2 (i := 2) rfl rfl)⟩
theorem flX2_19 : FLok RX2 19 2 1 := ⟨RX2, TX2, 3, rfl, by decide, (mW2 (i := 3) rfl rfl)⟩
theorem flX2_9 : FLok RX2 9 2 2 := ⟨RX2, TX2, 3, rfl, by decide, (mW2 (i := 4) rfl rfl)⟩
theorem nwX8_65 : NWok RX8 65 6 := ⟨RX7, TX7, 8, rfl, (mW2 (i := 12) rfl rfl), (mW2 (i := 13) rfl rfl), (mW1 (i := 11) rfl rfl)⟩
theorem mlX8_67 : Cond.methodLink RX8 67 mX7_init.1 ∈ WA := (mW2 (i := 14) rfl rfl)
theorem mlX7_3 : Cond.methodLink RX7 3 objectInit ∈ WA := (mW2 (i := 17) rfl rfl)
theorem nwX7_9 : NWok RX7 9 0 := ⟨RX0, TX0, 12, rfl, (mW2 (i := 18) rfl rfl), (mW1 (i := 73) rfl rfl), (mW1 (i := 3) rfl rfl)⟩
theorem mlX7_40 : Cond.methodLink RX7 40 mX0_ofAtom.1 ∈ WA := (mW2 (i := 21) rfl rfl)
theorem flX7_36 : FLok RX7 36 6 0 := ⟨RX7, TX7, 8, rfl, by decide, (mW2 (i := 22) rfl rfl)⟩
theorem flX7_11 : FLok RX7 11 6 1 := ⟨RX7, TX7, 8, rfl, by decide, (mW2 (i := 23) rfl rfl)⟩
theorem flX7_19 : FLok RX7 19 6 2 := ⟨RX7, TX7, 8, rfl, by decide, (mW2 (i := 24) rfl rfl)⟩
theorem flX7_22 : FLok RX7 22 6 3 := ⟨RX7, TX7, 8, rfl, by decide, (mW2 (i := 25) rfl rfl)⟩
theorem flX7_26 : FLok RX7 26 6 4 := ⟨RX7, TX7, 8, rfl, by decide, (mW2 (i := 26) rfl rfl)⟩
theorem flX7_29 : FLok RX7 29 6 5 := ⟨RX7, TX7, 8, rfl, by decide, (mW2 (i := 27) rfl rfl)⟩
theorem flX7_44 : FLok RX7 44 6 6 := ⟨RX7, TX7, 8, rfl, by decide, (mW2 (i := 28) rfl rfl)⟩
theorem flX7_32 : FLok RX7 32 6 7 := ⟨RX7, TX7, 8, rfl, by decide, (mW2 (i := 29) rfl rfl)⟩
theorem flX8_10 : FLok RX8 10 7 0 := ⟨RX8, TX8, 10, rfl, by decide, (mW2 (i := 47) rfl rfl)⟩
theorem flX8_18 : FLok RX8 18 7 1 := ⟨RX8, TX8, 10, rfl, by decide, (mW2 (i := 48) rfl rfl)⟩
theorem flX8_22 : FLok RX8 22 7 2 := ⟨RX8, TX8, 10, rfl, by decide, (mW2 (i := 49) rfl rfl)⟩
theorem flX8_25 : FLok RX8 25 7 3 := ⟨RX8, TX8, 10, rfl, by decide, (mW2 (i := 50) rfl rfl)⟩
theorem flX8_29 : FLok RX8 29 7 4 := ⟨RX8, TX8, 10, rfl, by decide, (mW2 (i := 51) rfl rfl)⟩
theorem flX8_33 : FLok RX8 33 7 5 := ⟨RX8, TX8, 10, rfl, by decide, (mW2 (i := 52) rfl rfl)⟩
theorem flX8_36 : FLok RX8 36 7 6 := ⟨RX8, TX8, 10, rfl, by decide, (mW2 (i := 53) rfl rfl)⟩
theorem flX8_54 : FLok RX8 54 7 7 := ⟨RX8, TX8, 10, rfl, by decide, (mW2 (i := 54) rfl rfl)⟩
theorem flX8_61 : FLok RX8 61 7 8 := ⟨RX8, TX8, 10, rfl, by decide, (mW2 (i := 55) rfl rfl)⟩
theorem flX8_70 : FLok RX8 70 7 9 := ⟨RX8, TX8, 10, rfl, by decide, (mW2 (i := 56) rfl rfl)⟩
theorem mlL_15 : Cond.methodLink RL 15 mX8_type.1 ∈ WA := (mW2 (i := 78) rfl rfl)
theorem mlX8_74 : Cond.methodLink RX8 74 mX1_hasRoomFor.1 ∈ WA := (mW2 (i := 82) rfl rfl)
theorem mlX8_78 : Cond.methodLink RX8 78 mX1_append.1 ∈ WA := (mW2 (i := 86) rfl rfl)
theorem mlX8_82 : Cond.methodLink RX8 82 mX1_length.1 ∈ WA := (mW2 (i := 90) rfl rfl)
theorem mlL_20 : Cond.methodLink RL 20 mX8_clear.1 ∈ WA := (mW2 (i := 94) rfl rfl)
theorem mlX8_86 : Cond.methodLink RX8 86 mX1_empty.1 ∈ WA := (mW2 (i := 98) rfl rfl)
theorem mlL_25 : Cond.methodLink RL 25 mX8_read.1 ∈ WA := (mW2 (i := 102) rfl rfl)
theorem mlX8_89 : Cond.methodLink RX8 89 mX8_isKindNumber.1 ∈ WA := (mW2 (i := 106) rfl rfl)
theorem mlX8_92 : Cond.methodLink RX8 92 mX1_findFault.1 ∈ WA := (mW2 (i := 109) rfl rfl)
theorem mlX1_47 : Cond.methodLink RX1 47 mX1_startKind.1 ∈ WA := (mW2 (i := 113) rfl rfl)
theorem mlX1_58 : Cond.methodLink RX1 58 mX1_appendNode.1 ∈ WA := (mW2 (i := 117) rfl rfl)
theorem mlX1_51 : Cond.methodLink RX1 51 mX1_goOn.1 ∈ WA := (mW2 (i := 121) rfl rfl)
theorem mlX1_62 : Cond.methodLink RX1 62 mX1_close.1 ∈ WA := (mW2 (i := 125) rfl rfl)
theorem mlX8_95 : Cond.methodLink RX8 95 mX1_parsedKind.1 ∈ WA := (mW2 (i := 129) rfl rfl)
theorem mlX1_54 : Cond.methodLink RX1 54 mX0_of.1 ∈ WA := (mW2 (i := 133) rfl rfl)
theorem mlL_30 : Cond.methodLink RL 30 mX8_about.1 ∈ WA := (mW2 (i := 134) rfl rfl)
theorem mlX8_108 : Cond.methodLink RX8 108 mX0_letterCount.1 ∈ WA := (mW2 (i := 138) rfl rfl)
theorem mlL_35 : Cond.methodLink RL 35 mX8_balance.1 ∈ WA := (mW2 (i := 142) rfl rfl)
theorem cnX8_111 : Cond.constant RX8 111 (iI (-1000000)) ∈ WA := (mW2 (i := 146) rfl rfl)
theorem mlX8_112 : Cond.methodLink RX8 112 mX0_balanceOf.1 ∈ WA := (mW2 (i := 147) rfl rfl)
theorem mlL_39 : Cond.methodLink RL 39 mX8_letter.1 ∈ WA := (mW2 (i := 151) rfl rfl)
theorem mlX8_116 : Cond.methodLink RX8 116 mX0_letterAt.1 ∈ WA := (mW2 (i := 155) rfl rfl)
theorem cnX0_85 : Cond.constant RX0 85 (iI (-1000000)) ∈ WA := (mW2 (i := 159) rfl rfl)
theorem mlL_43 : Cond.methodLink RL 43 mX8_alike.1 ∈ WA := (mW2 (i := 160) rfl rfl)
theorem mlX8_119 : Cond.methodLink RX8 119 mX0_hasTextOf.1 ∈ WA := (mW2 (i := 164) rfl rfl)
theorem mlX8_123 : Cond.methodLink RX8 123 mX0_hasLettersOf.1 ∈ WA := (mW2 (i := 168) rfl rfl)
theorem mlL_48 : Cond.methodLink RL 48 mX8_add.1 ∈ WA := (mW2 (i := 172) rfl rfl)
theorem mlL_52 : Cond.methodLink RL 52 mX8_wipe.1 ∈ WA := (mW2 (i := 176) rfl rfl)
theorem mlL_56 : Cond.methodLink RL 56 mX8_is.1 ∈ WA := (mW2 (i := 180) rfl rfl)
theorem mlX8_126 : Cond.methodLink RX8 126 mX8_isLogic.1 ∈ WA := (mW2 (i := 184) rfl rfl)
theorem mlX8_129 : Cond.methodLink RX8 129 mX8_provable.1 ∈ WA := (mW2 (i := 187) rfl rfl)
theorem mlX8_185 : Cond.methodLink RX8 185 mX0_atomsOf.1 ∈ WA := (mW2 (i := 191) rfl rfl)
theorem mlX8_132 : Cond.methodLink RX8 132 mX6_proves.1 ∈ WA := (mW2 (i := 194) rfl rfl)
theorem mlX6_26 : Cond.methodLink RX6 26 mX6_ask.1 ∈ WA := (mW2 (i := 198) rfl rfl)
theorem mlX6_30 : Cond.methodLink RX6 30 mX4_empty.1 ∈ WA := (mW2 (i := 202) rfl rfl)
theorem mlX6_35 : Cond.methodLink RX6 35 mX3_forget.1 ∈ WA := (mW2 (i := 206) rfl rfl)
theorem mlX6_40 : Cond.methodLink RX6 40 mX4_plant.1 ∈ WA := (mW2 (i := 210) rfl rfl)
theorem mlX4_41 : Cond.methodLink RX4 41 mX4_numberOf.1 ∈ WA := (mW2 (i := 214) rfl rfl)
theorem mlX6_44 : Cond.methodLink RX6 44 mX4_plantRow.1 ∈ WA := (mW2 (i := 218) rfl rfl)
theorem mlX4_45 : Cond.methodLink RX4 45 mX4_plant.1 ∈ WA := (mW2 (i := 222) rfl rfl)
theorem mlX4_49 : Cond.methodLink RX4 49 mX5_put.1 ∈ WA := (mW2 (i := 223) rfl rfl)
theorem mlX6_48 : Cond.methodLink RX6 48 mX6_prove.1 ∈ WA := (mW2 (i := 226) rfl rfl)
theorem mlX6_54 : Cond.methodLink RX6 54 mX4_balanceOfRow.1 ∈ WA := (mW2 (i := 230) rfl rfl)
theorem mlX4_55 : Cond.methodLink RX4 55 mX5_at.1 ∈ WA := (mW2 (i := 234) rfl rfl)
theorem mlX6_62 : Cond.methodLink RX6 62 mX5_withGoal.1 ∈ WA := (mW2 (i := 237) rfl rfl)
theorem mlX5_15 : Cond.methodLink RX5 15 mX5_ahead.1 ∈ WA := (mW3 (i := 0) rfl rfl)
theorem mlX6_65 : Cond.methodLink RX6 65 mX3_find.1 ∈ WA := (mW3 (i := 3) rfl rfl)
theorem mlX3_24 : Cond.methodLink RX3 24 mX3_slotOf.1 ∈ WA := (mW3 (i := 7) rfl rfl)
theorem clX3_28 : Cond.constantLong RX3 28 (-7046029254386353131) ∈ WA := (mW3 (i := 10) rfl rfl)
theorem mlX6_69 : Cond.methodLink RX6 69 mX6_proveByGoal.1 ∈ WA := (mW3 (i := 11) rfl rfl)
theorem mlX6_98 : Cond.methodLink RX6 98 mX5_put.1 ∈ WA := (mW3 (i := 15) rfl rfl)
theorem mlX6_102 : Cond.methodLink RX6 102 mX5_ahead.1 ∈ WA := (mW3 (i := 16) rfl rfl)
theorem mlX6_105 : Cond.methodLink RX6 105 mX6_proveParts.1 ∈ WA := (mW3 (i := 17) rfl rfl)
theorem mlX6_72 : Cond.methodLink RX6 72 mX6_isEnough.1 ∈ WA := (mW3 (i := 21) rfl rfl)
theorem mlX6_112 : Cond.methodLink RX6 112 mX5_part.1 ∈ WA := (mW3 (i := 25) rfl rfl)
theorem mlX6_115 : Cond.methodLink RX6 115 mX6_times.1 ∈ WA := (mW3 (i := 28) rfl rfl)
theorem mlX6_135 : Cond.methodLink RX6 135 mJ9_min_f86c9.1 ∈ WA := (mW3 (i := 32) rfl rfl)
theorem clX6_133 : Cond.constantLong RX6 133 (1000000007) ∈ WA := (mW3 (i := 35) rfl rfl)
theorem mlX6_80 : Cond.methodLink RX6 80 mX6_plus.1 ∈ WA := (mW3 (i := 36) rfl rfl)
theorem mlX6_128 : Cond.methodLink RX6 128 mJ9_max_f86c9.1 ∈ WA := (mW3 (i := 40) rfl rfl)
theorem mlX6_108 : Cond.methodLink RX6 108 mX5_at.1 ∈ WA := (mW3 (i := 43) rfl rfl)
theorem mlX6_76 : Cond.methodLink RX6 76 mX6_proveByPlace.1 ∈ WA := (mW3 (i := 44) rfl rfl)
theorem mlX6_120 : Cond.methodLink RX6 120 mX5_exchange.1 ∈ WA := (mW3 (i := 48) rfl rfl)
theorem mlX5_11 : Cond.methodLink RX5 11 mX5_part.1 ∈ WA := (mW3 (i := 51) rfl rfl)
theorem mlX6_124 : Cond.methodLink RX6 124 mX6_proveUse.1 ∈ WA := (mW3 (i := 52) rfl rfl)
theorem mlX6_84 : Cond.methodLink RX6 84 mX3_keep.1 ∈ WA := (mW3 (i := 56) rfl rfl)
theorem mlL_60 : Cond.methodLink RL 60 mX8_proofs.1 ∈ WA := (mW3 (i := 60) rfl rfl)
theorem mlX8_136 : Cond.methodLink RX8 136 mX6_countOfProofs.1 ∈ WA := (mW3 (i := 64) rfl rfl)
theorem mlL_64 : Cond.methodLink RL 64 mX8_meanings.1 ∈ WA := (mW3 (i := 68) rfl rfl)
theorem mlX8_140 : Cond.methodLink RX8 140 mX2_allows.1 ∈ WA := (mW3 (i := 72) rfl rfl)
theorem mlX2_23 : Cond.methodLink RX2 23 mX0_hasStar.1 ∈ WA := (mW3 (i := 75) rfl rfl)
theorem mlX2_29 : Cond.methodLink RX2 29 mX0_atomsOf.1 ∈ WA := (mW3 (i := 79) rfl rfl)
theorem mlX8_144 : Cond.methodLink RX8 144 mX2_countOfMeanings.1 ∈ WA := (mW3 (i := 80) rfl rfl)
theorem mlX2_37 : Cond.methodLink RX2 37 mX2_isBalanced.1 ∈ WA := (mW3 (i := 84) rfl rfl)
theorem mlX2_41 : Cond.methodLink RX2 41 mX2_open.1 ∈ WA := (mW3 (i := 87) rfl rfl)
theorem mlX2_65 : Cond.methodLink RX2 65 mX4_empty.1 ∈ WA := (mW3 (i := 91) rfl rfl)
theorem mlX2_68 : Cond.methodLink RX2 68 mX3_forget.1 ∈ WA := (mW3 (i := 92) rfl rfl)
theorem mlX2_73 : Cond.methodLink RX2 73 mX4_plant.1 ∈ WA := (mW3 (i := 93) rfl rfl)
theorem mlX2_45 : Cond.methodLink RX2 45 mX4_plantRow.1 ∈ WA := (mW3 (i := 94) rfl rfl)
theorem mlX2_51 : Cond.methodLink RX2 51 mX2_mean.1 ∈ WA := (mW3 (i := 95) rfl rfl)
theorem mlX2_77 : Cond.methodLink RX2 77 mX4_balanceOfRow.1 ∈ WA := (mW3 (i := 99) rfl rfl)
theorem mlX2_91 : Cond.methodLink RX2 91 mX5_put.1 ∈ WA := (mW3 (i := 100) rfl rfl)
theorem mlX2_95 : Cond.methodLink RX2 95 mX5_ahead.1 ∈ WA := (mW3 (i := 101) rfl rfl)
theorem mlX2_101 : Cond.methodLink RX2 101 mX2_meanAtom.1 ∈ WA := (mW3 (i := 102) rfl rfl)
theorem mlX2_104 : Cond.methodLink RX2 104 mX5_withGoal.1 ∈ WA := (mW3 (i := 106) rfl rfl)
theorem mlX2_107 : Cond.methodLink RX2 107 mX3_find.1 ∈ WA := (mW3 (i := 107) rfl rfl)
theorem mlX2_57 : Cond.methodLink RX2 57 mX2_meanByHead.1 ∈ WA := (mW3 (i := 108) rfl rfl)
theorem mlX2_117 : Cond.methodLink RX2 117 mX5_at.1 ∈ WA := (mW3 (i := 112) rfl rfl)
theorem mlX2_124 : Cond.methodLink RX2 124 mX2_useUp.1 ∈ WA := (mW3 (i := 113) rfl rfl)
theorem mlX2_128 : Cond.methodLink RX2 128 mX5_part.1 ∈ WA := (mW3 (i := 117) rfl rfl)
theorem clX2_111 : Cond.constantLong RX2 111 (1000000007) ∈ WA := (mW3 (i := 118) rfl rfl)
theorem mlX2_113 : Cond.methodLink RX2 113 mX3_keep.1 ∈ WA := (mW3 (i := 119) rfl rfl)
theorem mlL_68 : Cond.methodLink RL 68 mX8_heads.1 ∈ WA := (mW3 (i := 120) rfl rfl)
theorem mlX8_147 : Cond.methodLink RX8 147 mX2_setOfHeads.1 ∈ WA := (mW3 (i := 124) rfl rfl)
theorem mlL_72 : Cond.methodLink RL 72 mX8_word.1 ∈ WA := (mW3 (i := 128) rfl rfl)
theorem mlX8_150 : Cond.methodLink RX8 150 mX8_isWord.1 ∈ WA := (mW3 (i := 132) rfl rfl)
theorem mlX8_153 : Cond.methodLink RX8 153 mJ6_bitCount_0f7a4.1 ∈ WA := (mW3 (i := 135) rfl rfl)
theorem cnJ_265 : Cond.constant "java/lang/Integer" 265 (iI (1431655765)) ∈ WA := (mW3 (i := 138) rfl rfl)
theorem cnJ_266 : Cond.constant "java/lang/Integer" 266 (iI (858993459)) ∈ WA := (mW3 (i := 139) rfl rfl)
theorem cnJ_267 : Cond.constant "java/lang/Integer" 267 (iI (252645135)) ∈ WA := (mW3 (i := 140) rfl rfl)
theorem mlL_76 : Cond.methodLink RL 76 mX8_say.1 ∈ WA := (mW3 (i := 141) rfl rfl)
theorem mlL_80 : Cond.methodLink RL 80 mX8_hush.1 ∈ WA := (mW3 (i := 145) rfl rfl)
theorem mlL_84 : Cond.methodLink RL 84 mX8_reads.1 ∈ WA := (mW3 (i := 149) rfl rfl)
theorem mlX8_158 : Cond.methodLink RX8 158 mX7_open.1 ∈ WA := (mW3 (i := 153) rfl rfl)
theorem mlX8_162 : Cond.methodLink RX8 162 mX7_countOfReadings.1 ∈ WA := (mW3 (i := 157) rfl rfl)
theorem mlX7_48 : Cond.methodLink RX7 48 mX7_countOfChoices.1 ∈ WA := (mW3 (i := 161) rfl rfl)
theorem mlX7_52 : Cond.methodLink RX7 52 mX7_meaningsOfChoice.1 ∈ WA := (mW3 (i := 165) rfl rfl)
theorem mlX7_72 : Cond.methodLink RX7 72 mX7_kindNumberIn.1 ∈ WA := (mW3 (i := 169) rfl rfl)
theorem mlX7_76 : Cond.methodLink RX7 76 mX2_allows.1 ∈ WA := (mW3 (i := 173) rfl rfl)
theorem mlX7_82 : Cond.methodLink RX7 82 mX2_countOfMeanings.1 ∈ WA := (mW3 (i := 174) rfl rfl)
theorem mlX8_166 : Cond.methodLink RX8 166 mX7_sumOfMeanings.1 ∈ WA := (mW3 (i := 175) rfl rfl)
theorem clX7_56 : Cond.constantLong RX7 56 (1000000007) ∈ WA := (mW3 (i := 179) rfl rfl)
theorem mlL_88 : Cond.methodLink RL 88 mX8_first.1 ∈ WA := (mW3 (i := 180) rfl rfl)
theorem mlX8_169 : Cond.methodLink RX8 169 mX7_firstReading.1 ∈ WA := (mW3 (i := 184) rfl rfl)
theorem mlX8_172 : Cond.methodLink RX8 172 mX7_kindNumberIn.1 ∈ WA := (mW3 (i := 188) rfl rfl)
theorem mlL_92 : Cond.methodLink RL 92 mX8_rows.1 ∈ WA := (mW3 (i := 189) rfl rfl)
theorem mlX8_176 : Cond.methodLink RX8 176 mX7_countOfReadableRows.1 ∈ WA := (mW3 (i := 193) rfl rfl)
theorem mlX7_58 : Cond.methodLink RX7 58 mX7_countOfRows.1 ∈ WA := (mW3 (i := 197) rfl rfl)
theorem mlX7_62 : Cond.methodLink RX7 62 mX7_tryRow.1 ∈ WA := (mW3 (i := 200) rfl rfl)
theorem mlX7_86 : Cond.methodLink RX7 86 mJ9_min_7cf53.1 ∈ WA := (mW3 (i := 204) rfl rfl)
theorem mlX7_92 : Cond.methodLink RX7 92 mJ9_floorMod_7cf53.1 ∈ WA := (mW3 (i := 205) rfl rfl)
theorem mlX7_66 : Cond.methodLink RX7 66 mX7_firstReading.1 ∈ WA := (mW3 (i := 208) rfl rfl)
theorem mlL_96 : Cond.methodLink RL 96 mX8_near.1 ∈ WA := (mW3 (i := 209) rfl rfl)
theorem mlX8_179 : Cond.methodLink RX8 179 mX7_findNearestRow.1 ∈ WA := (mW3 (i := 213) rfl rfl)
theorem mlX7_69 : Cond.methodLink RX7 69 mX7_changesOf.1 ∈ WA := (mW3 (i := 217) rfl rfl)
theorem mlX8_182 : Cond.methodLink RX8 182 mX7_wordOfNearestRow.1 ∈ WA := (mW3 (i := 221) rfl rfl)
theorem mlL_100 : Cond.methodLink RL 100 mX8_count.1 ∈ WA := (mW3 (i := 225) rfl rfl)
theorem mlL_12 : Cond.methodLink RL 12 mX9_init.1 ∈ WA := (mW3 (i := 231) rfl rfl)
theorem mlX9_1 : Cond.methodLink RX9 1 objectInit ∈ WA := (mW3 (i := 234) rfl rfl)
theorem cnX9_89 : Cond.constant RX9 89 (iI (360000)) ∈ WA := (mW3 (i := 235) rfl rfl)
theorem cnX9_106 : Cond.constant RX9 106 (iI (65536)) ∈ WA := (mW3 (i := 236) rfl rfl)
theorem flX9_137 : FLok RX9 137 8 0 := ⟨RX9, TX9, 52, rfl, by decide, (mW3 (i := 237) rfl rfl)⟩
theorem flX9_7 : FLok RX9 7 8 1 := ⟨RX9, TX9, 52, rfl, by decide, (mW3 (i := 238) rfl rfl)⟩
theorem flX9_145 : FLok RX9 145 8 2 := ⟨RX9, TX9, 52, rfl, by decide, (mW3 (i := 239) rfl rfl)⟩
theorem flX9_150 : FLok RX9 150 8 3 := ⟨RX9, TX9, 52, rfl, by decide, (mW4 (i := 0) rfl rfl)⟩
theorem flX9_153 : FLok RX9 153 8 4 := ⟨RX9, TX9, 52, rfl, by decide, (mW4 (i := 1) rfl rfl)⟩
theorem flX9_13 : FLok RX9 13 8 5 := ⟨RX9, TX9, 52, rfl, by decide, (mW4 (i := 2) rfl rfl)⟩
theorem flX9_16 : FLok RX9 16 8 6 := ⟨RX9, TX9, 52, rfl, by decide, (mW4 (i := 3) rfl rfl)⟩
theorem flX9_19 : FLok RX9 19 8 7 := ⟨RX9, TX9, 52, rfl, by decide, (mW4 (i := 4) rfl rfl)⟩
theorem flX9_22 : FLok RX9 22 8 8 := ⟨RX9, TX9, 52, rfl, by decide, (mW4 (i := 5) rfl rfl)⟩
theorem flX9_25 : FLok RX9 25 8 9 := ⟨RX9, TX9, 52, rfl, by decide, (mW4 (i := 6) rfl rfl)⟩
theorem flX9_28 : FLok RX9 28 8 10 := ⟨RX9, TX9, 52, rfl, by decide, (mW4 (i := 7) rfl rfl)⟩
theorem flX9_31 : FLok RX9 31 8 11 := ⟨RX9, TX9, 52, rfl, by decide, (mW4 (i := 8) rfl rfl)⟩
theorem flX9_34 : FLok RX9 34 8 12 := ⟨RX9, TX9, 52, rfl, by decide, (mW4 (i := 9) rfl rfl)⟩
theorem flX9_37 : FLok RX9 37 8 13 := ⟨RX9, TX9, 52, rfl, by decide, (mW4 (i := 10) rfl rfl)⟩
theorem flX9_40 : FLok RX9 40 8 14 := ⟨RX9, TX9, 52, rfl, by decide, (mW4 (i := 11) rfl rfl)⟩
theorem flX9_43 : FLok RX9 43 8 15 := ⟨RX9, TX9, 52, rfl, by decide, (mW4 (i := 12) rfl rfl)⟩
theorem flX9_46 : FLok RX9 46 8 16 := ⟨RX9, TX9, 52, rfl, by decide, (mW4 (i := 13) rfl rfl)⟩
theorem flX9_190 : FLok RX9 190 8 17 := ⟨RX9, TX9, 52, rfl, by decide, (mW4 (i := 14) rfl rfl)⟩
theorem flX9_49 : FLok RX9 49 8 18 := ⟨RX9, TX9, 52, rfl, by decide, (mW4 (i := 15) rfl rfl)⟩
theorem flX9_52 : FLok RX9 52 8 19 := ⟨RX9, TX9, 52, rfl, by decide, (mW4 (i := 16) rfl rfl)⟩
theorem flX9_55 : FLok RX9 55 8 20 := ⟨RX9, TX9, 52, rfl, by decide, (mW4 (i := 17) rfl rfl)⟩
theorem flX9_58 : FLok RX9 58 8 21 := ⟨RX9, TX9, 52, rfl, by decide, (mW4 (i := 18) rfl rfl)⟩
theorem flX9_258 : FLok RX9 258 8 22 := ⟨RX9, TX9, 52, rfl, by decide, (mW4 (i := 19) rfl rfl)⟩
theorem flX9_61 : FLok RX9 61 8 23 := ⟨RX9, TX9, 52, rfl, by decide, (mW4 (i := 20) rfl rfl)⟩
theorem flX9_179 : FLok RX9 179 8 24 := ⟨RX9, TX9, 52, rfl, by decide, (mW4 (i := 21) rfl rfl)⟩
theorem flX9_64 : FLok RX9 64 8 25 := ⟨RX9, TX9, 52, rfl, by decide, (mW4 (i := 22) rfl rfl)⟩
theorem flX9_67 : FLok RX9 67 8 26 := ⟨RX9, TX9, 52, rfl, by decide, (mW4 (i := 23) rfl rfl)⟩
theorem flX9_70 : FLok RX9 70 8 27 := ⟨RX9, TX9, 52, rfl, by decide, (mW4 (i := 24) rfl rfl)⟩
theorem flX9_73 : FLok RX9 73 8 28 := ⟨RX9, TX9, 52, rfl, by decide, (mW4 (i := 25) rfl rfl)⟩
theorem flX9_76 : FLok RX9 76 8 29 := ⟨RX9, TX9, 52, rfl, by decide, (mW4 (i := 26) rfl rfl)⟩
theorem flX9_79 : FLok RX9 79 8 30 := ⟨RX9, TX9, 52, rfl, by decide, (mW4 (i := 27) rfl rfl)⟩
theorem flX9_82 : FLok RX9 82 8 31 := ⟨RX9, TX9, 52, rfl, by decide, (mW4 (i := 28) rfl rfl)⟩
theorem flX9_86 : FLok RX9 86 8 32 := ⟨RX9, TX9, 52, rfl, by decide, (mW4 (i := 29) rfl rfl)⟩
theorem flX9_193 : FLok RX9 193 8 33 := ⟨RX9, TX9, 52, rfl, by decide, (mW4 (i := 30) rfl rfl)⟩
theorem flX9_90 : FLok RX9 90 8 34 := ⟨RX9, TX9, 52, rfl, by decide, (mW4 (i := 31) rfl rfl)⟩
theorem flX9_93 : FLok RX9 93 8 35 := ⟨RX9, TX9, 52, rfl, by decide, (mW4 (i := 32) rfl rfl)⟩
theorem flX9_97 : FLok RX9 97 8 36 := ⟨RX9, TX9, 52, rfl, by decide, (mW4 (i := 33) rfl rfl)⟩
theorem flX9_100 : FLok RX9 100 8 37 := ⟨RX9, TX9, 52, rfl, by decide, (mW4 (i := 34) rfl rfl)⟩
theorem flX9_103 : FLok RX9 103 8 38 := ⟨RX9, TX9, 52, rfl, by decide, (mW4 (i := 35) rfl rfl)⟩
theorem flX9_107 : FLok RX9 107 8 39 := ⟨RX9, TX9, 52, rfl, by decide, (mW4 (i := 36) rfl rfl)⟩
theorem flX9_110 : FLok RX9 110 8 40 := ⟨RX9, TX9, 52, rfl, by decide, (mW4 (i := 37) rfl rfl)⟩
theorem flX9_113 : FLok RX9 113 8 41 := ⟨RX9, TX9, 52, rfl, by decide, (mW4 (i := 38) rfl rfl)⟩
theorem flX9_116 : FLok RX9 116 8 42 := ⟨RX9, TX9, 52, rfl, by decide, (mW4 (i := 39) rfl rfl)⟩
theorem flX9_119 : FLok RX9 119 8 43 := ⟨RX9, TX9, 52, rfl, by decide, (mW4 (i := 40) rfl rfl)⟩
theorem flX9_122 : FLok RX9 122 8 44 := ⟨RX9, TX9, 52, rfl, by decide, (mW4 (i := 41) rfl rfl)⟩
theorem flX9_125 : FLok RX9 125 8 45 := ⟨RX9, TX9, 52, rfl, by decide, (mW4 (i := 42) rfl rfl)⟩
theorem flX9_201 : FLok RX9 201 8 46 := ⟨RX9, TX9, 52, rfl, by decide, (mW4 (i := 43) rfl rfl)⟩
theorem flX9_207 : FLok RX9 207 8 47 := ⟨RX9, TX9, 52, rfl, by decide, (mW4 (i := 44) rfl rfl)⟩
theorem flX9_225 : FLok RX9 225 8 48 := ⟨RX9, TX9, 52, rfl, by decide, (mW4 (i := 45) rfl rfl)⟩
theorem flX9_128 : FLok RX9 128 8 49 := ⟨RX9, TX9, 52, rfl, by decide, (mW4 (i := 46) rfl rfl)⟩
theorem flX9_131 : FLok RX9 131 8 50 := ⟨RX9, TX9, 52, rfl, by decide, (mW4 (i := 47) rfl rfl)⟩
theorem flX9_134 : FLok RX9 134 8 51 := ⟨RX9, TX9, 52, rfl, by decide, (mW4 (i := 48) rfl rfl)⟩
theorem mlL_19 : Cond.methodLink RL 19 mX9_type.1 ∈ WA := (mW4 (i := 155) rfl rfl)
theorem mlX9_141 : Cond.methodLink RX9 141 mX9_in.1 ∈ WA := (mW4 (i := 159) rfl rfl)
theorem clX9_148 : Cond.constantLong RX9 148 (255) ∈ WA := (mW4 (i := 162) rfl rfl)
theorem mlL_24 : Cond.methodLink RL 24 mX9_clear.1 ∈ WA := (mW4 (i := 163) rfl rfl)
theorem mlL_29 : Cond.methodLink RL 29 mX9_read.1 ∈ WA := (mW4 (i := 167) rfl rfl)
theorem mlX9_164 : Cond.methodLink RX9 164 mX9_isKind.1 ∈ WA := (mW4 (i := 171) rfl rfl)
theorem mlX9_167 : Cond.methodLink RX9 167 mX9_isRead.1 ∈ WA := (mW4 (i := 174) rfl rfl)
theorem mlX9_156 : Cond.methodLink RX9 156 mX9_part.1 ∈ WA := (mW4 (i := 178) rfl rfl)
theorem mlX9_160 : Cond.methodLink RX9 160 mX9_isSign.1 ∈ WA := (mW4 (i := 182) rfl rfl)
theorem mlX9_171 : Cond.methodLink RX9 171 mX9_spells.1 ∈ WA := (mW4 (i := 185) rfl rfl)
theorem mlX9_175 : Cond.methodLink RX9 175 mX9_atomsOf.1 ∈ WA := (mW4 (i := 189) rfl rfl)
theorem mlL_34 : Cond.methodLink RL 34 mX9_about.1 ∈ WA := (mW4 (i := 193) rfl rfl)
theorem mlX9_182 : Cond.methodLink RX9 182 mX9_works.1 ∈ WA := (mW4 (i := 197) rfl rfl)
theorem mlL_38 : Cond.methodLink RL 38 mX9_balance.1 ∈ WA := (mW4 (i := 201) rfl rfl)
theorem mlX9_185 : Cond.methodLink RX9 185 mX9_balanceOf.1 ∈ WA := (mW4 (i := 205) rfl rfl)
theorem cnX9_189 : Cond.constant RX9 189 (iI (-1000000)) ∈ WA := (mW4 (i := 209) rfl rfl)
theorem mlL_42 : Cond.methodLink RL 42 mX9_letter.1 ∈ WA := (mW4 (i := 210) rfl rfl)
theorem mlL_47 : Cond.methodLink RL 47 mX9_alike.1 ∈ WA := (mW4 (i := 214) rfl rfl)
theorem mlL_51 : Cond.methodLink RL 51 mX9_add.1 ∈ WA := (mW4 (i := 218) rfl rfl)
theorem mlL_55 : Cond.methodLink RL 55 mX9_wipe.1 ∈ WA := (mW4 (i := 222) rfl rfl)
theorem mlL_59 : Cond.methodLink RL 59 mX9_is.1 ∈ WA := (mW4 (i := 226) rfl rfl)
theorem mlX9_248 : Cond.methodLink RX9 248 mX9_proved.1 ∈ WA := (mW4 (i := 230) rfl rfl)
theorem mlX9_234 : Cond.methodLink RX9 234 mX9_isLogic.1 ∈ WA := (mW4 (i := 234) rfl rfl)
theorem mlX9_237 : Cond.methodLink RX9 237 mX9_begins.1 ∈ WA := (mW4 (i := 237) rfl rfl)
theorem mlX9_241 : Cond.methodLink RX9 241 mX9_atoms.1 ∈ WA := (mW5 (i := 1) rfl rfl)
theorem mlX9_244 : Cond.methodLink RX9 244 mX9_tells.1 ∈ WA := (mW5 (i := 5) rfl rfl)
theorem mlX9_197 : Cond.methodLink RX9 197 mX9_find.1 ∈ WA := (mW5 (i := 9) rfl rfl)
theorem cnX9_196 : Cond.constant RX9 196 (iI (65535)) ∈ WA := (mW5 (i := 13) rfl rfl)
theorem mlX9_228 : Cond.methodLink RX9 228 mX9_means.1 ∈ WA := (mW5 (i := 14) rfl rfl)
theorem mlX9_210 : Cond.methodLink RX9 210 mX9_put.1 ∈ WA := (mW5 (i := 18) rfl rfl)
theorem mlX9_214 : Cond.methodLink RX9 214 mX9_adds.1 ∈ WA := (mW5 (i := 22) rfl rfl)
theorem clX9_205 : Cond.constantLong RX9 205 (1000000007) ∈ WA := (mW5 (i := 26) rfl rfl)
theorem mlX9_222 : Cond.methodLink RX9 222 mX9_spines.1 ∈ WA := (mW5 (i := 27) rfl rfl)
theorem mlX9_218 : Cond.methodLink RX9 218 mX9_some.1 ∈ WA := (mW5 (i := 31) rfl rfl)
theorem mlX9_231 : Cond.methodLink RX9 231 mX9_proves.1 ∈ WA := (mW5 (i := 35) rfl rfl)
theorem mlL_63 : Cond.methodLink RL 63 mX9_proofs.1 ∈ WA := (mW5 (i := 39) rfl rfl)
theorem mlL_67 : Cond.methodLink RL 67 mX9_meanings.1 ∈ WA := (mW5 (i := 43) rfl rfl)
theorem mlX9_252 : Cond.methodLink RX9 252 mX9_hasTimes.1 ∈ WA := (mW5 (i := 47) rfl rfl)
theorem mlL_71 : Cond.methodLink RL 71 mX9_heads.1 ∈ WA := (mW5 (i := 51) rfl rfl)
theorem mlL_75 : Cond.methodLink RL 75 mX9_word.1 ∈ WA := (mW5 (i := 55) rfl rfl)
theorem mlX9_255 : Cond.methodLink RX9 255 mX9_ones.1 ∈ WA := (mW5 (i := 59) rfl rfl)
theorem mlL_79 : Cond.methodLink RL 79 mX9_say.1 ∈ WA := (mW5 (i := 62) rfl rfl)
theorem mlL_83 : Cond.methodLink RL 83 mX9_hush.1 ∈ WA := (mW5 (i := 66) rfl rfl)
theorem mlL_87 : Cond.methodLink RL 87 mX9_reads.1 ∈ WA := (mW5 (i := 70) rfl rfl)
theorem mlX9_264 : Cond.methodLink RX9 264 mX9_takes.1 ∈ WA := (mW5 (i := 74) rfl rfl)
theorem mlX9_267 : Cond.methodLink RX9 267 mX9_choices.1 ∈ WA := (mW5 (i := 78) rfl rfl)
theorem mlX9_261 : Cond.methodLink RX9 261 mX9_kindBehind.1 ∈ WA := (mW5 (i := 82) rfl rfl)
theorem mlL_91 : Cond.methodLink RL 91 mX9_first.1 ∈ WA := (mW5 (i := 86) rfl rfl)
theorem mlL_95 : Cond.methodLink RL 95 mX9_rows.1 ∈ WA := (mW5 (i := 90) rfl rfl)
theorem mlL_99 : Cond.methodLink RL 99 mX9_near.1 ∈ WA := (mW5 (i := 94) rfl rfl)
theorem mlL_103 : Cond.methodLink RL 103 mX9_count.1 ∈ WA := (mW5 (i := 98) rfl rfl)
theorem clL_13 : Cond.constantLong RL 13 (4294967295) ∈ WA := (mW5 (i := 102) rfl rfl)
theorem wObj1 : Cond.instanceMethod objectInit ∈ WA := (mW1 (i := 21) rfl rfl)
theorem wObj2 : Cond.code objectInit ⟨#[0xb1]⟩ 1 none ∈ WA := (mW1 (i := 22) rfl rfl)
theorem wAr_int : Cond.arrayClass (newarray.typeOf .int) ∈ WA := (mW1 (i := 63) rfl rfl)
theorem wAr_long : Cond.arrayClass (newarray.typeOf .long) ∈ WA := (mW1 (i := 154) rfl rfl)
theorem wAr_boolean : Cond.arrayClass (newarray.typeOf .boolean) ∈ WA := (mW4 (i := 154) rfl rfl)
end
