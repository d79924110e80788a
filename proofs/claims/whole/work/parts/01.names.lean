-- ===== PART A: goes FIRST, ahead of the names: the tables' words, and 'selects' of the private methods out of them =====
/-- a private method of a class that the tables say can be made, by its rows of tables_1 -/
def lw_okq (q : MethodName × Nat) : Prop := (q.1.cls ≠ "java/lang/invoke/MethodHandle" ∧ q.1.cls ≠ "java/lang/invoke/VarHandle") ∧ Cond.instantiable q.1.cls q.2 ∈ tables_1 ∧ Cond.privateMethod q.1 ∈ tables_1 ∧ Cond.instanceMethod q.1 ∈ tables_1
theorem lw_p0 : lw_okq (⟨"GorseGold", "textOf", "(I)LGorseGold$Text;"⟩, 13) := ⟨⟨by decide +kernel, by decide +kernel⟩, List.mem_of_getElem? (i := 18) (by decide +kernel), List.mem_of_getElem? (i := 314) (by decide +kernel), List.mem_of_getElem? (i := 315) (by decide +kernel)⟩
theorem lw_p1 : lw_okq (⟨"GorseGold$Text", "parse", "()V"⟩, 8) := ⟨⟨by decide +kernel, by decide +kernel⟩, List.mem_of_getElem? (i := 44) (by decide +kernel), List.mem_of_getElem? (i := 322) (by decide +kernel), List.mem_of_getElem? (i := 323) (by decide +kernel)⟩
theorem lw_p2 : lw_okq (⟨"GorseGold$Text", "firstFault", "()I"⟩, 8) := ⟨⟨by decide +kernel, by decide +kernel⟩, List.mem_of_getElem? (i := 44) (by decide +kernel), List.mem_of_getElem? (i := 326) (by decide +kernel), List.mem_of_getElem? (i := 327) (by decide +kernel)⟩
theorem lw_p3 : lw_okq (⟨"GorseGold$Text", "mayStand", "(III)Z"⟩, 8) := ⟨⟨by decide +kernel, by decide +kernel⟩, List.mem_of_getElem? (i := 44) (by decide +kernel), List.mem_of_getElem? (i := 330) (by decide +kernel), List.mem_of_getElem? (i := 331) (by decide +kernel)⟩
theorem lw_p4 : lw_okq (⟨"GorseGold", "finding", "(I)I"⟩, 13) := ⟨⟨by decide +kernel, by decide +kernel⟩, List.mem_of_getElem? (i := 18) (by decide +kernel), List.mem_of_getElem? (i := 434) (by decide +kernel), List.mem_of_getElem? (i := 435) (by decide +kernel)⟩
theorem lw_p5 : lw_okq (⟨"GorseGold$Market", "countFires", "(LGorseGold$Events;)V"⟩, 10) := ⟨⟨by decide +kernel, by decide +kernel⟩, List.mem_of_getElem? (i := 26) (by decide +kernel), List.mem_of_getElem? (i := 498) (by decide +kernel), List.mem_of_getElem? (i := 499) (by decide +kernel)⟩
theorem lw_p6 : lw_okq (⟨"GorseGold$Market", "gatherLooks", "()V"⟩, 10) := ⟨⟨by decide +kernel, by decide +kernel⟩, List.mem_of_getElem? (i := 26) (by decide +kernel), List.mem_of_getElem? (i := 504) (by decide +kernel), List.mem_of_getElem? (i := 505) (by decide +kernel)⟩
theorem lw_p7 : lw_okq (⟨"GorseGold$Market", "worthOf", "(II)I"⟩, 10) := ⟨⟨by decide +kernel, by decide +kernel⟩, List.mem_of_getElem? (i := 26) (by decide +kernel), List.mem_of_getElem? (i := 511) (by decide +kernel), List.mem_of_getElem? (i := 512) (by decide +kernel)⟩
theorem lw_p8 : lw_okq (⟨"GorseGold$Market", "behind", "(III)I"⟩, 10) := ⟨⟨by decide +kernel, by decide +kernel⟩, List.mem_of_getElem? (i := 26) (by decide +kernel), List.mem_of_getElem? (i := 517) (by decide +kernel), List.mem_of_getElem? (i := 518) (by decide +kernel)⟩
theorem lw_p9 : lw_okq (⟨"GorseGold", "bareIfPlanted", "(III)I"⟩, 13) := ⟨⟨by decide +kernel, by decide +kernel⟩, List.mem_of_getElem? (i := 18) (by decide +kernel), List.mem_of_getElem? (i := 568) (by decide +kernel), List.mem_of_getElem? (i := 569) (by decide +kernel)⟩
theorem lw_p10 : lw_okq (⟨"GorseGold", "bestSend", "()I"⟩, 13) := ⟨⟨by decide +kernel, by decide +kernel⟩, List.mem_of_getElem? (i := 18) (by decide +kernel), List.mem_of_getElem? (i := 576) (by decide +kernel), List.mem_of_getElem? (i := 577) (by decide +kernel)⟩
theorem lw_p11 : lw_okq (⟨"GorseGold", "fewestToLose", "()I"⟩, 13) := ⟨⟨by decide +kernel, by decide +kernel⟩, List.mem_of_getElem? (i := 18) (by decide +kernel), List.mem_of_getElem? (i := 588) (by decide +kernel), List.mem_of_getElem? (i := 589) (by decide +kernel)⟩
theorem lw_p12 : lw_okq (⟨"GorseGold", "bestDeal", "()I"⟩, 13) := ⟨⟨by decide +kernel, by decide +kernel⟩, List.mem_of_getElem? (i := 18) (by decide +kernel), List.mem_of_getElem? (i := 599) (by decide +kernel), List.mem_of_getElem? (i := 600) (by decide +kernel)⟩
theorem lw_p13 : lw_okq (⟨"GorseGold", "beginsThatFit", "(I)I"⟩, 13) := ⟨⟨by decide +kernel, by decide +kernel⟩, List.mem_of_getElem? (i := 18) (by decide +kernel), List.mem_of_getElem? (i := 633) (by decide +kernel), List.mem_of_getElem? (i := 634) (by decide +kernel)⟩
theorem lw_p14 : lw_okq (⟨"GorseGold", "kindsThatFit", "(I)I"⟩, 13) := ⟨⟨by decide +kernel, by decide +kernel⟩, List.mem_of_getElem? (i := 18) (by decide +kernel), List.mem_of_getElem? (i := 638) (by decide +kernel), List.mem_of_getElem? (i := 639) (by decide +kernel)⟩
theorem lw_p15 : lw_okq (⟨"GorseGold", "greatestAlike", "(III)I"⟩, 13) := ⟨⟨by decide +kernel, by decide +kernel⟩, List.mem_of_getElem? (i := 18) (by decide +kernel), List.mem_of_getElem? (i := 646) (by decide +kernel), List.mem_of_getElem? (i := 647) (by decide +kernel)⟩
def lw_privs_1 : List (MethodName × Nat) := [(⟨"GorseGold", "textOf", "(I)LGorseGold$Text;"⟩, 13), (⟨"GorseGold$Text", "parse", "()V"⟩, 8), (⟨"GorseGold$Text", "firstFault", "()I"⟩, 8), (⟨"GorseGold$Text", "mayStand", "(III)Z"⟩, 8), (⟨"GorseGold", "finding", "(I)I"⟩, 13), (⟨"GorseGold$Market", "countFires", "(LGorseGold$Events;)V"⟩, 10), (⟨"GorseGold$Market", "gatherLooks", "()V"⟩, 10), (⟨"GorseGold$Market", "worthOf", "(II)I"⟩, 10), (⟨"GorseGold$Market", "behind", "(III)I"⟩, 10), (⟨"GorseGold", "bareIfPlanted", "(III)I"⟩, 13), (⟨"GorseGold", "bestSend", "()I"⟩, 13), (⟨"GorseGold", "fewestToLose", "()I"⟩, 13), (⟨"GorseGold", "bestDeal", "()I"⟩, 13), (⟨"GorseGold", "beginsThatFit", "(I)I"⟩, 13), (⟨"GorseGold", "kindsThatFit", "(I)I"⟩, 13), (⟨"GorseGold", "greatestAlike", "(III)I"⟩, 13)]
theorem lw_r1 : ∀ q ∈ lw_privs_1, lw_okq q := List.forall_mem_cons.mpr ⟨lw_p0, List.forall_mem_cons.mpr ⟨lw_p1, List.forall_mem_cons.mpr ⟨lw_p2, List.forall_mem_cons.mpr ⟨lw_p3, List.forall_mem_cons.mpr ⟨lw_p4, List.forall_mem_cons.mpr ⟨lw_p5, List.forall_mem_cons.mpr ⟨lw_p6, List.forall_mem_cons.mpr ⟨lw_p7, List.forall_mem_cons.mpr ⟨lw_p8, List.forall_mem_cons.mpr ⟨lw_p9, List.forall_mem_cons.mpr ⟨lw_p10, List.forall_mem_cons.mpr ⟨lw_p11, List.forall_mem_cons.mpr ⟨lw_p12, List.forall_mem_cons.mpr ⟨lw_p13, List.forall_mem_cons.mpr ⟨lw_p14, List.forall_mem_cons.mpr ⟨lw_p15, fun _ h => absurd h List.not_mem_nil⟩⟩⟩⟩⟩⟩⟩⟩⟩⟩⟩⟩⟩⟩⟩⟩
theorem lw_p16 : lw_okq (⟨"GorseGold", "bareShares", "(II)J"⟩, 13) := ⟨⟨by decide +kernel, by decide +kernel⟩, List.mem_of_getElem? (i := 18) (by decide +kernel), List.mem_of_getElem? (i := 657) (by decide +kernel), List.mem_of_getElem? (i := 658) (by decide +kernel)⟩
theorem lw_p17 : lw_okq (⟨"GorseGold", "gatherHinderers", "(I)I"⟩, 13) := ⟨⟨by decide +kernel, by decide +kernel⟩, List.mem_of_getElem? (i := 18) (by decide +kernel), List.mem_of_getElem? (i := 661) (by decide +kernel), List.mem_of_getElem? (i := 662) (by decide +kernel)⟩
theorem lw_p18 : lw_okq (⟨"GorseGold", "hindersAll", "(II)Z"⟩, 13) := ⟨⟨by decide +kernel, by decide +kernel⟩, List.mem_of_getElem? (i := 18) (by decide +kernel), List.mem_of_getElem? (i := 671) (by decide +kernel), List.mem_of_getElem? (i := 672) (by decide +kernel)⟩
theorem lw_p19 : lw_okq (⟨"GorseGold", "shareOf", "(II)J"⟩, 13) := ⟨⟨by decide +kernel, by decide +kernel⟩, List.mem_of_getElem? (i := 18) (by decide +kernel), List.mem_of_getElem? (i := 675) (by decide +kernel), List.mem_of_getElem? (i := 676) (by decide +kernel)⟩
theorem lw_p20 : lw_okq (⟨"GorseGold", "drawEvents", "(II)V"⟩, 13) := ⟨⟨by decide +kernel, by decide +kernel⟩, List.mem_of_getElem? (i := 18) (by decide +kernel), List.mem_of_getElem? (i := 683) (by decide +kernel), List.mem_of_getElem? (i := 684) (by decide +kernel)⟩
theorem lw_p21 : lw_okq (⟨"GorseGold$Sheet", "narrowed", "(I)I"⟩, 3) := ⟨⟨by decide +kernel, by decide +kernel⟩, List.mem_of_getElem? (i := 245) (by decide +kernel), List.mem_of_getElem? (i := 728) (by decide +kernel), List.mem_of_getElem? (i := 729) (by decide +kernel)⟩
theorem lw_p22 : lw_okq (⟨"GorseGold", "allYellow", "()I"⟩, 13) := ⟨⟨by decide +kernel, by decide +kernel⟩, List.mem_of_getElem? (i := 18) (by decide +kernel), List.mem_of_getElem? (i := 754) (by decide +kernel), List.mem_of_getElem? (i := 755) (by decide +kernel)⟩
theorem lw_p23 : lw_okq (⟨"GorseGold", "digestOfCounts", "(J)J"⟩, 13) := ⟨⟨by decide +kernel, by decide +kernel⟩, List.mem_of_getElem? (i := 18) (by decide +kernel), List.mem_of_getElem? (i := 763) (by decide +kernel), List.mem_of_getElem? (i := 764) (by decide +kernel)⟩
theorem lw_p24 : lw_okq (⟨"GorseGold", "digestOfMonths", "(J)J"⟩, 13) := ⟨⟨by decide +kernel, by decide +kernel⟩, List.mem_of_getElem? (i := 18) (by decide +kernel), List.mem_of_getElem? (i := 770) (by decide +kernel), List.mem_of_getElem? (i := 771) (by decide +kernel)⟩
theorem lw_p25 : lw_okq (⟨"GorseGold", "digestOfLooks", "(J)J"⟩, 13) := ⟨⟨by decide +kernel, by decide +kernel⟩, List.mem_of_getElem? (i := 18) (by decide +kernel), List.mem_of_getElem? (i := 775) (by decide +kernel), List.mem_of_getElem? (i := 776) (by decide +kernel)⟩
theorem lw_p26 : lw_okq (⟨"GorseGold", "digestOfBush", "(JI)J"⟩, 13) := ⟨⟨by decide +kernel, by decide +kernel⟩, List.mem_of_getElem? (i := 18) (by decide +kernel), List.mem_of_getElem? (i := 780) (by decide +kernel), List.mem_of_getElem? (i := 781) (by decide +kernel)⟩
theorem lw_p27 : lw_okq (⟨"GorseGold", "digestOfBushIn", "(JII)J"⟩, 13) := ⟨⟨by decide +kernel, by decide +kernel⟩, List.mem_of_getElem? (i := 18) (by decide +kernel), List.mem_of_getElem? (i := 785) (by decide +kernel), List.mem_of_getElem? (i := 786) (by decide +kernel)⟩
theorem lw_p28 : lw_okq (⟨"GorseGold", "digestOfHill", "(J)J"⟩, 13) := ⟨⟨by decide +kernel, by decide +kernel⟩, List.mem_of_getElem? (i := 18) (by decide +kernel), List.mem_of_getElem? (i := 792) (by decide +kernel), List.mem_of_getElem? (i := 793) (by decide +kernel)⟩
theorem lw_p29 : lw_okq (⟨"GorseGold", "digestOfPlans", "(J)J"⟩, 13) := ⟨⟨by decide +kernel, by decide +kernel⟩, List.mem_of_getElem? (i := 18) (by decide +kernel), List.mem_of_getElem? (i := 799) (by decide +kernel), List.mem_of_getElem? (i := 800) (by decide +kernel)⟩
theorem lw_p30 : lw_okq (⟨"GorseGold", "digestOfLuck", "(J)J"⟩, 13) := ⟨⟨by decide +kernel, by decide +kernel⟩, List.mem_of_getElem? (i := 18) (by decide +kernel), List.mem_of_getElem? (i := 807) (by decide +kernel), List.mem_of_getElem? (i := 808) (by decide +kernel)⟩
theorem lw_p31 : lw_okq (⟨"GorseGoldModel", "finds", "(I)I"⟩, 29) := ⟨⟨by decide +kernel, by decide +kernel⟩, List.mem_of_getElem? (i := 814) (by decide +kernel), List.mem_of_getElem? (i := 921) (by decide +kernel), List.mem_of_getElem? (i := 922) (by decide +kernel)⟩
def lw_privs_2 : List (MethodName × Nat) := [(⟨"GorseGold", "bareShares", "(II)J"⟩, 13), (⟨"GorseGold", "gatherHinderers", "(I)I"⟩, 13), (⟨"GorseGold", "hindersAll", "(II)Z"⟩, 13), (⟨"GorseGold", "shareOf", "(II)J"⟩, 13), (⟨"GorseGold", "drawEvents", "(II)V"⟩, 13), (⟨"GorseGold$Sheet", "narrowed", "(I)I"⟩, 3), (⟨"GorseGold", "allYellow", "()I"⟩, 13), (⟨"GorseGold", "digestOfCounts", "(J)J"⟩, 13), (⟨"GorseGold", "digestOfMonths", "(J)J"⟩, 13), (⟨"GorseGold", "digestOfLooks", "(J)J"⟩, 13), (⟨"GorseGold", "digestOfBush", "(JI)J"⟩, 13), (⟨"GorseGold", "digestOfBushIn", "(JII)J"⟩, 13), (⟨"GorseGold", "digestOfHill", "(J)J"⟩, 13), (⟨"GorseGold", "digestOfPlans", "(J)J"⟩, 13), (⟨"GorseGold", "digestOfLuck", "(J)J"⟩, 13), (⟨"GorseGoldModel", "finds", "(I)I"⟩, 29)]
theorem lw_r2 : ∀ q ∈ lw_privs_2, lw_okq q := List.forall_mem_cons.mpr ⟨lw_p16, List.forall_mem_cons.mpr ⟨lw_p17, List.forall_mem_cons.mpr ⟨lw_p18, List.forall_mem_cons.mpr ⟨lw_p19, List.forall_mem_cons.mpr ⟨lw_p20, List.forall_mem_cons.mpr ⟨lw_p21, List.forall_mem_cons.mpr ⟨lw_p22, List.forall_mem_cons.mpr ⟨lw_p23, List.forall_mem_cons.mpr ⟨lw_p24, List.forall_mem_cons.mpr ⟨lw_p25, List.forall_mem_cons.mpr ⟨lw_p26, List.forall_mem_cons.mpr ⟨lw_p27, List.forall_mem_cons.mpr ⟨lw_p28, List.forall_mem_cons.mpr ⟨lw_p29, List.forall_mem_cons.mpr ⟨lw_p30, List.forall_mem_cons.mpr ⟨lw_p31, fun _ h => absurd h List.not_mem_nil⟩⟩⟩⟩⟩⟩⟩⟩⟩⟩⟩⟩⟩⟩⟩⟩
theorem lw_p32 : lw_okq (⟨"GorseGoldModel", "lacks", "(III)I"⟩, 29) := ⟨⟨by decide +kernel, by decide +kernel⟩, List.mem_of_getElem? (i := 814) (by decide +kernel), List.mem_of_getElem? (i := 933) (by decide +kernel), List.mem_of_getElem? (i := 934) (by decide +kernel)⟩
theorem lw_p33 : lw_okq (⟨"GorseGoldModel", "readsText", "(I)I"⟩, 29) := ⟨⟨by decide +kernel, by decide +kernel⟩, List.mem_of_getElem? (i := 814) (by decide +kernel), List.mem_of_getElem? (i := 969) (by decide +kernel), List.mem_of_getElem? (i := 970) (by decide +kernel)⟩
theorem lw_p34 : lw_okq (⟨"GorseGoldModel", "readsBushes", "()I"⟩, 29) := ⟨⟨by decide +kernel, by decide +kernel⟩, List.mem_of_getElem? (i := 814) (by decide +kernel), List.mem_of_getElem? (i := 973) (by decide +kernel), List.mem_of_getElem? (i := 974) (by decide +kernel)⟩
theorem lw_p35 : lw_okq (⟨"GorseGoldModel", "readsLooks", "()I"⟩, 29) := ⟨⟨by decide +kernel, by decide +kernel⟩, List.mem_of_getElem? (i := 814) (by decide +kernel), List.mem_of_getElem? (i := 987) (by decide +kernel), List.mem_of_getElem? (i := 988) (by decide +kernel)⟩
theorem lw_p36 : lw_okq (⟨"GorseGoldModel", "isBush", "(I)Z"⟩, 29) := ⟨⟨by decide +kernel, by decide +kernel⟩, List.mem_of_getElem? (i := 814) (by decide +kernel), List.mem_of_getElem? (i := 1000) (by decide +kernel), List.mem_of_getElem? (i := 1001) (by decide +kernel)⟩
theorem lw_p37 : lw_okq (⟨"GorseGoldModel", "lookBy", "(II)I"⟩, 29) := ⟨⟨by decide +kernel, by decide +kernel⟩, List.mem_of_getElem? (i := 814) (by decide +kernel), List.mem_of_getElem? (i := 1009) (by decide +kernel), List.mem_of_getElem? (i := 1010) (by decide +kernel)⟩
theorem lw_p38 : lw_okq (⟨"GorseGoldModel", "puts", "(III)V"⟩, 29) := ⟨⟨by decide +kernel, by decide +kernel⟩, List.mem_of_getElem? (i := 814) (by decide +kernel), List.mem_of_getElem? (i := 1028) (by decide +kernel), List.mem_of_getElem? (i := 1029) (by decide +kernel)⟩
theorem lw_p39 : lw_okq (⟨"GorseGoldModel", "find", "()V"⟩, 29) := ⟨⟨by decide +kernel, by decide +kernel⟩, List.mem_of_getElem? (i := 814) (by decide +kernel), List.mem_of_getElem? (i := 1045) (by decide +kernel), List.mem_of_getElem? (i := 1046) (by decide +kernel)⟩
theorem lw_p40 : lw_okq (⟨"GorseGoldModel", "lives", "()V"⟩, 29) := ⟨⟨by decide +kernel, by decide +kernel⟩, List.mem_of_getElem? (i := 814) (by decide +kernel), List.mem_of_getElem? (i := 1049) (by decide +kernel), List.mem_of_getElem? (i := 1050) (by decide +kernel)⟩
theorem lw_p41 : lw_okq (⟨"GorseGoldModel", "grows", "()V"⟩, 29) := ⟨⟨by decide +kernel, by decide +kernel⟩, List.mem_of_getElem? (i := 814) (by decide +kernel), List.mem_of_getElem? (i := 1053) (by decide +kernel), List.mem_of_getElem? (i := 1054) (by decide +kernel)⟩
theorem lw_p42 : lw_okq (⟨"GorseGoldModel", "stateOf", "(II)I"⟩, 29) := ⟨⟨by decide +kernel, by decide +kernel⟩, List.mem_of_getElem? (i := 814) (by decide +kernel), List.mem_of_getElem? (i := 1057) (by decide +kernel), List.mem_of_getElem? (i := 1058) (by decide +kernel)⟩
theorem lw_p43 : lw_okq (⟨"GorseGoldModel", "isOn", "(III)Z"⟩, 29) := ⟨⟨by decide +kernel, by decide +kernel⟩, List.mem_of_getElem? (i := 814) (by decide +kernel), List.mem_of_getElem? (i := 1061) (by decide +kernel), List.mem_of_getElem? (i := 1062) (by decide +kernel)⟩
theorem lw_p44 : lw_okq (⟨"GorseGoldModel", "isSeason", "(II)Z"⟩, 29) := ⟨⟨by decide +kernel, by decide +kernel⟩, List.mem_of_getElem? (i := 814) (by decide +kernel), List.mem_of_getElem? (i := 1071) (by decide +kernel), List.mem_of_getElem? (i := 1072) (by decide +kernel)⟩
theorem lw_p45 : lw_okq (⟨"GorseGoldModel", "isSeeming", "(II)Z"⟩, 29) := ⟨⟨by decide +kernel, by decide +kernel⟩, List.mem_of_getElem? (i := 814) (by decide +kernel), List.mem_of_getElem? (i := 1075) (by decide +kernel), List.mem_of_getElem? (i := 1076) (by decide +kernel)⟩
theorem lw_p46 : lw_okq (⟨"GorseGoldModel", "believes", "()V"⟩, 29) := ⟨⟨by decide +kernel, by decide +kernel⟩, List.mem_of_getElem? (i := 814) (by decide +kernel), List.mem_of_getElem? (i := 1079) (by decide +kernel), List.mem_of_getElem? (i := 1080) (by decide +kernel)⟩
theorem lw_p47 : lw_okq (⟨"GorseGoldModel", "looked", "(III)I"⟩, 29) := ⟨⟨by decide +kernel, by decide +kernel⟩, List.mem_of_getElem? (i := 814) (by decide +kernel), List.mem_of_getElem? (i := 1086) (by decide +kernel), List.mem_of_getElem? (i := 1087) (by decide +kernel)⟩
def lw_privs_3 : List (MethodName × Nat) := [(⟨"GorseGoldModel", "lacks", "(III)I"⟩, 29), (⟨"GorseGoldModel", "readsText", "(I)I"⟩, 29), (⟨"GorseGoldModel", "readsBushes", "()I"⟩, 29), (⟨"GorseGoldModel", "readsLooks", "()I"⟩, 29), (⟨"GorseGoldModel", "isBush", "(I)Z"⟩, 29), (⟨"GorseGoldModel", "lookBy", "(II)I"⟩, 29), (⟨"GorseGoldModel", "puts", "(III)V"⟩, 29), (⟨"GorseGoldModel", "find", "()V"⟩, 29), (⟨"GorseGoldModel", "lives", "()V"⟩, 29), (⟨"GorseGoldModel", "grows", "()V"⟩, 29), (⟨"GorseGoldModel", "stateOf", "(II)I"⟩, 29), (⟨"GorseGoldModel", "isOn", "(III)Z"⟩, 29), (⟨"GorseGoldModel", "isSeason", "(II)Z"⟩, 29), (⟨"GorseGoldModel", "isSeeming", "(II)Z"⟩, 29), (⟨"GorseGoldModel", "believes", "()V"⟩, 29), (⟨"GorseGoldModel", "looked", "(III)I"⟩, 29)]
theorem lw_r3 : ∀ q ∈ lw_privs_3, lw_okq q := List.forall_mem_cons.mpr ⟨lw_p32, List.forall_mem_cons.mpr ⟨lw_p33, List.forall_mem_cons.mpr ⟨lw_p34, List.forall_mem_cons.mpr ⟨lw_p35, List.forall_mem_cons.mpr ⟨lw_p36, List.forall_mem_cons.mpr ⟨lw_p37, List.forall_mem_cons.mpr ⟨lw_p38, List.forall_mem_cons.mpr ⟨lw_p39, List.forall_mem_cons.mpr ⟨lw_p40, List.forall_mem_cons.mpr ⟨lw_p41, List.forall_mem_cons.mpr ⟨lw_p42, List.forall_mem_cons.mpr ⟨lw_p43, List.forall_mem_cons.mpr ⟨lw_p44, List.forall_mem_cons.mpr ⟨lw_p45, List.forall_mem_cons.mpr ⟨lw_p46, List.forall_mem_cons.mpr ⟨lw_p47, fun _ h => absurd h List.not_mem_nil⟩⟩⟩⟩⟩⟩⟩⟩⟩⟩⟩⟩⟩⟩⟩⟩
theorem lw_p48 : lw_okq (⟨"GorseGoldModel", "atBy", "(III)I"⟩, 29) := ⟨⟨by decide +kernel, by decide +kernel⟩, List.mem_of_getElem? (i := 814) (by decide +kernel), List.mem_of_getElem? (i := 1090) (by decide +kernel), List.mem_of_getElem? (i := 1091) (by decide +kernel)⟩
theorem lw_p49 : lw_okq (⟨"GorseGoldModel", "hillBy", "(II)I"⟩, 29) := ⟨⟨by decide +kernel, by decide +kernel⟩, List.mem_of_getElem? (i := 814) (by decide +kernel), List.mem_of_getElem? (i := 1098) (by decide +kernel), List.mem_of_getElem? (i := 1099) (by decide +kernel)⟩
theorem lw_p50 : lw_okq (⟨"GorseGoldModel", "bareNow", "()I"⟩, 29) := ⟨⟨by decide +kernel, by decide +kernel⟩, List.mem_of_getElem? (i := 814) (by decide +kernel), List.mem_of_getElem? (i := 1106) (by decide +kernel), List.mem_of_getElem? (i := 1107) (by decide +kernel)⟩
theorem lw_p51 : lw_okq (⟨"GorseGoldModel", "runNow", "()I"⟩, 29) := ⟨⟨by decide +kernel, by decide +kernel⟩, List.mem_of_getElem? (i := 814) (by decide +kernel), List.mem_of_getElem? (i := 1114) (by decide +kernel), List.mem_of_getElem? (i := 1115) (by decide +kernel)⟩
theorem lw_p52 : lw_okq (⟨"GorseGoldModel", "fakeNow", "()I"⟩, 29) := ⟨⟨by decide +kernel, by decide +kernel⟩, List.mem_of_getElem? (i := 814) (by decide +kernel), List.mem_of_getElem? (i := 1122) (by decide +kernel), List.mem_of_getElem? (i := 1123) (by decide +kernel)⟩
theorem lw_p53 : lw_okq (⟨"GorseGoldModel", "lastBy", "(I)I"⟩, 29) := ⟨⟨by decide +kernel, by decide +kernel⟩, List.mem_of_getElem? (i := 814) (by decide +kernel), List.mem_of_getElem? (i := 1130) (by decide +kernel), List.mem_of_getElem? (i := 1131) (by decide +kernel)⟩
theorem lw_p54 : lw_okq (⟨"GorseGoldModel", "plantBy", "(I)I"⟩, 29) := ⟨⟨by decide +kernel, by decide +kernel⟩, List.mem_of_getElem? (i := 814) (by decide +kernel), List.mem_of_getElem? (i := 1141) (by decide +kernel), List.mem_of_getElem? (i := 1142) (by decide +kernel)⟩
theorem lw_p55 : lw_okq (⟨"GorseGoldModel", "sendBy", "(I)I"⟩, 29) := ⟨⟨by decide +kernel, by decide +kernel⟩, List.mem_of_getElem? (i := 814) (by decide +kernel), List.mem_of_getElem? (i := 1155) (by decide +kernel), List.mem_of_getElem? (i := 1156) (by decide +kernel)⟩
theorem lw_p56 : lw_okq (⟨"GorseGoldModel", "saveOf", "(I)I"⟩, 29) := ⟨⟨by decide +kernel, by decide +kernel⟩, List.mem_of_getElem? (i := 814) (by decide +kernel), List.mem_of_getElem? (i := 1164) (by decide +kernel), List.mem_of_getElem? (i := 1165) (by decide +kernel)⟩
theorem lw_p57 : lw_okq (⟨"GorseGoldModel", "isSaved", "(I)Z"⟩, 29) := ⟨⟨by decide +kernel, by decide +kernel⟩, List.mem_of_getElem? (i := 814) (by decide +kernel), List.mem_of_getElem? (i := 1168) (by decide +kernel), List.mem_of_getElem? (i := 1169) (by decide +kernel)⟩
theorem lw_p58 : lw_okq (⟨"GorseGoldModel", "dealBy", "(I)I"⟩, 29) := ⟨⟨by decide +kernel, by decide +kernel⟩, List.mem_of_getElem? (i := 814) (by decide +kernel), List.mem_of_getElem? (i := 1176) (by decide +kernel), List.mem_of_getElem? (i := 1177) (by decide +kernel)⟩
theorem lw_p59 : lw_okq (⟨"GorseGoldModel", "neverNow", "()I"⟩, 29) := ⟨⟨by decide +kernel, by decide +kernel⟩, List.mem_of_getElem? (i := 814) (by decide +kernel), List.mem_of_getElem? (i := 1193) (by decide +kernel), List.mem_of_getElem? (i := 1194) (by decide +kernel)⟩
theorem lw_p60 : lw_okq (⟨"GorseGoldModel", "isSeen", "()Z"⟩, 29) := ⟨⟨by decide +kernel, by decide +kernel⟩, List.mem_of_getElem? (i := 814) (by decide +kernel), List.mem_of_getElem? (i := 1197) (by decide +kernel), List.mem_of_getElem? (i := 1198) (by decide +kernel)⟩
theorem lw_p61 : lw_okq (⟨"GorseGoldModel", "wasOf", "(II)I"⟩, 29) := ⟨⟨by decide +kernel, by decide +kernel⟩, List.mem_of_getElem? (i := 814) (by decide +kernel), List.mem_of_getElem? (i := 1205) (by decide +kernel), List.mem_of_getElem? (i := 1206) (by decide +kernel)⟩
theorem lw_p62 : lw_okq (⟨"GorseGoldModel", "beganOf", "(I)I"⟩, 29) := ⟨⟨by decide +kernel, by decide +kernel⟩, List.mem_of_getElem? (i := 814) (by decide +kernel), List.mem_of_getElem? (i := 1209) (by decide +kernel), List.mem_of_getElem? (i := 1210) (by decide +kernel)⟩
theorem lw_p63 : lw_okq (⟨"GorseGoldModel", "sortOf", "(I)I"⟩, 29) := ⟨⟨by decide +kernel, by decide +kernel⟩, List.mem_of_getElem? (i := 814) (by decide +kernel), List.mem_of_getElem? (i := 1213) (by decide +kernel), List.mem_of_getElem? (i := 1214) (by decide +kernel)⟩
def lw_privs_4 : List (MethodName × Nat) := [(⟨"GorseGoldModel", "atBy", "(III)I"⟩, 29), (⟨"GorseGoldModel", "hillBy", "(II)I"⟩, 29), (⟨"GorseGoldModel", "bareNow", "()I"⟩, 29), (⟨"GorseGoldModel", "runNow", "()I"⟩, 29), (⟨"GorseGoldModel", "fakeNow", "()I"⟩, 29), (⟨"GorseGoldModel", "lastBy", "(I)I"⟩, 29), (⟨"GorseGoldModel", "plantBy", "(I)I"⟩, 29), (⟨"GorseGoldModel", "sendBy", "(I)I"⟩, 29), (⟨"GorseGoldModel", "saveOf", "(I)I"⟩, 29), (⟨"GorseGoldModel", "isSaved", "(I)Z"⟩, 29), (⟨"GorseGoldModel", "dealBy", "(I)I"⟩, 29), (⟨"GorseGoldModel", "neverNow", "()I"⟩, 29), (⟨"GorseGoldModel", "isSeen", "()Z"⟩, 29), (⟨"GorseGoldModel", "wasOf", "(II)I"⟩, 29), (⟨"GorseGoldModel", "beganOf", "(I)I"⟩, 29), (⟨"GorseGoldModel", "sortOf", "(I)I"⟩, 29)]
theorem lw_r4 : ∀ q ∈ lw_privs_4, lw_okq q := List.forall_mem_cons.mpr ⟨lw_p48, List.forall_mem_cons.mpr ⟨lw_p49, List.forall_mem_cons.mpr ⟨lw_p50, List.forall_mem_cons.mpr ⟨lw_p51, List.forall_mem_cons.mpr ⟨lw_p52, List.forall_mem_cons.mpr ⟨lw_p53, List.forall_mem_cons.mpr ⟨lw_p54, List.forall_mem_cons.mpr ⟨lw_p55, List.forall_mem_cons.mpr ⟨lw_p56, List.forall_mem_cons.mpr ⟨lw_p57, List.forall_mem_cons.mpr ⟨lw_p58, List.forall_mem_cons.mpr ⟨lw_p59, List.forall_mem_cons.mpr ⟨lw_p60, List.forall_mem_cons.mpr ⟨lw_p61, List.forall_mem_cons.mpr ⟨lw_p62, List.forall_mem_cons.mpr ⟨lw_p63, fun _ h => absurd h List.not_mem_nil⟩⟩⟩⟩⟩⟩⟩⟩⟩⟩⟩⟩⟩⟩⟩⟩
theorem lw_p64 : lw_okq (⟨"GorseGoldModel", "askOf", "(I)I"⟩, 29) := ⟨⟨by decide +kernel, by decide +kernel⟩, List.mem_of_getElem? (i := 814) (by decide +kernel), List.mem_of_getElem? (i := 1221) (by decide +kernel), List.mem_of_getElem? (i := 1222) (by decide +kernel)⟩
theorem lw_p65 : lw_okq (⟨"GorseGoldModel", "luckOf", "(III)J"⟩, 29) := ⟨⟨by decide +kernel, by decide +kernel⟩, List.mem_of_getElem? (i := 814) (by decide +kernel), List.mem_of_getElem? (i := 1230) (by decide +kernel), List.mem_of_getElem? (i := 1231) (by decide +kernel)⟩
theorem lw_p66 : lw_okq (⟨"GorseGoldModel", "centuryOf", "(III)I"⟩, 29) := ⟨⟨by decide +kernel, by decide +kernel⟩, List.mem_of_getElem? (i := 814) (by decide +kernel), List.mem_of_getElem? (i := 1246) (by decide +kernel), List.mem_of_getElem? (i := 1247) (by decide +kernel)⟩
theorem lw_p67 : lw_okq (⟨"GorseGoldModel", "lot", "(I)I"⟩, 29) := ⟨⟨by decide +kernel, by decide +kernel⟩, List.mem_of_getElem? (i := 814) (by decide +kernel), List.mem_of_getElem? (i := 1250) (by decide +kernel), List.mem_of_getElem? (i := 1251) (by decide +kernel)⟩
theorem lw_p68 : lw_okq (⟨"GorseGoldModel", "allYellow", "()I"⟩, 29) := ⟨⟨by decide +kernel, by decide +kernel⟩, List.mem_of_getElem? (i := 814) (by decide +kernel), List.mem_of_getElem? (i := 1263) (by decide +kernel), List.mem_of_getElem? (i := 1264) (by decide +kernel)⟩
theorem lw_p69 : lw_okq (⟨"GorseGoldModel", "tellsBush", "(JI)J"⟩, 29) := ⟨⟨by decide +kernel, by decide +kernel⟩, List.mem_of_getElem? (i := 814) (by decide +kernel), List.mem_of_getElem? (i := 1274) (by decide +kernel), List.mem_of_getElem? (i := 1275) (by decide +kernel)⟩
theorem lw_p70 : lw_okq (⟨"GorseGoldModel", "tellsMonth", "(JII)J"⟩, 29) := ⟨⟨by decide +kernel, by decide +kernel⟩, List.mem_of_getElem? (i := 814) (by decide +kernel), List.mem_of_getElem? (i := 1278) (by decide +kernel), List.mem_of_getElem? (i := 1279) (by decide +kernel)⟩
def lw_privs_5 : List (MethodName × Nat) := [(⟨"GorseGoldModel", "askOf", "(I)I"⟩, 29), (⟨"GorseGoldModel", "luckOf", "(III)J"⟩, 29), (⟨"GorseGoldModel", "centuryOf", "(III)I"⟩, 29), (⟨"GorseGoldModel", "lot", "(I)I"⟩, 29), (⟨"GorseGoldModel", "allYellow", "()I"⟩, 29), (⟨"GorseGoldModel", "tellsBush", "(JI)J"⟩, 29), (⟨"GorseGoldModel", "tellsMonth", "(JII)J"⟩, 29)]
theorem lw_r5 : ∀ q ∈ lw_privs_5, lw_okq q := List.forall_mem_cons.mpr ⟨lw_p64, List.forall_mem_cons.mpr ⟨lw_p65, List.forall_mem_cons.mpr ⟨lw_p66, List.forall_mem_cons.mpr ⟨lw_p67, List.forall_mem_cons.mpr ⟨lw_p68, List.forall_mem_cons.mpr ⟨lw_p69, List.forall_mem_cons.mpr ⟨lw_p70, fun _ h => absurd h List.not_mem_nil⟩⟩⟩⟩⟩⟩⟩
def lw_privs : List (MethodName × Nat) := lw_privs_1 ++ (lw_privs_2 ++ (lw_privs_3 ++ (lw_privs_4 ++ (lw_privs_5))))
def lw_tbl : List Cond := k2_sels lw_privs ++ tables_1
theorem lw_privs_ok : ∀ q ∈ lw_privs, lw_okq q := by
  show ∀ q ∈ lw_privs_1 ++ (lw_privs_2 ++ (lw_privs_3 ++ (lw_privs_4 ++ (lw_privs_5)))), lw_okq q
  exact List.forall_mem_append.mpr ⟨lw_r1, List.forall_mem_append.mpr ⟨lw_r2, List.forall_mem_append.mpr ⟨lw_r3, List.forall_mem_append.mpr ⟨lw_r4, lw_r5⟩⟩⟩⟩
def RX0 : String := "GorseGold$Bushes"
def TX0 : u_T := fun k => match k with
  | _ => ("GorseGold$Bushes", "text", "LGorseGold$Text;", true)
def tyX0 : Nat → FieldType := fun k => match k with
  | _ => .object "GorseGold$Text"
abbrev wsX00 : List Cond := u_ws RX0 TX0 1
theorem nmX0 : ∀ a, a < 1 → ∀ b, b < 1 → a ≠ b → (TX0 a).2.1 ≠ (TX0 b).2.1 := by decide +kernel
theorem tyX0_ok : ∀ k, k < 1 → parseFieldDescriptor (TX0 k).2.2.1 = some (tyX0 k) := by decide +kernel
abbrev cX0_init : ByteArray := prog_2_method_1_code
def yX0_init : MethodName := ⟨RX0, "<init>", "()V"⟩
abbrev cX0_size : ByteArray := prog_2_method_2_code
def yX0_size : MethodName := ⟨RX0, "size", "()I"⟩
abbrev cX0_has : ByteArray := prog_2_method_3_code
def yX0_has : MethodName := ⟨RX0, "has", "(I)Z"⟩
abbrev cX0_kindOf : ByteArray := prog_2_method_4_code
def yX0_kindOf : MethodName := ⟨RX0, "kindOf", "(I)I"⟩
abbrev cX0_beginOf : ByteArray := prog_2_method_5_code
def yX0_beginOf : MethodName := ⟨RX0, "beginOf", "(I)I"⟩
abbrev cX0_sparksOf : ByteArray := prog_2_method_6_code
def yX0_sparksOf : MethodName := ⟨RX0, "sparksOf", "(I)I"⟩
def RX1 : String := "GorseGold$Course"
def TX1 : u_T := fun k => match k with
  | 0 => ("GorseGold$Course", "held", "[I", true)
  | 1 => ("GorseGold$Course", "season", "I", false)
  | 2 => ("GorseGold$Course", "blooming", "I", false)
  | _ => ("GorseGold$Course", "seeming", "I", false)
def tyX1 : Nat → FieldType := fun k => match k with
  | 0 => .array .int
  | 1 => .int
  | 2 => .int
  | _ => .int
abbrev wsX10 : List Cond := u_ws RX1 TX1 4
theorem nmX1 : ∀ a, a < 4 → ∀ b, b < 4 → a ≠ b → (TX1 a).2.1 ≠ (TX1 b).2.1 := by decide +kernel
theorem tyX1_ok : ∀ k, k < 4 → parseFieldDescriptor (TX1 k).2.2.1 = some (tyX1 k) := by decide +kernel
abbrev cX1_init : ByteArray := prog_3_method_1_code
def yX1_init : MethodName := ⟨RX1, "<init>", "()V"⟩
abbrev cX1_follow : ByteArray := prog_3_method_2_code
def yX1_follow : MethodName := ⟨RX1, "follow", "(LGorseGold$Events;IIII)V"⟩
abbrev cX1_beginIn : ByteArray := prog_3_method_3_code
def yX1_beginIn : MethodName := ⟨RX1, "beginIn", "(II)V"⟩
abbrev cX1_stateIn : ByteArray := prog_3_method_4_code
def yX1_stateIn : MethodName := ⟨RX1, "stateIn", "(I)I"⟩
def RX2 : String := "GorseGold$Events"
def TX2 : u_T := fun k => match k with
  | 0 => ("GorseGold$Events", "kinds", "[I", true)
  | 1 => ("GorseGold$Events", "months", "[I", true)
  | 2 => ("GorseGold$Events", "bushes", "[I", true)
  | _ => ("GorseGold$Events", "size", "I", false)
def tyX2 : Nat → FieldType := fun k => match k with
  | 0 => .array .int
  | 1 => .array .int
  | 2 => .array .int
  | _ => .int
abbrev wsX20 : List Cond := u_ws RX2 TX2 4
theorem nmX2 : ∀ a, a < 4 → ∀ b, b < 4 → a ≠ b → (TX2 a).2.1 ≠ (TX2 b).2.1 := by decide +kernel
theorem tyX2_ok : ∀ k, k < 4 → parseFieldDescriptor (TX2 k).2.2.1 = some (tyX2 k) := by decide +kernel
abbrev cX2_init : ByteArray := prog_4_method_1_code
def yX2_init : MethodName := ⟨RX2, "<init>", "()V"⟩
abbrev cX2_add : ByteArray := prog_4_method_2_code
def yX2_add : MethodName := ⟨RX2, "add", "(III)I"⟩
abbrev cX2_dropLast : ByteArray := prog_4_method_3_code
def yX2_dropLast : MethodName := ⟨RX2, "dropLast", "()I"⟩
abbrev cX2_clear : ByteArray := prog_4_method_4_code
def yX2_clear : MethodName := ⟨RX2, "clear", "()V"⟩
abbrev cX2_holding : ByteArray := prog_4_method_5_code
def yX2_holding : MethodName := ⟨RX2, "holding", "(III)I"⟩
abbrev cX2_hindering : ByteArray := prog_4_method_6_code
def yX2_hindering : MethodName := ⟨RX2, "hindering", "(III)I"⟩
def RX3 : String := "GorseGold$Hill"
def TX3 : u_T := fun k => match k with
  | 0 => ("GorseGold$Hill", "bushes", "LGorseGold$Bushes;", true)
  | _ => ("GorseGold$Hill", "courses", "[LGorseGold$Course;", true)
def tyX3 : Nat → FieldType := fun k => match k with
  | 0 => .object "GorseGold$Bushes"
  | _ => .array (.object "GorseGold$Course")
abbrev wsX30 : List Cond := u_ws RX3 TX3 2
theorem nmX3 : ∀ a, a < 2 → ∀ b, b < 2 → a ≠ b → (TX3 a).2.1 ≠ (TX3 b).2.1 := by decide +kernel
theorem tyX3_ok : ∀ k, k < 2 → parseFieldDescriptor (TX3 k).2.2.1 = some (tyX3 k) := by decide +kernel
abbrev cX3_init : ByteArray := prog_5_method_1_code
def yX3_init : MethodName := ⟨RX3, "<init>", "()V"⟩
abbrev cX3_grow : ByteArray := prog_5_method_2_code
def yX3_grow : MethodName := ⟨RX3, "grow", "(LGorseGold$Events;I)I"⟩
abbrev cX3_yellowIn : ByteArray := prog_5_method_3_code
def yX3_yellowIn : MethodName := ⟨RX3, "yellowIn", "(I)I"⟩
abbrev cX3_seemingIn : ByteArray := prog_5_method_4_code
def yX3_seemingIn : MethodName := ⟨RX3, "seemingIn", "(I)I"⟩
def RX4 : String := "GorseGold$Looks"
def TX4 : u_T := fun k => match k with
  | _ => ("GorseGold$Looks", "text", "LGorseGold$Text;", true)
def tyX4 : Nat → FieldType := fun k => match k with
  | _ => .object "GorseGold$Text"
abbrev wsX40 : List Cond := u_ws RX4 TX4 1
theorem nmX4 : ∀ a, a < 1 → ∀ b, b < 1 → a ≠ b → (TX4 a).2.1 ≠ (TX4 b).2.1 := by decide +kernel
theorem tyX4_ok : ∀ k, k < 1 → parseFieldDescriptor (TX4 k).2.2.1 = some (tyX4 k) := by decide +kernel
abbrev cX4_init : ByteArray := prog_6_method_1_code
def yX4_init : MethodName := ⟨RX4, "<init>", "()V"⟩
abbrev cX4_size : ByteArray := prog_6_method_2_code
def yX4_size : MethodName := ⟨RX4, "size", "()I"⟩
abbrev cX4_has : ByteArray := prog_6_method_3_code
def yX4_has : MethodName := ⟨RX4, "has", "(I)Z"⟩
abbrev cX4_monthOf : ByteArray := prog_6_method_4_code
def yX4_monthOf : MethodName := ⟨RX4, "monthOf", "(I)I"⟩
abbrev cX4_bushOf : ByteArray := prog_6_method_5_code
def yX4_bushOf : MethodName := ⟨RX4, "bushOf", "(I)I"⟩
def RX5 : String := "GorseGold$Lots"
def TX5 : u_T := fun k => match k with
  | _ => ("GorseGold$Lots", "seed", "I", false)
def tyX5 : Nat → FieldType := fun k => match k with
  | _ => .int
abbrev wsX50 : List Cond := u_ws RX5 TX5 1
theorem nmX5 : ∀ a, a < 1 → ∀ b, b < 1 → a ≠ b → (TX5 a).2.1 ≠ (TX5 b).2.1 := by decide +kernel
theorem tyX5_ok : ∀ k, k < 1 → parseFieldDescriptor (TX5 k).2.2.1 = some (tyX5 k) := by decide +kernel
abbrev cX5_init : ByteArray := prog_7_method_1_code
def yX5_init : MethodName := ⟨RX5, "<init>", "()V"⟩
abbrev cX5_draw : ByteArray := prog_7_method_2_code
def yX5_draw : MethodName := ⟨RX5, "draw", "(I)I"⟩
def RX6 : String := "GorseGold$Market"
def TX6 : u_T := fun k => match k with
  | 0 => ("GorseGold$Market", "hill", "LGorseGold$Hill;", true)
  | 1 => ("GorseGold$Market", "looks", "LGorseGold$Looks;", true)
  | 2 => ("GorseGold$Market", "fires", "[I", true)
  | 3 => ("GorseGold$Market", "lookMonths", "[I", true)
  | 4 => ("GorseGold$Market", "lookWorths", "[I", true)
  | 5 => ("GorseGold$Market", "belief", "[I", true)
  | 6 => ("GorseGold$Market", "looksThatCount", "I", false)
  | 7 => ("GorseGold$Market", "runMonth", "I", false)
  | 8 => ("GorseGold$Market", "faith", "I", false)
  | _ => ("GorseGold$Market", "doubt", "I", false)
def tyX6 : Nat → FieldType := fun k => match k with
  | 0 => .object "GorseGold$Hill"
  | 1 => .object "GorseGold$Looks"
  | 2 => .array .int
  | 3 => .array .int
  | 4 => .array .int
  | 5 => .array .int
  | 6 => .int
  | 7 => .int
  | 8 => .int
  | _ => .int
abbrev wsX60 : List Cond := u_ws RX6 TX6 10
theorem nmX6 : ∀ a, a < 10 → ∀ b, b < 10 → a ≠ b → (TX6 a).2.1 ≠ (TX6 b).2.1 := by decide +kernel
theorem tyX6_ok : ∀ k, k < 10 → parseFieldDescriptor (TX6 k).2.2.1 = some (tyX6 k) := by decide +kernel
abbrev cX6_init : ByteArray := prog_8_method_1_code
def yX6_init : MethodName := ⟨RX6, "<init>", "()V"⟩
abbrev cX6_reckon : ByteArray := prog_8_method_2_code
def yX6_reckon : MethodName := ⟨RX6, "reckon", "(LGorseGold$Events;)V"⟩
abbrev cX6_runWith : ByteArray := prog_8_method_3_code
def yX6_runWith : MethodName := ⟨RX6, "runWith", "(II)I"⟩
abbrev cX6_countFires : ByteArray := prog_8_method_4_code
def yX6_countFires : MethodName := ⟨RX6, "countFires", "(LGorseGold$Events;)V"⟩
abbrev cX6_gatherLooks : ByteArray := prog_8_method_5_code
def yX6_gatherLooks : MethodName := ⟨RX6, "gatherLooks", "()V"⟩
abbrev cX6_worthOf : ByteArray := prog_8_method_6_code
def yX6_worthOf : MethodName := ⟨RX6, "worthOf", "(II)I"⟩
abbrev cX6_behind : ByteArray := prog_8_method_7_code
def yX6_behind : MethodName := ⟨RX6, "behind", "(III)I"⟩
abbrev cX6_bounded : ByteArray := prog_8_method_8_code
def yX6_bounded : MethodName := ⟨RX6, "bounded", "(I)I"⟩
def RX7 : String := "GorseGold$Seen"
def TX7 : u_T := fun k => match k with
  | 0 => ("GorseGold$Seen", "months", "[I", true)
  | 1 => ("GorseGold$Seen", "bushes", "[I", true)
  | 2 => ("GorseGold$Seen", "states", "[I", true)
  | _ => ("GorseGold$Seen", "size", "I", false)
def tyX7 : Nat → FieldType := fun k => match k with
  | 0 => .array .int
  | 1 => .array .int
  | 2 => .array .int
  | _ => .int
abbrev wsX70 : List Cond := u_ws RX7 TX7 4
theorem nmX7 : ∀ a, a < 4 → ∀ b, b < 4 → a ≠ b → (TX7 a).2.1 ≠ (TX7 b).2.1 := by decide +kernel
theorem tyX7_ok : ∀ k, k < 4 → parseFieldDescriptor (TX7 k).2.2.1 = some (tyX7 k) := by decide +kernel
abbrev cX7_init : ByteArray := prog_9_method_1_code
def yX7_init : MethodName := ⟨RX7, "<init>", "()V"⟩
abbrev cX7_add : ByteArray := prog_9_method_2_code
def yX7_add : MethodName := ⟨RX7, "add", "(III)I"⟩
abbrev cX7_clear : ByteArray := prog_9_method_3_code
def yX7_clear : MethodName := ⟨RX7, "clear", "()I"⟩
abbrev cX7_comeOut : ByteArray := prog_9_method_4_code
def yX7_comeOut : MethodName := ⟨RX7, "comeOut", "(LGorseGold$Hill;)Z"⟩
def RX8 : String := "GorseGold$Sheet"
def TX8 : u_T := fun k => match k with
  | 0 => ("GorseGold$Sheet", "items", "[I", true)
  | 1 => ("GorseGold$Sheet", "form", "I", false)
  | _ => ("GorseGold$Sheet", "size", "I", false)
def tyX8 : Nat → FieldType := fun k => match k with
  | 0 => .array .int
  | 1 => .int
  | _ => .int
abbrev wsX80 : List Cond := u_ws RX8 TX8 3
theorem nmX8 : ∀ a, a < 3 → ∀ b, b < 3 → a ≠ b → (TX8 a).2.1 ≠ (TX8 b).2.1 := by decide +kernel
theorem tyX8_ok : ∀ k, k < 3 → parseFieldDescriptor (TX8 k).2.2.1 = some (tyX8 k) := by decide +kernel
abbrev cX8_init : ByteArray := prog_10_method_1_code
def yX8_init : MethodName := ⟨RX8, "<init>", "()V"⟩
abbrev cX8_isLost : ByteArray := prog_10_method_2_code
def yX8_isLost : MethodName := ⟨RX8, "isLost", "()Z"⟩
abbrev cX8_renew : ByteArray := prog_10_method_3_code
def yX8_renew : MethodName := ⟨RX8, "renew", "(II)V"⟩
abbrev cX8_discard : ByteArray := prog_10_method_4_code
def yX8_discard : MethodName := ⟨RX8, "discard", "()I"⟩
abbrev cX8_hasItems : ByteArray := prog_10_method_5_code
def yX8_hasItems : MethodName := ⟨RX8, "hasItems", "(II)Z"⟩
abbrev cX8_item : ByteArray := prog_10_method_6_code
def yX8_item : MethodName := ⟨RX8, "item", "(I)I"⟩
abbrev cX8_put : ByteArray := prog_10_method_7_code
def yX8_put : MethodName := ⟨RX8, "put", "(II)V"⟩
abbrev cX8_narrowed : ByteArray := prog_10_method_8_code
def yX8_narrowed : MethodName := ⟨RX8, "narrowed", "(I)I"⟩
def RX9 : String := "GorseGold$Text"
def TX9 : u_T := fun k => match k with
  | 0 => ("GorseGold$Text", "bytes", "[I", true)
  | 1 => ("GorseGold$Text", "lows", "[I", true)
  | 2 => ("GorseGold$Text", "highs", "[I", true)
  | 3 => ("GorseGold$Text", "mostItems", "I", true)
  | 4 => ("GorseGold$Text", "step", "I", true)
  | 5 => ("GorseGold$Text", "length", "I", false)
  | 6 => ("GorseGold$Text", "faultPlace", "I", false)
  | _ => ("GorseGold$Text", "items", "I", false)
def tyX9 : Nat → FieldType := fun k => match k with
  | 0 => .array .int
  | 1 => .array .int
  | 2 => .array .int
  | 3 => .int
  | 4 => .int
  | 5 => .int
  | 6 => .int
  | _ => .int
abbrev wsX90 : List Cond := u_ws RX9 TX9 8
theorem nmX9 : ∀ a, a < 8 → ∀ b, b < 8 → a ≠ b → (TX9 a).2.1 ≠ (TX9 b).2.1 := by decide +kernel
theorem tyX9_ok : ∀ k, k < 8 → parseFieldDescriptor (TX9 k).2.2.1 = some (tyX9 k) := by decide +kernel
abbrev cX9_init : ByteArray := prog_11_method_1_code
def yX9_init : MethodName := ⟨RX9, "<init>", "(II[I[I)V"⟩
abbrev cX9_put : ByteArray := prog_11_method_2_code
def yX9_put : MethodName := ⟨RX9, "put", "(I)I"⟩
abbrev cX9_clear : ByteArray := prog_11_method_3_code
def yX9_clear : MethodName := ⟨RX9, "clear", "()I"⟩
abbrev cX9_drop : ByteArray := prog_11_method_4_code
def yX9_drop : MethodName := ⟨RX9, "drop", "()I"⟩
abbrev cX9_parse : ByteArray := prog_11_method_5_code
def yX9_parse : MethodName := ⟨RX9, "parse", "()V"⟩
abbrev cX9_firstFault : ByteArray := prog_11_method_6_code
def yX9_firstFault : MethodName := ⟨RX9, "firstFault", "()I"⟩
abbrev cX9_mayStand : ByteArray := prog_11_method_7_code
def yX9_mayStand : MethodName := ⟨RX9, "mayStand", "(III)Z"⟩
def RX10 : String := "GorseGold"
def TX10 : u_T := fun k => match k with
  | 0 => ("GorseGold", "market", "LGorseGold$Market;", true)
  | 1 => ("GorseGold", "hill", "LGorseGold$Hill;", true)
  | 2 => ("GorseGold", "bushes", "LGorseGold$Bushes;", true)
  | 3 => ("GorseGold", "looks", "LGorseGold$Looks;", true)
  | 4 => ("GorseGold", "events", "LGorseGold$Events;", true)
  | 5 => ("GorseGold", "drawn", "LGorseGold$Events;", true)
  | 6 => ("GorseGold", "lone", "LGorseGold$Course;", true)
  | 7 => ("GorseGold", "sights", "LGorseGold$Seen;", true)
  | 8 => ("GorseGold", "lots", "LGorseGold$Lots;", true)
  | 9 => ("GorseGold", "sheets", "[LGorseGold$Sheet;", true)
  | 10 => ("GorseGold", "hinderers", "[I", true)
  | 11 => ("GorseGold", "alike", "[I", true)
  | _ => ("GorseGold", "latestFinding", "I", false)
def tyX10 : Nat → FieldType := fun k => match k with
  | 0 => .object "GorseGold$Market"
  | 1 => .object "GorseGold$Hill"
  | 2 => .object "GorseGold$Bushes"
  | 3 => .object "GorseGold$Looks"
  | 4 => .object "GorseGold$Events"
  | 5 => .object "GorseGold$Events"
  | 6 => .object "GorseGold$Course"
  | 7 => .object "GorseGold$Seen"
  | 8 => .object "GorseGold$Lots"
  | 9 => .array (.object "GorseGold$Sheet")
  | 10 => .array .int
  | 11 => .array .int
  | _ => .int
abbrev wsX100 : List Cond := u_ws RX10 TX10 13
theorem nmX10 : ∀ a, a < 13 → ∀ b, b < 13 → a ≠ b → (TX10 a).2.1 ≠ (TX10 b).2.1 := by decide +kernel
theorem tyX10_ok : ∀ k, k < 13 → parseFieldDescriptor (TX10 k).2.2.1 = some (tyX10 k) := by decide +kernel
abbrev cX10_init : ByteArray := prog_1_method_1_code
def yX10_init : MethodName := ⟨RX10, "<init>", "()V"⟩
abbrev cX10_type : ByteArray := prog_1_method_2_code
def yX10_type : MethodName := ⟨RX10, "type", "(II)I"⟩
abbrev cX10_wipe : ByteArray := prog_1_method_3_code
def yX10_wipe : MethodName := ⟨RX10, "wipe", "(I)I"⟩
abbrev cX10_undo : ByteArray := prog_1_method_4_code
def yX10_undo : MethodName := ⟨RX10, "undo", "(I)I"⟩
abbrev cX10_fault : ByteArray := prog_1_method_5_code
def yX10_fault : MethodName := ⟨RX10, "fault", "(I)I"⟩
abbrev cX10_bush : ByteArray := prog_1_method_6_code
def yX10_bush : MethodName := ⟨RX10, "bush", "(II)I"⟩
abbrev cX10_look : ByteArray := prog_1_method_7_code
def yX10_look : MethodName := ⟨RX10, "look", "(II)I"⟩
abbrev cX10_set : ByteArray := prog_1_method_8_code
def yX10_set : MethodName := ⟨RX10, "set", "(II)I"⟩
abbrev cX10_event : ByteArray := prog_1_method_9_code
def yX10_event : MethodName := ⟨RX10, "event", "(III)I"⟩
abbrev cX10_back : ByteArray := prog_1_method_10_code
def yX10_back : MethodName := ⟨RX10, "back", "()I"⟩
abbrev cX10_read : ByteArray := prog_1_method_11_code
def yX10_read : MethodName := ⟨RX10, "read", "(I)I"⟩
abbrev cX10_at : ByteArray := prog_1_method_12_code
def yX10_at : MethodName := ⟨RX10, "at", "(III)I"⟩
abbrev cX10_hill : ByteArray := prog_1_method_13_code
def yX10_hill : MethodName := ⟨RX10, "hill", "(II)I"⟩
abbrev cX10_bare : ByteArray := prog_1_method_14_code
def yX10_bare : MethodName := ⟨RX10, "bare", "()I"⟩
abbrev cX10_run : ByteArray := prog_1_method_15_code
def yX10_run : MethodName := ⟨RX10, "run", "()I"⟩
abbrev cX10_fake : ByteArray := prog_1_method_16_code
def yX10_fake : MethodName := ⟨RX10, "fake", "()I"⟩
abbrev cX10_last : ByteArray := prog_1_method_17_code
def yX10_last : MethodName := ⟨RX10, "last", "(I)I"⟩
abbrev cX10_plant : ByteArray := prog_1_method_18_code
def yX10_plant : MethodName := ⟨RX10, "plant", "(I)I"⟩
abbrev cX10_send : ByteArray := prog_1_method_19_code
def yX10_send : MethodName := ⟨RX10, "send", "(I)I"⟩
abbrev cX10_save : ByteArray := prog_1_method_20_code
def yX10_save : MethodName := ⟨RX10, "save", "(I)I"⟩
abbrev cX10_deal : ByteArray := prog_1_method_21_code
def yX10_deal : MethodName := ⟨RX10, "deal", "(I)I"⟩
abbrev cX10_seen : ByteArray := prog_1_method_22_code
def yX10_seen : MethodName := ⟨RX10, "seen", "(III)I"⟩
abbrev cX10_forget : ByteArray := prog_1_method_23_code
def yX10_forget : MethodName := ⟨RX10, "forget", "()I"⟩
abbrev cX10_never : ByteArray := prog_1_method_24_code
def yX10_never : MethodName := ⟨RX10, "never", "()I"⟩
abbrev cX10_was : ByteArray := prog_1_method_25_code
def yX10_was : MethodName := ⟨RX10, "was", "(II)I"⟩
abbrev cX10_ask : ByteArray := prog_1_method_26_code
def yX10_ask : MethodName := ⟨RX10, "ask", "(I)I"⟩
abbrev cX10_luck : ByteArray := prog_1_method_27_code
def yX10_luck : MethodName := ⟨RX10, "luck", "(III)J"⟩
abbrev cX10_century : ByteArray := prog_1_method_28_code
def yX10_century : MethodName := ⟨RX10, "century", "(III)I"⟩
abbrev cX10_sheet : ByteArray := prog_1_method_29_code
def yX10_sheet : MethodName := ⟨RX10, "sheet", "(III)I"⟩
abbrev cX10_lose : ByteArray := prog_1_method_30_code
def yX10_lose : MethodName := ⟨RX10, "lose", "(I)I"⟩
abbrev cX10_lay : ByteArray := prog_1_method_31_code
def yX10_lay : MethodName := ⟨RX10, "lay", "(IIII)I"⟩
abbrev cX10_get : ByteArray := prog_1_method_32_code
def yX10_get : MethodName := ⟨RX10, "get", "(III)I"⟩
abbrev cX10_copy : ByteArray := prog_1_method_33_code
def yX10_copy : MethodName := ⟨RX10, "copy", "(IIIII)I"⟩
abbrev cX10_write : ByteArray := prog_1_method_34_code
def yX10_write : MethodName := ⟨RX10, "write", "(I)I"⟩
abbrev cX10_count : ByteArray := prog_1_method_35_code
def yX10_count : MethodName := ⟨RX10, "count", "(I)I"⟩
abbrev cX10_digest : ByteArray := prog_1_method_36_code
def yX10_digest : MethodName := ⟨RX10, "digest", "()J"⟩
abbrev cX10_digestOfCounts : ByteArray := prog_1_method_37_code
def yX10_digestOfCounts : MethodName := ⟨RX10, "digestOfCounts", "(J)J"⟩
abbrev cX10_digestOfMonths : ByteArray := prog_1_method_38_code
def yX10_digestOfMonths : MethodName := ⟨RX10, "digestOfMonths", "(J)J"⟩
abbrev cX10_digestOfLooks : ByteArray := prog_1_method_39_code
def yX10_digestOfLooks : MethodName := ⟨RX10, "digestOfLooks", "(J)J"⟩
abbrev cX10_digestOfBush : ByteArray := prog_1_method_40_code
def yX10_digestOfBush : MethodName := ⟨RX10, "digestOfBush", "(JI)J"⟩
abbrev cX10_digestOfBushIn : ByteArray := prog_1_method_41_code
def yX10_digestOfBushIn : MethodName := ⟨RX10, "digestOfBushIn", "(JII)J"⟩
abbrev cX10_digestOfHill : ByteArray := prog_1_method_42_code
def yX10_digestOfHill : MethodName := ⟨RX10, "digestOfHill", "(J)J"⟩
abbrev cX10_digestOfPlans : ByteArray := prog_1_method_43_code
def yX10_digestOfPlans : MethodName := ⟨RX10, "digestOfPlans", "(J)J"⟩
abbrev cX10_digestOfLuck : ByteArray := prog_1_method_44_code
def yX10_digestOfLuck : MethodName := ⟨RX10, "digestOfLuck", "(J)J"⟩
abbrev cX10_allYellow : ByteArray := prog_1_method_45_code
def yX10_allYellow : MethodName := ⟨RX10, "allYellow", "()I"⟩
abbrev cX10_bareIfPlanted : ByteArray := prog_1_method_46_code
def yX10_bareIfPlanted : MethodName := ⟨RX10, "bareIfPlanted", "(III)I"⟩
abbrev cX10_bestSend : ByteArray := prog_1_method_47_code
def yX10_bestSend : MethodName := ⟨RX10, "bestSend", "()I"⟩
abbrev cX10_bestDeal : ByteArray := prog_1_method_48_code
def yX10_bestDeal : MethodName := ⟨RX10, "bestDeal", "()I"⟩
abbrev cX10_fewestToLose : ByteArray := prog_1_method_49_code
def yX10_fewestToLose : MethodName := ⟨RX10, "fewestToLose", "()I"⟩
abbrev cX10_placeOfBit : ByteArray := prog_1_method_50_code
def yX10_placeOfBit : MethodName := ⟨RX10, "placeOfBit", "(II)I"⟩
abbrev cX10_beginsThatFit : ByteArray := prog_1_method_51_code
def yX10_beginsThatFit : MethodName := ⟨RX10, "beginsThatFit", "(I)I"⟩
abbrev cX10_kindsThatFit : ByteArray := prog_1_method_52_code
def yX10_kindsThatFit : MethodName := ⟨RX10, "kindsThatFit", "(I)I"⟩
abbrev cX10_greatestAlike : ByteArray := prog_1_method_53_code
def yX10_greatestAlike : MethodName := ⟨RX10, "greatestAlike", "(III)I"⟩
abbrev cX10_bareShares : ByteArray := prog_1_method_54_code
def yX10_bareShares : MethodName := ⟨RX10, "bareShares", "(II)J"⟩
abbrev cX10_gatherHinderers : ByteArray := prog_1_method_55_code
def yX10_gatherHinderers : MethodName := ⟨RX10, "gatherHinderers", "(I)I"⟩
abbrev cX10_hindersAll : ByteArray := prog_1_method_56_code
def yX10_hindersAll : MethodName := ⟨RX10, "hindersAll", "(II)Z"⟩
abbrev cX10_shareOf : ByteArray := prog_1_method_57_code
def yX10_shareOf : MethodName := ⟨RX10, "shareOf", "(II)J"⟩
abbrev cX10_drawEvents : ByteArray := prog_1_method_58_code
def yX10_drawEvents : MethodName := ⟨RX10, "drawEvents", "(II)V"⟩
abbrev cX10_finding : ByteArray := prog_1_method_59_code
def yX10_finding : MethodName := ⟨RX10, "finding", "(I)I"⟩
abbrev cX10_findingOfItem : ByteArray := prog_1_method_60_code
def yX10_findingOfItem : MethodName := ⟨RX10, "findingOfItem", "(LGorseGold$Sheet;II)I"⟩
abbrev cX10_textOf : ByteArray := prog_1_method_61_code
def yX10_textOf : MethodName := ⟨RX10, "textOf", "(I)LGorseGold$Text;"⟩
abbrev cX10_isText : ByteArray := prog_1_method_62_code
def yX10_isText : MethodName := ⟨RX10, "isText", "(I)Z"⟩
abbrev cX10_isMonth : ByteArray := prog_1_method_63_code
def yX10_isMonth : MethodName := ⟨RX10, "isMonth", "(I)Z"⟩
abbrev cX10_isSheet : ByteArray := prog_1_method_64_code
def yX10_isSheet : MethodName := ⟨RX10, "isSheet", "(I)Z"⟩
abbrev cX10_isForm : ByteArray := prog_1_method_65_code
def yX10_isForm : MethodName := ⟨RX10, "isForm", "(I)Z"⟩
abbrev cX10_mayBeEvent : ByteArray := prog_1_method_66_code
def yX10_mayBeEvent : MethodName := ⟨RX10, "mayBeEvent", "(III)Z"⟩
abbrev cX10_within : ByteArray := prog_1_method_67_code
def yX10_within : MethodName := ⟨RX10, "within", "(III)Z"⟩
abbrev cX10_bit : ByteArray := prog_1_method_68_code
def yX10_bit : MethodName := ⟨RX10, "bit", "(II)I"⟩
def RX11 : String := "GorseGoldModel"
def TX11 : u_T := fun k => match k with
  | 0 => ("GorseGoldModel", "forms", "[I", true)
  | 1 => ("GorseGoldModel", "sizes", "[I", true)
  | 2 => ("GorseGoldModel", "items", "[I", true)
  | 3 => ("GorseGoldModel", "moved", "[I", true)
  | 4 => ("GorseGoldModel", "latest", "I", false)
  | 5 => ("GorseGoldModel", "bytes", "[I", true)
  | 6 => ("GorseGoldModel", "typed", "[I", true)
  | 7 => ("GorseGoldModel", "bushes", "I", false)
  | 8 => ("GorseGoldModel", "bush", "[I", true)
  | 9 => ("GorseGoldModel", "looks", "I", false)
  | 10 => ("GorseGoldModel", "look", "[I", true)
  | 11 => ("GorseGoldModel", "faith", "I", false)
  | 12 => ("GorseGoldModel", "doubt", "I", false)
  | 13 => ("GorseGoldModel", "events", "I", false)
  | 14 => ("GorseGoldModel", "event", "[I", true)
  | 15 => ("GorseGoldModel", "gone", "I", false)
  | 16 => ("GorseGoldModel", "state", "[I", true)
  | 17 => ("GorseGoldModel", "painted", "[Z", true)
  | 18 => ("GorseGoldModel", "yellow", "[I", true)
  | 19 => ("GorseGoldModel", "belief", "[I", true)
  | 20 => ("GorseGoldModel", "seems", "[I", true)
  | 21 => ("GorseGoldModel", "hasMore", "Z", false)
  | 22 => ("GorseGoldModel", "oddMonth", "I", false)
  | 23 => ("GorseGoldModel", "oddBush", "I", false)
  | 24 => ("GorseGoldModel", "sights", "I", false)
  | 25 => ("GorseGoldModel", "sight", "[I", true)
  | 26 => ("GorseGoldModel", "alike", "[I", true)
  | 27 => ("GorseGoldModel", "drawn", "I", false)
  | _ => ("GorseGoldModel", "told", "[I", true)
def tyX11 : Nat → FieldType := fun k => match k with
  | 0 => .array .int
  | 1 => .array .int
  | 2 => .array .int
  | 3 => .array .int
  | 4 => .int
  | 5 => .array .int
  | 6 => .array .int
  | 7 => .int
  | 8 => .array .int
  | 9 => .int
  | 10 => .array .int
  | 11 => .int
  | 12 => .int
  | 13 => .int
  | 14 => .array .int
  | 15 => .int
  | 16 => .array .int
  | 17 => .array .boolean
  | 18 => .array .int
  | 19 => .array .int
  | 20 => .array .int
  | 21 => .boolean
  | 22 => .int
  | 23 => .int
  | 24 => .int
  | 25 => .array .int
  | 26 => .array .int
  | 27 => .int
  | _ => .array .int
abbrev wsX110 : List Cond := u_ws RX11 TX11 29
theorem nmX11 : ∀ a, a < 29 → ∀ b, b < 29 → a ≠ b → (TX11 a).2.1 ≠ (TX11 b).2.1 := by decide +kernel
theorem tyX11_ok : ∀ k, k < 29 → parseFieldDescriptor (TX11 k).2.2.1 = some (tyX11 k) := by decide +kernel
abbrev cX11_init : ByteArray := prog_13_method_1_code
def yX11_init : MethodName := ⟨RX11, "<init>", "()V"⟩
abbrev cX11_in : ByteArray := prog_13_method_3_code
def yX11_in : MethodName := ⟨RX11, "in", "(JJJ)Z"⟩
abbrev cX11_no : ByteArray := prog_13_method_4_code
def yX11_no : MethodName := ⟨RX11, "no", "(I)J"⟩
abbrev cX11_isTwo : ByteArray := prog_13_method_5_code
def yX11_isTwo : MethodName := ⟨RX11, "isTwo", "(I)Z"⟩
abbrev cX11_isIn : ByteArray := prog_13_method_6_code
def yX11_isIn : MethodName := ⟨RX11, "isIn", "(II)Z"⟩
abbrev cX11_ones : ByteArray := prog_13_method_7_code
def yX11_ones : MethodName := ⟨RX11, "ones", "(I)I"⟩
abbrev cX11_lesser : ByteArray := prog_13_method_8_code
def yX11_lesser : MethodName := ⟨RX11, "lesser", "(II)I"⟩
abbrev cX11_greater : ByteArray := prog_13_method_9_code
def yX11_greater : MethodName := ⟨RX11, "greater", "(II)I"⟩
abbrev cX11_part : ByteArray := prog_13_method_10_code
def yX11_part : MethodName := ⟨RX11, "part", "(JJI)J"⟩
abbrev cX11_finds : ByteArray := prog_13_method_11_code
def yX11_finds : MethodName := ⟨RX11, "finds", "(I)I"⟩
abbrev cX11_isSheet : ByteArray := prog_13_method_12_code
def yX11_isSheet : MethodName := ⟨RX11, "isSheet", "(I)Z"⟩
abbrev cX11_sheet : ByteArray := prog_13_method_13_code
def yX11_sheet : MethodName := ⟨RX11, "sheet", "(III)I"⟩
abbrev cX11_lose : ByteArray := prog_13_method_14_code
def yX11_lose : MethodName := ⟨RX11, "lose", "(I)I"⟩
abbrev cX11_lacks : ByteArray := prog_13_method_15_code
def yX11_lacks : MethodName := ⟨RX11, "lacks", "(III)I"⟩
abbrev cX11_cut : ByteArray := prog_13_method_16_code
def yX11_cut : MethodName := ⟨RX11, "cut", "(II)I"⟩
abbrev cX11_lay : ByteArray := prog_13_method_17_code
def yX11_lay : MethodName := ⟨RX11, "lay", "(IIII)I"⟩
abbrev cX11_get : ByteArray := prog_13_method_18_code
def yX11_get : MethodName := ⟨RX11, "get", "(III)I"⟩
abbrev cX11_copy : ByteArray := prog_13_method_19_code
def yX11_copy : MethodName := ⟨RX11, "copy", "(IIIII)I"⟩
abbrev cX11_type : ByteArray := prog_13_method_20_code
def yX11_type : MethodName := ⟨RX11, "type", "(II)I"⟩
abbrev cX11_wipe : ByteArray := prog_13_method_21_code
def yX11_wipe : MethodName := ⟨RX11, "wipe", "(I)I"⟩
abbrev cX11_undo : ByteArray := prog_13_method_22_code
def yX11_undo : MethodName := ⟨RX11, "undo", "(I)I"⟩
abbrev cX11_kindOf : ByteArray := prog_13_method_23_code
def yX11_kindOf : MethodName := ⟨RX11, "kindOf", "(I)I"⟩
abbrev cX11_bushOf : ByteArray := prog_13_method_24_code
def yX11_bushOf : MethodName := ⟨RX11, "bushOf", "(II)I"⟩
abbrev cX11_readsBushes : ByteArray := prog_13_method_25_code
def yX11_readsBushes : MethodName := ⟨RX11, "readsBushes", "()I"⟩
abbrev cX11_lookOf : ByteArray := prog_13_method_26_code
def yX11_lookOf : MethodName := ⟨RX11, "lookOf", "(II)I"⟩
abbrev cX11_readsLooks : ByteArray := prog_13_method_27_code
def yX11_readsLooks : MethodName := ⟨RX11, "readsLooks", "()I"⟩
abbrev cX11_readsText : ByteArray := prog_13_method_28_code
def yX11_readsText : MethodName := ⟨RX11, "readsText", "(I)I"⟩
abbrev cX11_fault : ByteArray := prog_13_method_29_code
def yX11_fault : MethodName := ⟨RX11, "fault", "(I)I"⟩
abbrev cX11_isBush : ByteArray := prog_13_method_30_code
def yX11_isBush : MethodName := ⟨RX11, "isBush", "(I)Z"⟩
abbrev cX11_isMonth : ByteArray := prog_13_method_31_code
def yX11_isMonth : MethodName := ⟨RX11, "isMonth", "(I)Z"⟩
abbrev cX11_bush : ByteArray := prog_13_method_32_code
def yX11_bush : MethodName := ⟨RX11, "bush", "(II)I"⟩
abbrev cX11_lookBy : ByteArray := prog_13_method_33_code
def yX11_lookBy : MethodName := ⟨RX11, "lookBy", "(II)I"⟩
abbrev cX11_look : ByteArray := prog_13_method_34_code
def yX11_look : MethodName := ⟨RX11, "look", "(II)I"⟩
abbrev cX11_set : ByteArray := prog_13_method_35_code
def yX11_set : MethodName := ⟨RX11, "set", "(II)I"⟩
abbrev cX11_puts : ByteArray := prog_13_method_36_code
def yX11_puts : MethodName := ⟨RX11, "puts", "(III)V"⟩
abbrev cX11_event : ByteArray := prog_13_method_37_code
def yX11_event : MethodName := ⟨RX11, "event", "(III)I"⟩
abbrev cX11_back : ByteArray := prog_13_method_38_code
def yX11_back : MethodName := ⟨RX11, "back", "()I"⟩
abbrev cX11_read : ByteArray := prog_13_method_39_code
def yX11_read : MethodName := ⟨RX11, "read", "(I)I"⟩
abbrev cX11_lasts : ByteArray := prog_13_method_40_code
def yX11_lasts : MethodName := ⟨RX11, "lasts", "(II)I"⟩
abbrev cX11_isOn : ByteArray := prog_13_method_41_code
def yX11_isOn : MethodName := ⟨RX11, "isOn", "(III)Z"⟩
abbrev cX11_isSeason : ByteArray := prog_13_method_42_code
def yX11_isSeason : MethodName := ⟨RX11, "isSeason", "(II)Z"⟩
abbrev cX11_stateOf : ByteArray := prog_13_method_43_code
def yX11_stateOf : MethodName := ⟨RX11, "stateOf", "(II)I"⟩
abbrev cX11_grows : ByteArray := prog_13_method_44_code
def yX11_grows : MethodName := ⟨RX11, "grows", "()V"⟩
abbrev cX11_isSeeming : ByteArray := prog_13_method_45_code
def yX11_isSeeming : MethodName := ⟨RX11, "isSeeming", "(II)Z"⟩
abbrev cX11_kept : ByteArray := prog_13_method_46_code
def yX11_kept : MethodName := ⟨RX11, "kept", "(I)I"⟩
abbrev cX11_looked : ByteArray := prog_13_method_47_code
def yX11_looked : MethodName := ⟨RX11, "looked", "(III)I"⟩
abbrev cX11_believes : ByteArray := prog_13_method_48_code
def yX11_believes : MethodName := ⟨RX11, "believes", "()V"⟩
abbrev cX11_lives : ByteArray := prog_13_method_49_code
def yX11_lives : MethodName := ⟨RX11, "lives", "()V"⟩
abbrev cX11_find : ByteArray := prog_13_method_50_code
def yX11_find : MethodName := ⟨RX11, "find", "()V"⟩
abbrev cX11_atBy : ByteArray := prog_13_method_51_code
def yX11_atBy : MethodName := ⟨RX11, "atBy", "(III)I"⟩
abbrev cX11_at : ByteArray := prog_13_method_52_code
def yX11_at : MethodName := ⟨RX11, "at", "(III)I"⟩
abbrev cX11_hillBy : ByteArray := prog_13_method_53_code
def yX11_hillBy : MethodName := ⟨RX11, "hillBy", "(II)I"⟩
abbrev cX11_hill : ByteArray := prog_13_method_54_code
def yX11_hill : MethodName := ⟨RX11, "hill", "(II)I"⟩
abbrev cX11_bareNow : ByteArray := prog_13_method_55_code
def yX11_bareNow : MethodName := ⟨RX11, "bareNow", "()I"⟩
abbrev cX11_bare : ByteArray := prog_13_method_56_code
def yX11_bare : MethodName := ⟨RX11, "bare", "()I"⟩
abbrev cX11_runNow : ByteArray := prog_13_method_57_code
def yX11_runNow : MethodName := ⟨RX11, "runNow", "()I"⟩
abbrev cX11_run : ByteArray := prog_13_method_58_code
def yX11_run : MethodName := ⟨RX11, "run", "()I"⟩
abbrev cX11_fakeNow : ByteArray := prog_13_method_59_code
def yX11_fakeNow : MethodName := ⟨RX11, "fakeNow", "()I"⟩
abbrev cX11_fake : ByteArray := prog_13_method_60_code
def yX11_fake : MethodName := ⟨RX11, "fake", "()I"⟩
abbrev cX11_lastBy : ByteArray := prog_13_method_61_code
def yX11_lastBy : MethodName := ⟨RX11, "lastBy", "(I)I"⟩
abbrev cX11_last : ByteArray := prog_13_method_62_code
def yX11_last : MethodName := ⟨RX11, "last", "(I)I"⟩
abbrev cX11_plantBy : ByteArray := prog_13_method_63_code
def yX11_plantBy : MethodName := ⟨RX11, "plantBy", "(I)I"⟩
abbrev cX11_plant : ByteArray := prog_13_method_64_code
def yX11_plant : MethodName := ⟨RX11, "plant", "(I)I"⟩
abbrev cX11_sendBy : ByteArray := prog_13_method_65_code
def yX11_sendBy : MethodName := ⟨RX11, "sendBy", "(I)I"⟩
abbrev cX11_send : ByteArray := prog_13_method_66_code
def yX11_send : MethodName := ⟨RX11, "send", "(I)I"⟩
abbrev cX11_isSaved : ByteArray := prog_13_method_67_code
def yX11_isSaved : MethodName := ⟨RX11, "isSaved", "(I)Z"⟩
abbrev cX11_saveOf : ByteArray := prog_13_method_68_code
def yX11_saveOf : MethodName := ⟨RX11, "saveOf", "(I)I"⟩
abbrev cX11_save : ByteArray := prog_13_method_69_code
def yX11_save : MethodName := ⟨RX11, "save", "(I)I"⟩
abbrev cX11_dealBy : ByteArray := prog_13_method_70_code
def yX11_dealBy : MethodName := ⟨RX11, "dealBy", "(I)I"⟩
abbrev cX11_deal : ByteArray := prog_13_method_71_code
def yX11_deal : MethodName := ⟨RX11, "deal", "(I)I"⟩
abbrev cX11_seen : ByteArray := prog_13_method_72_code
def yX11_seen : MethodName := ⟨RX11, "seen", "(III)I"⟩
abbrev cX11_forget : ByteArray := prog_13_method_73_code
def yX11_forget : MethodName := ⟨RX11, "forget", "()I"⟩
abbrev cX11_isSeen : ByteArray := prog_13_method_74_code
def yX11_isSeen : MethodName := ⟨RX11, "isSeen", "()Z"⟩
abbrev cX11_neverNow : ByteArray := prog_13_method_75_code
def yX11_neverNow : MethodName := ⟨RX11, "neverNow", "()I"⟩
abbrev cX11_never : ByteArray := prog_13_method_76_code
def yX11_never : MethodName := ⟨RX11, "never", "()I"⟩
abbrev cX11_beganOf : ByteArray := prog_13_method_77_code
def yX11_beganOf : MethodName := ⟨RX11, "beganOf", "(I)I"⟩
abbrev cX11_sortOf : ByteArray := prog_13_method_78_code
def yX11_sortOf : MethodName := ⟨RX11, "sortOf", "(I)I"⟩
abbrev cX11_wasOf : ByteArray := prog_13_method_79_code
def yX11_wasOf : MethodName := ⟨RX11, "wasOf", "(II)I"⟩
abbrev cX11_was : ByteArray := prog_13_method_80_code
def yX11_was : MethodName := ⟨RX11, "was", "(II)I"⟩
abbrev cX11_askOf : ByteArray := prog_13_method_81_code
def yX11_askOf : MethodName := ⟨RX11, "askOf", "(I)I"⟩
abbrev cX11_ask : ByteArray := prog_13_method_82_code
def yX11_ask : MethodName := ⟨RX11, "ask", "(I)I"⟩
abbrev cX11_luckOf : ByteArray := prog_13_method_83_code
def yX11_luckOf : MethodName := ⟨RX11, "luckOf", "(III)J"⟩
abbrev cX11_luck : ByteArray := prog_13_method_84_code
def yX11_luck : MethodName := ⟨RX11, "luck", "(III)J"⟩
abbrev cX11_lot : ByteArray := prog_13_method_85_code
def yX11_lot : MethodName := ⟨RX11, "lot", "(I)I"⟩
abbrev cX11_centuryOf : ByteArray := prog_13_method_86_code
def yX11_centuryOf : MethodName := ⟨RX11, "centuryOf", "(III)I"⟩
abbrev cX11_century : ByteArray := prog_13_method_87_code
def yX11_century : MethodName := ⟨RX11, "century", "(III)I"⟩
abbrev cX11_write : ByteArray := prog_13_method_88_code
def yX11_write : MethodName := ⟨RX11, "write", "(I)I"⟩
abbrev cX11_allYellow : ByteArray := prog_13_method_89_code
def yX11_allYellow : MethodName := ⟨RX11, "allYellow", "()I"⟩
abbrev cX11_count : ByteArray := prog_13_method_90_code
def yX11_count : MethodName := ⟨RX11, "count", "(I)I"⟩
abbrev cX11_tellsMonth : ByteArray := prog_13_method_91_code
def yX11_tellsMonth : MethodName := ⟨RX11, "tellsMonth", "(JII)J"⟩
abbrev cX11_tellsBush : ByteArray := prog_13_method_92_code
def yX11_tellsBush : MethodName := ⟨RX11, "tellsBush", "(JI)J"⟩
abbrev cX11_digest : ByteArray := prog_13_method_93_code
def yX11_digest : MethodName := ⟨RX11, "digest", "()J"⟩
def RJ6 : String := "java/lang/Integer"
abbrev cJ6_bitCount_0f7a4 : ByteArray := prog_14_method_49_code
def yJ6_bitCount_0f7a4 : MethodName := ⟨RJ6, "bitCount", "(I)I"⟩
def RJ9 : String := "java/lang/Math"
abbrev cJ9_max_7cf53 : ByteArray := prog_15_method_65_code
def yJ9_max_7cf53 : MethodName := ⟨RJ9, "max", "(II)I"⟩
abbrev cJ9_min_7cf53 : ByteArray := prog_15_method_69_code
def yJ9_min_7cf53 : MethodName := ⟨RJ9, "min", "(II)I"⟩
def RJ10 : String := "java/lang/System"
def RJ7 : String := "java/util/Arrays"
abbrev cJ7_fill_53178 : ByteArray := prog_17_method_103_code
def yJ7_fill_53178 : MethodName := ⟨RJ7, "fill", "([II)V"⟩
abbrev vwCl : List vw_C := [(RX0, TX0, 1), (RX1, TX1, 4), (RX2, TX2, 4), (RX3, TX3, 2), (RX4, TX4, 1), (RX5, TX5, 1), (RX6, TX6, 10), (RX7, TX7, 4), (RX8, TX8, 3), (RX9, TX9, 8), (RX10, TX10, 13), (RX11, TX11, 29)]
def R_law : String := "GorseGoldLaw"
def lw_P (b : Addr) (xs : List Int32) (args : Array Value) (s : State) : Prop := args = #[.ref b] ∧ s.IntsAt b xs ∧ xs.length ≤ 3072 ∧ (Jvm.Cond.and given_1 narrow_1).before args s = true
def lw_Q (_ : Array Value) (s : State) (o : Outcome) (t : State) : Prop := o = .returned (some (.int 1)) ∧ Framed s o t [] 600000 7302250
def lw_Z (below : List Frame) (a : Array Value) (s : State) : State → Prop := fun t => ∃ o, t.status = .running ∧ Ended t below o ∧ lw_Q a s o t
/-- the law's own end, with 1 on the stack, nothing written that was there before, its room as the claim has it -/
theorem lw_ret {p : Program} {l : Launch} {e : Env} {s : State} {m : MethodId} {below : List Frame} {meth : Method} {c : Code} {b : Nat} (hx : p.tables.exec = Jvm.exec) (hb : c.code = code) (hr : meth.sig.returnType = ret) (hlocks : meth.locks = false) {pc : Nat} {H : Heap} {ls : Array Slot} (hdg : decode code pc = .ok (.ireturn, 1)) : W p l e room_1 s m #[Value.ref b] below meth c H [] 600000 7302250 (lw_Z below #[Value.ref b] s) (F0 m pc ls [.int 1]) := by
  intro T hT X
  obtain ⟨fs, hret, hrun, hended, hW, hframe⟩ := X.leave (v := some (.int 1)) (hlocks := hlocks) (fun h => by rw [hr] at h; cases h)
  have hmeth' : T.vm.method? m = some meth := X.method'
  refine ⟨T.setFrames fs, ?_, .returned (some (.int 1)), hrun, hended, rfl, ⟨_, rfl⟩, hW, hframe⟩
  jvm_step X.here [X.here.top, hx, hb, hdg, hmeth', hr, ret, narrow_b1]
  (try refine ⟨rfl, ?_⟩); (try refine ⟨rfl, ?_⟩)
  first | (intro acts; rw [hret _ acts rfl rfl rfl]) | rw [hret _ _ rfl rfl rfl]
  exact Steps.refl _
/-- what holds at the law's entry: the machine, the code, the tables' words (any of lw_tbl by 'hts w (by decide +kernel)'), the script of L ints xs at the cell b, what the Statement gives of the start (any of its parts by flat_of_before) -/
def lw_At (p : Program) (s : State) (m : MethodId) (meth : Method) (c : Code) (b L : Nat) (xs : Nat → Int32) : Prop :=
  p.tables.exec = Jvm.exec ∧ c.code = code ∧ meth.sig.returnType = ret ∧ c.maxLocals = 4 ∧ s.vm.findClass R_law = some m.cls ∧ (∀ w ∈ lw_tbl, w.before #[Value.ref b] s = true) ∧ va_X b L xs s s.heap ∧ b < s.heap.size ∧ meth.locks = false ∧ (Jvm.Cond.and given_1 narrow_1).before #[Value.ref b] s = true
