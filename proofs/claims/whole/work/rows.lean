section
-- ===== PART A: goes FIRST, ahead of the names: the tables' words, and 'selects' of the private methods out of them =====
/-- a private method of a class that the tables say can be made, by its rows of tables_1 -/
def lw_okq (q : MethodName × Nat) : Prop := (q.1.cls ≠ "java/lang/invoke/MethodHandle" ∧ q.1.cls ≠ "java/lang/invoke/VarHandle") ∧ Cond.instantiable q.1.cls q.2 ∈ tables_1 ∧ Cond.privateMethod q.1 ∈ tables_1 ∧ Cond.instanceMethod q.1 ∈ tables_1
theorem lw_p0 : lw_okq (⟨"GorseGold", "textOf", "(I)LGorseGold$Text;"⟩, 13) := ⟨⟨by decide +kernel, by decide +kernel⟩, List.mem_of_getElem? (i := 18) (by decide +kernel), List.mem_of_getElem? (i := 314) (by decide +kernel), List.mem_of_getElem? (i := 315) (by decide +kernel)⟩
theorem lw_p1 : lw_okq (⟨"GorseGold$Text", "parse", "()V"⟩, 8) := ⟨⟨by decide +kernel, by decide +kernel⟩, List.mem_of_getElem? (i := 44) (by decide +kernel), List.mem_of_getElem? (i := 322) (by decide +kernel), List.mem_of_getElem? (i := 323) (by decide +kernel)⟩
theorem lw_p2 : lw_okq (⟨"GorseGold$Text", "firstFault", "()I"⟩, 8) := ⟨⟨by decide +kernel, by decide +kernel⟩, List.mem_of_getElem? (i := 44) (by decide +kernel), List.mem_of_getElem? (i := 326) (by decide +kernel), List.mem_of_getElem? (i := 327) (by decide +kernel)⟩
theorem lw_p3 : lw_okq (⟨"GorseGold$Text", "mayStand", "(III)Z"⟩, 8) := ⟨⟨by decide +kernel, by decide +kernel⟩, List.mem_of_getElem? (i := 44) (by decide +kernel), List.mem_of_getElem? (i := 330) (by decide +kernel), List.mem_of_getElem? (i := 331) (by decide +kernel)⟩
theorem lw_p4 : lw_okq (⟨"GorseGold", "finding", "(I)I"⟩, 13) := ⟨⟨by decide +kernel, by decide +kernel⟩, List.mem_of_getElem? (i := 18) (by decide +kernel), List.mem_of_getElem? (i := 434) (by decide +kernel), List.mem_of_getElem? (i := 435) (by decide +kernel)⟩
theorem lw_p5 : lw_okq (⟨"GorseGold$Market", "countFires", "(LGorseGold$Events;)V"⟩, 10) := ⟨⟨by decide +kernel, by decide +kernel⟩, List.mem_of_getElem? (i := 26) (by decide +kernel), List.mem_of_getElem? (i := 498) (by decide +kernel), List.mem_of_getElem? (i := 499) (by decide +kernel)⟩
theorem lw_p6 : lw_okq (⟨"GorseGold$Market", "gatherLooks", "()V"⟩, 10) := ⟨⟨by decide +kernel, by decide +kernel⟩, List.mem_of_getElem? (i := 26) (by decide +kernel), List.mem_of_getElem? (i := 504) (by decide +kernel), List.mem_of_getElem? (i := 505) (by decide +kernel)⟩
theorem lw_p7 : lw_okq (⟨"GorseGold$Market", "worthOf", "(II)I"⟩, 10) := ⟨⟨by decide +kernel, by decide +kernel⟩, List.mem_of_getElem? (i := 26) (by decide +kernel), List.mem_of_getElem? (i := 511) (by decide +kernel), List.mem_of_getElem? (i := 512) (by decide +kernel)⟩
theorem lw_p8 : lw_okq (⟨"GorseGold$Market", "behind", "(III)I"⟩, 10) := ⟨⟨by decide +kernel, by decide +kernel⟩, List.mem_of_getElem? (i := 26) (by decide +kernel), List.mem_of_getElem? (i := 517) (by decide +kernel), List.mem_of_getElem? (i := 518) (by decide +kernel)⟩
theorem lw_p9 : lw_okq (⟨"GorseGold", "bareIfPlanted", "(III)I"⟩, 13) := ⟨⟨by decide +kernel, by decide +kernel⟩, List.mem_of_getElem? (i := 18) (by decide +kernel), List.mem_of_getElem? (i := 568) (by decide +kernel), List.mem_of_getElem? (i := 569) (by decide +kernel)⟩
theorem lw_p10 : lw_okq (⟨"GorseGold", "bestSend", "()I"⟩, 13) := ⟨⟨by decide +kernel, by decide +kernel⟩, List.mem_of_getElem? (i := 18) (by decide +kernel), List.mem_of_getElem? (i := 576) (by decide +kernel), List.mem_of_getElem? (i := 577) (by decide +kernel)⟩
theorem lw_p11 : lw_okq (⟨"GorseGold", "fewestToLose", "()I"⟩, 13) := ⟨⟨by decide +kernel, by decide +kernel⟩, List.mem_of_getElem? (i := 18) (by decide +kernel), List.mem_of_getElem? (i := 588) (by decide +kernel), List.mem_of_getElem? (i := 589) (by decide +kernel)⟩
theorem lw_p12 : lw_okq (⟨"GorseGold", "bestDeal", "()I"⟩, 13) := ⟨⟨by decide +kernel, by decide +kernel⟩, List.mem_of_getElem? (i := 18) (by decide +kernel), List.mem_of_getElem? (i := 599) (by decide +kernel), List.mem_of_getElem? (i := 600) (by decide +kernel)⟩
theorem lw_p13 : lw_okq (⟨"GorseGold", "beginsThatFit", "(I)I"⟩, 13) := ⟨⟨by decide +kernel, by decide +kernel⟩, List.mem_of_getElem? (i := 18) (by decide +kernel), List.mem_of_getElem? (i := 633) (by decide +kernel), List.mem_of_getElem? (i := 634) (by decide +kernel)⟩
theorem lw_p14 : lw_okq (⟨"GorseGold", "kindsThatFit", "(I)I"⟩, 13) := ⟨⟨by decide +kernel, by decide +kernel⟩, List.mem_of_getElem? (i := 18) (by decide +kernel), List.mem_of_getElem? (i := 638) (by decide +kernel), List.mem_of_getElem? (i := 639) (by decide +kernel)⟩
theorem lw_p15 : lw_okq (⟨"GorseGold", "greatestAlike", "(III)I"⟩, 13) := ⟨⟨by decide +kernel, by decide +kernel⟩, List.mem_of_getElem? (i := 18) (by decide +kernel), List.mem_of_getElem? (i := 646) (by decide +kernel), List.mem_of_getElem? (i := 647) (by decide +kernel)⟩
def lw_privs_1 : List (MethodName × Nat) := [(⟨"GorseGold", "textOf", "(I)LGorseGold$Text;"⟩, 13), (⟨"GorseGold$Text", "parse", "()V"⟩, 8), (⟨"GorseGold$Text", "firstFault", "()I"⟩, 8), (⟨"GorseGold$Text", "mayStand", "(III)Z"⟩, 8), (⟨"GorseGold", "finding", "(I)I"⟩, 13), (⟨"GorseGold$Market", "countFires", "(LGorseGold$Events;)V"⟩, 10), (⟨"GorseGold$Market", "gatherLooks", "()V"⟩, 10), (⟨"GorseGold$Market", "worthOf", "(II)I"⟩, 10), (⟨"GorseGold$Market", "behind", "(III)I"⟩, 10), (⟨"GorseGold", "bareIfPlanted", "(III)I"⟩, 13), (⟨"GorseGold", "bestSend", "()I"⟩, 13), (⟨"GorseGold", "fewestToLose", "()I"⟩, 13), (⟨"GorseGold", "bestDeal", "()I"⟩, 13), (⟨"GorseGold", "beginsThatFit", "(I)I"⟩, 13), (⟨"GorseGold", "kindsThatFit", "(I)I"⟩, 13), (⟨"GorseGold", "greatestAlike", "(III)I"⟩, 13)]
theorem lw_r1 : ∀ q ∈ lw_privs_1, lw_okq q := List.forall_mem_cons.mpr ⟨lw_p0, List.forall_mem_cons.mpr ⟨lw_p1, List.forall_mem_cons.mpr ⟨lw_p2, List.forall_mem_cons.mpr ⟨lw_p3, List.forall_mem_cons.mpr ⟨lw_p4, List.forall_mem_cons.mpr ⟨lw_p5, List.forall_mem_cons.mpr ⟨lw_p6, List.forall_mem_cons.mpr ⟨lw_p7, List.forall_mem_cons.mpr ⟨lw_p8, List.forall_mem_cons.mpr ⟨lw_p9, List.forall_mem_cons.mpr ⟨lw_p10, List.forall_mem_cons.mpr ⟨lw_p11, List.forall_mem_cons.mpr ⟨lw_p12, List.forall_mem_cons.mpr ⟨lw_p13, List.forall_mem_cons.mpr ⟨lw_p14, List.forall_mem_cons.mpr ⟨lw_p15, fun _ h => absurd h List.not_mem_nil⟩⟩⟩⟩⟩⟩⟩⟩⟩⟩⟩⟩⟩⟩⟩⟩
theorem lw_p16 : lw_okq (⟨"GorseGold", "bareShares", "(II)J"⟩, 13) := ⟨⟨by decide +kernel, by decide +kernel⟩, List.mem_of_getElem? (i := 18) (by decide +kernel), List.mem_of_getElem? (i := 657) (by decide +kernel), List.mem_of_getElem? (i := 658) (by decide +kernel)⟩
theorem lw_p17 : lw_okq (⟨"GorseGold", "gatherHinderers", "(I)I"⟩, 13) := ⟨⟨by decide +kernel, by decide +kernel⟩, List.mem_of_getElem? (i := 18) (by decide +kernel), List.mem_of_getElem? (i := 661) (by decide +kernel), List.mem_of_getElem? (i := 662) (by decide +kernel)⟩
theorem lw_p18 : lw_okq (⟨"GorseGold", "hindersAll", "(II)Z"⟩, 13) := ⟨⟨by decide +kernel, by decide +kernel⟩, List.mem_of_getElem? (i := 18) (by decide +kernel), List.mem_of_getElem? (i := 671) (by decide +kernel), List.mem_of_getElem? (i := 672) (by decide +kernel)⟩
theorem lw_p19 : lw_okq (⟨"GorseGold", "shareOf", "(II)J"⟩, 13) := ⟨⟨by decide +kernel, by decide +kernel⟩, List.mem_of_getElem? (i := 18) (by decide +kernel), List.mem_of_getElem? (i := 675) (by decide +kernel), List.mem_of_getElem? (i := 676) (by decide +kernel)⟩
theorem lw_p20 : lw_okq (⟨"GorseGold", "drawEvents", "(II)V"⟩, 13) := ⟨⟨by decide +kernel, by decide +kernel⟩, List.mem_of_getElem? (i := 18) (by decide +kernel), List.mem_of_getElem? (i := 683) (by decide +kernel), List.mem_of_getElem? (i := 684) (by decide +kernel)⟩
theorem lw_p21 : lw_okq (⟨"GorseGold$Sheet", "narrowed", "(I)I"⟩, 3) := ⟨⟨by decide +kernel, by decide +kernel⟩, List.mem_of_getElem? (i := 245) (by decide +kernel), List.mem_of_getElem? (i := 728) (by decide +kernel), List.mem_of_getElem? (i := 729) (by decide +kernel)⟩
theorem lw_p22 : lw_okq (⟨"GorseGold", "allYellow", "()I"⟩, 13) := ⟨⟨by decide +kernel, by decide +kernel⟩, List.mem_of_getElem? (i := 18) (by decide +kernel), List.mem_of_getElem? (i := 754) (by decide +kernel), List.mem_of_getElem? (i := 755) (by decide +kernel)⟩
theorem lw_p23 : lw_okq (⟨"GorseGold", "digestOfCounts", "(J)J"⟩, 13) := ⟨⟨by decide +kernel, by decide +kernel⟩, List.mem_of_getElem? (i := 18) (by decide +kernel), List.mem_of_getElem? (i := 763) (by decide +kernel), List.mem_of_getElem? (i := 764) (by decide +kernel)⟩
theorem lw_p24 : lw_okq (⟨"GorseGold", "digestOfMonths", "(J)J"⟩, 13) := ⟨⟨by decide +kernel, by decide +kernel⟩, List.mem_of_getElem? (i := 18) (by decide +kernel), List.mem_of_getElem? (i := 770) (by decide +kernel), List.mem_of_getElem? (i := 771) (by decide +kernel)⟩
theorem lw_p25 : lw_okq (⟨"GorseGold", "digestOfLooks", "(J)J"⟩, 13) := ⟨⟨by decide +kernel, by decide +kernel⟩, List.mem_of_getElem? (i := 18) (by decide +kernel), List.mem_of_getElem? (i := 775) (by decide +kernel), List.mem_of_getElem? (i := 776) (by decide +kernel)⟩
theorem lw_p26 : lw_okq (⟨"GorseGold", "digestOfBush", "(JI)J"⟩, 13) := ⟨⟨by decide +kernel, by decide +kernel⟩, List.mem_of_getElem? (i := 18) (by decide +kernel), List.mem_of_getElem? (i := 780) (by decide +kernel), List.mem_of_getElem? (i := 781) (by decide +kernel)⟩
theorem lw_p27 : lw_okq (⟨"GorseGold", "digestOfBushIn", "(JII)J"⟩, 13) := ⟨⟨by decide +kernel, by decide +kernel⟩, List.mem_of_getElem? (i := 18) (by decide +kernel), List.mem_of_getElem? (i := 785) (by decide +kernel), List.mem_of_getElem? (i := 786) (by decide +kernel)⟩
theorem lw_p28 : lw_okq (⟨"GorseGold", "digestOfHill", "(J)J"⟩, 13) := ⟨⟨by decide +kernel, by decide +kernel⟩, List.mem_of_getElem? (i := 18) (by decide +kernel), List.mem_of_getElem? (i := 792) (by decide +kernel), List.mem_of_getElem? (i := 793) (by decide +kernel)⟩
theorem lw_p29 : lw_okq (⟨"GorseGold", "digestOfPlans", "(J)J"⟩, 13) := ⟨⟨by decide +kernel, by decide +kernel⟩, List.mem_of_getElem? (i := 18) (by decide +kernel), List.mem_of_getElem? (i := 799) (by decide +kernel), List.mem_of_getElem? (i := 800) (by decide +kernel)⟩
theorem lw_p30 : lw_okq (⟨"GorseGold", "digestOfLuck", "(J)J"⟩, 13) := ⟨⟨by decide +kernel, by decide +kernel⟩, List.mem_of_getElem? (i := 18) (by decide +kernel), List.mem_of_getElem? (i := 807) (by decide +kernel), List.mem_of_getElem? (i := 808) (by decide +kernel)⟩
theorem lw_p31 : lw_okq (⟨"GorseGoldModel", "finds", "(I)I"⟩, 29) := ⟨⟨by decide +kernel, by decide +kernel⟩, List.mem_of_getElem? (i := 814) (by decide +kernel), List.mem_of_getElem? (i := 921) (by decide +kernel), List.mem_of_getElem? (i := 922) (by decide +kernel)⟩
def lw_privs_2 : List (MethodName × Nat) := [(⟨"GorseGold", "bareShares", "(II)J"⟩, 13), (⟨"GorseGold", "gatherHinderers", "(I)I"⟩, 13), (⟨"GorseGold", "hindersAll", "(II)Z"⟩, 13), (⟨"GorseGold", "shareOf", "(II)J"⟩, 13), (⟨"GorseGold", "drawEvents", "(II)V"⟩, 13), (⟨"GorseGold$Sheet", "narrowed", "(I)I"⟩, 3), (⟨"GorseGold", "allYellow", "()I"⟩, 13), (⟨"GorseGold", "digestOfCounts", "(J)J"⟩, 13), (⟨"GorseGold", "digestOfMonths", "(J)J"⟩, 13), (⟨"GorseGold", "digestOfLooks", "(J)J"⟩, 13), (⟨"GorseGold", "digestOfBush", "(JI)J"⟩, 13), (⟨"GorseGold", "digestOfBushIn", "(JII)J"⟩, 13), (⟨"GorseGold", "digestOfHill", "(J)J"⟩, 13), (⟨"GorseGold", "digestOfPlans", "(J)J"⟩, 13), (⟨"GorseGold", "digestOfLuck", "(J)J"⟩, 13), (⟨"GorseGoldModel", "finds", "(I)I"⟩, 29)]
theorem lw_r2 : ∀ q ∈ lw_privs_2, lw_okq q := List.forall_mem_cons.mpr ⟨lw_p16, List.forall_mem_cons.mpr ⟨lw_p17, List.forall_mem_cons.mpr ⟨lw_p18, List.forall_mem_cons.mpr ⟨lw_p19, List.forall_mem_cons.mpr ⟨lw_p20, List.forall_mem_cons.mpr ⟨lw_p21, List.forall_mem_cons.mpr ⟨lw_p22, List.forall_mem_cons.mpr ⟨lw_p23, List.forall_mem_cons.mpr ⟨lw_p24, List.forall_mem_cons.mpr ⟨lw_p25, List.forall_mem_cons.mpr ⟨lw_p26, List.forall_mem_cons.mpr ⟨lw_p27, List.forall_mem_cons.mpr ⟨lw_p28, List.forall_mem_cons.mpr ⟨lw_p29, List.forall_mem_cons.mpr ⟨lw_p30, List.forall_mem_cons.mpr ⟨lw_p31, fun _ h => absurd h List.not_mem_nil⟩⟩⟩⟩⟩⟩⟩⟩⟩⟩⟩⟩⟩⟩⟩⟩
theorem lw_p32 : lw_okq (⟨"GorseGoldModel", "lacks", "(III)I"⟩, 29) := ⟨⟨by decide +kernel, by decide +kernel⟩, List.mem_of_getElem? (i := 814) (by decide +kernel), List.mem_of_getElem? (i := 933) (by decide +kernel), List.mem_of_getElem? (i := 934) (by decide +kernel)⟩
theorem lw_p33 : lw_okq (⟨"GorseGoldModel", "readsText", "(I)I"⟩, 29) := ⟨⟨by decide +kernel, by decide +kernel⟩, List.mem_of_getElem? (i := 814) (by decide +kernel), List.mem_of_getElem? (i := 969) (by decide +kernel), List.mem_of_getElem? (i := 970) (by decide +kernel)⟩
theorem lw_p34 : lw_okq (⟨"GorseGoldModel", "readsBushes", "()I"⟩, 29) := ⟨⟨by decide +kernel, by decide +kernel⟩, List.mem_of_getElem? (i := 814) (by decide +kernel), List.mem_of_getElem? (i := 973) (by decide +kernel), List.mem_of_getElem? (i := 974) (by decide +kernel)⟩
theorem lw_p35 : lw_okq (⟨"GorseGoldModel", "readsLooks", "()I"⟩, 29) := ⟨⟨by decide +kernel, by decide +kernel⟩, List.mem_of_getElem? (i := 814) (by decide +kernel), List.mem_of_getElem? (i := 987) (by decide +kernel), List.mem_of_getElem? (i := 988) (by decide +kernel)⟩
theorem lw_p36 : lw_okq (⟨"GorseGoldModel", "isBush", "(I)Z"⟩, 29) := ⟨⟨by decide +kernel, by decide +kernel⟩, List.mem_of_getElem? (i := 814) (by decide +kernel), List.mem_of_getElem? (i := 1000) (by decide +kernel), List.mem_of_getElem? (i := 1001) (by decide +kernel)⟩
theorem lw_p37 : lw_okq (⟨"GorseGoldModel", "lookBy", "(II)I"⟩, 29) := ⟨⟨by decide +kernel, by decide +kernel⟩, List.mem_of_getElem? (i := 814) (by decide +kernel), List.mem_of_getElem? (i := 1009) (by decide +kernel), List.mem_of_getElem? (i := 1010) (by decide +kernel)⟩
theorem lw_p38 : lw_okq (⟨"GorseGoldModel", "puts", "(III)V"⟩, 29) := ⟨⟨by decide +kernel, by decide +kernel⟩, List.mem_of_getElem? (i := 814) (by decide +kernel), List.mem_of_getElem? (i := 1028) (by decide +kernel), List.mem_of_getElem? (i := 1029) (by decide +kernel)⟩
theorem lw_p39 : lw_okq (⟨"GorseGoldModel", "find", "()V"⟩, 29) := ⟨⟨by decide +kernel, by decide +kernel⟩, List.mem_of_getElem? (i := 814) (by decide +kernel), List.mem_of_getElem? (i := 1045) (by decide +kernel), List.mem_of_getElem? (i := 1046) (by decide +kernel)⟩
theorem lw_p40 : lw_okq (⟨"GorseGoldModel", "lives", "()V"⟩, 29) := ⟨⟨by decide +kernel, by decide +kernel⟩, List.mem_of_getElem? (i := 814) (by decide +kernel), List.mem_of_getElem? (i := 1049) (by decide +kernel), List.mem_of_getElem? (i := 1050) (by decide +kernel)⟩
theorem lw_p41 : lw_okq (⟨"GorseGoldModel", "grows", "()V"⟩, 29) := ⟨⟨by decide +kernel, by decide +kernel⟩, List.mem_of_getElem? (i := 814) (by decide +kernel), List.mem_of_getElem? (i := 1053) (by decide +kernel), List.mem_of_getElem? (i := 1054) (by decide +kernel)⟩
theorem lw_p42 : lw_okq (⟨"GorseGoldModel", "stateOf", "(II)I"⟩, 29) := ⟨⟨by decide +kernel, by decide +kernel⟩, List.mem_of_getElem? (i := 814) (by decide +kernel), List.mem_of_getElem? (i := 1057) (by decide +kernel), List.mem_of_getElem? (i := 1058) (by decide +kernel)⟩
theorem lw_p43 : lw_okq (⟨"GorseGoldModel", "isOn", "(III)Z"⟩, 29) := ⟨⟨by decide +kernel, by decide +kernel⟩, List.mem_of_getElem? (i := 814) (by decide +kernel), List.mem_of_getElem? (i := 1061) (by decide +kernel), List.mem_of_getElem? (i := 1062) (by decide +kernel)⟩
theorem lw_p44 : lw_okq (⟨"GorseGoldModel", "isSeason", "(II)Z"⟩, 29) := ⟨⟨by decide +kernel, by decide +kernel⟩, List.mem_of_getElem? (i := 814) (by decide +kernel), List.mem_of_getElem? (i := 1071) (by decide +kernel), List.mem_of_getElem? (i := 1072) (by decide +kernel)⟩
theorem lw_p45 : lw_okq (⟨"GorseGoldModel", "isSeeming", "(II)Z"⟩, 29) := ⟨⟨by decide +kernel, by decide +kernel⟩, List.mem_of_getElem? (i := 814) (by decide +kernel), List.mem_of_getElem? (i := 1075) (by decide +kernel), List.mem_of_getElem? (i := 1076) (by decide +kernel)⟩
theorem lw_p46 : lw_okq (⟨"GorseGoldModel", "believes", "()V"⟩, 29) := ⟨⟨by decide +kernel, by decide +kernel⟩, List.mem_of_getElem? (i := 814) (by decide +kernel), List.mem_of_getElem? (i := 1079) (by decide +kernel), List.mem_of_getElem? (i := 1080) (by decide +kernel)⟩
theorem lw_p47 : lw_okq (⟨"GorseGoldModel", "looked", "(III)I"⟩, 29) := ⟨⟨by decide +kernel, by decide +kernel⟩, List.mem_of_getElem? (i := 814) (by decide +kernel), List.mem_of_getElem? (i := 1086) (by decide +kernel), List.mem_of_getElem? (i := 1087) (by decide +kernel)⟩
def lw_privs_3 : List (MethodName × Nat) := [(⟨"GorseGoldModel", "lacks", "(III)I"⟩, 29), (⟨"GorseGoldModel", "readsText", "(I)I"⟩, 29), (⟨"GorseGoldModel", "readsBushes", "()I"⟩, 29), (⟨"GorseGoldModel", "readsLooks", "()I"⟩, 29), (⟨"GorseGoldModel", "isBush", "(I)Z"⟩, 29), (⟨"GorseGoldModel", "lookBy", "(II)I"⟩, 29), (⟨"GorseGoldModel", "puts", "(III)V"⟩, 29), (⟨"GorseGoldModel", "find", "()V"⟩, 29), (⟨"GorseGoldModel", "lives", "()V"⟩, 29), (⟨"GorseGoldModel", "grows", "()V"⟩, 29), (⟨"GorseGoldModel", "stateOf", "(II)I"⟩, 29), (⟨"GorseGoldModel", "isOn", "(III)Z"⟩, 29), (⟨"GorseGoldModel", "isSeason", "(II)Z"⟩, 29), (⟨"GorseGoldModel", "isSeeming", "(II)Z"⟩, 29), (⟨"GorseGoldModel", "believes", "()V"⟩, 29), (⟨"GorseGoldModel", "looked", "(III)I"⟩, 29)]
theorem lw_r3 : ∀ q ∈ lw_privs_3, lw_okq q := List.forall_mem_cons.mpr ⟨lw_p32, List.forall_mem_cons.mpr ⟨lw_p33, List.forall_mem_cons.mpr ⟨lw_p34, List.forall_mem_cons.mpr ⟨lw_p35, List.forall_mem_cons.mpr ⟨lw_p36, List.forall_mem_cons.mpr ⟨lw_p37, List.forall_mem_cons.mpr ⟨lw_p38, List.forall_mem_cons.mpr ⟨lw_p39, List.forall_mem_cons.mpr ⟨lw_p40, List.forall_mem_cons.mpr ⟨lw_p41, List.forall_mem_cons.mpr ⟨lw_p42, List.forall_mem_cons.mpr ⟨lw_p43, List.forall_mem_cons.mpr ⟨lw_p44, List.forall_mem_cons.mpr ⟨lw_p45, List.forall_mem_cons.mpr ⟨lw_p46, List.forall_mem_cons.mpr ⟨lw_p47, fun _ h => absurd h List.not_mem_nil⟩⟩⟩⟩⟩⟩⟩⟩⟩⟩⟩⟩⟩⟩⟩⟩
theorem lw_p48 : lw_okq (⟨"GorseGoldModel", "atBy", "(III)I"⟩, 29) := ⟨⟨by decide +kernel, by decide +kernel⟩, List.mem_of_getElem? (i := 814) (by decide +kernel), List.mem_of_getElem? (i := 1090) (by decide +kernel), List.mem_of_getElem? (i := 1091) (by decide +kernel)⟩
theorem lw_p49 : lw_okq (⟨"GorseGoldModel", "hillBy", "(II)I"⟩, 29) := ⟨⟨by decide +kernel, by decide +kernel⟩, List.mem_of_getElem? (i := 814) (by decide +kernel), List.mem_of_getElem? (i := 1098) (by decide +kernel), List.mem_of_getElem? (i := 1099) (by decide +kernel)⟩
theorem lw_p50 : lw_okq (⟨"GorseGoldModel", "bareNow", "()I"⟩, 29) := ⟨⟨by decide +kernel, by decide +kernel⟩, List.mem_of_getElem? (i := 814) (by decide +kernel), List.mem_of_getElem? (i := 1106) (by decide +kernel), List.mem_of_getElem? (i := 1107) (by decide +kernel)⟩
theorem lw_p51 : lw_okq (⟨"GorseGoldModel", "runNow", "()I"⟩, 29) := ⟨⟨by decide +kernel, by decide +kernel⟩, List.mem_of_getElem? (i := 814) (by decide +kernel), List.mem_of_getElem? (i := 1114) (by decide +kernel), List.mem_of_getElem? (i := 1115) (by decide +kernel)⟩
theorem lw_p52 : lw_okq (⟨"GorseGoldModel", "fakeNow", "()I"⟩, 29) := ⟨⟨by decide +kernel, by decide +kernel⟩, List.mem_of_getElem? (i := 814) (by decide +kernel), List.mem_of_getElem? (i := 1122) (by decide +kernel), List.mem_of_getElem? (i := 1123) (by decide +kernel)⟩
theorem lw_p53 : lw_okq (⟨"GorseGoldModel", "lastBy", "(I)I"⟩, 29) := ⟨⟨by decide +kernel, by decide +kernel⟩, List.mem_of_getElem? (i := 814) (by decide +kernel), List.mem_of_getElem? (i := 1130) (by decide +kernel), List.mem_of_getElem? (i := 1131) (by decide +kernel)⟩
theorem lw_p54 : lw_okq (⟨"GorseGoldModel", "plantBy", "(I)I"⟩, 29) := ⟨⟨by decide +kernel, by decide +kernel⟩, List.mem_of_getElem? (i := 814) (by decide +kernel), List.mem_of_getElem? (i := 1141) (by decide +kernel), List.mem_of_getElem? (i := 1142) (by decide +kernel)⟩
theorem lw_p55 : lw_okq (⟨"GorseGoldModel", "sendBy", "(I)I"⟩, 29) := ⟨⟨by decide +kernel, by decide +kernel⟩, List.mem_of_getElem? (i := 814) (by decide +kernel), List.mem_of_getElem? (i := 1155) (by decide +kernel), List.mem_of_getElem? (i := 1156) (by decide +kernel)⟩
theorem lw_p56 : lw_okq (⟨"GorseGoldModel", "saveOf", "(I)I"⟩, 29) := ⟨⟨by decide +kernel, by decide +kernel⟩, List.mem_of_getElem? (i := 814) (by decide +kernel), List.mem_of_getElem? (i := 1164) (by decide +kernel), List.mem_of_getElem? (i := 1165) (by decide +kernel)⟩
theorem lw_p57 : lw_okq (⟨"GorseGoldModel", "isSaved", "(I)Z"⟩, 29) := ⟨⟨by decide +kernel, by decide +kernel⟩, List.mem_of_getElem? (i := 814) (by decide +kernel), List.mem_of_getElem? (i := 1168) (by decide +kernel), List.mem_of_getElem? (i := 1169) (by decide +kernel)⟩
theorem lw_p58 : lw_okq (⟨"GorseGoldModel", "dealBy", "(I)I"⟩, 29) := ⟨⟨by decide +kernel, by decide +kernel⟩, List.mem_of_getElem? (i := 814) (by decide +kernel), List.mem_of_getElem? (i := 1176) (by decide +kernel), List.mem_of_getElem? (i := 1177) (by decide +kernel)⟩
theorem lw_p59 : lw_okq (⟨"GorseGoldModel", "neverNow", "()I"⟩, 29) := ⟨⟨by decide +kernel, by decide +kernel⟩, List.mem_of_getElem? (i := 814) (by decide +kernel), List.mem_of_getElem? (i := 1193) (by decide +kernel), List.mem_of_getElem? (i := 1194) (by decide +kernel)⟩
theorem lw_p60 : lw_okq (⟨"GorseGoldModel", "isSeen", "()Z"⟩, 29) := ⟨⟨by decide +kernel, by decide +kernel⟩, List.mem_of_getElem? (i := 814) (by decide +kernel), List.mem_of_getElem? (i := 1197) (by decide +kernel), List.mem_of_getElem? (i := 1198) (by decide +kernel)⟩
theorem lw_p61 : lw_okq (⟨"GorseGoldModel", "wasOf", "(II)I"⟩, 29) := ⟨⟨by decide +kernel, by decide +kernel⟩, List.mem_of_getElem? (i := 814) (by decide +kernel), List.mem_of_getElem? (i := 1205) (by decide +kernel), List.mem_of_getElem? (i := 1206) (by decide +kernel)⟩
theorem lw_p62 : lw_okq (⟨"GorseGoldModel", "beganOf", "(I)I"⟩, 29) := ⟨⟨by decide +kernel, by decide +kernel⟩, List.mem_of_getElem? (i := 814) (by decide +kernel), List.mem_of_getElem? (i := 1209) (by decide +kernel), List.mem_of_getElem? (i := 1210) (by decide +kernel)⟩
theorem lw_p63 : lw_okq (⟨"GorseGoldModel", "sortOf", "(I)I"⟩, 29) := ⟨⟨by decide +kernel, by decide +kernel⟩, List.mem_of_getElem? (i := 814) (by decide +kernel), List.mem_of_getElem? (i := 1213) (by decide +kernel), List.mem_of_getElem? (i := 1214) (by decide +kernel)⟩
def lw_privs_4 : List (MethodName × Nat) := [(⟨"GorseGoldModel", "atBy", "(III)I"⟩, 29), (⟨"GorseGoldModel", "hillBy", "(II)I"⟩, 29), (⟨"GorseGoldModel", "bareNow", "()I"⟩, 29), (⟨"GorseGoldModel", "runNow", "()I"⟩, 29), (⟨"GorseGoldModel", "fakeNow", "()I"⟩, 29), (⟨"GorseGoldModel", "lastBy", "(I)I"⟩, 29), (⟨"GorseGoldModel", "plantBy", "(I)I"⟩, 29), (⟨"GorseGoldModel", "sendBy", "(I)I"⟩, 29), (⟨"GorseGoldModel", "saveOf", "(I)I"⟩, 29), (⟨"GorseGoldModel", "isSaved", "(I)Z"⟩, 29), (⟨"GorseGoldModel", "dealBy", "(I)I"⟩, 29), (⟨"GorseGoldModel", "neverNow", "()I"⟩, 29), (⟨"GorseGoldModel", "isSeen", "()Z"⟩, 29), (⟨"GorseGoldModel", "wasOf", "(II)I"⟩, 29), (⟨"GorseGoldModel", "beganOf", "(I)I"⟩, 29), (⟨"GorseGoldModel", "sortOf", "(I)I"⟩, 29)]
theorem lw_r4 : ∀ q ∈ lw_privs_4, lw_okq q := List.forall_mem_cons.mpr ⟨lw_p48, List.forall_mem_cons.mpr ⟨lw_p49, List.forall_mem_cons.mpr ⟨lw_p50, List.forall_mem_cons.mpr ⟨lw_p51, List.forall_mem_cons.mpr ⟨lw_p52, List.forall_mem_cons.mpr ⟨lw_p53, List.forall_mem_cons.mpr ⟨lw_p54, List.forall_mem_cons.mpr ⟨lw_p55, List.forall_mem_cons.mpr ⟨lw_p56, List.forall_mem_cons.mpr ⟨lw_p57, List.forall_mem_cons.mpr ⟨lw_p58, List.forall_mem_cons.mpr ⟨lw_p59, List.forall_mem_cons.mpr ⟨lw_p60, List.forall_mem_cons.mpr ⟨lw_p61, List.forall_mem_cons.mpr ⟨lw_p62, List.forall_mem_cons.mpr ⟨lw_p63, fun _ h => absurd h List.not_mem_nil⟩⟩⟩⟩⟩⟩⟩⟩⟩⟩⟩⟩⟩⟩⟩⟩
theorem lw_p64 : lw_okq (⟨"GorseGoldModel", "askOf", "(I)I"⟩, 29) := ⟨⟨by decide +kernel, by decide +kernel⟩, List.mem_of_getElem? (i := 814) (by decide +kernel), List.mem_of_getElem? (i := 1221) (by decide +kernel), List.mem_of_getElem? (i := 1222) (by decide +kernel)⟩
theorem lw_p65 : lw_okq (⟨"GorseGoldModel", "luckOf", "(III)J"⟩, 29) := ⟨⟨by decide +kernel, by decide +kernel⟩, List.mem_of_getElem? (i := 814) (by decide +kernel), List.mem_of_getElem? (i := 1230) (by decide +kernel), List.mem_of_getElem? (i := 1231) (by decide +kernel)⟩
theorem lw_p66 : lw_okq (⟨"GorseGoldModel", "centuryOf", "(III)I"⟩, 29) := ⟨⟨by decide +kernel, by decide +kernel⟩, List.mem_of_getElem? (i := 814) (by decide +kernel), List.mem_of_getElem? (i := 1246) (by decide +kernel), List.mem_of_getElem? (i := 1247) (by decide +kernel)⟩
theorem lw_p67 : lw_okq (⟨"GorseGoldModel", "lot", "(I)I"⟩, 29) := ⟨⟨by decide +kernel, by decide +kernel⟩, List.mem_of_getElem? (i := 814) (by decide +kernel), List.mem_of_getElem? (i := 1250) (by decide +kernel), List.mem_of_getElem? (i := 1251) (by decide +kernel)⟩
theorem lw_p68 : lw_okq (⟨"GorseGoldModel", "allYellow", "()I"⟩, 29) := ⟨⟨by decide +kernel, by decide +kernel⟩, List.mem_of_getElem? (i := 814) (by decide +kernel), List.mem_of_getElem? (i := 1263) (by decide +kernel), List.mem_of_getElem? (i := 1264) (by decide +kernel)⟩
theorem lw_p69 : lw_okq (⟨"GorseGoldModel", "tellsBush", "(JI)J"⟩, 29) := ⟨⟨by decide +kernel, by decide +kernel⟩, List.mem_of_getElem? (i := 814) (by decide +kernel), List.mem_of_getElem? (i := 1274) (by decide +kernel), List.mem_of_getElem? (i := 1275) (by decide +kernel)⟩
theorem lw_p70 : lw_okq (⟨"GorseGoldModel", "tellsMonth", "(JII)J"⟩, 29) := ⟨⟨by decide +kernel, by decide +kernel⟩, List.mem_of_getElem? (i := 814) (by decide +kernel), List.mem_of_getElem? (i := 1278) (by decide +kernel), List.mem_of_getElem? (i := 1279) (by decide +kernel)⟩
def lw_privs_5 : List (MethodName × Nat) := [(⟨"GorseGoldModel", "askOf", "(I)I"⟩, 29), (⟨"GorseGoldModel", "luckOf", "(III)J"⟩, 29), (⟨"GorseGoldModel", "centuryOf", "(III)I"⟩, 29), (⟨"GorseGoldModel", "lot", "(I)I"⟩, 29), (⟨"GorseGoldModel", "allYellow", "()I"⟩, 29), (⟨"GorseGoldModel", "tellsBush", "(JI)J"⟩, 29), (⟨"GorseGoldModel", "tellsMonth", "(JII)J"⟩, 29)]
theorem lw_r5 : ∀ q ∈ lw_privs_5, lw_okq q := List.forall_mem_cons.mpr ⟨lw_p64, List.forall_mem_cons.mpr ⟨lw_p65, List.forall_mem_cons.mpr ⟨lw_p66, List.forall_mem_cons.mpr ⟨lw_p67, List.forall_mem_cons.mpr ⟨lw_p68, List.forall_mem_cons.mpr ⟨lw_p69, List.forall_mem_cons.mpr ⟨lw_p70, fun _ h => absurd h List.not_mem_nil⟩⟩⟩⟩⟩⟩⟩
def lw_privs : List (MethodName × Nat) := lw_privs_1 ++ (lw_privs_2 ++ (lw_privs_3 ++ (lw_privs_4 ++ (lw_privs_5))))
def lw_tbl : List Cond := k2_sels lw_privs ++ tables_1
theorem lw_privs_ok : ∀ q ∈ lw_privs, lw_okq q := by
  show ∀ q ∈ lw_privs_1 ++ (lw_privs_2 ++ (lw_privs_3 ++ (lw_privs_4 ++ (lw_privs_5)))), lw_okq q
  exact List.forall_mem_append.mpr ⟨lw_r1, List.forall_mem_append.mpr ⟨lw_r2, List.forall_mem_append.mpr ⟨lw_r3, List.forall_mem_append.mpr ⟨lw_r4, lw_r5⟩⟩⟩⟩
def RX0 : String := "GorseGold$Bushes"
def TX0 : u_T := fun k => match k with
  | _ => ("GorseGold$Bushes", "text", "LGorseGold$Text;", true)
def tyX0 : Nat → FieldType := fun k => match k with
  | _ => .object "GorseGold$Text"
abbrev wsX00 : List Cond := u_ws RX0 TX0 1
theorem nmX0 : ∀ a, a < 1 → ∀ b, b < 1 → a ≠ b → (TX0 a).2.1 ≠ (TX0 b).2.1 := by decide +kernel
theorem tyX0_ok : ∀ k, k < 1 → parseFieldDescriptor (TX0 k).2.2.1 = some (tyX0 k) := by decide +kernel
abbrev cX0_init : ByteArray := prog_2_method_1_code
def yX0_init : MethodName := ⟨RX0, "<init>", "()V"⟩
abbrev cX0_size : ByteArray := prog_2_method_2_code
def yX0_size : MethodName := ⟨RX0, "size", "()I"⟩
abbrev cX0_has : ByteArray := prog_2_method_3_code
def yX0_has : MethodName := ⟨RX0, "has", "(I)Z"⟩
abbrev cX0_kindOf : ByteArray := prog_2_method_4_code
def yX0_kindOf : MethodName := ⟨RX0, "kindOf", "(I)I"⟩
abbrev cX0_beginOf : ByteArray := prog_2_method_5_code
def yX0_beginOf : MethodName := ⟨RX0, "beginOf", "(I)I"⟩
abbrev cX0_sparksOf : ByteArray := prog_2_method_6_code
def yX0_sparksOf : MethodName := ⟨RX0, "sparksOf", "(I)I"⟩
def RX1 : String := "GorseGold$Course"
def TX1 : u_T := fun k => match k with
  | 0 => ("GorseGold$Course", "held", "[I", true)
  | 1 => ("GorseGold$Course", "season", "I", false)
  | 2 => ("GorseGold$Course", "blooming", "I", false)
  | _ => ("GorseGold$Course", "seeming", "I", false)
def tyX1 : Nat → FieldType := fun k => match k with
  | 0 => .array .int
  | 1 => .int
  | 2 => .int
  | _ => .int
abbrev wsX10 : List Cond := u_ws RX1 TX1 4
theorem nmX1 : ∀ a, a < 4 → ∀ b, b < 4 → a ≠ b → (TX1 a).2.1 ≠ (TX1 b).2.1 := by decide +kernel
theorem tyX1_ok : ∀ k, k < 4 → parseFieldDescriptor (TX1 k).2.2.1 = some (tyX1 k) := by decide +kernel
abbrev cX1_init : ByteArray := prog_3_method_1_code
def yX1_init : MethodName := ⟨RX1, "<init>", "()V"⟩
abbrev cX1_follow : ByteArray := prog_3_method_2_code
def yX1_follow : MethodName := ⟨RX1, "follow", "(LGorseGold$Events;IIII)V"⟩
abbrev cX1_beginIn : ByteArray := prog_3_method_3_code
def yX1_beginIn : MethodName := ⟨RX1, "beginIn", "(II)V"⟩
abbrev cX1_stateIn : ByteArray := prog_3_method_4_code
def yX1_stateIn : MethodName := ⟨RX1, "stateIn", "(I)I"⟩
def RX2 : String := "GorseGold$Events"
def TX2 : u_T := fun k => match k with
  | 0 => ("GorseGold$Events", "kinds", "[I", true)
  | 1 => ("GorseGold$Events", "months", "[I", true)
  | 2 => ("GorseGold$Events", "bushes", "[I", true)
  | _ => ("GorseGold$Events", "size", "I", false)
def tyX2 : Nat → FieldType := fun k => match k with
  | 0 => .array .int
  | 1 => .array .int
  | 2 => .array .int
  | _ => .int
abbrev wsX20 : List Cond := u_ws RX2 TX2 4
theorem nmX2 : ∀ a, a < 4 → ∀ b, b < 4 → a ≠ b → (TX2 a).2.1 ≠ (TX2 b).2.1 := by decide +kernel
theorem tyX2_ok : ∀ k, k < 4 → parseFieldDescriptor (TX2 k).2.2.1 = some (tyX2 k) := by decide +kernel
abbrev cX2_init : ByteArray := prog_4_method_1_code
def yX2_init : MethodName := ⟨RX2, "<init>", "()V"⟩
abbrev cX2_add : ByteArray := prog_4_method_2_code
def yX2_add : MethodName := ⟨RX2, "add", "(III)I"⟩
abbrev cX2_dropLast : ByteArray := prog_4_method_3_code
def yX2_dropLast : MethodName := ⟨RX2, "dropLast", "()I"⟩
abbrev cX2_clear : ByteArray := prog_4_method_4_code
def yX2_clear : MethodName := ⟨RX2, "clear", "()V"⟩
abbrev cX2_holding : ByteArray := prog_4_method_5_code
def yX2_holding : MethodName := ⟨RX2, "holding", "(III)I"⟩
abbrev cX2_hindering : ByteArray := prog_4_method_6_code
def yX2_hindering : MethodName := ⟨RX2, "hindering", "(III)I"⟩
def RX3 : String := "GorseGold$Hill"
def TX3 : u_T := fun k => match k with
  | 0 => ("GorseGold$Hill", "bushes", "LGorseGold$Bushes;", true)
  | _ => ("GorseGold$Hill", "courses", "[LGorseGold$Course;", true)
def tyX3 : Nat → FieldType := fun k => match k with
  | 0 => .object "GorseGold$Bushes"
  | _ => .array (.object "GorseGold$Course")
abbrev wsX30 : List Cond := u_ws RX3 TX3 2
theorem nmX3 : ∀ a, a < 2 → ∀ b, b < 2 → a ≠ b → (TX3 a).2.1 ≠ (TX3 b).2.1 := by decide +kernel
theorem tyX3_ok : ∀ k, k < 2 → parseFieldDescriptor (TX3 k).2.2.1 = some (tyX3 k) := by decide +kernel
abbrev cX3_init : ByteArray := prog_5_method_1_code
def yX3_init : MethodName := ⟨RX3, "<init>", "()V"⟩
abbrev cX3_grow : ByteArray := prog_5_method_2_code
def yX3_grow : MethodName := ⟨RX3, "grow", "(LGorseGold$Events;I)I"⟩
abbrev cX3_yellowIn : ByteArray := prog_5_method_3_code
def yX3_yellowIn : MethodName := ⟨RX3, "yellowIn", "(I)I"⟩
abbrev cX3_seemingIn : ByteArray := prog_5_method_4_code
def yX3_seemingIn : MethodName := ⟨RX3, "seemingIn", "(I)I"⟩
def RX4 : String := "GorseGold$Looks"
def TX4 : u_T := fun k => match k with
  | _ => ("GorseGold$Looks", "text", "LGorseGold$Text;", true)
def tyX4 : Nat → FieldType := fun k => match k with
  | _ => .object "GorseGold$Text"
abbrev wsX40 : List Cond := u_ws RX4 TX4 1
theorem nmX4 : ∀ a, a < 1 → ∀ b, b < 1 → a ≠ b → (TX4 a).2.1 ≠ (TX4 b).2.1 := by decide +kernel
theorem tyX4_ok : ∀ k, k < 1 → parseFieldDescriptor (TX4 k).2.2.1 = some (tyX4 k) := by decide +kernel
abbrev cX4_init : ByteArray := prog_6_method_1_code
def yX4_init : MethodName := ⟨RX4, "<init>", "()V"⟩
abbrev cX4_size : ByteArray := prog_6_method_2_code
def yX4_size : MethodName := ⟨RX4, "size", "()I"⟩
abbrev cX4_has : ByteArray := prog_6_method_3_code
def yX4_has : MethodName := ⟨RX4, "has", "(I)Z"⟩
abbrev cX4_monthOf : ByteArray := prog_6_method_4_code
def yX4_monthOf : MethodName := ⟨RX4, "monthOf", "(I)I"⟩
abbrev cX4_bushOf : ByteArray := prog_6_method_5_code
def yX4_bushOf : MethodName := ⟨RX4, "bushOf", "(I)I"⟩
def RX5 : String := "GorseGold$Lots"
def TX5 : u_T := fun k => match k with
  | _ => ("GorseGold$Lots", "seed", "I", false)
def tyX5 : Nat → FieldType := fun k => match k with
  | _ => .int
abbrev wsX50 : List Cond := u_ws RX5 TX5 1
theorem nmX5 : ∀ a, a < 1 → ∀ b, b < 1 → a ≠ b → (TX5 a).2.1 ≠ (TX5 b).2.1 := by decide +kernel
theorem tyX5_ok : ∀ k, k < 1 → parseFieldDescriptor (TX5 k).2.2.1 = some (tyX5 k) := by decide +kernel
abbrev cX5_init : ByteArray := prog_7_method_1_code
def yX5_init : MethodName := ⟨RX5, "<init>", "()V"⟩
abbrev cX5_draw : ByteArray := prog_7_method_2_code
def yX5_draw : MethodName := ⟨RX5, "draw", "(I)I"⟩
def RX6 : String := "GorseGold$Market"
def TX6 : u_T := fun k => match k with
  | 0 => ("GorseGold$Market", "hill", "LGorseGold$Hill;", true)
  | 1 => ("GorseGold$Market", "looks", "LGorseGold$Looks;", true)
  | 2 => ("GorseGold$Market", "fires", "[I", true)
  | 3 => ("GorseGold$Market", "lookMonths", "[I", true)
  | 4 => ("GorseGold$Market", "lookWorths", "[I", true)
  | 5 => ("GorseGold$Market", "belief", "[I", true)
  | 6 => ("GorseGold$Market", "looksThatCount", "I", false)
  | 7 => ("GorseGold$Market", "runMonth", "I", false)
  | 8 => ("GorseGold$Market", "faith", "I", false)
  | _ => ("GorseGold$Market", "doubt", "I", false)
def tyX6 : Nat → FieldType := fun k => match k with
  | 0 => .object "GorseGold$Hill"
  | 1 => .object "GorseGold$Looks"
  | 2 => .array .int
  | 3 => .array .int
  | 4 => .array .int
  | 5 => .array .int
  | 6 => .int
  | 7 => .int
  | 8 => .int
  | _ => .int
abbrev wsX60 : List Cond := u_ws RX6 TX6 10
theorem nmX6 : ∀ a, a < 10 → ∀ b, b < 10 → a ≠ b → (TX6 a).2.1 ≠ (TX6 b).2.1 := by decide +kernel
theorem tyX6_ok : ∀ k, k < 10 → parseFieldDescriptor (TX6 k).2.2.1 = some (tyX6 k) := by decide +kernel
abbrev cX6_init : ByteArray := prog_8_method_1_code
def yX6_init : MethodName := ⟨RX6, "<init>", "()V"⟩
abbrev cX6_reckon : ByteArray := prog_8_method_2_code
def yX6_reckon : MethodName := ⟨RX6, "reckon", "(LGorseGold$Events;)V"⟩
abbrev cX6_runWith : ByteArray := prog_8_method_3_code
def yX6_runWith : MethodName := ⟨RX6, "runWith", "(II)I"⟩
abbrev cX6_countFires : ByteArray := prog_8_method_4_code
def yX6_countFires : MethodName := ⟨RX6, "countFires", "(LGorseGold$Events;)V"⟩
abbrev cX6_gatherLooks : ByteArray := prog_8_method_5_code
def yX6_gatherLooks : MethodName := ⟨RX6, "gatherLooks", "()V"⟩
abbrev cX6_worthOf : ByteArray := prog_8_method_6_code
def yX6_worthOf : MethodName := ⟨RX6, "worthOf", "(II)I"⟩
abbrev cX6_behind : ByteArray := prog_8_method_7_code
def yX6_behind : MethodName := ⟨RX6, "behind", "(III)I"⟩
abbrev cX6_bounded : ByteArray := prog_8_method_8_code
def yX6_bounded : MethodName := ⟨RX6, "bounded", "(I)I"⟩
def RX7 : String := "GorseGold$Seen"
def TX7 : u_T := fun k => match k with
  | 0 => ("GorseGold$Seen", "months", "[I", true)
  | 1 => ("GorseGold$Seen", "bushes", "[I", true)
  | 2 => ("GorseGold$Seen", "states", "[I", true)
  | _ => ("GorseGold$Seen", "size", "I", false)
def tyX7 : Nat → FieldType := fun k => match k with
  | 0 => .array .int
  | 1 => .array .int
  | 2 => .array .int
  | _ => .int
abbrev wsX70 : List Cond := u_ws RX7 TX7 4
theorem nmX7 : ∀ a, a < 4 → ∀ b, b < 4 → a ≠ b → (TX7 a).2.1 ≠ (TX7 b).2.1 := by decide +kernel
theorem tyX7_ok : ∀ k, k < 4 → parseFieldDescriptor (TX7 k).2.2.1 = some (tyX7 k) := by decide +kernel
abbrev cX7_init : ByteArray := prog_9_method_1_code
def yX7_init : MethodName := ⟨RX7, "<init>", "()V"⟩
abbrev cX7_add : ByteArray := prog_9_method_2_code
def yX7_add : MethodName := ⟨RX7, "add", "(III)I"⟩
abbrev cX7_clear : ByteArray := prog_9_method_3_code
def yX7_clear : MethodName := ⟨RX7, "clear", "()I"⟩
abbrev cX7_comeOut : ByteArray := prog_9_method_4_code
def yX7_comeOut : MethodName := ⟨RX7, "comeOut", "(LGorseGold$Hill;)Z"⟩
def RX8 : String := "GorseGold$Sheet"
def TX8 : u_T := fun k => match k with
  | 0 => ("GorseGold$Sheet", "items", "[I", true)
  | 1 => ("GorseGold$Sheet", "form", "I", false)
  | _ => ("GorseGold$Sheet", "size", "I", false)
def tyX8 : Nat → FieldType := fun k => match k with
  | 0 => .array .int
  | 1 => .int
  | _ => .int
abbrev wsX80 : List Cond := u_ws RX8 TX8 3
theorem nmX8 : ∀ a, a < 3 → ∀ b, b < 3 → a ≠ b → (TX8 a).2.1 ≠ (TX8 b).2.1 := by decide +kernel
theorem tyX8_ok : ∀ k, k < 3 → parseFieldDescriptor (TX8 k).2.2.1 = some (tyX8 k) := by decide +kernel
abbrev cX8_init : ByteArray := prog_10_method_1_code
def yX8_init : MethodName := ⟨RX8, "<init>", "()V"⟩
abbrev cX8_isLost : ByteArray := prog_10_method_2_code
def yX8_isLost : MethodName := ⟨RX8, "isLost", "()Z"⟩
abbrev cX8_renew : ByteArray := prog_10_method_3_code
def yX8_renew : MethodName := ⟨RX8, "renew", "(II)V"⟩
abbrev cX8_discard : ByteArray := prog_10_method_4_code
def yX8_discard : MethodName := ⟨RX8, "discard", "()I"⟩
abbrev cX8_hasItems : ByteArray := prog_10_method_5_code
def yX8_hasItems : MethodName := ⟨RX8, "hasItems", "(II)Z"⟩
abbrev cX8_item : ByteArray := prog_10_method_6_code
def yX8_item : MethodName := ⟨RX8, "item", "(I)I"⟩
abbrev cX8_put : ByteArray := prog_10_method_7_code
def yX8_put : MethodName := ⟨RX8, "put", "(II)V"⟩
abbrev cX8_narrowed : ByteArray := prog_10_method_8_code
def yX8_narrowed : MethodName := ⟨RX8, "narrowed", "(I)I"⟩
def RX9 : String := "GorseGold$Text"
def TX9 : u_T := fun k => match k with
  | 0 => ("GorseGold$Text", "bytes", "[I", true)
  | 1 => ("GorseGold$Text", "lows", "[I", true)
  | 2 => ("GorseGold$Text", "highs", "[I", true)
  | 3 => ("GorseGold$Text", "mostItems", "I", true)
  | 4 => ("GorseGold$Text", "step", "I", true)
  | 5 => ("GorseGold$Text", "length", "I", false)
  | 6 => ("GorseGold$Text", "faultPlace", "I", false)
  | _ => ("GorseGold$Text", "items", "I", false)
def tyX9 : Nat → FieldType := fun k => match k with
  | 0 => .array .int
  | 1 => .array .int
  | 2 => .array .int
  | 3 => .int
  | 4 => .int
  | 5 => .int
  | 6 => .int
  | _ => .int
abbrev wsX90 : List Cond := u_ws RX9 TX9 8
theorem nmX9 : ∀ a, a < 8 → ∀ b, b < 8 → a ≠ b → (TX9 a).2.1 ≠ (TX9 b).2.1 := by decide +kernel
theorem tyX9_ok : ∀ k, k < 8 → parseFieldDescriptor (TX9 k).2.2.1 = some (tyX9 k) := by decide +kernel
abbrev cX9_init : ByteArray := prog_11_method_1_code
def yX9_init : MethodName := ⟨RX9, "<init>", "(II[I[I)V"⟩
abbrev cX9_put : ByteArray := prog_11_method_2_code
def yX9_put : MethodName := ⟨RX9, "put", "(I)I"⟩
abbrev cX9_clear : ByteArray := prog_11_method_3_code
def yX9_clear : MethodName := ⟨RX9, "clear", "()I"⟩
abbrev cX9_drop : ByteArray := prog_11_method_4_code
def yX9_drop : MethodName := ⟨RX9, "drop", "()I"⟩
abbrev cX9_parse : ByteArray := prog_11_method_5_code
def yX9_parse : MethodName := ⟨RX9, "parse", "()V"⟩
abbrev cX9_firstFault : ByteArray := prog_11_method_6_code
def yX9_firstFault : MethodName := ⟨RX9, "firstFault", "()I"⟩
abbrev cX9_mayStand : ByteArray := prog_11_method_7_code
def yX9_mayStand : MethodName := ⟨RX9, "mayStand", "(III)Z"⟩
def RX10 : String := "GorseGold"
def TX10 : u_T := fun k => match k with
  | 0 => ("GorseGold", "market", "LGorseGold$Market;", true)
  | 1 => ("GorseGold", "hill", "LGorseGold$Hill;", true)
  | 2 => ("GorseGold", "bushes", "LGorseGold$Bushes;", true)
  | 3 => ("GorseGold", "looks", "LGorseGold$Looks;", true)
  | 4 => ("GorseGold", "events", "LGorseGold$Events;", true)
  | 5 => ("GorseGold", "drawn", "LGorseGold$Events;", true)
  | 6 => ("GorseGold", "lone", "LGorseGold$Course;", true)
  | 7 => ("GorseGold", "sights", "LGorseGold$Seen;", true)
  | 8 => ("GorseGold", "lots", "LGorseGold$Lots;", true)
  | 9 => ("GorseGold", "sheets", "[LGorseGold$Sheet;", true)
  | 10 => ("GorseGold", "hinderers", "[I", true)
  | 11 => ("GorseGold", "alike", "[I", true)
  | _ => ("GorseGold", "latestFinding", "I", false)
def tyX10 : Nat → FieldType := fun k => match k with
  | 0 => .object "GorseGold$Market"
  | 1 => .object "GorseGold$Hill"
  | 2 => .object "GorseGold$Bushes"
  | 3 => .object "GorseGold$Looks"
  | 4 => .object "GorseGold$Events"
  | 5 => .object "GorseGold$Events"
  | 6 => .object "GorseGold$Course"
  | 7 => .object "GorseGold$Seen"
  | 8 => .object "GorseGold$Lots"
  | 9 => .array (.object "GorseGold$Sheet")
  | 10 => .array .int
  | 11 => .array .int
  | _ => .int
abbrev wsX100 : List Cond := u_ws RX10 TX10 13
theorem nmX10 : ∀ a, a < 13 → ∀ b, b < 13 → a ≠ b → (TX10 a).2.1 ≠ (TX10 b).2.1 := by decide +kernel
theorem tyX10_ok : ∀ k, k < 13 → parseFieldDescriptor (TX10 k).2.2.1 = some (tyX10 k) := by decide +kernel
abbrev cX10_init : ByteArray := prog_1_method_1_code
def yX10_init : MethodName := ⟨RX10, "<init>", "()V"⟩
abbrev cX10_type : ByteArray := prog_1_method_2_code
def yX10_type : MethodName := ⟨RX10, "type", "(II)I"⟩
abbrev cX10_wipe : ByteArray := prog_1_method_3_code
def yX10_wipe : MethodName := ⟨RX10, "wipe", "(I)I"⟩
abbrev cX10_undo : ByteArray := prog_1_method_4_code
def yX10_undo : MethodName := ⟨RX10, "undo", "(I)I"⟩
abbrev cX10_fault : ByteArray := prog_1_method_5_code
def yX10_fault : MethodName := ⟨RX10, "fault", "(I)I"⟩
abbrev cX10_bush : ByteArray := prog_1_method_6_code
def yX10_bush : MethodName := ⟨RX10, "bush", "(II)I"⟩
abbrev cX10_look : ByteArray := prog_1_method_7_code
def yX10_look : MethodName := ⟨RX10, "look", "(II)I"⟩
abbrev cX10_set : ByteArray := prog_1_method_8_code
def yX10_set : MethodName := ⟨RX10, "set", "(II)I"⟩
abbrev cX10_event : ByteArray := prog_1_method_9_code
def yX10_event : MethodName := ⟨RX10, "event", "(III)I"⟩
abbrev cX10_back : ByteArray := prog_1_method_10_code
def yX10_back : MethodName := ⟨RX10, "back", "()I"⟩
abbrev cX10_read : ByteArray := prog_1_method_11_code
def yX10_read : MethodName := ⟨RX10, "read", "(I)I"⟩
abbrev cX10_at : ByteArray := prog_1_method_12_code
def yX10_at : MethodName := ⟨RX10, "at", "(III)I"⟩
abbrev cX10_hill : ByteArray := prog_1_method_13_code
def yX10_hill : MethodName := ⟨RX10, "hill", "(II)I"⟩
abbrev cX10_bare : ByteArray := prog_1_method_14_code
def yX10_bare : MethodName := ⟨RX10, "bare", "()I"⟩
abbrev cX10_run : ByteArray := prog_1_method_15_code
def yX10_run : MethodName := ⟨RX10, "run", "()I"⟩
abbrev cX10_fake : ByteArray := prog_1_method_16_code
def yX10_fake : MethodName := ⟨RX10, "fake", "()I"⟩
abbrev cX10_last : ByteArray := prog_1_method_17_code
def yX10_last : MethodName := ⟨RX10, "last", "(I)I"⟩
abbrev cX10_plant : ByteArray := prog_1_method_18_code
def yX10_plant : MethodName := ⟨RX10, "plant", "(I)I"⟩
abbrev cX10_send : ByteArray := prog_1_method_19_code
def yX10_send : MethodName := ⟨RX10, "send", "(I)I"⟩
abbrev cX10_save : ByteArray := prog_1_method_20_code
def yX10_save : MethodName := ⟨RX10, "save", "(I)I"⟩
abbrev cX10_deal : ByteArray := prog_1_method_21_code
def yX10_deal : MethodName := ⟨RX10, "deal", "(I)I"⟩
abbrev cX10_seen : ByteArray := prog_1_method_22_code
def yX10_seen : MethodName := ⟨RX10, "seen", "(III)I"⟩
abbrev cX10_forget : ByteArray := prog_1_method_23_code
def yX10_forget : MethodName := ⟨RX10, "forget", "()I"⟩
abbrev cX10_never : ByteArray := prog_1_method_24_code
def yX10_never : MethodName := ⟨RX10, "never", "()I"⟩
abbrev cX10_was : ByteArray := prog_1_method_25_code
def yX10_was : MethodName := ⟨RX10, "was", "(II)I"⟩
abbrev cX10_ask : ByteArray := prog_1_method_26_code
def yX10_ask : MethodName := ⟨RX10, "ask", "(I)I"⟩
abbrev cX10_luck : ByteArray := prog_1_method_27_code
def yX10_luck : MethodName := ⟨RX10, "luck", "(III)J"⟩
abbrev cX10_century : ByteArray := prog_1_method_28_code
def yX10_century : MethodName := ⟨RX10, "century", "(III)I"⟩
abbrev cX10_sheet : ByteArray := prog_1_method_29_code
def yX10_sheet : MethodName := ⟨RX10, "sheet", "(III)I"⟩
abbrev cX10_lose : ByteArray := prog_1_method_30_code
def yX10_lose : MethodName := ⟨RX10, "lose", "(I)I"⟩
abbrev cX10_lay : ByteArray := prog_1_method_31_code
def yX10_lay : MethodName := ⟨RX10, "lay", "(IIII)I"⟩
abbrev cX10_get : ByteArray := prog_1_method_32_code
def yX10_get : MethodName := ⟨RX10, "get", "(III)I"⟩
abbrev cX10_copy : ByteArray := prog_1_method_33_code
def yX10_copy : MethodName := ⟨RX10, "copy", "(IIIII)I"⟩
abbrev cX10_write : ByteArray := prog_1_method_34_code
def yX10_write : MethodName := ⟨RX10, "write", "(I)I"⟩
abbrev cX10_count : ByteArray := prog_1_method_35_code
def yX10_count : MethodName := ⟨RX10, "count", "(I)I"⟩
abbrev cX10_digest : ByteArray := prog_1_method_36_code
def yX10_digest : MethodName := ⟨RX10, "digest", "()J"⟩
abbrev cX10_digestOfCounts : ByteArray := prog_1_method_37_code
def yX10_digestOfCounts : MethodName := ⟨RX10, "digestOfCounts", "(J)J"⟩
abbrev cX10_digestOfMonths : ByteArray := prog_1_method_38_code
def yX10_digestOfMonths : MethodName := ⟨RX10, "digestOfMonths", "(J)J"⟩
abbrev cX10_digestOfLooks : ByteArray := prog_1_method_39_code
def yX10_digestOfLooks : MethodName := ⟨RX10, "digestOfLooks", "(J)J"⟩
abbrev cX10_digestOfBush : ByteArray := prog_1_method_40_code
def yX10_digestOfBush : MethodName := ⟨RX10, "digestOfBush", "(JI)J"⟩
abbrev cX10_digestOfBushIn : ByteArray := prog_1_method_41_code
def yX10_digestOfBushIn : MethodName := ⟨RX10, "digestOfBushIn", "(JII)J"⟩
abbrev cX10_digestOfHill : ByteArray := prog_1_method_42_code
def yX10_digestOfHill : MethodName := ⟨RX10, "digestOfHill", "(J)J"⟩
abbrev cX10_digestOfPlans : ByteArray := prog_1_method_43_code
def yX10_digestOfPlans : MethodName := ⟨RX10, "digestOfPlans", "(J)J"⟩
abbrev cX10_digestOfLuck : ByteArray := prog_1_method_44_code
def yX10_digestOfLuck : MethodName := ⟨RX10, "digestOfLuck", "(J)J"⟩
abbrev cX10_allYellow : ByteArray := prog_1_method_45_code
def yX10_allYellow : MethodName := ⟨RX10, "allYellow", "()I"⟩
abbrev cX10_bareIfPlanted : ByteArray := prog_1_method_46_code
def yX10_bareIfPlanted : MethodName := ⟨RX10, "bareIfPlanted", "(III)I"⟩
abbrev cX10_bestSend : ByteArray := prog_1_method_47_code
def yX10_bestSend : MethodName := ⟨RX10, "bestSend", "()I"⟩
abbrev cX10_bestDeal : ByteArray := prog_1_method_48_code
def yX10_bestDeal : MethodName := ⟨RX10, "bestDeal", "()I"⟩
abbrev cX10_fewestToLose : ByteArray := prog_1_method_49_code
def yX10_fewestToLose : MethodName := ⟨RX10, "fewestToLose", "()I"⟩
abbrev cX10_placeOfBit : ByteArray := prog_1_method_50_code
def yX10_placeOfBit : MethodName := ⟨RX10, "placeOfBit", "(II)I"⟩
abbrev cX10_beginsThatFit : ByteArray := prog_1_method_51_code
def yX10_beginsThatFit : MethodName := ⟨RX10, "beginsThatFit", "(I)I"⟩
abbrev cX10_kindsThatFit : ByteArray := prog_1_method_52_code
def yX10_kindsThatFit : MethodName := ⟨RX10, "kindsThatFit", "(I)I"⟩
abbrev cX10_greatestAlike : ByteArray := prog_1_method_53_code
def yX10_greatestAlike : MethodName := ⟨RX10, "greatestAlike", "(III)I"⟩
abbrev cX10_bareShares : ByteArray := prog_1_method_54_code
def yX10_bareShares : MethodName := ⟨RX10, "bareShares", "(II)J"⟩
abbrev cX10_gatherHinderers : ByteArray := prog_1_method_55_code
def yX10_gatherHinderers : MethodName := ⟨RX10, "gatherHinderers", "(I)I"⟩
abbrev cX10_hindersAll : ByteArray := prog_1_method_56_code
def yX10_hindersAll : MethodName := ⟨RX10, "hindersAll", "(II)Z"⟩
abbrev cX10_shareOf : ByteArray := prog_1_method_57_code
def yX10_shareOf : MethodName := ⟨RX10, "shareOf", "(II)J"⟩
abbrev cX10_drawEvents : ByteArray := prog_1_method_58_code
def yX10_drawEvents : MethodName := ⟨RX10, "drawEvents", "(II)V"⟩
abbrev cX10_finding : ByteArray := prog_1_method_59_code
def yX10_finding : MethodName := ⟨RX10, "finding", "(I)I"⟩
abbrev cX10_findingOfItem : ByteArray := prog_1_method_60_code
def yX10_findingOfItem : MethodName := ⟨RX10, "findingOfItem", "(LGorseGold$Sheet;II)I"⟩
abbrev cX10_textOf : ByteArray := prog_1_method_61_code
def yX10_textOf : MethodName := ⟨RX10, "textOf", "(I)LGorseGold$Text;"⟩
abbrev cX10_isText : ByteArray := prog_1_method_62_code
def yX10_isText : MethodName := ⟨RX10, "isText", "(I)Z"⟩
abbrev cX10_isMonth : ByteArray := prog_1_method_63_code
def yX10_isMonth : MethodName := ⟨RX10, "isMonth", "(I)Z"⟩
abbrev cX10_isSheet : ByteArray := prog_1_method_64_code
def yX10_isSheet : MethodName := ⟨RX10, "isSheet", "(I)Z"⟩
abbrev cX10_isForm : ByteArray := prog_1_method_65_code
def yX10_isForm : MethodName := ⟨RX10, "isForm", "(I)Z"⟩
abbrev cX10_mayBeEvent : ByteArray := prog_1_method_66_code
def yX10_mayBeEvent : MethodName := ⟨RX10, "mayBeEvent", "(III)Z"⟩
abbrev cX10_within : ByteArray := prog_1_method_67_code
def yX10_within : MethodName := ⟨RX10, "within", "(III)Z"⟩
abbrev cX10_bit : ByteArray := prog_1_method_68_code
def yX10_bit : MethodName := ⟨RX10, "bit", "(II)I"⟩
def RX11 : String := "GorseGoldModel"
def TX11 : u_T := fun k => match k with
  | 0 => ("GorseGoldModel", "forms", "[I", true)
  | 1 => ("GorseGoldModel", "sizes", "[I", true)
  | 2 => ("GorseGoldModel", "items", "[I", true)
  | 3 => ("GorseGoldModel", "moved", "[I", true)
  | 4 => ("GorseGoldModel", "latest", "I", false)
  | 5 => ("GorseGoldModel", "bytes", "[I", true)
  | 6 => ("GorseGoldModel", "typed", "[I", true)
  | 7 => ("GorseGoldModel", "bushes", "I", false)
  | 8 => ("GorseGoldModel", "bush", "[I", true)
  | 9 => ("GorseGoldModel", "looks", "I", false)
  | 10 => ("GorseGoldModel", "look", "[I", true)
  | 11 => ("GorseGoldModel", "faith", "I", false)
  | 12 => ("GorseGoldModel", "doubt", "I", false)
  | 13 => ("GorseGoldModel", "events", "I", false)
  | 14 => ("GorseGoldModel", "event", "[I", true)
  | 15 => ("GorseGoldModel", "gone", "I", false)
  | 16 => ("GorseGoldModel", "state", "[I", true)
  | 17 => ("GorseGoldModel", "painted", "[Z", true)
  | 18 => ("GorseGoldModel", "yellow", "[I", true)
  | 19 => ("GorseGoldModel", "belief", "[I", true)
  | 20 => ("GorseGoldModel", "seems", "[I", true)
  | 21 => ("GorseGoldModel", "hasMore", "Z", false)
  | 22 => ("GorseGoldModel", "oddMonth", "I", false)
  | 23 => ("GorseGoldModel", "oddBush", "I", false)
  | 24 => ("GorseGoldModel", "sights", "I", false)
  | 25 => ("GorseGoldModel", "sight", "[I", true)
  | 26 => ("GorseGoldModel", "alike", "[I", true)
  | 27 => ("GorseGoldModel", "drawn", "I", false)
  | _ => ("GorseGoldModel", "told", "[I", true)
def tyX11 : Nat → FieldType := fun k => match k with
  | 0 => .array .int
  | 1 => .array .int
  | 2 => .array .int
  | 3 => .array .int
  | 4 => .int
  | 5 => .array .int
  | 6 => .array .int
  | 7 => .int
  | 8 => .array .int
  | 9 => .int
  | 10 => .array .int
  | 11 => .int
  | 12 => .int
  | 13 => .int
  | 14 => .array .int
  | 15 => .int
  | 16 => .array .int
  | 17 => .array .boolean
  | 18 => .array .int
  | 19 => .array .int
  | 20 => .array .int
  | 21 => .boolean
  | 22 => .int
  | 23 => .int
  | 24 => .int
  | 25 => .array .int
  | 26 => .array .int
  | 27 => .int
  | _ => .array .int
abbrev wsX110 : List Cond := u_ws RX11 TX11 29
theorem nmX11 : ∀ a, a < 29 → ∀ b, b < 29 → a ≠ b → (TX11 a).2.1 ≠ (TX11 b).2.1 := by decide +kernel
theorem tyX11_ok : ∀ k, k < 29 → parseFieldDescriptor (TX11 k).2.2.1 = some (tyX11 k) := by decide +kernel
abbrev cX11_init : ByteArray := prog_13_method_1_code
def yX11_init : MethodName := ⟨RX11, "<init>", "()V"⟩
abbrev cX11_in : ByteArray := prog_13_method_3_code
def yX11_in : MethodName := ⟨RX11, "in", "(JJJ)Z"⟩
abbrev cX11_no : ByteArray := prog_13_method_4_code
def yX11_no : MethodName := ⟨RX11, "no", "(I)J"⟩
abbrev cX11_isTwo : ByteArray := prog_13_method_5_code
def yX11_isTwo : MethodName := ⟨RX11, "isTwo", "(I)Z"⟩
abbrev cX11_isIn : ByteArray := prog_13_method_6_code
def yX11_isIn : MethodName := ⟨RX11, "isIn", "(II)Z"⟩
abbrev cX11_ones : ByteArray := prog_13_method_7_code
def yX11_ones : MethodName := ⟨RX11, "ones", "(I)I"⟩
abbrev cX11_lesser : ByteArray := prog_13_method_8_code
def yX11_lesser : MethodName := ⟨RX11, "lesser", "(II)I"⟩
abbrev cX11_greater : ByteArray := prog_13_method_9_code
def yX11_greater : MethodName := ⟨RX11, "greater", "(II)I"⟩
abbrev cX11_part : ByteArray := prog_13_method_10_code
def yX11_part : MethodName := ⟨RX11, "part", "(JJI)J"⟩
abbrev cX11_finds : ByteArray := prog_13_method_11_code
def yX11_finds : MethodName := ⟨RX11, "finds", "(I)I"⟩
abbrev cX11_isSheet : ByteArray := prog_13_method_12_code
def yX11_isSheet : MethodName := ⟨RX11, "isSheet", "(I)Z"⟩
abbrev cX11_sheet : ByteArray := prog_13_method_13_code
def yX11_sheet : MethodName := ⟨RX11, "sheet", "(III)I"⟩
abbrev cX11_lose : ByteArray := prog_13_method_14_code
def yX11_lose : MethodName := ⟨RX11, "lose", "(I)I"⟩
abbrev cX11_lacks : ByteArray := prog_13_method_15_code
def yX11_lacks : MethodName := ⟨RX11, "lacks", "(III)I"⟩
abbrev cX11_cut : ByteArray := prog_13_method_16_code
def yX11_cut : MethodName := ⟨RX11, "cut", "(II)I"⟩
abbrev cX11_lay : ByteArray := prog_13_method_17_code
def yX11_lay : MethodName := ⟨RX11, "lay", "(IIII)I"⟩
abbrev cX11_get : ByteArray := prog_13_method_18_code
def yX11_get : MethodName := ⟨RX11, "get", "(III)I"⟩
abbrev cX11_copy : ByteArray := prog_13_method_19_code
def yX11_copy : MethodName := ⟨RX11, "copy", "(IIIII)I"⟩
abbrev cX11_type : ByteArray := prog_13_method_20_code
def yX11_type : MethodName := ⟨RX11, "type", "(II)I"⟩
abbrev cX11_wipe : ByteArray := prog_13_method_21_code
def yX11_wipe : MethodName := ⟨RX11, "wipe", "(I)I"⟩
abbrev cX11_undo : ByteArray := prog_13_method_22_code
def yX11_undo : MethodName := ⟨RX11, "undo", "(I)I"⟩
abbrev cX11_kindOf : ByteArray := prog_13_method_23_code
def yX11_kindOf : MethodName := ⟨RX11, "kindOf", "(I)I"⟩
abbrev cX11_bushOf : ByteArray := prog_13_method_24_code
def yX11_bushOf : MethodName := ⟨RX11, "bushOf", "(II)I"⟩
abbrev cX11_readsBushes : ByteArray := prog_13_method_25_code
def yX11_readsBushes : MethodName := ⟨RX11, "readsBushes", "()I"⟩
abbrev cX11_lookOf : ByteArray := prog_13_method_26_code
def yX11_lookOf : MethodName := ⟨RX11, "lookOf", "(II)I"⟩
abbrev cX11_readsLooks : ByteArray := prog_13_method_27_code
def yX11_readsLooks : MethodName := ⟨RX11, "readsLooks", "()I"⟩
abbrev cX11_readsText : ByteArray := prog_13_method_28_code
def yX11_readsText : MethodName := ⟨RX11, "readsText", "(I)I"⟩
abbrev cX11_fault : ByteArray := prog_13_method_29_code
def yX11_fault : MethodName := ⟨RX11, "fault", "(I)I"⟩
abbrev cX11_isBush : ByteArray := prog_13_method_30_code
def yX11_isBush : MethodName := ⟨RX11, "isBush", "(I)Z"⟩
abbrev cX11_isMonth : ByteArray := prog_13_method_31_code
def yX11_isMonth : MethodName := ⟨RX11, "isMonth", "(I)Z"⟩
abbrev cX11_bush : ByteArray := prog_13_method_32_code
def yX11_bush : MethodName := ⟨RX11, "bush", "(II)I"⟩
abbrev cX11_lookBy : ByteArray := prog_13_method_33_code
def yX11_lookBy : MethodName := ⟨RX11, "lookBy", "(II)I"⟩
abbrev cX11_look : ByteArray := prog_13_method_34_code
def yX11_look : MethodName := ⟨RX11, "look", "(II)I"⟩
abbrev cX11_set : ByteArray := prog_13_method_35_code
def yX11_set : MethodName := ⟨RX11, "set", "(II)I"⟩
abbrev cX11_puts : ByteArray := prog_13_method_36_code
def yX11_puts : MethodName := ⟨RX11, "puts", "(III)V"⟩
abbrev cX11_event : ByteArray := prog_13_method_37_code
def yX11_event : MethodName := ⟨RX11, "event", "(III)I"⟩
abbrev cX11_back : ByteArray := prog_13_method_38_code
def yX11_back : MethodName := ⟨RX11, "back", "()I"⟩
abbrev cX11_read : ByteArray := prog_13_method_39_code
def yX11_read : MethodName := ⟨RX11, "read", "(I)I"⟩
abbrev cX11_lasts : ByteArray := prog_13_method_40_code
def yX11_lasts : MethodName := ⟨RX11, "lasts", "(II)I"⟩
abbrev cX11_isOn : ByteArray := prog_13_method_41_code
def yX11_isOn : MethodName := ⟨RX11, "isOn", "(III)Z"⟩
abbrev cX11_isSeason : ByteArray := prog_13_method_42_code
def yX11_isSeason : MethodName := ⟨RX11, "isSeason", "(II)Z"⟩
abbrev cX11_stateOf : ByteArray := prog_13_method_43_code
def yX11_stateOf : MethodName := ⟨RX11, "stateOf", "(II)I"⟩
abbrev cX11_grows : ByteArray := prog_13_method_44_code
def yX11_grows : MethodName := ⟨RX11, "grows", "()V"⟩
abbrev cX11_isSeeming : ByteArray := prog_13_method_45_code
def yX11_isSeeming : MethodName := ⟨RX11, "isSeeming", "(II)Z"⟩
abbrev cX11_kept : ByteArray := prog_13_method_46_code
def yX11_kept : MethodName := ⟨RX11, "kept", "(I)I"⟩
abbrev cX11_looked : ByteArray := prog_13_method_47_code
def yX11_looked : MethodName := ⟨RX11, "looked", "(III)I"⟩
abbrev cX11_believes : ByteArray := prog_13_method_48_code
def yX11_believes : MethodName := ⟨RX11, "believes", "()V"⟩
abbrev cX11_lives : ByteArray := prog_13_method_49_code
def yX11_lives : MethodName := ⟨RX11, "lives", "()V"⟩
abbrev cX11_find : ByteArray := prog_13_method_50_code
def yX11_find : MethodName := ⟨RX11, "find", "()V"⟩
abbrev cX11_atBy : ByteArray := prog_13_method_51_code
def yX11_atBy : MethodName := ⟨RX11, "atBy", "(III)I"⟩
abbrev cX11_at : ByteArray := prog_13_method_52_code
def yX11_at : MethodName := ⟨RX11, "at", "(III)I"⟩
abbrev cX11_hillBy : ByteArray := prog_13_method_53_code
def yX11_hillBy : MethodName := ⟨RX11, "hillBy", "(II)I"⟩
abbrev cX11_hill : ByteArray := prog_13_method_54_code
def yX11_hill : MethodName := ⟨RX11, "hill", "(II)I"⟩
abbrev cX11_bareNow : ByteArray := prog_13_method_55_code
def yX11_bareNow : MethodName := ⟨RX11, "bareNow", "()I"⟩
abbrev cX11_bare : ByteArray := prog_13_method_56_code
def yX11_bare : MethodName := ⟨RX11, "bare", "()I"⟩
abbrev cX11_runNow : ByteArray := prog_13_method_57_code
def yX11_runNow : MethodName := ⟨RX11, "runNow", "()I"⟩
abbrev cX11_run : ByteArray := prog_13_method_58_code
def yX11_run : MethodName := ⟨RX11, "run", "()I"⟩
abbrev cX11_fakeNow : ByteArray := prog_13_method_59_code
def yX11_fakeNow : MethodName := ⟨RX11, "fakeNow", "()I"⟩
abbrev cX11_fake : ByteArray := prog_13_method_60_code
def yX11_fake : MethodName := ⟨RX11, "fake", "()I"⟩
abbrev cX11_lastBy : ByteArray := prog_13_method_61_code
def yX11_lastBy : MethodName := ⟨RX11, "lastBy", "(I)I"⟩
abbrev cX11_last : ByteArray := prog_13_method_62_code
def yX11_last : MethodName := ⟨RX11, "last", "(I)I"⟩
abbrev cX11_plantBy : ByteArray := prog_13_method_63_code
def yX11_plantBy : MethodName := ⟨RX11, "plantBy", "(I)I"⟩
abbrev cX11_plant : ByteArray := prog_13_method_64_code
def yX11_plant : MethodName := ⟨RX11, "plant", "(I)I"⟩
abbrev cX11_sendBy : ByteArray := prog_13_method_65_code
def yX11_sendBy : MethodName := ⟨RX11, "sendBy", "(I)I"⟩
abbrev cX11_send : ByteArray := prog_13_method_66_code
def yX11_send : MethodName := ⟨RX11, "send", "(I)I"⟩
abbrev cX11_isSaved : ByteArray := prog_13_method_67_code
def yX11_isSaved : MethodName := ⟨RX11, "isSaved", "(I)Z"⟩
abbrev cX11_saveOf : ByteArray := prog_13_method_68_code
def yX11_saveOf : MethodName := ⟨RX11, "saveOf", "(I)I"⟩
abbrev cX11_save : ByteArray := prog_13_method_69_code
def yX11_save : MethodName := ⟨RX11, "save", "(I)I"⟩
abbrev cX11_dealBy : ByteArray := prog_13_method_70_code
def yX11_dealBy : MethodName := ⟨RX11, "dealBy", "(I)I"⟩
abbrev cX11_deal : ByteArray := prog_13_method_71_code
def yX11_deal : MethodName := ⟨RX11, "deal", "(I)I"⟩
abbrev cX11_seen : ByteArray := prog_13_method_72_code
def yX11_seen : MethodName := ⟨RX11, "seen", "(III)I"⟩
abbrev cX11_forget : ByteArray := prog_13_method_73_code
def yX11_forget : MethodName := ⟨RX11, "forget", "()I"⟩
abbrev cX11_isSeen : ByteArray := prog_13_method_74_code
def yX11_isSeen : MethodName := ⟨RX11, "isSeen", "()Z"⟩
abbrev cX11_neverNow : ByteArray := prog_13_method_75_code
def yX11_neverNow : MethodName := ⟨RX11, "neverNow", "()I"⟩
abbrev cX11_never : ByteArray := prog_13_method_76_code
def yX11_never : MethodName := ⟨RX11, "never", "()I"⟩
abbrev cX11_beganOf : ByteArray := prog_13_method_77_code
def yX11_beganOf : MethodName := ⟨RX11, "beganOf", "(I)I"⟩
abbrev cX11_sortOf : ByteArray := prog_13_method_78_code
def yX11_sortOf : MethodName := ⟨RX11, "sortOf", "(I)I"⟩
abbrev cX11_wasOf : ByteArray := prog_13_method_79_code
def yX11_wasOf : MethodName := ⟨RX11, "wasOf", "(II)I"⟩
abbrev cX11_was : ByteArray := prog_13_method_80_code
def yX11_was : MethodName := ⟨RX11, "was", "(II)I"⟩
abbrev cX11_askOf : ByteArray := prog_13_method_81_code
def yX11_askOf : MethodName := ⟨RX11, "askOf", "(I)I"⟩
abbrev cX11_ask : ByteArray := prog_13_method_82_code
def yX11_ask : MethodName := ⟨RX11, "ask", "(I)I"⟩
abbrev cX11_luckOf : ByteArray := prog_13_method_83_code
def yX11_luckOf : MethodName := ⟨RX11, "luckOf", "(III)J"⟩
abbrev cX11_luck : ByteArray := prog_13_method_84_code
def yX11_luck : MethodName := ⟨RX11, "luck", "(III)J"⟩
abbrev cX11_lot : ByteArray := prog_13_method_85_code
def yX11_lot : MethodName := ⟨RX11, "lot", "(I)I"⟩
abbrev cX11_centuryOf : ByteArray := prog_13_method_86_code
def yX11_centuryOf : MethodName := ⟨RX11, "centuryOf", "(III)I"⟩
abbrev cX11_century : ByteArray := prog_13_method_87_code
def yX11_century : MethodName := ⟨RX11, "century", "(III)I"⟩
abbrev cX11_write : ByteArray := prog_13_method_88_code
def yX11_write : MethodName := ⟨RX11, "write", "(I)I"⟩
abbrev cX11_allYellow : ByteArray := prog_13_method_89_code
def yX11_allYellow : MethodName := ⟨RX11, "allYellow", "()I"⟩
abbrev cX11_count : ByteArray := prog_13_method_90_code
def yX11_count : MethodName := ⟨RX11, "count", "(I)I"⟩
abbrev cX11_tellsMonth : ByteArray := prog_13_method_91_code
def yX11_tellsMonth : MethodName := ⟨RX11, "tellsMonth", "(JII)J"⟩
abbrev cX11_tellsBush : ByteArray := prog_13_method_92_code
def yX11_tellsBush : MethodName := ⟨RX11, "tellsBush", "(JI)J"⟩
abbrev cX11_digest : ByteArray := prog_13_method_93_code
def yX11_digest : MethodName := ⟨RX11, "digest", "()J"⟩
def RJ6 : String := "java/lang/Integer"
abbrev cJ6_bitCount_0f7a4 : ByteArray := prog_14_method_49_code
def yJ6_bitCount_0f7a4 : MethodName := ⟨RJ6, "bitCount", "(I)I"⟩
def RJ9 : String := "java/lang/Math"
abbrev cJ9_max_7cf53 : ByteArray := prog_15_method_65_code
def yJ9_max_7cf53 : MethodName := ⟨RJ9, "max", "(II)I"⟩
abbrev cJ9_min_7cf53 : ByteArray := prog_15_method_69_code
def yJ9_min_7cf53 : MethodName := ⟨RJ9, "min", "(II)I"⟩
def RJ10 : String := "java/lang/System"
def RJ7 : String := "java/util/Arrays"
abbrev cJ7_fill_53178 : ByteArray := prog_17_method_103_code
def yJ7_fill_53178 : MethodName := ⟨RJ7, "fill", "([II)V"⟩
abbrev vwCl : List vw_C := [(RX0, TX0, 1), (RX1, TX1, 4), (RX2, TX2, 4), (RX3, TX3, 2), (RX4, TX4, 1), (RX5, TX5, 1), (RX6, TX6, 10), (RX7, TX7, 4), (RX8, TX8, 3), (RX9, TX9, 8), (RX10, TX10, 13), (RX11, TX11, 29)]
def R_law : String := "GorseGoldLaw"
def lw_P (b : Addr) (xs : List Int32) (args : Array Value) (s : State) : Prop := args = #[.ref b] ∧ s.IntsAt b xs ∧ xs.length ≤ 3072 ∧ (Jvm.Cond.and given_1 narrow_1).before args s = true
def lw_Q (_ : Array Value) (s : State) (o : Outcome) (t : State) : Prop := o = .returned (some (.int 1)) ∧ Framed s o t [] 600000 7302250
def lw_Z (below : List Frame) (a : Array Value) (s : State) : State → Prop := fun t => ∃ o, t.status = .running ∧ Ended t below o ∧ lw_Q a s o t
/-- the law's own end, with 1 on the stack, nothing written that was there before, its room as the claim has it -/
theorem lw_ret {p : Program} {l : Launch} {e : Env} {s : State} {m : MethodId} {below : List Frame} {meth : Method} {c : Code} {b : Nat} (hx : p.tables.exec = Jvm.exec) (hb : c.code = code) (hr : meth.sig.returnType = ret) (hlocks : meth.locks = false) {pc : Nat} {H : Heap} {ls : Array Slot} (hdg : decode code pc = .ok (.ireturn, 1)) : W p l e room_1 s m #[Value.ref b] below meth c H [] 600000 7302250 (lw_Z below #[Value.ref b] s) (F0 m pc ls [.int 1]) := by
  intro T hT X
  obtain ⟨fs, hret, hrun, hended, hW, hframe⟩ := X.leave (v := some (.int 1)) (hlocks := hlocks) (fun h => by rw [hr] at h; cases h)
  have hmeth' : T.vm.method? m = some meth := X.method'
  refine ⟨T.setFrames fs, ?_, .returned (some (.int 1)), hrun, hended, rfl, ⟨_, rfl⟩, hW, hframe⟩
  jvm_step X.here [X.here.top, hx, hb, hdg, hmeth', hr, ret, narrow_b1]
  (try refine ⟨rfl, ?_⟩); (try refine ⟨rfl, ?_⟩)
  first | (intro acts; rw [hret _ acts rfl rfl rfl]) | rw [hret _ _ rfl rfl rfl]
  exact Steps.refl _
/-- what holds at the law's entry: the machine, the code, the tables' words (any of lw_tbl by 'hts w (by decide +kernel)'), the script of L ints xs at the cell b, what the Statement gives of the start (any of its parts by flat_of_before) -/
def lw_At (p : Program) (s : State) (m : MethodId) (meth : Method) (c : Code) (b L : Nat) (xs : Nat → Int32) : Prop :=
  p.tables.exec = Jvm.exec ∧ c.code = code ∧ meth.sig.returnType = ret ∧ c.maxLocals = 4 ∧ s.vm.findClass R_law = some m.cls ∧ (∀ w ∈ lw_tbl, w.before #[Value.ref b] s = true) ∧ va_X b L xs s s.heap ∧ b < s.heap.size ∧ meth.locks = false ∧ (Jvm.Cond.and given_1 narrow_1).before #[Value.ref b] s = true
end
section
/-! THE PURE MACHINE: memory is a function of cell and slot; a method is a list of its instructions' meanings. -/
abbrev gS : Type := Nat → Nat → Int32
abbrev gL : Type := List (Option Value)
abbrev gF : Type := Nat × gL × List Value
abbrev gRes : Type := (Bool × (gS × gF) × Option (gS × gF)) ⊕ ((Nat × List Value × gF) ⊕ Option Value)
abbrev gSem : Type := gS → Nat → gL → List Value → Option gRes
/-- a cell's shape: an object (class, its fields: a fixed reference or an int), an array of ints or booleans, an array of fixed references -/
abbrev gShp : Type := (Nat × List (Option Nat)) ⊕ ((Nat × Nat) ⊕ (Nat × Nat × (Nat → Option Nat)))
def gAt {α : Type} : List α → Nat → Option α
  | [], _ => none
  | a :: _, 0 => some a
  | _ :: l, n + 1 => gAt l n
theorem gAt_eq {α : Type} : ∀ (l : List α) (n : Nat), gAt l n = l[n]?
  | [], _ => by simp [gAt]
  | a :: l, 0 => by simp [gAt]
  | a :: l, n + 1 => by simp [gAt, gAt_eq l n]
def gCourse (j : Nat) : gShp := .inl (1, [some (60 + j), none, none, none])
def gSheet (j : Nat) : gShp := .inl (8, [some (74 + j), none, none])
def gInts (n : Nat) : gShp := .inr (.inl (0, n))
def gShapes : List gShp := [
  .inl (11, [some 1, some 2, some 3, some 4, none, some 5, some 6, none, some 7, none, some 8, none, none, none, some 9, none, some 10, some 11, some 12, some 13, some 14, none, none, none, none, some 15, some 16, none, some 17]),
  gInts 4, gInts 4, gInts 240, gInts 60, gInts 80, gInts 2, gInts 33, gInts 24, gInts 24, gInts 264, .inr (.inl (1, 264)), gInts 24, gInts 24, gInts 24, gInts 24, gInts 120, gInts 24,
  .inl (10, [some 19, some 20, some 21, some 24, some 27, some 31, some 35, some 37, some 41, some 42, some 43, some 44, none]),
  .inl (6, [some 20, some 24, some 46, some 47, some 48, some 49, none, none, none, none]),
  .inl (3, [some 21, some 45]),
  .inl (0, [some 22]),
  .inl (9, [some 23, some 1000, some 1001, none, none, none, none, none]),
  gInts 39,
  .inl (4, [some 25]),
  .inl (9, [some 26, some 1002, some 1003, none, none, none, none, none]),
  gInts 35,
  .inl (2, [some 28, some 29, some 30, none]), gInts 8, gInts 8, gInts 8,
  .inl (2, [some 32, some 33, some 34, none]), gInts 8, gInts 8, gInts 8,
  .inl (1, [some 36, none, none, none]), gInts 4,
  .inl (7, [some 38, some 39, some 40, none]), gInts 8, gInts 8, gInts 8,
  .inl (5, [none]),
  .inr (.inr (3, 4, fun j => some (70 + j))),
  gInts 10, gInts 5,
  .inr (.inr (2, 10, fun j => some (50 + j))),
  gInts 24, gInts 12, gInts 12, gInts 24,
  gCourse 0, gCourse 1, gCourse 2, gCourse 3, gCourse 4, gCourse 5, gCourse 6, gCourse 7, gCourse 8, gCourse 9,
  gInts 4, gInts 4, gInts 4, gInts 4, gInts 4, gInts 4, gInts 4, gInts 4, gInts 4, gInts 4,
  gSheet 0, gSheet 1, gSheet 2, gSheet 3,
  gInts 60, gInts 60, gInts 60, gInts 60]
def gNC : Nat := 78
theorem gShapes_len : gShapes.length = gNC := by decide +kernel
def gShape (q : Nat) : Option gShp := gAt gShapes q
/-- the fixed tables of the class -/
def gRoL : List (Nat × String × List Int32) := [(3, "BUSH_LOWS", [99, 97, 49]), (3, "BUSH_HIGHS", [101, 108, 57]), (2, "LOOK_LOWS", [97, 48]), (2, "LOOK_HIGHS", [120, 57]), (3, "KIND_OF_SIGN", [0, 2, 1]), (3, "SEASON_OF_KIND", [6, 4, 3]), (12, "LASTING", [9, 12, 12, 2, 2, 3, 1, 2, 0, 3, 3, 3])]
def gRo (q : Nat) : Option (Nat × String × List Int32) := bif Nat.ble 1000 q then gAt gRoL (q - 1000) else none
def gUp (σ : gS) (q k : Nat) (v : Int32) : gS := fun q' => if q' = q then upd (σ q) k v else σ q'
def gUpA (σ : gS) (q : Nat) (f : Nat → Int32) : gS := fun q' => if q' = q then f else σ q'
def gIn (i : Int32) (n : Nat) : Bool := !(decide (i < 0) || decide (n ≤ i.toNatClampNeg))
theorem gIn_in {i : Int32} {n : Nat} (h : gIn i n = true) : vp_in i n := by
  simpa [gIn, vp_in] using h
theorem gIn_of {i : Int32} {n : Nat} (h : vp_in i n) : gIn i n = true := by
  simpa [gIn, vp_in] using h
def gCats : List Value → Nat
  | [] => 0
  | v :: l => v.category + gCats l
theorem gCats_eq : ∀ l : List Value, gCats l = (l.map fun v => v.category).sum
  | [] => rfl
  | v :: l => by simp [gCats, gCats_eq l]
/-- locals -/
def gNth (l : gL) (i : Nat) : Option Value := match gAt l i with
  | some (some v) => some v
  | _ => none
def gPrev (l : gL) : Nat → Bool
  | 0 => true
  | j + 1 => match gAt l j with
    | some (some (.long _)) => false
    | some (some (.double _)) => false
    | _ => true
def gGo (σ : gS) (pc : Nat) (lv : gL) (st : List Value) : Option gRes := some (.inl (true, (σ, pc, lv, st), none))
def gChk (b : Bool) (σ : gS) (pc : Nat) (lv : gL) (st : List Value) : Option gRes := some (.inl (b, (σ, pc, lv, st), none))
def gBr (b : Bool) (σ : gS) (pc1 pc2 : Nat) (lv : gL) (st : List Value) : Option gRes := some (.inl (b, (σ, pc1, lv, st), some (σ, pc2, lv, st)))
-- the meanings
def sPush (v : Value) (len : Nat) : gSem := fun σ pc lv st => gGo σ (pc + len) lv (v :: st)
def sLdI (i len : Nat) : gSem := fun σ pc lv st => match gNth lv i with
  | some (.int x) => gGo σ (pc + len) lv (.int x :: st)
  | _ => none
def sLdL (i len : Nat) : gSem := fun σ pc lv st => match gNth lv i with
  | some (.long x) => gGo σ (pc + len) lv (.long x :: st)
  | _ => none
def sLdA (i len : Nat) : gSem := fun σ pc lv st => match gNth lv i with
  | some (.ref x) => gGo σ (pc + len) lv (.ref x :: st)
  | _ => none
def sStI (i len : Nat) : gSem := fun σ pc lv st => match st with
  | .int x :: r => bif Nat.blt i lv.length && gPrev lv i then gGo σ (pc + len) (lv.set i (some (.int x))) r else none
  | _ => none
def sStA (i len : Nat) : gSem := fun σ pc lv st => match st with
  | .ref x :: r => bif Nat.blt i lv.length && gPrev lv i then gGo σ (pc + len) (lv.set i (some (.ref x))) r else none
  | _ => none
def sStL (i len : Nat) : gSem := fun σ pc lv st => match st with
  | .long x :: r => bif Nat.blt (i + 1) lv.length && gPrev lv i then gGo σ (pc + len) ((lv.set i (some (.long x))).set (i + 1) none) r else none
  | _ => none
def sInc (i : Nat) (n : Int32) : gSem := fun σ pc lv _st => match gNth lv i with
  | some (.int x) => bif Nat.blt i lv.length && gPrev lv i then gGo σ (pc + 3) (lv.set i (some (.int (x + n)))) _st else none
  | _ => none
def sBin (f : Int32 → Int32 → Int32) : gSem := fun σ pc lv st => match st with
  | .int y :: .int x :: r => gGo σ (pc + 1) lv (.int (f x y) :: r)
  | _ => none
def sBinL (f : Int64 → Int64 → Int64) : gSem := fun σ pc lv st => match st with
  | .long y :: .long x :: r => gGo σ (pc + 1) lv (.long (f x y) :: r)
  | _ => none
def sShL (f : Int64 → Int32 → Int64) : gSem := fun σ pc lv st => match st with
  | .int y :: .long x :: r => gGo σ (pc + 1) lv (.long (f x y) :: r)
  | _ => none
def sDiv (f : Int32 → Int32 → Int32) : gSem := fun σ pc lv st => match st with
  | .int y :: .int x :: r => gChk (decide (¬ y = 0)) σ (pc + 1) lv (.int (f x y) :: r)
  | _ => none
def sDivL (f : Int64 → Int64 → Int64) : gSem := fun σ pc lv st => match st with
  | .long y :: .long x :: r => gChk (decide (¬ y = 0)) σ (pc + 1) lv (.long (f x y) :: r)
  | _ => none
def sUn (f : Int32 → Int32) : gSem := fun σ pc lv st => match st with
  | .int x :: r => gGo σ (pc + 1) lv (.int (f x) :: r)
  | _ => none
def sI2L : gSem := fun σ pc lv st => match st with
  | .int x :: r => gGo σ (pc + 1) lv (.long x.toInt64 :: r)
  | _ => none
def sLcmp : gSem := fun σ pc lv st => match st with
  | .long y :: .long x :: r => gGo σ (pc + 1) lv (.int (lg_cmp x y) :: r)
  | _ => none
def sDup : gSem := fun σ pc lv st => match st with
  | v :: r => bif Nat.beq v.category 1 then gGo σ (pc + 1) lv (v :: v :: r) else none
  | _ => none
def sPop : gSem := fun σ pc lv st => match st with
  | v :: r => bif Nat.beq v.category 1 then gGo σ (pc + 1) lv r else none
  | _ => none
def sDup2 : gSem := fun σ pc lv st => match st with
  | v :: w :: r => bif Nat.beq v.category 1 && Nat.beq w.category 1 then gGo σ (pc + 1) lv (v :: w :: v :: w :: r) else none
  | _ => none
def sIf1 (t : Int32 → Bool) (tgt : Nat) : gSem := fun σ pc lv st => match st with
  | .int x :: r => gBr (t x) σ tgt (pc + 3) lv r
  | _ => none
def sIf2 (t : Int32 → Int32 → Bool) (tgt : Nat) : gSem := fun σ pc lv st => match st with
  | .int y :: .int x :: r => gBr (t x y) σ tgt (pc + 3) lv r
  | _ => none
def sGoto (tgt : Nat) : gSem := fun σ _ lv st => gGo σ tgt lv st
/-- a table of targets from lo on, and the target elsewhere -/
def gTgt (lo : Int) (ts : List Nat) (dflt : Nat) (x : Int32) : Nat := if x.toInt < lo then dflt else match gAt ts (x.toInt - lo).toNat with
  | some t => t
  | none => dflt
def sSw (lo : Int) (ts : List Nat) (dflt : Nat) : gSem := fun σ _ lv st => match st with
  | .int x :: r => gGo σ (gTgt lo ts dflt x) lv r
  | _ => none
def sGet (ci k : Nat) : gSem := fun σ pc lv st => match st with
  | .ref q :: r => match gShape q with
    | some (.inl (cj, ks)) => bif Nat.beq ci cj then (match gAt ks k with
      | some (some t) => gGo σ (pc + 3) lv (.ref t :: r)
      | some none => gGo σ (pc + 3) lv (.int (σ q k) :: r)
      | none => none) else none
    | _ => none
  | _ => none
def sPut (ci k : Nat) : gSem := fun σ pc lv st => match st with
  | .int v :: .ref q :: r => match gShape q with
    | some (.inl (cj, ks)) => bif Nat.beq ci cj then (match gAt ks k with
      | some none => gGo (gUp σ q k v) (pc + 3) lv r
      | _ => none) else none
    | _ => none
  | _ => none
def sPutZ (ci k : Nat) : gSem := fun σ pc lv st => match st with
  | .int v :: .ref q :: r => match gShape q with
    | some (.inl (cj, ks)) => bif Nat.beq ci cj then (match gAt ks k with
      | some none => gChk (decide (v = 0) || decide (v = 1)) (gUp σ q k v) (pc + 3) lv r
      | _ => none) else none
    | _ => none
  | _ => none
def sRo (q : Nat) : gSem := fun σ pc lv st => gGo σ (pc + 3) lv (.ref q :: st)
def sIald : gSem := fun σ pc lv st => match st with
  | .int i :: .ref q :: r => match gShape q with
    | some (.inr (.inl (0, n))) => gChk (gIn i n) σ (pc + 1) lv (.int (σ q i.toNatClampNeg) :: r)
    | none => match gRo q with
      | some (n, _, xs) => gChk (gIn i n) σ (pc + 1) lv (.int (xs.getD i.toNatClampNeg 0) :: r)
      | none => none
    | _ => none
  | _ => none
def sZald : gSem := fun σ pc lv st => match st with
  | .int i :: .ref q :: r => match gShape q with
    | some (.inr (.inl (1, n))) => gChk (gIn i n) σ (pc + 1) lv (.int (σ q i.toNatClampNeg) :: r)
    | _ => none
  | _ => none
def sAald : gSem := fun σ pc lv st => match st with
  | .int i :: .ref q :: r => match gShape q with
    | some (.inr (.inr (_, n, f))) => match f i.toNatClampNeg with
      | some t => gChk (gIn i n) σ (pc + 1) lv (.ref t :: r)
      | none => none
    | _ => none
  | _ => none
def sIast : gSem := fun σ pc lv st => match st with
  | .int x :: .int i :: .ref q :: r => match gShape q with
    | some (.inr (.inl (0, n))) => gChk (gIn i n) (gUp σ q i.toNatClampNeg x) (pc + 1) lv r
    | _ => none
  | _ => none
def sZast : gSem := fun σ pc lv st => match st with
  | .int x :: .int i :: .ref q :: r => match gShape q with
    | some (.inr (.inl (1, n))) => gChk (gIn i n && (decide (x = 0) || decide (x = 1))) (gUp σ q i.toNatClampNeg x) (pc + 1) lv r
    | _ => none
  | _ => none
def sAlen : gSem := fun σ pc lv st => match st with
  | .ref q :: r => match gShape q with
    | some (.inr (.inl (_, n))) => gGo σ (pc + 1) lv (.int (Int32.ofNat n) :: r)
    | none => match gRo q with
      | some (n, _, _) => gGo σ (pc + 1) lv (.int (Int32.ofNat n) :: r)
      | none => none
    | _ => none
  | _ => none
/-- the script, in the law alone -/
def sScrLd (L : Nat) (xs : Nat → Int32) : gSem := fun σ pc lv st => match st with
  | .int i :: .ref q :: r => bif Nat.beq q 1007 then gChk (gIn i L) σ (pc + 1) lv (.int (xs i.toNatClampNeg) :: r) else none
  | _ => none
def sScrLen (L : Nat) : gSem := fun σ pc lv st => match st with
  | .ref q :: r => bif Nat.beq q 1007 then gGo σ (pc + 1) lv (.int (Int32.ofNat L) :: r) else none
  | _ => none
def sCopy : gSem := fun σ pc lv st => match st with
  | .int n :: .int dp :: .ref b :: .int sp :: .ref a :: r => match gShape a, gShape b with
    | some (.inr (.inl (0, n0))), some (.inr (.inl (0, n1))) => bif Nat.ble (gCats r) 8 then gChk (!decide (sp < 0) && !decide (dp < 0) && !decide (n < 0) && decide (sp.toNatClampNeg + n.toNatClampNeg ≤ n0) && decide (dp.toNatClampNeg + n.toNatClampNeg ≤ n1)) (gUpA σ b (va_cpy (σ a) (σ b) sp.toNatClampNeg dp.toNatClampNeg n.toNatClampNeg)) (pc + 3) lv r else none
    | _, _ => none
  | _ => none
def sMM (f : Int32 → Int32 → Int32) : gSem := fun σ pc lv st => match st with
  | .int y :: .int x :: r => bif Nat.ble (gCats r) 8 then gGo σ (pc + 3) lv (.int (f x y) :: r) else none
  | _ => none
def sCallS (mid n : Nat) : gSem := fun _ pc lv st => bif Nat.ble n st.length && Nat.ble (gCats (st.drop n)) 8 then some (.inr (.inl (mid, (st.take n).reverse, (pc + 3, lv, st.drop n)))) else none
def gIsO (ci : Nat) (v : Value) : Bool := match v with
  | .ref q => (match gShape q with
    | some (.inl (cj, _)) => Nat.beq ci cj
    | _ => false)
  | _ => false
def sCallV (mid ci n : Nat) : gSem := fun _ pc lv st => match st.drop n with
  | v :: r => bif gIsO ci v && Nat.ble n st.length && Nat.ble (gCats r) 8 then some (.inr (.inl (mid, v :: (st.take n).reverse, (pc + 3, lv, r)))) else none
  | [] => none
def sRetV : gSem := fun _ _ _ st => match st with
  | [] => some (.inr (.inr none))
  | _ => none
def sRetI : gSem := fun _ _ _ st => match st with
  | [.int v] => some (.inr (.inr (some (.int v))))
  | _ => none
def sRetL : gSem := fun _ _ _ st => match st with
  | [.long v] => some (.inr (.inr (some (.long v))))
  | _ => none
def sRetA : gSem := fun _ _ _ st => match st with
  | [.ref v] => some (.inr (.inr (some (.ref v))))
  | _ => none
abbrev gProg : Type := List (Nat × gSem)
def gFind : gProg → Nat → Option gSem
  | [], _ => none
  | (a, s) :: l, n => bif Nat.beq n a then some s else gFind l n
def gStep (P : gProg) (σ : gS) (f : gF) : Option gRes := match gFind P f.1 with
  | some sem => sem σ f.1 f.2.1 f.2.2
  | none => none
/-- fewer locals known -/
def gLe : gL → gL → Prop
  | [], [] => True
  | none :: a, _ :: b => gLe a b
  | some v :: a, w :: b => w = some v ∧ gLe a b
  | _, _ => False
abbrev gE : Type := Nat → List Value → gS → Option Value → gS → Prop
def gNext (WP : gS → gF → Prop) (E : gE) (Fin : Option Value → gS → Prop) (σ : gS) (r : Option gRes) : Prop := match r with
  | none => False
  | some (.inl (b, s1, o)) => (b = true → WP s1.1 s1.2) ∧ (b = false → match o with
    | none => False
    | some s2 => WP s2.1 s2.2)
  | some (.inr (.inl (mid, as, f))) => ∃ (v : Option Value) (σ' : gS), E mid as σ v σ' ∧ WP σ' (f.1, f.2.1, v.toList ++ f.2.2)
  | some (.inr (.inr v)) => Fin v σ
def gRn (P : gProg) (E : gE) (Fin : Option Value → gS → Prop) : Nat → gS → gF → Prop
  | 0, _, _ => False
  | n + 1, σ, f => (∃ lv' : gL, gLe lv' f.2.1 ∧ gRn P E Fin n σ (f.1, lv', f.2.2)) ∨ gNext (gRn P E Fin n) E Fin σ (gStep P σ f)
/-- from memory σ and frame f the program ends, with Fin of its answer and the memory then -/
def gR (P : gProg) (E : gE) (Fin : Option Value → gS → Prop) (σ : gS) (f : gF) : Prop := ∃ n, gRn P E Fin n σ f
/-- several plain steps at once -/
def gSteps (P : gProg) : Nat → gS × gF → Option (gS × gF)
  | 0, s => some s
  | n + 1, s => match gStep P s.1 s.2 with
    | some (.inl (true, s1, _)) => gSteps P n s1
    | _ => none
section GRULES
variable {P : gProg} {E : gE} {Fin : Option Value → gS → Prop} {σ σ1 σ2 : gS} {f f1 f2 : gF}
theorem gR.of {r : Option gRes} (h : gStep P σ f = r) (hn : ∃ n, gNext (gRn P E Fin n) E Fin σ r) : gR P E Fin σ f := by
  obtain ⟨n, hn⟩ := hn
  exact ⟨n + 1, Or.inr (by rw [h]; exact hn)⟩
theorem gR.steps (k : Nat) (s1 : gS × gF) (h : gSteps P k (σ, f) = some s1) (hn : gR P E Fin s1.1 s1.2) : gR P E Fin σ f := by
  induction k generalizing σ f with
  | zero =>
    cases h
    exact hn
  | succ k ih =>
    simp only [gSteps] at h
    split at h
    next s2 o e1 =>
      obtain ⟨n, h2⟩ := ih (σ := s2.1) (f := s2.2) h
      exact gR.of e1 ⟨n, fun _ => h2, (fun z => Bool.noConfusion z)⟩
    next => cases h
theorem gR.go {o : Option (gS × gF)} (h : gStep P σ f = some (.inl (true, (σ1, f1), o))) (hn : gR P E Fin σ1 f1) : gR P E Fin σ f := by
  obtain ⟨n, hn⟩ := hn
  exact gR.of h ⟨n, fun _ => hn, (fun z => Bool.noConfusion z)⟩
theorem gR.chk {b : Bool} {o : Option (gS × gF)} (h : gStep P σ f = some (.inl (b, (σ1, f1), o))) (hb : b = true) (hn : gR P E Fin σ1 f1) : gR P E Fin σ f := by
  subst hb
  exact gR.go h hn
theorem gR.br {b : Bool} (h : gStep P σ f = some (.inl (b, (σ1, f1), some (σ2, f2)))) (h1 : b = true → gR P E Fin σ1 f1) (h2 : b = false → gR P E Fin σ2 f2) : gR P E Fin σ f := by
  cases b with
  | true => exact gR.go h (h1 rfl)
  | false =>
    obtain ⟨n, hn⟩ := h2 rfl
    exact gR.of h ⟨n, (fun z => Bool.noConfusion z), fun _ => hn⟩
theorem gR.call {mid : Nat} {as : List Value} {v : Option Value} (h : gStep P σ f = some (.inr (.inl (mid, as, f1)))) (he : E mid as σ v σ1) (hn : gR P E Fin σ1 (f1.1, f1.2.1, v.toList ++ f1.2.2)) : gR P E Fin σ f := by
  obtain ⟨n, hn⟩ := hn
  exact gR.of h ⟨n, v, σ1, he, hn⟩
theorem gR.ret {v : Option Value} (h : gStep P σ f = some (.inr (.inr v))) (hn : Fin v σ) : gR P E Fin σ f := gR.of h ⟨0, hn⟩
theorem gR.forget {pc : Nat} {lv : gL} {st : List Value} (lv' : gL) (h : gLe lv' lv) (hn : gR P E Fin σ (pc, lv', st)) : gR P E Fin σ (pc, lv, st) := by
  obtain ⟨n, hn⟩ := hn
  exact ⟨n + 1, Or.inl ⟨lv', h, hn⟩⟩
end GRULES
/-- a run's end is one -/
theorem gRn.ends {P : gProg} {E : gE} {Fin : Option Value → gS → Prop} : ∀ (n : Nat) (σ : gS) (f : gF), gRn P E Fin n σ f → ∃ (v : Option Value) (σ' : gS), Fin v σ' ∧ gRn P E (fun w τ => w = v ∧ τ = σ') n σ f
  | 0, _, _, h => h.elim
  | n + 1, σ, f, h => by
    rcases h with ⟨lv', h1, h2⟩ | h
    · obtain ⟨v, σ', hf, hr⟩ := gRn.ends n _ _ h2
      exact ⟨v, σ', hf, Or.inl ⟨lv', h1, hr⟩⟩
    · match hr : gStep P σ f with
      | none => rw [hr] at h; exact h.elim
      | some (.inl (b, s1, o)) =>
        rw [hr] at h
        cases b with
        | true =>
          obtain ⟨v, σ', hf, h2⟩ := gRn.ends n _ _ (h.1 rfl)
          exact ⟨v, σ', hf, Or.inr (by rw [hr]; exact ⟨fun _ => h2, (fun z => Bool.noConfusion z)⟩)⟩
        | false =>
          cases o with
          | none => exact (h.2 rfl).elim
          | some s2 =>
            obtain ⟨v, σ', hf, h2⟩ := gRn.ends n _ _ (h.2 rfl)
            exact ⟨v, σ', hf, Or.inr (by rw [hr]; exact ⟨(fun z => Bool.noConfusion z), fun _ => h2⟩)⟩
      | some (.inr (.inl (mid, as, f'))) =>
        rw [hr] at h
        obtain ⟨w, τ, he, h1⟩ := h
        obtain ⟨v, σ', hf, h2⟩ := gRn.ends n _ _ h1
        exact ⟨v, σ', hf, Or.inr (by rw [hr]; exact ⟨w, τ, he, h2⟩)⟩
      | some (.inr (.inr v)) =>
        rw [hr] at h
        exact ⟨v, σ, h, Or.inr (by rw [hr]; exact ⟨rfl, rfl⟩)⟩
end
section
/-! SOUNDNESS: the pure machine's runs are the machine's. The world: 78 cells at addresses ad 0 .. ad 77 (ad 1000 .. : the class's tables, ad 1007 the script). -/
def gv (ad : Nat → Nat) : Value → Value
  | .ref i => .ref (ad i)
  | v => v
theorem gv_cat (ad : Nat → Nat) (v : Value) : (gv ad v).category = v.category := by cases v <;> rfl
def gAs (ad : Nat → Nat) : Nat → gL → List (Nat × Value)
  | _, [] => []
  | k, none :: l => gAs ad (k + 1) l
  | k, some v :: l => (k, gv ad v) :: gAs ad (k + 1) l
theorem gAs_mem (ad : Nat → Nat) : ∀ (l : gL) (k : Nat) (q : Nat × Value), q ∈ gAs ad k l ↔ ∃ (j : Nat) (v : Value), l[j]? = some (some v) ∧ q = (k + j, gv ad v)
  | [], k, q => by simp [gAs]
  | none :: l, k, q => by
    rw [gAs, gAs_mem ad l (k + 1) q]
    constructor
    · rintro ⟨j, v, h1, h2⟩
      exact ⟨j + 1, v, by simpa using h1, by rw [h2]; congr 1; omega⟩
    · rintro ⟨j, v, h1, h2⟩
      cases j with
      | zero => simp at h1
      | succ j => exact ⟨j, v, by simpa using h1, by rw [h2]; congr 1; omega⟩
  | some w :: l, k, q => by
    rw [gAs, List.mem_cons, gAs_mem ad l (k + 1) q]
    constructor
    · rintro (h | ⟨j, v, h1, h2⟩)
      · exact ⟨0, w, by simp, by rw [h]; rfl⟩
      · exact ⟨j + 1, v, by simpa using h1, by rw [h2]; congr 1; omega⟩
    · rintro ⟨j, v, h1, h2⟩
      cases j with
      | zero =>
        simp at h1
        subst h1
        exact Or.inl (by rw [h2]; rfl)
      | succ j => exact Or.inr ⟨j, v, by simpa using h1, by rw [h2]; congr 1; omega⟩
theorem gNth_at {l : gL} {i : Nat} {v : Value} (h : gNth l i = some v) : l[i]? = some (some v) := by
  unfold gNth at h
  split at h
  next w e => cases h; rw [← gAt_eq, e]
  next => cases h
theorem gAs_get {ad : Nat → Nat} {ls : Array Slot} {nL : Nat} {lv : gL} {i : Nat} {v : Value} (hl : lv_has ls nL (gAs ad 0 lv)) (h : gNth lv i = some v) : ls[i]? = some (.val (gv ad v)) :=
  hl.2.2 (i, gv ad v) ((gAs_mem ad lv 0 _).mpr ⟨i, v, gNth_at h, by simp⟩)
theorem gPrev_ok {l : gL} {i j : Nat} {v : Value} (h : gPrev l i = true) (hj : l[j]? = some (some v)) (hi : j + 1 = i) : v.category = 1 := by
  subst hi
  simp only [gPrev] at h
  rw [gAt_eq, hj] at h
  cases v <;> first | rfl | (simp at h)
theorem gAs_set1 {ad : Nat → Nat} {ls : Array Slot} {nL : Nat} {lv : gL} {i : Nat} {v : Value} (hi : i < lv.length) (hp : gPrev lv i = true)
    (hl : lv_has ls nL ((i, gv ad v) :: (gAs ad 0 lv).filter (fun q => !(q.1 == i) && !(q.1 + 1 == i && q.2.category == 2)))) : lv_has ls nL (gAs ad 0 (lv.set i (some v))) := by
  refine ⟨hl.1, hl.2.1, fun q hq => hl.2.2 q ?_⟩
  obtain ⟨j, w, h1, h2⟩ := (gAs_mem ad _ 0 q).mp hq
  by_cases hj : i = j
  · subst hj
    rw [List.getElem?_set_self hi] at h1
    cases h1
    subst h2
    exact List.mem_cons.mpr (Or.inl (by simp))
  · rw [List.getElem?_set_ne hj] at h1
    refine List.mem_cons.mpr (Or.inr (List.mem_filter.mpr ⟨(gAs_mem ad lv 0 q).mpr ⟨j, w, h1, h2⟩, ?_⟩))
    subst h2
    have hc : j + 1 = i → w.category = 1 := fun z => gPrev_ok hp h1 z
    have hj' : ¬ j = i := fun z => hj z.symm
    by_cases hz : j + 1 = i
    · simp [gv_cat, hj', hc hz]
    · simp [hj', hz]
theorem gAs_set2 {ad : Nat → Nat} {ls : Array Slot} {nL : Nat} {lv : gL} {i : Nat} {v : Value} (hi : i + 1 < lv.length) (hp : gPrev lv i = true)
    (hl : lv_has ls nL ((i, gv ad v) :: (gAs ad 0 lv).filter (fun q => !(q.1 == i) && (!(q.1 == i + 1) && !(q.1 + 1 == i && q.2.category == 2))))) : lv_has ls nL (gAs ad 0 ((lv.set i (some v)).set (i + 1) none)) := by
  refine ⟨hl.1, hl.2.1, fun q hq => hl.2.2 q ?_⟩
  obtain ⟨j, w, h1, h2⟩ := (gAs_mem ad _ 0 q).mp hq
  by_cases hk : i + 1 = j
  · subst hk
    rw [List.getElem?_set_self (by rw [List.length_set]; exact hi)] at h1
    cases h1
  rw [List.getElem?_set_ne hk] at h1
  by_cases hj : i = j
  · subst hj
    rw [List.getElem?_set_self (by omega)] at h1
    cases h1
    subst h2
    exact List.mem_cons.mpr (Or.inl (by simp))
  · rw [List.getElem?_set_ne hj] at h1
    refine List.mem_cons.mpr (Or.inr (List.mem_filter.mpr ⟨(gAs_mem ad lv 0 q).mpr ⟨j, w, h1, h2⟩, ?_⟩))
    subst h2
    have hc : j + 1 = i → w.category = 1 := fun z => gPrev_ok hp h1 z
    have hj' : ¬ j = i := fun z => hj z.symm
    have hk' : ¬ j = i + 1 := fun z => hk z.symm
    by_cases hz : j + 1 = i
    · simp [gv_cat, hj', hk', hc hz]
    · simp [hj', hk', hz]
theorem gLe_at : ∀ {a b : gL}, gLe a b → a.length = b.length ∧ ∀ (j : Nat) (v : Value), a[j]? = some (some v) → b[j]? = some (some v)
  | [], [], _ => ⟨rfl, fun j v h => by simp at h⟩
  | none :: a, w :: b, h => by
    obtain ⟨h1, h2⟩ := gLe_at (a := a) (b := b) h
    refine ⟨by simp [h1], fun j v hj => ?_⟩
    cases j with
    | zero => simp at hj
    | succ j => simpa using h2 j v (by simpa using hj)
  | some v :: a, w :: b, h => by
    obtain ⟨h1, h2⟩ := gLe_at (a := a) (b := b) h.2
    have h0 : w = some v := h.1
    refine ⟨by simp [h1], fun j u hj => ?_⟩
    cases j with
    | zero => subst h0; simpa using hj
    | succ j => simpa using h2 j u (by simpa using hj)
  | [], _ :: _, h => h.elim
  | none :: _, [], h => h.elim
  | some _ :: _, [], h => h.elim
-- the world
def gTys (tc : Nat → ClassId) : List (ClassId × FieldType) := [(tc 0, .int), (tc 1, .boolean), (tc 2, .object "GorseGold$Course"), (tc 3, .object "GorseGold$Sheet")]
def gFs (ad : Nat → Nat) (g : Nat → Int32) : Nat → List (Option Nat) → List Value
  | _, [] => []
  | k, some r :: l => .ref (ad r) :: gFs ad g (k + 1) l
  | k, none :: l => .int (g k) :: gFs ad g (k + 1) l
theorem gFs_len (ad : Nat → Nat) (g : Nat → Int32) : ∀ (l : List (Option Nat)) (k : Nat), (gFs ad g k l).length = l.length
  | [], _ => rfl
  | some _ :: l, k => by simp [gFs, gFs_len ad g l (k + 1)]
  | none :: l, k => by simp [gFs, gFs_len ad g l (k + 1)]
theorem gFs_ref (ad : Nat → Nat) (g : Nat → Int32) : ∀ (l : List (Option Nat)) (k j r : Nat), l[j]? = some (some r) → (gFs ad g k l)[j]? = some (.ref (ad r))
  | [], _, j, r, h => by simp at h
  | o :: l, k, 0, r, h => by
    simp at h; subst h; rfl
  | some _ :: l, k, j + 1, r, h => by simpa [gFs] using gFs_ref ad g l (k + 1) j r (by simpa using h)
  | none :: l, k, j + 1, r, h => by simpa [gFs] using gFs_ref ad g l (k + 1) j r (by simpa using h)
theorem gFs_int (ad : Nat → Nat) (g : Nat → Int32) : ∀ (l : List (Option Nat)) (k j : Nat), l[j]? = some none → (gFs ad g k l)[j]? = some (.int (g (k + j)))
  | [], _, j, h => by simp at h
  | o :: l, k, 0, h => by
    simp at h; subst h; rfl
  | some _ :: l, k, j + 1, h => by
    have := gFs_int ad g l (k + 1) j (by simpa using h)
    simpa [gFs, Nat.add_assoc, Nat.add_comm 1 j] using this
  | none :: l, k, j + 1, h => by
    have := gFs_int ad g l (k + 1) j (by simpa using h)
    simpa [gFs, Nat.add_assoc, Nat.add_comm 1 j] using this
theorem gFs_same (ad : Nat → Nat) (g g' : Nat → Int32) : ∀ (l : List (Option Nat)) (k : Nat), (∀ j, k ≤ j → g' j = g j) → gFs ad g' k l = gFs ad g k l
  | [], _, _ => rfl
  | some _ :: l, k, h => by simp [gFs, gFs_same ad g g' l (k + 1) (fun j hj => h j (by omega))]
  | none :: l, k, h => by simp [gFs, gFs_same ad g g' l (k + 1) (fun j hj => h j (by omega)), h k (Nat.le_refl k)]
theorem gFs_set (ad : Nat → Nat) (g : Nat → Int32) (v : Int32) : ∀ (l : List (Option Nat)) (k j : Nat), l[j]? = some none → (gFs ad g k l).set j (.int v) = gFs ad (upd g (k + j) v) k l
  | [], _, j, h => by simp at h
  | o :: l, k, 0, h => by
    simp at h; subst h
    simp only [gFs, List.set_cons_zero, Nat.add_zero]
    rw [gFs_same ad g (upd g k v) l (k + 1) (fun j hj => by simp only [upd]; rw [if_neg (by omega)])]
    simp [upd]
  | some _ :: l, k, j + 1, h => by
    have := gFs_set ad g v l (k + 1) j (by simpa using h)
    simp only [gFs, List.set_cons_succ, this]
    congr 3; omega
  | none :: l, k, j + 1, h => by
    have := gFs_set ad g v l (k + 1) j (by simpa using h)
    simp only [gFs, List.set_cons_succ, this]
    have e : k + 1 + j = k + (j + 1) := by omega
    rw [e]
    congr 1
    simp only [upd]; rw [if_neg (by omega)]
def gCell (ad : Nat → Nat) (tc : Nat → ClassId) (σ : gS) (i : Nat) : va_E := match gShape i with
  | some (.inl (ci, ks)) => .inr (ci, gFs ad (σ i) 0 ks)
  | some (.inr (.inl (t, n))) => .inl (tc t, n, .inl (σ i))
  | some (.inr (.inr (t, n, f))) => .inl (tc t, n, .inr (.inr (.inr (.inr (fun j => (f j).map ad)))))
  | none => .inr (0, [])
def gWs (ad : Nat → Nat) (tc : Nat → ClassId) (σ : gS) : va_W := (List.range gNC).map (fun i => (ad i, gCell ad tc σ i))
theorem gShape_lt {q : Nat} {x : gShp} (h : gShape q = some x) : q < gNC := by
  rw [gShape, gAt_eq] at h
  have := (List.getElem?_eq_some_iff.mp h).1
  rw [gShapes_len] at this
  exact this
theorem gWs_at {ad : Nat → Nat} {tc : Nat → ClassId} {σ : gS} {i : Nat} (h : i < gNC) : (gWs ad tc σ)[i]? = some (ad i, gCell ad tc σ i) := by
  simp [gWs, h]
theorem gWs_set {ad : Nat → Nat} {tc : Nat → ClassId} {σ σ' : gS} {q : Nat} {e : va_E} (hq : q < gNC) (he : gCell ad tc σ' q = e) (ho : ∀ i, i ≠ q → σ' i = σ i) : (gWs ad tc σ).set q (ad q, e) = gWs ad tc σ' := by
  apply List.ext_getElem?
  intro i
  by_cases h : q = i
  · subst h
    rw [List.getElem?_set_self (by simpa [gWs] using hq), gWs_at hq, he]
  · rw [List.getElem?_set_ne h]
    by_cases hi : i < gNC
    · rw [gWs_at hi, gWs_at hi]
      congr 2
      simp only [gCell, ho i (fun z => h z.symm)]
    · simp [gWs, hi]
def gApart (ad : Nat → Nat) (A : Nat → Prop) : Prop := (∀ i j, i < gNC → j < gNC → ad i = ad j → i = j) ∧ ∀ i, i < gNC → A (ad i)
theorem gApart.D {ad : Nat → Nat} {A : Nat → Prop} (h : gApart ad A) (tc : Nat → ClassId) (σ : gS) : va_D A (gWs ad tc σ) := by
  have key : ∀ (k : Nat) (q : Nat × va_E), (gWs ad tc σ)[k]? = some q → k < gNC ∧ q.1 = ad k := by
    intro k q hk
    have hl : k < gNC := by simpa [gWs] using (List.getElem?_eq_some_iff.mp hk).1
    rw [gWs_at hl] at hk
    cases hk
    exact ⟨hl, rfl⟩
  refine ⟨fun i j x y hi hj hxy => ?_, fun k q hk => ?_⟩
  · obtain ⟨a1, a2⟩ := key i x hi
    obtain ⟨b1, b2⟩ := key j y hj
    exact h.1 i j a1 b1 (by rw [← a2, ← b2]; exact hxy)
  · obtain ⟨a1, a2⟩ := key k q hk
    rw [a2]
    exact h.2 k a1
theorem gApart.of {ad : Nat → Nat} {A : Nat → Prop} {tc : Nat → ClassId} {σ : gS} (h : va_D A (gWs ad tc σ)) : gApart ad A :=
  ⟨fun i j hi hj e => h.1 i j _ _ (gWs_at hi) (gWs_at hj) e, fun i hi => h.2 i _ (gWs_at hi)⟩
theorem gWs_A {ad : Nat → Nat} {tc : Nat → ClassId} {σ : gS} {sz q : Nat} : va_A (gWs ad tc σ) sz q ↔ (∃ i, i < gNC ∧ q = ad i) ∨ sz ≤ q := by
  unfold va_A
  constructor
  · rintro (⟨k, e, h⟩ | h)
    · have hl : k < gNC := by simpa [gWs] using (List.getElem?_eq_some_iff.mp h).1
      rw [gWs_at hl] at h
      cases h
      exact Or.inl ⟨k, hl, rfl⟩
    · exact Or.inr h
  · rintro (⟨i, h1, h2⟩ | h)
    · exact Or.inl ⟨i, _, by rw [gWs_at h1, h2]⟩
    · exact Or.inr h
-- words
def gW : List Cond := lw_tbl.filter goodWord
def gIsNest : Cond → Bool
  | .fieldLinkNest .. => true
  | .methodLinkNest .. => true
  | _ => false
def gNest : List Cond := lw_tbl.filter gIsNest
theorem gNest_warm {s U : State} (hW : s.WarmedH U.vm) (h : ∀ w ∈ gNest, va_Nw w s) : ∀ w ∈ gNest, va_Nw w U := by
  intro w hw
  have h1 := h w hw
  have h2 := (List.mem_filter.mp hw).2
  cases w <;> first | exact va_Nw.warmF hW h1 | exact va_Nw.warmM hW h1 | (simp [gIsNest] at h2)
theorem gNest_same {s U : State} (hW : s.vm = U.vm) (h : ∀ w ∈ gNest, va_Nw w s) : ∀ w ∈ gNest, va_Nw w U := by
  intro w hw
  have h1 := h w hw
  have h2 := (List.mem_filter.mp hw).2
  cases w <;> first | exact va_Nw.same rfl hW h1 | (simp [gIsNest] at h2)
theorem gNest_use {w : Cond} {args : Array Value} {s : State} (h : va_Nw w s) (hw : gIsNest w = true) : w.before args s = true := by
  cases w <;> first | exact va_Nw.use rfl h | (simp [gIsNest] at hw)
theorem gW_good : GoodIn gW gW := fun w hw => ⟨hw, good_of_word (List.mem_filter.mp hw).2⟩
/-- the class's tables, untouched -/
def gRoH (ad : Nat → Nat) (A : Nat → Prop) (U : State) (H : Heap) : Prop := ∀ (j n : Nat) (nm : String) (xs : List Int32), gAt gRoL j = some (n, nm, xs) → va_X (ad (1000 + j)) n (fun i => xs.getD i 0) U H ∧ ad (1000 + j) < H.size ∧ ¬ A (ad (1000 + j)) ∧ va_Z "GorseGold" nm "[I" (.ref (ad (1000 + j))) A U H
def gScr (scr : Option (Nat × (Nat → Int32))) (ad : Nat → Nat) (A : Nat → Prop) (U : State) (H : Heap) : Prop := match scr with
  | none => True
  | some x => va_X (ad 1007) x.1 x.2 U H ∧ ad 1007 < H.size ∧ ¬ A (ad 1007)
def gCtx (own : String) (cc : ByteArray) (nL : Nat) (scr : Option (Nat × (Nat → Int32))) (p : Program) (R : Room) (s : State) (m : MethodId) (args : Array Value) (c : Code) (cells slots : Nat) (ad : Nat → Nat) (dC : Nat → ClassId) (dI : Nat → Nat → Nat) (tc : Nat → ClassId) (A : Nat → Prop) (d : Nat) : Prop :=
  p.tables.exec = Jvm.exec ∧ c.code = cc ∧ c.maxLocals = nL ∧ s.vm.findClass own = some m.cls ∧ (∀ w ∈ gW, w.before args s = true) ∧ (∀ w ∈ gNest, va_Nw w s) ∧ va_K (dC, dI) vwCl (gTys tc) s ∧ (∀ q, s.heap.size ≤ q → A q) ∧ gApart ad A ∧ gRoH ad A s s.heap ∧ gScr scr ad A s s.heap ∧ d + 1 ≤ R.frames ∧ 40 * (d + 1) ≤ R.locals ∧ cells ≤ R.cells ∧ slots ≤ R.slots
def gWP (p : Program) (l : Launch) (e : Env) (R : Room) (s : State) (m : MethodId) (args : Array Value) (below : List Frame) (meth : Method) (c : Code) (cells slots : Nat) (Q : State → Prop) (ad : Nat → Nat) (dC : Nat → ClassId) (dI : Nat → Nat → Nat) (tc : Nat → ClassId) (A : Nat → Prop) (nL : Nat) (σ : gS) (f : gF) : Prop :=
  ∀ (H : Heap) (locs : List Loc) (ls : Array Slot), va_P (dC, dI) vwCl (gWs ad tc σ) H → va_S A s.heap H locs → f.2.1.length = nL → lv_has ls nL (gAs ad 0 f.2.1) → W p l e R s m args below meth c H locs cells slots Q (F0 m f.1 ls (f.2.2.map (gv ad)))
def gRetI : Option Value → Instr
  | none => .return_
  | some (.int _) => .ireturn
  | some (.long _) => .lreturn
  | some _ => .areturn
def gFin (cc : ByteArray) (p : Program) (l : Launch) (e : Env) (R : Room) (s : State) (m : MethodId) (args : Array Value) (below : List Frame) (meth : Method) (c : Code) (cells slots : Nat) (Q : State → Prop) (ad : Nat → Nat) (dC : Nat → ClassId) (dI : Nat → Nat → Nat) (tc : Nat → ClassId) (A : Nat → Prop) (v : Option Value) (σ : gS) : Prop :=
  ∀ (pc : Nat) (H : Heap) (locs : List Loc) (ls : Array Slot), va_P (dC, dI) vwCl (gWs ad tc σ) H → va_S A s.heap H locs → decode cc pc = .ok (gRetI v, 1) → W p l e R s m args below meth c H locs cells slots Q (F0 m pc ls (v.toList.map (gv ad)))
def gPc (ad : Nat → Nat) (dC : Nat → ClassId) (dI : Nat → Nat → Nat) (tc : Nat → ClassId) (σ : gS) (sz : Nat) (as : List Value) : Array Value → State → Prop :=
  va_Pc (as.map (gv ad)) (fun U => U.heap.size = sz ∧ va_P (dC, dI) vwCl (gWs ad tc σ) U.heap ∧ va_K (dC, dI) vwCl (gTys tc) U ∧ va_D (fun _ => True) (gWs ad tc σ) ∧ gRoH ad (va_A (gWs ad tc σ) sz) U U.heap ∧ ∀ w ∈ gNest, va_Nw w U)
def gQc (ad : Nat → Nat) (dC : Nat → ClassId) (dI : Nat → Nat → Nat) (tc : Nat → ClassId) (σ' : gS) (A1 : Nat → Prop) (v : Option Value) : Array Value → State → Outcome → State → Prop :=
  fun _ st oc t => oc = .returned (v.map (gv ad)) ∧ va_P (dC, dI) vwCl (gWs ad tc σ') t.heap ∧ va_F A1 st t
end
section
/-- the methods: name, code, locals, type of the answer -/
def gMs0 : List (MethodName × ByteArray × Nat × Option FieldType) := [(yX0_size, cX0_size, 1, (some (.int))),
  (yX0_has, cX0_has, 2, (some (.boolean))),
  (yX0_kindOf, cX0_kindOf, 2, (some (.int))),
  (yX0_beginOf, cX0_beginOf, 2, (some (.int))),
  (yX0_sparksOf, cX0_sparksOf, 2, (some (.int))),
  (yX1_follow, cX1_follow, 7, none),
  (yX1_beginIn, cX1_beginIn, 5, none),
  (yX1_stateIn, cX1_stateIn, 3, (some (.int))),
  (yX2_add, cX2_add, 4, (some (.int))),
  (yX2_dropLast, cX2_dropLast, 1, (some (.int))),
  (yX2_clear, cX2_clear, 1, none),
  (yX2_holding, cX2_holding, 5, (some (.int))),
  (yX2_hindering, cX2_hindering, 6, (some (.int))),
  (yX3_grow, cX3_grow, 6, (some (.int))),
  (yX3_yellowIn, cX3_yellowIn, 4, (some (.int))),
  (yX3_seemingIn, cX3_seemingIn, 4, (some (.int))),
  (yX4_size, cX4_size, 1, (some (.int))),
  (yX4_has, cX4_has, 2, (some (.boolean))),
  (yX4_monthOf, cX4_monthOf, 2, (some (.int))),
  (yX4_bushOf, cX4_bushOf, 2, (some (.int))),
  (yX5_draw, cX5_draw, 2, (some (.int))),
  (yX6_reckon, cX6_reckon, 4, none),
  (yX6_runWith, cX6_runWith, 6, (some (.int))),
  (yX6_countFires, cX6_countFires, 3, none),
  (yX6_gatherLooks, cX6_gatherLooks, 4, none),
  (yX6_worthOf, cX6_worthOf, 4, (some (.int))),
  (yX6_behind, cX6_behind, 7, (some (.int))),
  (yX6_bounded, cX6_bounded, 1, (some (.int))),
  (yX7_add, cX7_add, 4, (some (.int))),
  (yX7_clear, cX7_clear, 2, (some (.int))),
  (yX7_comeOut, cX7_comeOut, 4, (some (.boolean))),
  (yX8_isLost, cX8_isLost, 1, (some (.boolean))),
  (yX8_renew, cX8_renew, 3, none),
  (yX8_discard, cX8_discard, 2, (some (.int))),
  (yX8_hasItems, cX8_hasItems, 3, (some (.boolean))),
  (yX8_item, cX8_item, 2, (some (.int))),
  (yX8_put, cX8_put, 3, none),
  (yX8_narrowed, cX8_narrowed, 2, (some (.int))),
  (yX9_put, cX9_put, 2, (some (.int))),
  (yX9_clear, cX9_clear, 2, (some (.int)))]
def gMs1 : List (MethodName × ByteArray × Nat × Option FieldType) := [(yX9_drop, cX9_drop, 1, (some (.int))),
  (yX9_parse, cX9_parse, 1, none),
  (yX9_firstFault, cX9_firstFault, 2, (some (.int))),
  (yX9_mayStand, cX9_mayStand, 4, (some (.boolean))),
  (yX10_type, cX10_type, 3, (some (.int))),
  (yX10_wipe, cX10_wipe, 2, (some (.int))),
  (yX10_undo, cX10_undo, 2, (some (.int))),
  (yX10_fault, cX10_fault, 2, (some (.int))),
  (yX10_bush, cX10_bush, 3, (some (.int))),
  (yX10_look, cX10_look, 3, (some (.int))),
  (yX10_set, cX10_set, 4, (some (.int))),
  (yX10_event, cX10_event, 4, (some (.int))),
  (yX10_back, cX10_back, 1, (some (.int))),
  (yX10_read, cX10_read, 8, (some (.int))),
  (yX10_at, cX10_at, 4, (some (.int))),
  (yX10_hill, cX10_hill, 3, (some (.int))),
  (yX10_bare, cX10_bare, 1, (some (.int))),
  (yX10_run, cX10_run, 1, (some (.int))),
  (yX10_fake, cX10_fake, 5, (some (.int))),
  (yX10_last, cX10_last, 6, (some (.int))),
  (yX10_plant, cX10_plant, 7, (some (.int))),
  (yX10_send, cX10_send, 5, (some (.int))),
  (yX10_save, cX10_save, 3, (some (.int))),
  (yX10_deal, cX10_deal, 5, (some (.int))),
  (yX10_seen, cX10_seen, 4, (some (.int))),
  (yX10_forget, cX10_forget, 1, (some (.int))),
  (yX10_never, cX10_never, 3, (some (.int))),
  (yX10_was, cX10_was, 3, (some (.int))),
  (yX10_ask, cX10_ask, 7, (some (.int))),
  (yX10_luck, cX10_luck, 9, (some (.long))),
  (yX10_century, cX10_century, 4, (some (.int))),
  (yX10_sheet, cX10_sheet, 4, (some (.int))),
  (yX10_lose, cX10_lose, 2, (some (.int))),
  (yX10_lay, cX10_lay, 6, (some (.int))),
  (yX10_get, cX10_get, 5, (some (.int))),
  (yX10_copy, cX10_copy, 8, (some (.int))),
  (yX10_write, cX10_write, 5, (some (.int))),
  (yX10_count, cX10_count, 2, (some (.int))),
  (yX10_digest, cX10_digest, 4, (some (.long))),
  (yX10_digestOfCounts, cX10_digestOfCounts, 4, (some (.long)))]
def gMs2 : List (MethodName × ByteArray × Nat × Option FieldType) := [(yX10_digestOfMonths, cX10_digestOfMonths, 5, (some (.long))),
  (yX10_digestOfLooks, cX10_digestOfLooks, 4, (some (.long))),
  (yX10_digestOfBush, cX10_digestOfBush, 5, (some (.long))),
  (yX10_digestOfBushIn, cX10_digestOfBushIn, 6, (some (.long))),
  (yX10_digestOfHill, cX10_digestOfHill, 3, (some (.long))),
  (yX10_digestOfPlans, cX10_digestOfPlans, 4, (some (.long))),
  (yX10_digestOfLuck, cX10_digestOfLuck, 3, (some (.long))),
  (yX10_allYellow, cX10_allYellow, 3, (some (.int))),
  (yX10_bareIfPlanted, cX10_bareIfPlanted, 4, (some (.int))),
  (yX10_bestSend, cX10_bestSend, 6, (some (.int))),
  (yX10_bestDeal, cX10_bestDeal, 6, (some (.int))),
  (yX10_fewestToLose, cX10_fewestToLose, 3, (some (.int))),
  (yX10_placeOfBit, cX10_placeOfBit, 4, (some (.int))),
  (yX10_beginsThatFit, cX10_beginsThatFit, 6, (some (.int))),
  (yX10_kindsThatFit, cX10_kindsThatFit, 5, (some (.int))),
  (yX10_greatestAlike, cX10_greatestAlike, 9, (some (.int))),
  (yX10_bareShares, cX10_bareShares, 7, (some (.long))),
  (yX10_gatherHinderers, cX10_gatherHinderers, 4, (some (.int))),
  (yX10_hindersAll, cX10_hindersAll, 4, (some (.boolean))),
  (yX10_shareOf, cX10_shareOf, 6, (some (.long))),
  (yX10_drawEvents, cX10_drawEvents, 7, none),
  (yX10_finding, cX10_finding, 2, (some (.int))),
  (yX10_findingOfItem, cX10_findingOfItem, 3, (some (.int))),
  (yX10_textOf, cX10_textOf, 2, (some (.object "GorseGold$Text"))),
  (yX10_isText, cX10_isText, 1, (some (.boolean))),
  (yX10_isMonth, cX10_isMonth, 1, (some (.boolean))),
  (yX10_isSheet, cX10_isSheet, 1, (some (.boolean))),
  (yX10_isForm, cX10_isForm, 1, (some (.boolean))),
  (yX10_mayBeEvent, cX10_mayBeEvent, 3, (some (.boolean))),
  (yX10_within, cX10_within, 3, (some (.boolean))),
  (yX10_bit, cX10_bit, 2, (some (.int))),
  (yX11_in, cX11_in, 6, (some (.boolean))),
  (yX11_no, cX11_no, 1, (some (.long))),
  (yX11_isTwo, cX11_isTwo, 1, (some (.boolean))),
  (yX11_isIn, cX11_isIn, 2, (some (.boolean))),
  (yX11_ones, cX11_ones, 3, (some (.int))),
  (yX11_lesser, cX11_lesser, 2, (some (.int))),
  (yX11_greater, cX11_greater, 2, (some (.int))),
  (yX11_part, cX11_part, 11, (some (.long))),
  (yX11_finds, cX11_finds, 2, (some (.int)))]
def gMs3 : List (MethodName × ByteArray × Nat × Option FieldType) := [(yX11_isSheet, cX11_isSheet, 1, (some (.boolean))),
  (yX11_sheet, cX11_sheet, 5, (some (.int))),
  (yX11_lose, cX11_lose, 2, (some (.int))),
  (yX11_lacks, cX11_lacks, 4, (some (.int))),
  (yX11_cut, cX11_cut, 2, (some (.int))),
  (yX11_lay, cX11_lay, 6, (some (.int))),
  (yX11_get, cX11_get, 4, (some (.int))),
  (yX11_copy, cX11_copy, 7, (some (.int))),
  (yX11_type, cX11_type, 3, (some (.int))),
  (yX11_wipe, cX11_wipe, 3, (some (.int))),
  (yX11_undo, cX11_undo, 2, (some (.int))),
  (yX11_kindOf, cX11_kindOf, 1, (some (.int))),
  (yX11_bushOf, cX11_bushOf, 2, (some (.int))),
  (yX11_readsBushes, cX11_readsBushes, 5, (some (.int))),
  (yX11_lookOf, cX11_lookOf, 2, (some (.int))),
  (yX11_readsLooks, cX11_readsLooks, 5, (some (.int))),
  (yX11_readsText, cX11_readsText, 2, (some (.int))),
  (yX11_fault, cX11_fault, 2, (some (.int))),
  (yX11_isBush, cX11_isBush, 2, (some (.boolean))),
  (yX11_isMonth, cX11_isMonth, 1, (some (.boolean))),
  (yX11_bush, cX11_bush, 3, (some (.int))),
  (yX11_lookBy, cX11_lookBy, 3, (some (.int))),
  (yX11_look, cX11_look, 3, (some (.int))),
  (yX11_set, cX11_set, 4, (some (.int))),
  (yX11_puts, cX11_puts, 4, none),
  (yX11_event, cX11_event, 4, (some (.int))),
  (yX11_back, cX11_back, 1, (some (.int))),
  (yX11_read, cX11_read, 5, (some (.int))),
  (yX11_lasts, cX11_lasts, 2, (some (.int))),
  (yX11_isOn, cX11_isOn, 8, (some (.boolean))),
  (yX11_isSeason, cX11_isSeason, 4, (some (.boolean))),
  (yX11_stateOf, cX11_stateOf, 3, (some (.int))),
  (yX11_grows, cX11_grows, 4, none),
  (yX11_isSeeming, cX11_isSeeming, 3, (some (.boolean))),
  (yX11_kept, cX11_kept, 1, (some (.int))),
  (yX11_looked, cX11_looked, 4, (some (.int))),
  (yX11_believes, cX11_believes, 5, none),
  (yX11_lives, cX11_lives, 1, none),
  (yX11_find, cX11_find, 1, none),
  (yX11_atBy, cX11_atBy, 4, (some (.int)))]
def gMs4 : List (MethodName × ByteArray × Nat × Option FieldType) := [(yX11_at, cX11_at, 4, (some (.int))),
  (yX11_hillBy, cX11_hillBy, 3, (some (.int))),
  (yX11_hill, cX11_hill, 3, (some (.int))),
  (yX11_bareNow, cX11_bareNow, 3, (some (.int))),
  (yX11_bare, cX11_bare, 1, (some (.int))),
  (yX11_runNow, cX11_runNow, 3, (some (.int))),
  (yX11_run, cX11_run, 1, (some (.int))),
  (yX11_fakeNow, cX11_fakeNow, 5, (some (.int))),
  (yX11_fake, cX11_fake, 1, (some (.int))),
  (yX11_lastBy, cX11_lastBy, 7, (some (.int))),
  (yX11_last, cX11_last, 2, (some (.int))),
  (yX11_plantBy, cX11_plantBy, 7, (some (.int))),
  (yX11_plant, cX11_plant, 2, (some (.int))),
  (yX11_sendBy, cX11_sendBy, 6, (some (.int))),
  (yX11_send, cX11_send, 2, (some (.int))),
  (yX11_isSaved, cX11_isSaved, 2, (some (.boolean))),
  (yX11_saveOf, cX11_saveOf, 4, (some (.int))),
  (yX11_save, cX11_save, 2, (some (.int))),
  (yX11_dealBy, cX11_dealBy, 7, (some (.int))),
  (yX11_deal, cX11_deal, 2, (some (.int))),
  (yX11_seen, cX11_seen, 4, (some (.int))),
  (yX11_forget, cX11_forget, 2, (some (.int))),
  (yX11_isSeen, cX11_isSeen, 4, (some (.boolean))),
  (yX11_neverNow, cX11_neverNow, 3, (some (.int))),
  (yX11_never, cX11_never, 1, (some (.int))),
  (yX11_beganOf, cX11_beganOf, 5, (some (.int))),
  (yX11_sortOf, cX11_sortOf, 5, (some (.int))),
  (yX11_wasOf, cX11_wasOf, 3, (some (.int))),
  (yX11_was, cX11_was, 3, (some (.int))),
  (yX11_askOf, cX11_askOf, 9, (some (.int))),
  (yX11_ask, cX11_ask, 2, (some (.int))),
  (yX11_luckOf, cX11_luckOf, 11, (some (.long))),
  (yX11_luck, cX11_luck, 4, (some (.long))),
  (yX11_lot, cX11_lot, 2, (some (.int))),
  (yX11_centuryOf, cX11_centuryOf, 8, (some (.int))),
  (yX11_century, cX11_century, 4, (some (.int))),
  (yX11_write, cX11_write, 4, (some (.int))),
  (yX11_allYellow, cX11_allYellow, 3, (some (.int))),
  (yX11_count, cX11_count, 2, (some (.int))),
  (yX11_tellsMonth, cX11_tellsMonth, 8, (some (.long)))]
def gMs5 : List (MethodName × ByteArray × Nat × Option FieldType) := [(yX11_tellsBush, cX11_tellsBush, 7, (some (.long))),
  (yX11_digest, cX11_digest, 5, (some (.long))),
  (yJ6_bitCount_0f7a4, cJ6_bitCount_0f7a4, 1, (some (.int))),
  (yJ7_fill_53178, cJ7_fill_53178, 4, none)]
def gMs : List (MethodName × ByteArray × Nat × Option FieldType) := gMs0 ++ (gMs1 ++ (gMs2 ++ (gMs3 ++ (gMs4 ++ (gMs5)))))
def gM (mid : Nat) : MethodName × ByteArray × Nat × Option FieldType := (gAt gMs mid).getD (⟨"", "", ""⟩, ⟨#[]⟩, 0, none)
def gCallOK (l : Launch) (d : Nat) (E : gE) : Prop := ∀ (mid : Nat) (as : List Value) (σ : gS) (v : Option Value) (σ' : gS), E mid as σ v σ' → ∀ (ad : Nat → Nat) (dC : Nat → ClassId) (dI : Nat → Nat → Nat) (tc : Nat → ClassId) (sz : Nat),
  Met l (gM mid).1 (Cond.code (gM mid).1 (gM mid).2.1 (gM mid).2.2.1 (gM mid).2.2.2 :: gW) ({ frames := d, cells := 0, slots := 0, locals := 40 * d }) (gPc ad dC dI tc σ sz as) (gQc ad dC dI tc σ' (va_A (gWs ad tc σ) sz) v) 0 0 (va_A (gWs ad tc σ) sz)
def gSnd (own : String) (cc : ByteArray) (nL : Nat) (scr : Option (Nat × (Nat → Int32))) (pc : Nat) (sem : gSem) : Prop :=
  ∀ (p : Program) (l : Launch) (e : Env) (R : Room) (s : State) (m : MethodId) (args : Array Value) (below : List Frame) (meth : Method) (c : Code) (cells slots : Nat) (Q : State → Prop) (ad : Nat → Nat) (dC : Nat → ClassId) (dI : Nat → Nat → Nat) (tc : Nat → ClassId) (A : Nat → Prop) (d : Nat) (E : gE),
  gCtx own cc nL scr p R s m args c cells slots ad dC dI tc A d → gCallOK l d E →
  ∀ (σ : gS) (lv : gL) (st : List Value), gNext (gWP p l e R s m args below meth c cells slots Q ad dC dI tc A nL) E (gFin cc p l e R s m args below meth c cells slots Q ad dC dI tc A) σ (sem σ pc lv st) → gWP p l e R s m args below meth c cells slots Q ad dC dI tc A nL σ (pc, lv, st)
end
section
section GSOUND
variable {own : String} {cc : ByteArray} {nL : Nat} {scr : Option (Nat × (Nat → Int32))} {pc : Nat}
theorem gs_iconst {n : Int} {v : Int32} (hd : decode cc pc = .ok (.iconst n, 1)) (hv : Int32.ofInt n = v) : gSnd own cc nL scr pc (sPush (.int v) 1) := by
  intro p l e R s m args below meth c cells slots Q ad dC dI tc A d E C hE σ lv st h H locs ls hP hS hlen hl
  obtain ⟨hx, hb, hml, hown, hts, hnw, hK, hA, hap, hro, hsc, hfr, hlo, hce, hsl⟩ := C
  exact lv_iconst hx hb hd hv (h.1 rfl H locs ls hP hS hlen hl)
theorem gs_bipush {n : Int} {v : Int32} (hd : decode cc pc = .ok (.bipush n, 2)) (hv : (Int8.ofInt n).toInt32 = v) : gSnd own cc nL scr pc (sPush (.int v) 2) := by
  intro p l e R s m args below meth c cells slots Q ad dC dI tc A d E C hE σ lv st h H locs ls hP hS hlen hl
  obtain ⟨hx, hb, hml, hown, hts, hnw, hK, hA, hap, hro, hsc, hfr, hlo, hce, hsl⟩ := C
  exact lv_bipush hx hb hd hv (h.1 rfl H locs ls hP hS hlen hl)
theorem gs_sipush {n : Int} {v : Int32} (hd : decode cc pc = .ok (.sipush n, 3)) (hv : (Int16.ofInt n).toInt32 = v) : gSnd own cc nL scr pc (sPush (.int v) 3) := by
  intro p l e R s m args below meth c cells slots Q ad dC dI tc A d E C hE σ lv st h H locs ls hP hS hlen hl
  obtain ⟨hx, hb, hml, hown, hts, hnw, hK, hA, hap, hro, hsc, hfr, hlo, hce, hsl⟩ := C
  exact lv_sipush hx hb hd hv (h.1 rfl H locs ls hP hS hlen hl)
theorem gs_lconst {n : _root_.Fin 2} {v : Int64} (hd : decode cc pc = .ok (.lconst n, 1)) (hv : Int64.ofNat (n : Nat) = v) : gSnd own cc nL scr pc (sPush (.long v) 1) := by
  intro p l e R s m args below meth c cells slots Q ad dC dI tc A d E C hE σ lv st h H locs ls hP hS hlen hl
  obtain ⟨hx, hb, hml, hown, hts, hnw, hK, hA, hap, hro, hsc, hfr, hlo, hce, hsl⟩ := C
  exact lv_lconst hx hb hd hv (h.1 rfl H locs ls hP hS hlen hl)
theorem gs_ldc {idx : Nat} {v : Int32} (hd : decode cc pc = .ok (.ldc idx, 2)) (hv : Cond.constant own idx v ∈ gW) : gSnd own cc nL scr pc (sPush (.int v) 2) := by
  intro p l e R s m args below meth c cells slots Q ad dC dI tc A d E C hE σ lv st h H locs ls hP hS hlen hl
  obtain ⟨hx, hb, hml, hown, hts, hnw, hK, hA, hap, hro, hsc, hfr, hlo, hce, hsl⟩ := C
  exact lv_ldc hx hb hown (hts _ hv) hd (h.1 rfl H locs ls hP hS hlen hl)
theorem gs_ldcw {idx : Nat} {v : Int32} (hd : decode cc pc = .ok (.ldc_w idx, 3)) (hv : Cond.constant own idx v ∈ gW) : gSnd own cc nL scr pc (sPush (.int v) 3) := by
  intro p l e R s m args below meth c cells slots Q ad dC dI tc A d E C hE σ lv st h H locs ls hP hS hlen hl
  obtain ⟨hx, hb, hml, hown, hts, hnw, hK, hA, hap, hro, hsc, hfr, hlo, hce, hsl⟩ := C
  exact lv_ldcw hx hb hown (hts _ hv) hd (h.1 rfl H locs ls hP hS hlen hl)
theorem gs_ldc2 {idx : Nat} {v : Int64} (hd : decode cc pc = .ok (.ldc2_w idx, 3)) (hv : Cond.constantLong own idx v ∈ gW) : gSnd own cc nL scr pc (sPush (.long v) 3) := by
  intro p l e R s m args below meth c cells slots Q ad dC dI tc A d E C hE σ lv st h H locs ls hP hS hlen hl
  obtain ⟨hx, hb, hml, hown, hts, hnw, hK, hA, hap, hro, hsc, hfr, hlo, hce, hsl⟩ := C
  exact lv_ldc2 hx hb hown (hts _ hv) hd (h.1 rfl H locs ls hP hS hlen hl)
theorem gs_iload_n {k : _root_.Fin 4} {i : Nat} (hd : decode cc pc = .ok (.iload_n k, 1)) (hi : (k : Nat) = i) : gSnd own cc nL scr pc (sLdI i 1) := by
  intro p l e R s m args below meth c cells slots Q ad dC dI tc A d E C hE σ lv st h H locs ls hP hS hlen hl
  obtain ⟨hx, hb, hml, hown, hts, hnw, hK, hA, hap, hro, hsc, hfr, hlo, hce, hsl⟩ := C
  simp only [sLdI] at h
  split at h
  next x hq => exact lv_iload_n hx hb hd hi (gAs_get hl hq) (h.1 rfl H locs ls hP hS hlen hl)
  next => exact h.elim
theorem gs_iload {i : Nat} (hd : decode cc pc = .ok (.iload i, 2)) : gSnd own cc nL scr pc (sLdI i 2) := by
  intro p l e R s m args below meth c cells slots Q ad dC dI tc A d E C hE σ lv st h H locs ls hP hS hlen hl
  obtain ⟨hx, hb, hml, hown, hts, hnw, hK, hA, hap, hro, hsc, hfr, hlo, hce, hsl⟩ := C
  simp only [sLdI] at h
  split at h
  next x hq => exact lv_iload hx hb hd (gAs_get hl hq) (h.1 rfl H locs ls hP hS hlen hl)
  next => exact h.elim
theorem gs_lload_n {k : _root_.Fin 4} {i : Nat} (hd : decode cc pc = .ok (.lload_n k, 1)) (hi : (k : Nat) = i) : gSnd own cc nL scr pc (sLdL i 1) := by
  intro p l e R s m args below meth c cells slots Q ad dC dI tc A d E C hE σ lv st h H locs ls hP hS hlen hl
  obtain ⟨hx, hb, hml, hown, hts, hnw, hK, hA, hap, hro, hsc, hfr, hlo, hce, hsl⟩ := C
  simp only [sLdL] at h
  split at h
  next x hq => exact lv_lload_n hx hb hd hi (gAs_get hl hq) (h.1 rfl H locs ls hP hS hlen hl)
  next => exact h.elim
theorem gs_lload {i : Nat} (hd : decode cc pc = .ok (.lload i, 2)) : gSnd own cc nL scr pc (sLdL i 2) := by
  intro p l e R s m args below meth c cells slots Q ad dC dI tc A d E C hE σ lv st h H locs ls hP hS hlen hl
  obtain ⟨hx, hb, hml, hown, hts, hnw, hK, hA, hap, hro, hsc, hfr, hlo, hce, hsl⟩ := C
  simp only [sLdL] at h
  split at h
  next x hq => exact lv_lload hx hb hd (gAs_get hl hq) (h.1 rfl H locs ls hP hS hlen hl)
  next => exact h.elim
theorem gs_aload_n {k : _root_.Fin 4} {i : Nat} (hd : decode cc pc = .ok (.aload_n k, 1)) (hi : (k : Nat) = i) : gSnd own cc nL scr pc (sLdA i 1) := by
  intro p l e R s m args below meth c cells slots Q ad dC dI tc A d E C hE σ lv st h H locs ls hP hS hlen hl
  obtain ⟨hx, hb, hml, hown, hts, hnw, hK, hA, hap, hro, hsc, hfr, hlo, hce, hsl⟩ := C
  simp only [sLdA] at h
  split at h
  next x hq => exact lv_aload_n hx hb hd hi (gAs_get hl hq) (h.1 rfl H locs ls hP hS hlen hl)
  next => exact h.elim
theorem gs_aload {i : Nat} (hd : decode cc pc = .ok (.aload i, 2)) : gSnd own cc nL scr pc (sLdA i 2) := by
  intro p l e R s m args below meth c cells slots Q ad dC dI tc A d E C hE σ lv st h H locs ls hP hS hlen hl
  obtain ⟨hx, hb, hml, hown, hts, hnw, hK, hA, hap, hro, hsc, hfr, hlo, hce, hsl⟩ := C
  simp only [sLdA] at h
  split at h
  next x hq => exact lv_aload hx hb hd (gAs_get hl hq) (h.1 rfl H locs ls hP hS hlen hl)
  next => exact h.elim
theorem gs_istore_n {k : _root_.Fin 4} {i : Nat} (hd : decode cc pc = .ok (.istore_n k, 1)) (hi : (k : Nat) = i) : gSnd own cc nL scr pc (sStI i 1) := by
  intro p l e R s m args below meth c cells slots Q ad dC dI tc A d E C hE σ lv st h H locs ls hP hS hlen hl
  obtain ⟨hx, hb, hml, hown, hts, hnw, hK, hA, hap, hro, hsc, hfr, hlo, hce, hsl⟩ := C
  simp only [sStI] at h
  split at h
  next x r =>
    cases hq : (Nat.blt i lv.length && gPrev lv i) with
    | false => rw [hq] at h; exact h.elim
    | true =>
      rw [hq] at h
      simp only [Bool.and_eq_true, Nat.blt_eq] at hq
      exact lv_istore_n hx hb hd hi hl (by rw [← hlen]; exact hq.1) rfl (fun ls' hl' => h.1 rfl H locs ls' hP hS (by simpa using hlen) (gAs_set1 (v := .int x) hq.1 hq.2 hl'))
  next => exact h.elim
theorem gs_istore {i : Nat} (hd : decode cc pc = .ok (.istore i, 2)) : gSnd own cc nL scr pc (sStI i 2) := by
  intro p l e R s m args below meth c cells slots Q ad dC dI tc A d E C hE σ lv st h H locs ls hP hS hlen hl
  obtain ⟨hx, hb, hml, hown, hts, hnw, hK, hA, hap, hro, hsc, hfr, hlo, hce, hsl⟩ := C
  simp only [sStI] at h
  split at h
  next x r =>
    cases hq : (Nat.blt i lv.length && gPrev lv i) with
    | false => rw [hq] at h; exact h.elim
    | true =>
      rw [hq] at h
      simp only [Bool.and_eq_true, Nat.blt_eq] at hq
      exact lv_istore hx hb hd hl (by rw [← hlen]; exact hq.1) rfl (fun ls' hl' => h.1 rfl H locs ls' hP hS (by simpa using hlen) (gAs_set1 (v := .int x) hq.1 hq.2 hl'))
  next => exact h.elim
theorem gs_astore_n {k : _root_.Fin 4} {i : Nat} (hd : decode cc pc = .ok (.astore_n k, 1)) (hi : (k : Nat) = i) : gSnd own cc nL scr pc (sStA i 1) := by
  intro p l e R s m args below meth c cells slots Q ad dC dI tc A d E C hE σ lv st h H locs ls hP hS hlen hl
  obtain ⟨hx, hb, hml, hown, hts, hnw, hK, hA, hap, hro, hsc, hfr, hlo, hce, hsl⟩ := C
  simp only [sStA] at h
  split at h
  next x r =>
    cases hq : (Nat.blt i lv.length && gPrev lv i) with
    | false => rw [hq] at h; exact h.elim
    | true =>
      rw [hq] at h
      simp only [Bool.and_eq_true, Nat.blt_eq] at hq
      exact lv_astore_n hx hb hd hi hl (by rw [← hlen]; exact hq.1) rfl (fun ls' hl' => h.1 rfl H locs ls' hP hS (by simpa using hlen) (gAs_set1 (v := .ref x) hq.1 hq.2 hl'))
  next => exact h.elim
theorem gs_astore {i : Nat} (hd : decode cc pc = .ok (.astore i, 2)) : gSnd own cc nL scr pc (sStA i 2) := by
  intro p l e R s m args below meth c cells slots Q ad dC dI tc A d E C hE σ lv st h H locs ls hP hS hlen hl
  obtain ⟨hx, hb, hml, hown, hts, hnw, hK, hA, hap, hro, hsc, hfr, hlo, hce, hsl⟩ := C
  simp only [sStA] at h
  split at h
  next x r =>
    cases hq : (Nat.blt i lv.length && gPrev lv i) with
    | false => rw [hq] at h; exact h.elim
    | true =>
      rw [hq] at h
      simp only [Bool.and_eq_true, Nat.blt_eq] at hq
      exact lv_astore hx hb hd hl (by rw [← hlen]; exact hq.1) rfl (fun ls' hl' => h.1 rfl H locs ls' hP hS (by simpa using hlen) (gAs_set1 (v := .ref x) hq.1 hq.2 hl'))
  next => exact h.elim
theorem gs_lstore_n {k : _root_.Fin 4} {i : Nat} (hd : decode cc pc = .ok (.lstore_n k, 1)) (hi : (k : Nat) = i) : gSnd own cc nL scr pc (sStL i 1) := by
  intro p l e R s m args below meth c cells slots Q ad dC dI tc A d E C hE σ lv st h H locs ls hP hS hlen hl
  obtain ⟨hx, hb, hml, hown, hts, hnw, hK, hA, hap, hro, hsc, hfr, hlo, hce, hsl⟩ := C
  simp only [sStL] at h
  split at h
  next x r =>
    cases hq : (Nat.blt (i + 1) lv.length && gPrev lv i) with
    | false => rw [hq] at h; exact h.elim
    | true =>
      rw [hq] at h
      simp only [Bool.and_eq_true, Nat.blt_eq] at hq
      exact lv_lstore_n hx hb hd hi hl (by rw [← hlen]; exact hq.1) rfl (fun ls' hl' => h.1 rfl H locs ls' hP hS (by simpa using hlen) (gAs_set2 (v := .long x) hq.1 hq.2 hl'))
  next => exact h.elim
theorem gs_lstore {i : Nat} (hd : decode cc pc = .ok (.lstore i, 2)) : gSnd own cc nL scr pc (sStL i 2) := by
  intro p l e R s m args below meth c cells slots Q ad dC dI tc A d E C hE σ lv st h H locs ls hP hS hlen hl
  obtain ⟨hx, hb, hml, hown, hts, hnw, hK, hA, hap, hro, hsc, hfr, hlo, hce, hsl⟩ := C
  simp only [sStL] at h
  split at h
  next x r =>
    cases hq : (Nat.blt (i + 1) lv.length && gPrev lv i) with
    | false => rw [hq] at h; exact h.elim
    | true =>
      rw [hq] at h
      simp only [Bool.and_eq_true, Nat.blt_eq] at hq
      exact lv_lstore hx hb hd hl (by rw [← hlen]; exact hq.1) rfl (fun ls' hl' => h.1 rfl H locs ls' hP hS (by simpa using hlen) (gAs_set2 (v := .long x) hq.1 hq.2 hl'))
  next => exact h.elim
theorem gs_iinc {i : Nat} {n : Int} {v : Int32} (hd : decode cc pc = .ok (.iinc i n, 3)) (hv : Int32.ofInt n = v) : gSnd own cc nL scr pc (sInc i v) := by
  intro p l e R s m args below meth c cells slots Q ad dC dI tc A d E C hE σ lv st h H locs ls hP hS hlen hl
  obtain ⟨hx, hb, hml, hown, hts, hnw, hK, hA, hap, hro, hsc, hfr, hlo, hce, hsl⟩ := C
  simp only [sInc] at h
  split at h
  next x hx2 =>
    cases hq : (Nat.blt i lv.length && gPrev lv i) with
    | false => rw [hq] at h; exact h.elim
    | true =>
      rw [hq] at h
      simp only [Bool.and_eq_true, Nat.blt_eq] at hq
      obtain ⟨k, hk⟩ := List.getElem?_of_mem ((gAs_mem ad lv 0 (i, Value.int x)).mpr ⟨i, .int x, gNth_at hx2, by simp [gv]⟩)
      exact lv_iinc hx hb hd hl hk (by rw [hv]) (by rw [← hlen]; exact hq.1) rfl (fun ls' hl' => h.1 rfl H locs ls' hP hS (by simpa using hlen) (gAs_set1 (v := .int (x + v)) hq.1 hq.2 hl'))
  next => exact h.elim
theorem gs_iadd (hd : decode cc pc = .ok (.iadd, 1)) : gSnd own cc nL scr pc (sBin (fun x y => x + y)) := by
  intro p l e R s m args below meth c cells slots Q ad dC dI tc A d E C hE σ lv st h H locs ls hP hS hlen hl
  obtain ⟨hx, hb, hml, hown, hts, hnw, hK, hA, hap, hro, hsc, hfr, hlo, hce, hsl⟩ := C
  simp only [sBin] at h
  split at h
  · exact lv_iadd hx hb hd (h.1 rfl H locs ls hP hS hlen hl)
  · exact h.elim
theorem gs_isub (hd : decode cc pc = .ok (.isub, 1)) : gSnd own cc nL scr pc (sBin (fun x y => x - y)) := by
  intro p l e R s m args below meth c cells slots Q ad dC dI tc A d E C hE σ lv st h H locs ls hP hS hlen hl
  obtain ⟨hx, hb, hml, hown, hts, hnw, hK, hA, hap, hro, hsc, hfr, hlo, hce, hsl⟩ := C
  simp only [sBin] at h
  split at h
  · exact lv_isub hx hb hd (h.1 rfl H locs ls hP hS hlen hl)
  · exact h.elim
theorem gs_imul (hd : decode cc pc = .ok (.imul, 1)) : gSnd own cc nL scr pc (sBin (fun x y => x * y)) := by
  intro p l e R s m args below meth c cells slots Q ad dC dI tc A d E C hE σ lv st h H locs ls hP hS hlen hl
  obtain ⟨hx, hb, hml, hown, hts, hnw, hK, hA, hap, hro, hsc, hfr, hlo, hce, hsl⟩ := C
  simp only [sBin] at h
  split at h
  · exact lv_imul hx hb hd (h.1 rfl H locs ls hP hS hlen hl)
  · exact h.elim
theorem gs_iand (hd : decode cc pc = .ok (.iand, 1)) : gSnd own cc nL scr pc (sBin (fun x y => x &&& y)) := by
  intro p l e R s m args below meth c cells slots Q ad dC dI tc A d E C hE σ lv st h H locs ls hP hS hlen hl
  obtain ⟨hx, hb, hml, hown, hts, hnw, hK, hA, hap, hro, hsc, hfr, hlo, hce, hsl⟩ := C
  simp only [sBin] at h
  split at h
  · exact lv_iand hx hb hd (h.1 rfl H locs ls hP hS hlen hl)
  · exact h.elim
theorem gs_ior (hd : decode cc pc = .ok (.ior, 1)) : gSnd own cc nL scr pc (sBin (fun x y => x ||| y)) := by
  intro p l e R s m args below meth c cells slots Q ad dC dI tc A d E C hE σ lv st h H locs ls hP hS hlen hl
  obtain ⟨hx, hb, hml, hown, hts, hnw, hK, hA, hap, hro, hsc, hfr, hlo, hce, hsl⟩ := C
  simp only [sBin] at h
  split at h
  · exact lv_ior hx hb hd (h.1 rfl H locs ls hP hS hlen hl)
  · exact h.elim
theorem gs_ixor (hd : decode cc pc = .ok (.ixor, 1)) : gSnd own cc nL scr pc (sBin (fun x y => x ^^^ y)) := by
  intro p l e R s m args below meth c cells slots Q ad dC dI tc A d E C hE σ lv st h H locs ls hP hS hlen hl
  obtain ⟨hx, hb, hml, hown, hts, hnw, hK, hA, hap, hro, hsc, hfr, hlo, hce, hsl⟩ := C
  simp only [sBin] at h
  split at h
  · exact lv_ixor hx hb hd (h.1 rfl H locs ls hP hS hlen hl)
  · exact h.elim
theorem gs_ishl (hd : decode cc pc = .ok (.ishl, 1)) : gSnd own cc nL scr pc (sBin (fun x y => x <<< (y &&& 31))) := by
  intro p l e R s m args below meth c cells slots Q ad dC dI tc A d E C hE σ lv st h H locs ls hP hS hlen hl
  obtain ⟨hx, hb, hml, hown, hts, hnw, hK, hA, hap, hro, hsc, hfr, hlo, hce, hsl⟩ := C
  simp only [sBin] at h
  split at h
  · exact lv_ishl hx hb hd (h.1 rfl H locs ls hP hS hlen hl)
  · exact h.elim
theorem gs_ishr (hd : decode cc pc = .ok (.ishr, 1)) : gSnd own cc nL scr pc (sBin (fun x y => x >>> (y &&& 31))) := by
  intro p l e R s m args below meth c cells slots Q ad dC dI tc A d E C hE σ lv st h H locs ls hP hS hlen hl
  obtain ⟨hx, hb, hml, hown, hts, hnw, hK, hA, hap, hro, hsc, hfr, hlo, hce, hsl⟩ := C
  simp only [sBin] at h
  split at h
  · exact lv_ishr hx hb hd (h.1 rfl H locs ls hP hS hlen hl)
  · exact h.elim
theorem gs_iushr (hd : decode cc pc = .ok (.iushr, 1)) : gSnd own cc nL scr pc (sBin (fun x y => (x.toUInt32 >>> (y.toUInt32 &&& Int32.toUInt32 31)).toInt32)) := by
  intro p l e R s m args below meth c cells slots Q ad dC dI tc A d E C hE σ lv st h H locs ls hP hS hlen hl
  obtain ⟨hx, hb, hml, hown, hts, hnw, hK, hA, hap, hro, hsc, hfr, hlo, hce, hsl⟩ := C
  simp only [sBin] at h
  split at h
  · exact lv_iushr hx hb hd rfl (h.1 rfl H locs ls hP hS hlen hl)
  · exact h.elim
theorem gs_ladd (hd : decode cc pc = .ok (.ladd, 1)) : gSnd own cc nL scr pc (sBinL (fun x y => x + y)) := by
  intro p l e R s m args below meth c cells slots Q ad dC dI tc A d E C hE σ lv st h H locs ls hP hS hlen hl
  obtain ⟨hx, hb, hml, hown, hts, hnw, hK, hA, hap, hro, hsc, hfr, hlo, hce, hsl⟩ := C
  simp only [sBinL] at h
  split at h
  · exact lv_ladd hx hb hd (h.1 rfl H locs ls hP hS hlen hl)
  · exact h.elim
theorem gs_lsub (hd : decode cc pc = .ok (.lsub, 1)) : gSnd own cc nL scr pc (sBinL (fun x y => x - y)) := by
  intro p l e R s m args below meth c cells slots Q ad dC dI tc A d E C hE σ lv st h H locs ls hP hS hlen hl
  obtain ⟨hx, hb, hml, hown, hts, hnw, hK, hA, hap, hro, hsc, hfr, hlo, hce, hsl⟩ := C
  simp only [sBinL] at h
  split at h
  · exact lv_lsub hx hb hd (h.1 rfl H locs ls hP hS hlen hl)
  · exact h.elim
theorem gs_lmul (hd : decode cc pc = .ok (.lmul, 1)) : gSnd own cc nL scr pc (sBinL (fun x y => x * y)) := by
  intro p l e R s m args below meth c cells slots Q ad dC dI tc A d E C hE σ lv st h H locs ls hP hS hlen hl
  obtain ⟨hx, hb, hml, hown, hts, hnw, hK, hA, hap, hro, hsc, hfr, hlo, hce, hsl⟩ := C
  simp only [sBinL] at h
  split at h
  · exact lv_lmul hx hb hd (h.1 rfl H locs ls hP hS hlen hl)
  · exact h.elim
theorem gs_land (hd : decode cc pc = .ok (.land, 1)) : gSnd own cc nL scr pc (sBinL (fun x y => x &&& y)) := by
  intro p l e R s m args below meth c cells slots Q ad dC dI tc A d E C hE σ lv st h H locs ls hP hS hlen hl
  obtain ⟨hx, hb, hml, hown, hts, hnw, hK, hA, hap, hro, hsc, hfr, hlo, hce, hsl⟩ := C
  simp only [sBinL] at h
  split at h
  · exact lv_land hx hb hd (h.1 rfl H locs ls hP hS hlen hl)
  · exact h.elim
theorem gs_lor (hd : decode cc pc = .ok (.lor, 1)) : gSnd own cc nL scr pc (sBinL (fun x y => x ||| y)) := by
  intro p l e R s m args below meth c cells slots Q ad dC dI tc A d E C hE σ lv st h H locs ls hP hS hlen hl
  obtain ⟨hx, hb, hml, hown, hts, hnw, hK, hA, hap, hro, hsc, hfr, hlo, hce, hsl⟩ := C
  simp only [sBinL] at h
  split at h
  · exact lv_lor hx hb hd (h.1 rfl H locs ls hP hS hlen hl)
  · exact h.elim
theorem gs_lshl (hd : decode cc pc = .ok (.lshl, 1)) : gSnd own cc nL scr pc (sShL (fun x y => x <<< (y.toInt64 &&& 63))) := by
  intro p l e R s m args below meth c cells slots Q ad dC dI tc A d E C hE σ lv st h H locs ls hP hS hlen hl
  obtain ⟨hx, hb, hml, hown, hts, hnw, hK, hA, hap, hro, hsc, hfr, hlo, hce, hsl⟩ := C
  simp only [sShL] at h
  split at h
  · exact lv_lshl hx hb hd rfl (h.1 rfl H locs ls hP hS hlen hl)
  · exact h.elim
theorem gs_lshr (hd : decode cc pc = .ok (.lshr, 1)) : gSnd own cc nL scr pc (sShL (fun x y => x >>> (y.toInt64 &&& 63))) := by
  intro p l e R s m args below meth c cells slots Q ad dC dI tc A d E C hE σ lv st h H locs ls hP hS hlen hl
  obtain ⟨hx, hb, hml, hown, hts, hnw, hK, hA, hap, hro, hsc, hfr, hlo, hce, hsl⟩ := C
  simp only [sShL] at h
  split at h
  · exact lv_lshr hx hb hd rfl (h.1 rfl H locs ls hP hS hlen hl)
  · exact h.elim
theorem gs_idiv (hd : decode cc pc = .ok (.idiv, 1)) : gSnd own cc nL scr pc (sDiv (fun x y => x / y)) := by
  intro p l e R s m args below meth c cells slots Q ad dC dI tc A d E C hE σ lv st h H locs ls hP hS hlen hl
  obtain ⟨hx, hb, hml, hown, hts, hnw, hK, hA, hap, hro, hsc, hfr, hlo, hce, hsl⟩ := C
  simp only [sDiv] at h
  split at h
  next y x r =>
    by_cases hz : y = 0
    · exact (h.2 (decide_eq_false (fun z => z hz))).elim
    · exact lv_idiv hx hb hd hz (h.1 (decide_eq_true hz) H locs ls hP hS hlen hl)
  next => exact h.elim
theorem gs_irem (hd : decode cc pc = .ok (.irem, 1)) : gSnd own cc nL scr pc (sDiv (fun x y => x - x / y * y)) := by
  intro p l e R s m args below meth c cells slots Q ad dC dI tc A d E C hE σ lv st h H locs ls hP hS hlen hl
  obtain ⟨hx, hb, hml, hown, hts, hnw, hK, hA, hap, hro, hsc, hfr, hlo, hce, hsl⟩ := C
  simp only [sDiv] at h
  split at h
  next y x r =>
    by_cases hz : y = 0
    · exact (h.2 (decide_eq_false (fun z => z hz))).elim
    · exact lv_irem hx hb hd hz (h.1 (decide_eq_true hz) H locs ls hP hS hlen hl)
  next => exact h.elim
theorem gs_ldiv (hd : decode cc pc = .ok (.ldiv, 1)) : gSnd own cc nL scr pc (sDivL (fun x y => x / y)) := by
  intro p l e R s m args below meth c cells slots Q ad dC dI tc A d E C hE σ lv st h H locs ls hP hS hlen hl
  obtain ⟨hx, hb, hml, hown, hts, hnw, hK, hA, hap, hro, hsc, hfr, hlo, hce, hsl⟩ := C
  simp only [sDivL] at h
  split at h
  next y x r =>
    by_cases hz : y = 0
    · exact (h.2 (decide_eq_false (fun z => z hz))).elim
    · exact lv_ldiv hx hb hd hz (h.1 (decide_eq_true hz) H locs ls hP hS hlen hl)
  next => exact h.elim
theorem gs_lrem (hd : decode cc pc = .ok (.lrem, 1)) : gSnd own cc nL scr pc (sDivL (fun x y => x - x / y * y)) := by
  intro p l e R s m args below meth c cells slots Q ad dC dI tc A d E C hE σ lv st h H locs ls hP hS hlen hl
  obtain ⟨hx, hb, hml, hown, hts, hnw, hK, hA, hap, hro, hsc, hfr, hlo, hce, hsl⟩ := C
  simp only [sDivL] at h
  split at h
  next y x r =>
    by_cases hz : y = 0
    · exact (h.2 (decide_eq_false (fun z => z hz))).elim
    · exact lv_lrem hx hb hd hz (h.1 (decide_eq_true hz) H locs ls hP hS hlen hl)
  next => exact h.elim
theorem gs_i2b (hd : decode cc pc = .ok (.i2b, 1)) : gSnd own cc nL scr pc (sUn (fun x => x.toInt8.toInt32)) := by
  intro p l e R s m args below meth c cells slots Q ad dC dI tc A d E C hE σ lv st h H locs ls hP hS hlen hl
  obtain ⟨hx, hb, hml, hown, hts, hnw, hK, hA, hap, hro, hsc, hfr, hlo, hce, hsl⟩ := C
  simp only [sUn] at h
  split at h
  · exact lv_i2b hx hb hd rfl (h.1 rfl H locs ls hP hS hlen hl)
  · exact h.elim
theorem gs_i2s (hd : decode cc pc = .ok (.i2s, 1)) : gSnd own cc nL scr pc (sUn (fun x => x.toInt16.toInt32)) := by
  intro p l e R s m args below meth c cells slots Q ad dC dI tc A d E C hE σ lv st h H locs ls hP hS hlen hl
  obtain ⟨hx, hb, hml, hown, hts, hnw, hK, hA, hap, hro, hsc, hfr, hlo, hce, hsl⟩ := C
  simp only [sUn] at h
  split at h
  · exact lv_i2s hx hb hd rfl (h.1 rfl H locs ls hP hS hlen hl)
  · exact h.elim
theorem gs_i2l (hd : decode cc pc = .ok (.i2l, 1)) : gSnd own cc nL scr pc (sI2L) := by
  intro p l e R s m args below meth c cells slots Q ad dC dI tc A d E C hE σ lv st h H locs ls hP hS hlen hl
  obtain ⟨hx, hb, hml, hown, hts, hnw, hK, hA, hap, hro, hsc, hfr, hlo, hce, hsl⟩ := C
  simp only [sI2L] at h
  split at h
  · exact lv_i2l hx hb hd rfl (h.1 rfl H locs ls hP hS hlen hl)
  · exact h.elim
theorem gs_lcmp (hd : decode cc pc = .ok (.lcmp, 1)) : gSnd own cc nL scr pc (sLcmp) := by
  intro p l e R s m args below meth c cells slots Q ad dC dI tc A d E C hE σ lv st h H locs ls hP hS hlen hl
  obtain ⟨hx, hb, hml, hown, hts, hnw, hK, hA, hap, hro, hsc, hfr, hlo, hce, hsl⟩ := C
  simp only [sLcmp] at h
  split at h
  · exact W.lcmp hx hb hd (h.1 rfl H locs ls hP hS hlen hl)
  · exact h.elim
theorem gs_dup (hd : decode cc pc = .ok (.dup, 1)) : gSnd own cc nL scr pc (sDup) := by
  intro p l e R s m args below meth c cells slots Q ad dC dI tc A d E C hE σ lv st h H locs ls hP hS hlen hl
  obtain ⟨hx, hb, hml, hown, hts, hnw, hK, hA, hap, hro, hsc, hfr, hlo, hce, hsl⟩ := C
  simp only [sDup] at h
  split at h
  next v r =>
    cases hq : Nat.beq v.category 1 with
    | false => rw [hq] at h; exact h.elim
    | true => rw [hq] at h; exact lv_dup hx hb hd (by rw [gv_cat]; exact Nat.eq_of_beq_eq_true hq) (h.1 rfl H locs ls hP hS hlen hl)
  next => exact h.elim
theorem gs_pop (hd : decode cc pc = .ok (.pop, 1)) : gSnd own cc nL scr pc (sPop) := by
  intro p l e R s m args below meth c cells slots Q ad dC dI tc A d E C hE σ lv st h H locs ls hP hS hlen hl
  obtain ⟨hx, hb, hml, hown, hts, hnw, hK, hA, hap, hro, hsc, hfr, hlo, hce, hsl⟩ := C
  simp only [sPop] at h
  split at h
  next v r =>
    cases hq : Nat.beq v.category 1 with
    | false => rw [hq] at h; exact h.elim
    | true => rw [hq] at h; exact lv_pop hx hb hd (by rw [gv_cat]; exact Nat.eq_of_beq_eq_true hq) (h.1 rfl H locs ls hP hS hlen hl)
  next => exact h.elim
theorem gs_dup2 (hd : decode cc pc = .ok (.dup2, 1)) : gSnd own cc nL scr pc (sDup2) := by
  intro p l e R s m args below meth c cells slots Q ad dC dI tc A d E C hE σ lv st h H locs ls hP hS hlen hl
  obtain ⟨hx, hb, hml, hown, hts, hnw, hK, hA, hap, hro, hsc, hfr, hlo, hce, hsl⟩ := C
  simp only [sDup2] at h
  split at h
  next v w r =>
    cases hq : (Nat.beq v.category 1 && Nat.beq w.category 1) with
    | false => rw [hq] at h; exact h.elim
    | true =>
      rw [hq] at h
      simp only [Bool.and_eq_true] at hq
      exact lv_dup2_11 hx hb hd (by rw [gv_cat]; exact Nat.eq_of_beq_eq_true hq.1) (by rw [gv_cat]; exact Nat.eq_of_beq_eq_true hq.2) (h.1 rfl H locs ls hP hS hlen hl)
  next => exact h.elim
theorem gs_if_eq {off : Int} {tgt : Nat} (hd : decode cc pc = .ok (.ifCond .eq off, 3)) (ht : (pc : Int) + off = (tgt : Int)) : gSnd own cc nL scr pc (sIf1 (fun x => decide (x = 0)) tgt) := by
  intro p l e R s m args below meth c cells slots Q ad dC dI tc A d E C hE σ lv st h H locs ls hP hS hlen hl
  obtain ⟨hx, hb, hml, hown, hts, hnw, hK, hA, hap, hro, hsc, hfr, hlo, hce, hsl⟩ := C
  simp only [sIf1] at h
  split at h
  · exact lv_if_eq hx hb hd ht (fun z => h.1 (decide_eq_true z) H locs ls hP hS hlen hl) (fun z => h.2 (decide_eq_false z) H locs ls hP hS hlen hl)
  · exact h.elim
theorem gs_icmp_eq {off : Int} {tgt : Nat} (hd : decode cc pc = .ok (.if_icmp .eq off, 3)) (ht : (pc : Int) + off = (tgt : Int)) : gSnd own cc nL scr pc (sIf2 (fun x y => decide (x = y)) tgt) := by
  intro p l e R s m args below meth c cells slots Q ad dC dI tc A d E C hE σ lv st h H locs ls hP hS hlen hl
  obtain ⟨hx, hb, hml, hown, hts, hnw, hK, hA, hap, hro, hsc, hfr, hlo, hce, hsl⟩ := C
  simp only [sIf2] at h
  split at h
  · exact lv_icmp_eq hx hb hd ht (fun z => h.1 (decide_eq_true z) H locs ls hP hS hlen hl) (fun z => h.2 (decide_eq_false z) H locs ls hP hS hlen hl)
  · exact h.elim
theorem gs_if_ne {off : Int} {tgt : Nat} (hd : decode cc pc = .ok (.ifCond .ne off, 3)) (ht : (pc : Int) + off = (tgt : Int)) : gSnd own cc nL scr pc (sIf1 (fun x => decide (¬ x = 0)) tgt) := by
  intro p l e R s m args below meth c cells slots Q ad dC dI tc A d E C hE σ lv st h H locs ls hP hS hlen hl
  obtain ⟨hx, hb, hml, hown, hts, hnw, hK, hA, hap, hro, hsc, hfr, hlo, hce, hsl⟩ := C
  simp only [sIf1] at h
  split at h
  · exact lv_if_ne hx hb hd ht (fun z => h.1 (decide_eq_true z) H locs ls hP hS hlen hl) (fun z => h.2 (decide_eq_false (fun w => w z)) H locs ls hP hS hlen hl)
  · exact h.elim
theorem gs_icmp_ne {off : Int} {tgt : Nat} (hd : decode cc pc = .ok (.if_icmp .ne off, 3)) (ht : (pc : Int) + off = (tgt : Int)) : gSnd own cc nL scr pc (sIf2 (fun x y => decide (¬ x = y)) tgt) := by
  intro p l e R s m args below meth c cells slots Q ad dC dI tc A d E C hE σ lv st h H locs ls hP hS hlen hl
  obtain ⟨hx, hb, hml, hown, hts, hnw, hK, hA, hap, hro, hsc, hfr, hlo, hce, hsl⟩ := C
  simp only [sIf2] at h
  split at h
  · exact lv_icmp_ne hx hb hd ht (fun z => h.1 (decide_eq_true z) H locs ls hP hS hlen hl) (fun z => h.2 (decide_eq_false (fun w => w z)) H locs ls hP hS hlen hl)
  · exact h.elim
theorem gs_if_lt {off : Int} {tgt : Nat} (hd : decode cc pc = .ok (.ifCond .lt off, 3)) (ht : (pc : Int) + off = (tgt : Int)) : gSnd own cc nL scr pc (sIf1 (fun x => decide (x < 0)) tgt) := by
  intro p l e R s m args below meth c cells slots Q ad dC dI tc A d E C hE σ lv st h H locs ls hP hS hlen hl
  obtain ⟨hx, hb, hml, hown, hts, hnw, hK, hA, hap, hro, hsc, hfr, hlo, hce, hsl⟩ := C
  simp only [sIf1] at h
  split at h
  · exact lv_if_lt hx hb hd ht (fun z => h.1 (decide_eq_true z) H locs ls hP hS hlen hl) (fun z => h.2 (decide_eq_false z) H locs ls hP hS hlen hl)
  · exact h.elim
theorem gs_icmp_lt {off : Int} {tgt : Nat} (hd : decode cc pc = .ok (.if_icmp .lt off, 3)) (ht : (pc : Int) + off = (tgt : Int)) : gSnd own cc nL scr pc (sIf2 (fun x y => decide (x < y)) tgt) := by
  intro p l e R s m args below meth c cells slots Q ad dC dI tc A d E C hE σ lv st h H locs ls hP hS hlen hl
  obtain ⟨hx, hb, hml, hown, hts, hnw, hK, hA, hap, hro, hsc, hfr, hlo, hce, hsl⟩ := C
  simp only [sIf2] at h
  split at h
  · exact lv_icmp_lt hx hb hd ht (fun z => h.1 (decide_eq_true z) H locs ls hP hS hlen hl) (fun z => h.2 (decide_eq_false z) H locs ls hP hS hlen hl)
  · exact h.elim
theorem gs_if_ge {off : Int} {tgt : Nat} (hd : decode cc pc = .ok (.ifCond .ge off, 3)) (ht : (pc : Int) + off = (tgt : Int)) : gSnd own cc nL scr pc (sIf1 (fun x => decide (0 ≤ x)) tgt) := by
  intro p l e R s m args below meth c cells slots Q ad dC dI tc A d E C hE σ lv st h H locs ls hP hS hlen hl
  obtain ⟨hx, hb, hml, hown, hts, hnw, hK, hA, hap, hro, hsc, hfr, hlo, hce, hsl⟩ := C
  simp only [sIf1] at h
  split at h
  · exact lv_if_ge hx hb hd ht (fun z => h.1 (decide_eq_true z) H locs ls hP hS hlen hl) (fun z => h.2 (decide_eq_false z) H locs ls hP hS hlen hl)
  · exact h.elim
theorem gs_icmp_ge {off : Int} {tgt : Nat} (hd : decode cc pc = .ok (.if_icmp .ge off, 3)) (ht : (pc : Int) + off = (tgt : Int)) : gSnd own cc nL scr pc (sIf2 (fun x y => decide (y ≤ x)) tgt) := by
  intro p l e R s m args below meth c cells slots Q ad dC dI tc A d E C hE σ lv st h H locs ls hP hS hlen hl
  obtain ⟨hx, hb, hml, hown, hts, hnw, hK, hA, hap, hro, hsc, hfr, hlo, hce, hsl⟩ := C
  simp only [sIf2] at h
  split at h
  · exact lv_icmp_ge hx hb hd ht (fun z => h.1 (decide_eq_true z) H locs ls hP hS hlen hl) (fun z => h.2 (decide_eq_false z) H locs ls hP hS hlen hl)
  · exact h.elim
theorem gs_if_gt {off : Int} {tgt : Nat} (hd : decode cc pc = .ok (.ifCond .gt off, 3)) (ht : (pc : Int) + off = (tgt : Int)) : gSnd own cc nL scr pc (sIf1 (fun x => decide (0 < x)) tgt) := by
  intro p l e R s m args below meth c cells slots Q ad dC dI tc A d E C hE σ lv st h H locs ls hP hS hlen hl
  obtain ⟨hx, hb, hml, hown, hts, hnw, hK, hA, hap, hro, hsc, hfr, hlo, hce, hsl⟩ := C
  simp only [sIf1] at h
  split at h
  · exact lv_if_gt hx hb hd ht (fun z => h.1 (decide_eq_true z) H locs ls hP hS hlen hl) (fun z => h.2 (decide_eq_false z) H locs ls hP hS hlen hl)
  · exact h.elim
theorem gs_icmp_gt {off : Int} {tgt : Nat} (hd : decode cc pc = .ok (.if_icmp .gt off, 3)) (ht : (pc : Int) + off = (tgt : Int)) : gSnd own cc nL scr pc (sIf2 (fun x y => decide (y < x)) tgt) := by
  intro p l e R s m args below meth c cells slots Q ad dC dI tc A d E C hE σ lv st h H locs ls hP hS hlen hl
  obtain ⟨hx, hb, hml, hown, hts, hnw, hK, hA, hap, hro, hsc, hfr, hlo, hce, hsl⟩ := C
  simp only [sIf2] at h
  split at h
  · exact lv_icmp_gt hx hb hd ht (fun z => h.1 (decide_eq_true z) H locs ls hP hS hlen hl) (fun z => h.2 (decide_eq_false z) H locs ls hP hS hlen hl)
  · exact h.elim
theorem gs_if_le {off : Int} {tgt : Nat} (hd : decode cc pc = .ok (.ifCond .le off, 3)) (ht : (pc : Int) + off = (tgt : Int)) : gSnd own cc nL scr pc (sIf1 (fun x => decide (x ≤ 0)) tgt) := by
  intro p l e R s m args below meth c cells slots Q ad dC dI tc A d E C hE σ lv st h H locs ls hP hS hlen hl
  obtain ⟨hx, hb, hml, hown, hts, hnw, hK, hA, hap, hro, hsc, hfr, hlo, hce, hsl⟩ := C
  simp only [sIf1] at h
  split at h
  · exact lv_if_le hx hb hd ht (fun z => h.1 (decide_eq_true z) H locs ls hP hS hlen hl) (fun z => h.2 (decide_eq_false z) H locs ls hP hS hlen hl)
  · exact h.elim
theorem gs_icmp_le {off : Int} {tgt : Nat} (hd : decode cc pc = .ok (.if_icmp .le off, 3)) (ht : (pc : Int) + off = (tgt : Int)) : gSnd own cc nL scr pc (sIf2 (fun x y => decide (x ≤ y)) tgt) := by
  intro p l e R s m args below meth c cells slots Q ad dC dI tc A d E C hE σ lv st h H locs ls hP hS hlen hl
  obtain ⟨hx, hb, hml, hown, hts, hnw, hK, hA, hap, hro, hsc, hfr, hlo, hce, hsl⟩ := C
  simp only [sIf2] at h
  split at h
  · exact lv_icmp_le hx hb hd ht (fun z => h.1 (decide_eq_true z) H locs ls hP hS hlen hl) (fun z => h.2 (decide_eq_false z) H locs ls hP hS hlen hl)
  · exact h.elim
theorem gs_goto {off : Int} {tgt : Nat} (hd : decode cc pc = .ok (.goto off, 3)) (ht : (pc : Int) + off = (tgt : Int)) : gSnd own cc nL scr pc (sGoto tgt) := by
  intro p l e R s m args below meth c cells slots Q ad dC dI tc A d E C hE σ lv st h H locs ls hP hS hlen hl
  obtain ⟨hx, hb, hml, hown, hts, hnw, hK, hA, hap, hro, hsc, hfr, hlo, hce, hsl⟩ := C
  exact lv_goto hx hb hd ht (h.1 rfl H locs ls hP hS hlen hl)
theorem gs_table {dflt lo hi : Int} {offs : Array Int} {len : Nat} {ts : List Nat} {dt : Nat} (hd : decode cc pc = .ok (.tableswitch dflt lo hi offs, len)) (h0 : (pc : Int) + dflt = (dt : Int)) (h1 : hi - lo + 1 = (ts.length : Int)) (h2 : offs.toList.map (fun o => (pc : Int) + o) = ts.map (fun t : Nat => (t : Int))) : gSnd own cc nL scr pc (sSw lo ts dt) := by
  intro p l e R s m args below meth c cells slots Q ad dC dI tc A d E C hE σ lv st h H locs ls hP hS hlen hl
  obtain ⟨hx, hb, hml, hown, hts, hnw, hK, hA, hap, hro, hsc, hfr, hlo, hce, hsl⟩ := C
  simp only [sSw] at h
  split at h
  next x r =>
    have hk := h.1 rfl H locs ls hP hS hlen hl
    unfold gTgt at hk
    by_cases hlo' : x.toInt < lo
    · exact lv_tableOut hx hb hd (Or.inl hlo') h0 (by simpa [hlo'] using hk)
    · by_cases hhi : hi < x.toInt
      · have e : gAt ts (x.toInt - lo).toNat = none := by
          rw [gAt_eq]
          exact List.getElem?_eq_none (by omega)
        exact lv_tableOut hx hb hd (Or.inr hhi) h0 (by simpa [hlo', e] using hk)
      · have hlt : (x.toInt - lo).toNat < ts.length := by omega
        have hlo2 : (x.toInt - lo).toNat < offs.toList.length := by
          have := congrArg List.length h2
          simp only [List.length_map] at this
          omega
        have e : gAt ts (x.toInt - lo).toNat = some ts[(x.toInt - lo).toNat] := by
          rw [gAt_eq]
          exact List.getElem?_eq_getElem hlt
        have e2 : (offs.toList.map (fun o => (pc : Int) + o))[(x.toInt - lo).toNat]? = (ts.map (fun t : Nat => (t : Int)))[(x.toInt - lo).toNat]? := by rw [h2]
        rw [List.getElem?_map, List.getElem?_map, List.getElem?_eq_getElem hlo2, List.getElem?_eq_getElem hlt] at e2
        refine lv_tableIn hx hb hd hlo' hhi (off := offs.toList[(x.toInt - lo).toNat]) (by rw [← Array.getElem?_toList]; exact List.getElem?_eq_getElem hlo2) (Option.some.inj e2) (by simpa [hlo', e] using hk)
  next => exact h.elim
theorem gs_vret (hd : decode cc pc = .ok (.return_, 1)) : gSnd own cc nL scr pc (sRetV) := by
  intro p l e R s m args below meth c cells slots Q ad dC dI tc A d E C hE σ lv st h H locs ls hP hS hlen hl
  obtain ⟨hx, hb, hml, hown, hts, hnw, hK, hA, hap, hro, hsc, hfr, hlo, hce, hsl⟩ := C
  simp only [sRetV] at h
  split at h
  · exact h pc H locs ls hP hS hd
  · exact h.elim
theorem gs_iret (hd : decode cc pc = .ok (.ireturn, 1)) : gSnd own cc nL scr pc (sRetI) := by
  intro p l e R s m args below meth c cells slots Q ad dC dI tc A d E C hE σ lv st h H locs ls hP hS hlen hl
  obtain ⟨hx, hb, hml, hown, hts, hnw, hK, hA, hap, hro, hsc, hfr, hlo, hce, hsl⟩ := C
  simp only [sRetI] at h
  split at h
  · exact h pc H locs ls hP hS hd
  · exact h.elim
theorem gs_lret (hd : decode cc pc = .ok (.lreturn, 1)) : gSnd own cc nL scr pc (sRetL) := by
  intro p l e R s m args below meth c cells slots Q ad dC dI tc A d E C hE σ lv st h H locs ls hP hS hlen hl
  obtain ⟨hx, hb, hml, hown, hts, hnw, hK, hA, hap, hro, hsc, hfr, hlo, hce, hsl⟩ := C
  simp only [sRetL] at h
  split at h
  · exact h pc H locs ls hP hS hd
  · exact h.elim
theorem gs_aret (hd : decode cc pc = .ok (.areturn, 1)) : gSnd own cc nL scr pc (sRetA) := by
  intro p l e R s m args below meth c cells slots Q ad dC dI tc A d E C hE σ lv st h H locs ls hP hS hlen hl
  obtain ⟨hx, hb, hml, hown, hts, hnw, hK, hA, hap, hro, hsc, hfr, hlo, hce, hsl⟩ := C
  simp only [sRetA] at h
  split at h
  · exact h pc H locs ls hP hS hd
  · exact h.elim
end GSOUND
end
section
theorem gShape_obj {ad : Nat → Nat} {tc : Nat → ClassId} {σ : gS} {q ci : Nat} {ks : List (Option Nat)} (h : gShape q = some (.inl (ci, ks))) : (gWs ad tc σ)[q]? = some (ad q, .inr (ci, gFs ad (σ q) 0 ks)) := by
  rw [gWs_at (gShape_lt h), gCell, h]
theorem gShape_arr {ad : Nat → Nat} {tc : Nat → ClassId} {σ : gS} {q t n : Nat} (h : gShape q = some (.inr (.inl (t, n)))) : (gWs ad tc σ)[q]? = some (ad q, .inl (tc t, n, .inl (σ q))) := by
  rw [gWs_at (gShape_lt h), gCell, h]
theorem gShape_refs {ad : Nat → Nat} {tc : Nat → ClassId} {σ : gS} {q t n : Nat} {f : Nat → Option Nat} (h : gShape q = some (.inr (.inr (t, n, f)))) : (gWs ad tc σ)[q]? = some (ad q, .inl (tc t, n, .inr (.inr (.inr (.inr (fun j => (f j).map ad)))))) := by
  rw [gWs_at (gShape_lt h), gCell, h]
theorem gUp_ne {σ : gS} {q k : Nat} {v : Int32} {i : Nat} (h : i ≠ q) : gUp σ q k v i = σ i := by
  simp [gUp, h]
theorem gUp_eq {σ : gS} {q k : Nat} {v : Int32} : gUp σ q k v q = upd (σ q) k v := by
  simp [gUp]
theorem gUpA_ne {σ : gS} {q : Nat} {f : Nat → Int32} {i : Nat} (h : i ≠ q) : gUpA σ q f i = σ i := by
  simp [gUpA, h]
theorem gUpA_eq {σ : gS} {q : Nat} {f : Nat → Int32} : gUpA σ q f q = f := by
  simp [gUpA]
theorem gWs_put {ad : Nat → Nat} {tc : Nat → ClassId} {σ : gS} {q ci k : Nat} {ks : List (Option Nat)} {v : Int32} (h : gShape q = some (.inl (ci, ks))) (hk : ks[k]? = some none) : (gWs ad tc σ).set q (ad q, .inr (ci, (gFs ad (σ q) 0 ks).set k (.int v))) = gWs ad tc (gUp σ q k v) := by
  refine gWs_set (gShape_lt h) ?_ (fun i hi => gUp_ne hi)
  rw [gCell, h]
  show Sum.inr (ci, gFs ad (gUp σ q k v q) 0 ks) = _
  rw [gUp_eq, gFs_set ad (σ q) v ks 0 k hk, Nat.zero_add]
theorem gWs_ast {ad : Nat → Nat} {tc : Nat → ClassId} {σ : gS} {q t n : Nat} {f : Nat → Int32} (h : gShape q = some (.inr (.inl (t, n)))) : (gWs ad tc σ).set q (ad q, .inl (tc t, n, .inl f)) = gWs ad tc (gUpA σ q f) := by
  refine gWs_set (gShape_lt h) ?_ (fun i hi => gUpA_ne hi)
  rw [gCell, h]
  show Sum.inl (tc t, n, Sum.inl (gUpA σ q f q)) = _
  rw [gUpA_eq]
theorem gUp_A (σ : gS) (q k : Nat) (v : Int32) : gUp σ q k v = gUpA σ q (upd (σ q) k v) := rfl
theorem gPD_I : parseFieldDescriptor "I" = some .int := by decide +kernel
theorem gPD_Z : parseFieldDescriptor "Z" = some .boolean := by decide +kernel
section GHEAP
variable {own : String} {cc : ByteArray} {nL : Nat} {scr : Option (Nat × (Nat → Int32))} {pc : Nat}
theorem gs_get {ci k idx N : Nat} {Cn nm ds : String} {T : u_T} (hd : decode cc pc = .ok (.getfield idx, 3)) (hc : vwCl[ci]? = some (Cn, T, N)) (hk : k < N) (hin : ∀ w ∈ u_ws Cn T N, w ∈ gW) (hT : T k = (Cn, nm, ds, (T k).2.2.2)) (hl : Cond.fieldLink own idx Cn nm ds ∈ gW) : gSnd own cc nL scr pc (sGet ci k) := by
  intro p l e R s m args below meth c cells slots Q ad dC dI tc A d E C hE σ lv st h H locs ls hP hS hlen hlv
  obtain ⟨hx, hb, hml, hown, hts, hnw, hK, hA, hap, hro, hsc, hfr, hlo, hce, hsl⟩ := C
  have h1 : (T k).1 = Cn := by rw [hT]
  have h2 : (T k).2.1 = nm := by rw [hT]
  have h3 : (T k).2.2.1 = ds := by rw [hT]
  have hlk : (Cond.fieldLink own idx Cn (T k).2.1 (T k).2.2.1).before args s = true := by rw [h2, h3]; exact hts _ hl
  have hsm : ∀ x, s.fieldFound? (T k).1 (T k).2.1 (T k).2.2.1 = some x → s.fieldFound? Cn (T k).2.1 (T k).2.2.1 = some x := fun x hx => by rw [h1] at hx; exact hx
  simp only [sGet] at h
  split at h
  next q r =>
    split at h
    next cj ks hs =>
      cases hq : Nat.beq ci cj with
      | false => rw [hq] at h; exact h.elim
      | true =>
        rw [hq] at h
        have hcc := Nat.eq_of_beq_eq_true hq
        subst hcc
        have he : (gWs ad tc σ)[q]? = some (ad q, .inr (ci, gFs ad (σ q) 0 ks)) := gShape_obj hs
        simp only [cond_true] at h
        split at h
        next t ht => exact va_get hx hb hts hin hown hK hP q he hc k hk hlk hsm (gFs_ref ad (σ q) ks 0 k t (by rw [← gAt_eq]; exact ht)) hd (h.1 rfl H locs ls hP hS hlen hlv)
        next ht => exact va_get hx hb hts hin hown hK hP q he hc k hk hlk hsm (by have := gFs_int ad (σ q) ks 0 k (by rw [← gAt_eq]; exact ht); rwa [Nat.zero_add] at this) hd (h.1 rfl H locs ls hP hS hlen hlv)
        next => exact h.elim
    next => exact h.elim
  next => exact h.elim
theorem gs_getN {ci k idx N : Nat} {Cn nm ds host : String} {T : u_T} (hd : decode cc pc = .ok (.getfield idx, 3)) (hc : vwCl[ci]? = some (Cn, T, N)) (hk : k < N) (hin : ∀ w ∈ u_ws Cn T N, w ∈ gW) (hT : T k = (Cn, nm, ds, (T k).2.2.2)) (hl : Cond.fieldLinkNest own idx Cn nm ds host ∈ gNest) : gSnd own cc nL scr pc (sGet ci k) := by
  intro p l e R s m args below meth c cells slots Q ad dC dI tc A d E C hE σ lv st h H locs ls hP hS hlen hlv
  obtain ⟨hx, hb, hml, hown, hts, hnw, hK, hA, hap, hro, hsc, hfr, hlo, hce, hsl⟩ := C
  have h1 : (T k).1 = Cn := by rw [hT]
  have h2 : (T k).2.1 = nm := by rw [hT]
  have h3 : (T k).2.2.1 = ds := by rw [hT]
  have hlk : (Cond.fieldLinkNest own idx Cn (T k).2.1 (T k).2.2.1 host).before args s = true := by rw [h2, h3]; exact gNest_use (hnw _ hl) rfl
  have hsm : ∀ x, s.fieldFound? (T k).1 (T k).2.1 (T k).2.2.1 = some x → s.fieldFound? Cn (T k).2.1 (T k).2.2.1 = some x := fun x hx => by rw [h1] at hx; exact hx
  simp only [sGet] at h
  split at h
  next q r =>
    split at h
    next cj ks hs =>
      cases hq : Nat.beq ci cj with
      | false => rw [hq] at h; exact h.elim
      | true =>
        rw [hq] at h
        have hcc := Nat.eq_of_beq_eq_true hq
        subst hcc
        have he : (gWs ad tc σ)[q]? = some (ad q, .inr (ci, gFs ad (σ q) 0 ks)) := gShape_obj hs
        simp only [cond_true] at h
        split at h
        next t ht => exact va_getN hx hb hts hin hown hK hP q he hc k hk hlk hsm (gFs_ref ad (σ q) ks 0 k t (by rw [← gAt_eq]; exact ht)) hd (h.1 rfl H locs ls hP hS hlen hlv)
        next ht => exact va_getN hx hb hts hin hown hK hP q he hc k hk hlk hsm (by have := gFs_int ad (σ q) ks 0 k (by rw [← gAt_eq]; exact ht); rwa [Nat.zero_add] at this) hd (h.1 rfl H locs ls hP hS hlen hlv)
        next => exact h.elim
    next => exact h.elim
  next => exact h.elim
theorem gs_put {ci k idx N : Nat} {Cn nm : String} {T : u_T} {ty0 : Nat → FieldType} (hd : decode cc pc = .ok (.putfield idx, 3)) (hc : vwCl[ci]? = some (Cn, T, N)) (hk : k < N) (hin : ∀ w ∈ u_ws Cn T N, w ∈ gW) (hty : ∀ k, k < N → parseFieldDescriptor (T k).2.2.1 = some (ty0 k)) (hnm : ∀ a, a < N → ∀ b, b < N → a ≠ b → (T a).2.1 ≠ (T b).2.1) (hT : T k = (Cn, nm, "I", false)) (hl : Cond.fieldLink own idx Cn nm "I" ∈ gW) : gSnd own cc nL scr pc (sPut ci k) := by
  intro p l e R s m args below meth c cells slots Q ad dC dI tc A d E C hE σ lv st h H locs ls hP hS hlen hlv
  obtain ⟨hx, hb, hml, hown, hts, hnw, hK, hA, hap, hro, hsc, hfr, hlo, hce, hsl⟩ := C
  have hlk : (Cond.fieldLink own idx Cn (T k).2.1 (T k).2.2.1).before args s = true := by rw [hT]; exact hts _ hl
  have hsm : ∀ x, s.fieldFound? (T k).1 (T k).2.1 (T k).2.2.1 = some x → s.fieldFound? Cn (T k).2.1 (T k).2.2.1 = some x := fun x hx => by rw [hT] at hx ⊢; exact hx
  simp only [sPut] at h
  split at h
  next v q r =>
    split at h
    next cj ks hs =>
      cases hq : Nat.beq ci cj with
      | false => rw [hq] at h; exact h.elim
      | true =>
        rw [hq] at h
        have hcc := Nat.eq_of_beq_eq_true hq
        subst hcc
        have he : (gWs ad tc σ)[q]? = some (ad q, .inr (ci, gFs ad (σ q) 0 ks)) := gShape_obj hs
        simp only [cond_true] at h
        split at h
        next ht =>
          rw [gAt_eq] at ht
          refine va_put (ty := .int) (v := .int v) hx hb hts hin ty0 hty hnm hown hK hP (hap.D tc σ) hS q he hc k hk hlk hsm (by rw [hT]) (by rw [hT]; exact gPD_I) rfl rfl (by rw [gFs_len]; exact (List.getElem?_eq_some_iff.mp ht).1) hd (fun H1 locs1 hP1 _ hS1 => ?_)
          rw [gWs_put hs ht] at hP1
          exact h.1 rfl H1 locs1 ls hP1 hS1 hlen hlv
        next => exact h.elim
    next => exact h.elim
  next => exact h.elim
theorem gs_putN {ci k idx N : Nat} {Cn nm host : String} {T : u_T} {ty0 : Nat → FieldType} (hd : decode cc pc = .ok (.putfield idx, 3)) (hc : vwCl[ci]? = some (Cn, T, N)) (hk : k < N) (hin : ∀ w ∈ u_ws Cn T N, w ∈ gW) (hty : ∀ k, k < N → parseFieldDescriptor (T k).2.2.1 = some (ty0 k)) (hnm : ∀ a, a < N → ∀ b, b < N → a ≠ b → (T a).2.1 ≠ (T b).2.1) (hT : T k = (Cn, nm, "I", false)) (hl : Cond.fieldLinkNest own idx Cn nm "I" host ∈ gNest) : gSnd own cc nL scr pc (sPut ci k) := by
  intro p l e R s m args below meth c cells slots Q ad dC dI tc A d E C hE σ lv st h H locs ls hP hS hlen hlv
  obtain ⟨hx, hb, hml, hown, hts, hnw, hK, hA, hap, hro, hsc, hfr, hlo, hce, hsl⟩ := C
  have hlk : (Cond.fieldLinkNest own idx Cn (T k).2.1 (T k).2.2.1 host).before args s = true := by rw [hT]; exact gNest_use (hnw _ hl) rfl
  have hsm : ∀ x, s.fieldFound? (T k).1 (T k).2.1 (T k).2.2.1 = some x → s.fieldFound? Cn (T k).2.1 (T k).2.2.1 = some x := fun x hx => by rw [hT] at hx ⊢; exact hx
  simp only [sPut] at h
  split at h
  next v q r =>
    split at h
    next cj ks hs =>
      cases hq : Nat.beq ci cj with
      | false => rw [hq] at h; exact h.elim
      | true =>
        rw [hq] at h
        have hcc := Nat.eq_of_beq_eq_true hq
        subst hcc
        have he : (gWs ad tc σ)[q]? = some (ad q, .inr (ci, gFs ad (σ q) 0 ks)) := gShape_obj hs
        simp only [cond_true] at h
        split at h
        next ht =>
          rw [gAt_eq] at ht
          refine va_putN (ty := .int) (v := .int v) hx hb hts hin ty0 hty hnm hown hK hP (hap.D tc σ) hS q he hc k hk hlk hsm (by rw [hT]) (by rw [hT]; exact gPD_I) rfl rfl (by rw [gFs_len]; exact (List.getElem?_eq_some_iff.mp ht).1) hd (fun H1 locs1 hP1 _ hS1 => ?_)
          rw [gWs_put hs ht] at hP1
          exact h.1 rfl H1 locs1 ls hP1 hS1 hlen hlv
        next => exact h.elim
    next => exact h.elim
  next => exact h.elim
theorem gs_putZ {ci k idx N : Nat} {Cn nm : String} {T : u_T} {ty0 : Nat → FieldType} (hd : decode cc pc = .ok (.putfield idx, 3)) (hc : vwCl[ci]? = some (Cn, T, N)) (hk : k < N) (hin : ∀ w ∈ u_ws Cn T N, w ∈ gW) (hty : ∀ k, k < N → parseFieldDescriptor (T k).2.2.1 = some (ty0 k)) (hnm : ∀ a, a < N → ∀ b, b < N → a ≠ b → (T a).2.1 ≠ (T b).2.1) (hT : T k = (Cn, nm, "Z", false)) (hl : Cond.fieldLink own idx Cn nm "Z" ∈ gW) : gSnd own cc nL scr pc (sPutZ ci k) := by
  intro p l e R s m args below meth c cells slots Q ad dC dI tc A d E C hE σ lv st h H locs ls hP hS hlen hlv
  obtain ⟨hx, hb, hml, hown, hts, hnw, hK, hA, hap, hro, hsc, hfr, hlo, hce, hsl⟩ := C
  have hlk : (Cond.fieldLink own idx Cn (T k).2.1 (T k).2.2.1).before args s = true := by rw [hT]; exact hts _ hl
  have hsm : ∀ x, s.fieldFound? (T k).1 (T k).2.1 (T k).2.2.1 = some x → s.fieldFound? Cn (T k).2.1 (T k).2.2.1 = some x := fun x hx => by rw [hT] at hx ⊢; exact hx
  simp only [sPutZ] at h
  split at h
  next v q r =>
    split at h
    next cj ks hs =>
      cases hq : Nat.beq ci cj with
      | false => rw [hq] at h; exact h.elim
      | true =>
        rw [hq] at h
        have hcc := Nat.eq_of_beq_eq_true hq
        subst hcc
        have he : (gWs ad tc σ)[q]? = some (ad q, .inr (ci, gFs ad (σ q) 0 ks)) := gShape_obj hs
        simp only [cond_true] at h
        split at h
        next ht =>
          rw [gAt_eq] at ht
          cases hz : (decide (v = 0) || decide (v = 1)) with
          | false => rw [hz] at h; exact (h.2 rfl).elim
          | true =>
            rw [hz] at h
            have hv : v = 0 ∨ v = 1 := by simpa using hz
            refine va_put (ty := .boolean) (v := .int v) hx hb hts hin ty0 hty hnm hown hK hP (hap.D tc σ) hS q he hc k hk hlk hsm (by rw [hT]) (by rw [hT]; exact gPD_Z) (by rcases hv with rfl | rfl <;> rfl) (by rcases hv with rfl | rfl <;> rfl) (by rw [gFs_len]; exact (List.getElem?_eq_some_iff.mp ht).1) hd (fun H1 locs1 hP1 _ hS1 => ?_)
            rw [gWs_put hs ht] at hP1
            exact h.1 rfl H1 locs1 ls hP1 hS1 hlen hlv
        next => exact h.elim
    next => exact h.elim
  next => exact h.elim
theorem gs_ro {j n idx : Nat} {nm : String} {xs : List Int32} (hd : decode cc pc = .ok (.getstatic idx, 3)) (hj : gAt gRoL j = some (n, nm, xs)) (hl : Cond.fieldLink own idx "GorseGold" nm "[I" ∈ gW) : gSnd own cc nL scr pc (sRo (1000 + j)) := by
  intro p l e R s m args below meth c cells slots Q ad dC dI tc A d E C hE σ lv st h H locs ls hP hS hlen hlv
  obtain ⟨hx, hb, hml, hown, hts, hnw, hK, hA, hap, hro, hsc, hfr, hlo, hce, hsl⟩ := C
  obtain ⟨-, -, -, hZ⟩ := hro j n nm xs hj
  exact va_gets hx hb hZ hS hown (hts _ hl) (fun _ h => h) hd (h.1 rfl H locs ls hP hS hlen hlv)
theorem gs_roN {j n idx : Nat} {nm host : String} {xs : List Int32} (hd : decode cc pc = .ok (.getstatic idx, 3)) (hj : gAt gRoL j = some (n, nm, xs)) (hl : Cond.fieldLinkNest own idx "GorseGold" nm "[I" host ∈ gNest) : gSnd own cc nL scr pc (sRo (1000 + j)) := by
  intro p l e R s m args below meth c cells slots Q ad dC dI tc A d E C hE σ lv st h H locs ls hP hS hlen hlv
  obtain ⟨hx, hb, hml, hown, hts, hnw, hK, hA, hap, hro, hsc, hfr, hlo, hce, hsl⟩ := C
  obtain ⟨-, -, -, hZ⟩ := hro j n nm xs hj
  exact va_getsN hx hb hZ hS hown (gNest_use (hnw _ hl) rfl) (fun _ h => h) hd (h.1 rfl H locs ls hP hS hlen hlv)
theorem gRo_at {q n : Nat} {nm : String} {xs : List Int32} (h : gRo q = some (n, nm, xs)) : ∃ j, q = 1000 + j ∧ gAt gRoL j = some (n, nm, xs) := by
  unfold gRo at h
  cases hq : Nat.ble 1000 q with
  | false => rw [hq] at h; cases h
  | true =>
    rw [hq] at h
    simp only [cond_true] at h
    exact ⟨q - 1000, (Nat.add_sub_cancel' (Nat.le_of_ble_eq_true hq)).symm, h⟩
theorem gs_iaload (hd : decode cc pc = .ok (.iaload, 1)) : gSnd own cc nL scr pc sIald := by
  intro p l e R s m args below meth c cells slots Q ad dC dI tc A d E C hE σ lv st h H locs ls hP hS hlen hlv
  obtain ⟨hx, hb, hml, hown, hts, hnw, hK, hA, hap, hro, hsc, hfr, hlo, hce, hsl⟩ := C
  simp only [sIald] at h
  split at h
  next i q r =>
    split at h
    next n hs =>
      cases hi : gIn i n with
      | false => rw [hi] at h; exact (h.2 rfl).elim
      | true => rw [hi] at h; exact va_iald hx hb hK hP q 0 (gShape_arr hs) rfl (gIn_in hi) hd (h.1 rfl H locs ls hP hS hlen hlv)
    next hs =>
      split at h
      next n nm xs hr =>
        cases hi : gIn i n with
        | false => rw [hi] at h; exact (h.2 rfl).elim
        | true =>
          rw [hi] at h
          obtain ⟨j, rfl, hj⟩ := gRo_at hr
          obtain ⟨hX, hbl, hbA, -⟩ := hro j n nm xs hj
          exact va_sld hx hb hX hbl hbA hS (gIn_in hi) hd (h.1 rfl H locs ls hP hS hlen hlv)
      next => exact h.elim
    next => exact h.elim
  next => exact h.elim
theorem gs_zaload (hd : decode cc pc = .ok (.baload, 1)) : gSnd own cc nL scr pc sZald := by
  intro p l e R s m args below meth c cells slots Q ad dC dI tc A d E C hE σ lv st h H locs ls hP hS hlen hlv
  obtain ⟨hx, hb, hml, hown, hts, hnw, hK, hA, hap, hro, hsc, hfr, hlo, hce, hsl⟩ := C
  simp only [sZald] at h
  split at h
  next i q r =>
    split at h
    next n hs =>
      cases hi : gIn i n with
      | false => rw [hi] at h; exact (h.2 rfl).elim
      | true => rw [hi] at h; exact va_zald hx hb hK hP q 1 (gShape_arr hs) rfl (gIn_in hi) hd (h.1 rfl H locs ls hP hS hlen hlv)
    next => exact h.elim
  next => exact h.elim
/-- an array of references is the courses' or the sheets' -/
theorem gShape_rt {q t n : Nat} {f : Nat → Option Nat} (h : gShape q = some (.inr (.inr (t, n, f)))) : t = 2 ∨ t = 3 := by
  have key : ∀ x ∈ gShapes, (match x with | .inr (.inr (t, _, _)) => t = 2 ∨ t = 3 | _ => True) := by
    simp [gShapes, gCourse, gSheet, gInts]
  rw [gShape, gAt_eq] at h
  exact key _ (List.mem_of_getElem? h)
theorem gs_aaload (hd : decode cc pc = .ok (.aaload, 1)) : gSnd own cc nL scr pc sAald := by
  intro p l e R s m args below meth c cells slots Q ad dC dI tc A d E C hE σ lv st h H locs ls hP hS hlen hlv
  obtain ⟨hx, hb, hml, hown, hts, hnw, hK, hA, hap, hro, hsc, hfr, hlo, hce, hsl⟩ := C
  simp only [sAald] at h
  split at h
  next i q r =>
    split at h
    next t n f hs =>
      split at h
      next t2 hf =>
        cases hi : gIn i n with
        | false => rw [hi] at h; exact (h.2 rfl).elim
        | true =>
          rw [hi] at h
          have hk := h.1 rfl H locs ls hP hS hlen hlv
          have e : va_rf ((fun j => (f j).map ad) i.toNatClampNeg) = .ref (ad t2) := by
            show va_rf ((f i.toNatClampNeg).map ad) = _
            rw [hf]; rfl
          rcases gShape_rt hs with rfl | rfl
          · exact va_aldq hx hb hK hP q 2 (gShape_refs hs) rfl (gIn_in hi) hd (by rw [e]; exact hk)
          · exact va_aldq hx hb hK hP q 3 (gShape_refs hs) rfl (gIn_in hi) hd (by rw [e]; exact hk)
      next => exact h.elim
    next => exact h.elim
  next => exact h.elim
theorem gs_iastore (hd : decode cc pc = .ok (.iastore, 1)) : gSnd own cc nL scr pc sIast := by
  intro p l e R s m args below meth c cells slots Q ad dC dI tc A d E C hE σ lv st h H locs ls hP hS hlen hlv
  obtain ⟨hx, hb, hml, hown, hts, hnw, hK, hA, hap, hro, hsc, hfr, hlo, hce, hsl⟩ := C
  simp only [sIast] at h
  split at h
  next x i q r =>
    split at h
    next n hs =>
      cases hi : gIn i n with
      | false => rw [hi] at h; exact (h.2 rfl).elim
      | true =>
        rw [hi] at h
        refine va_iast hx hb hK hP (hap.D tc σ) hS q 0 (gShape_arr hs) rfl (gIn_in hi) hd (fun H1 locs1 hP1 _ hS1 => ?_)
        rw [gWs_ast hs] at hP1
        exact h.1 rfl H1 locs1 ls hP1 hS1 hlen hlv
    next => exact h.elim
  next => exact h.elim
theorem gs_zastore (hd : decode cc pc = .ok (.bastore, 1)) : gSnd own cc nL scr pc sZast := by
  intro p l e R s m args below meth c cells slots Q ad dC dI tc A d E C hE σ lv st h H locs ls hP hS hlen hlv
  obtain ⟨hx, hb, hml, hown, hts, hnw, hK, hA, hap, hro, hsc, hfr, hlo, hce, hsl⟩ := C
  simp only [sZast] at h
  split at h
  next x i q r =>
    split at h
    next n hs =>
      cases hi : (gIn i n && (decide (x = 0) || decide (x = 1))) with
      | false => rw [hi] at h; exact (h.2 rfl).elim
      | true =>
        rw [hi] at h
        simp only [Bool.and_eq_true, Bool.or_eq_true, decide_eq_true_eq] at hi
        refine va_zast hx hb hK hP (hap.D tc σ) hS q 1 (gShape_arr hs) rfl (gIn_in hi.1) hd (fun H1 locs1 hP1 _ hS1 => ?_)
        have e : vp_nar .boolean x = x := by rcases hi.2 with rfl | rfl <;> rfl
        rw [gWs_ast hs, e] at hP1
        exact h.1 rfl H1 locs1 ls hP1 hS1 hlen hlv
    next => exact h.elim
  next => exact h.elim
theorem gShape_at {q t n : Nat} (h : gShape q = some (.inr (.inl (t, n)))) : t = 0 ∨ t = 1 := by
  have key : ∀ x ∈ gShapes, (match x with | .inr (.inl (t, _)) => t = 0 ∨ t = 1 | _ => True) := by
    simp [gShapes, gCourse, gSheet, gInts]
  rw [gShape, gAt_eq] at h
  exact key _ (List.mem_of_getElem? h)
theorem gs_alen (hd : decode cc pc = .ok (.arraylength, 1)) : gSnd own cc nL scr pc sAlen := by
  intro p l e R s m args below meth c cells slots Q ad dC dI tc A d E C hE σ lv st h H locs ls hP hS hlen hlv
  obtain ⟨hx, hb, hml, hown, hts, hnw, hK, hA, hap, hro, hsc, hfr, hlo, hce, hsl⟩ := C
  simp only [sAlen] at h
  split at h
  next q r =>
    split at h
    next t n hs =>
      rcases gShape_at hs with rfl | rfl
      · exact va_alen hx hb hK hP q 0 (gShape_arr hs) (ty := .int) rfl rfl hd (h.1 rfl H locs ls hP hS hlen hlv)
      · exact va_alen hx hb hK hP q 1 (gShape_arr hs) (ty := .boolean) rfl rfl hd (h.1 rfl H locs ls hP hS hlen hlv)
    next hs =>
      split at h
      next n nm xs hr =>
        obtain ⟨j, rfl, hj⟩ := gRo_at hr
        obtain ⟨hX, hbl, hbA, -⟩ := hro j n nm xs hj
        exact va_slen hx hb hX hbl hbA hS hd (h.1 rfl H locs ls hP hS hlen hlv)
      next => exact h.elim
    next => exact h.elim
  next => exact h.elim
theorem gs_scrLd {L : Nat} {xs : Nat → Int32} (hs : scr = some (L, xs)) (hd : decode cc pc = .ok (.iaload, 1)) : gSnd own cc nL scr pc (sScrLd L xs) := by
  intro p l e R s m args below meth c cells slots Q ad dC dI tc A d E C hE σ lv st h H locs ls hP hS hlen hlv
  obtain ⟨hx, hb, hml, hown, hts, hnw, hK, hA, hap, hro, hsc, hfr, hlo, hce, hsl⟩ := C
  subst hs
  simp only [sScrLd] at h
  split at h
  next i q r =>
    cases hq : Nat.beq q 1007 with
    | false => rw [hq] at h; exact h.elim
    | true =>
      rw [hq] at h
      have hqq := Nat.eq_of_beq_eq_true hq
      subst hqq
      obtain ⟨hX, hbl, hbA⟩ := hsc
      cases hi : gIn i L with
      | false => rw [hi] at h; exact (h.2 rfl).elim
      | true => rw [hi] at h; exact va_sld hx hb hX hbl hbA hS (gIn_in hi) hd (h.1 rfl H locs ls hP hS hlen hlv)
  next => exact h.elim
theorem gs_scrLen {L : Nat} {xs : Nat → Int32} (hs : scr = some (L, xs)) (hd : decode cc pc = .ok (.arraylength, 1)) : gSnd own cc nL scr pc (sScrLen L) := by
  intro p l e R s m args below meth c cells slots Q ad dC dI tc A d E C hE σ lv st h H locs ls hP hS hlen hlv
  obtain ⟨hx, hb, hml, hown, hts, hnw, hK, hA, hap, hro, hsc, hfr, hlo, hce, hsl⟩ := C
  subst hs
  simp only [sScrLen] at h
  split at h
  next q r =>
    cases hq : Nat.beq q 1007 with
    | false => rw [hq] at h; exact h.elim
    | true =>
      rw [hq] at h
      have hqq := Nat.eq_of_beq_eq_true hq
      subst hqq
      obtain ⟨hX, hbl, hbA⟩ := hsc
      exact va_slen hx hb hX hbl hbA hS hd (h.1 rfl H locs ls hP hS hlen hlv)
  next => exact h.elim
theorem gCats_gv (ad : Nat → Nat) (l : List Value) : ((l.map (gv ad)).map fun v => v.category).sum = gCats l := by
  rw [gCats_eq, List.map_map]
  congr 1
  apply List.map_congr_left
  intro v _
  exact gv_cat ad v
theorem gs_copy {idx : Nat} (hd : decode cc pc = .ok (.invokestatic idx, 3)) (hl : Cond.methodLink own idx arraycopyName ∈ gW) (hn : Cond.native arraycopyName ∈ gW) (hst : Cond.static arraycopyName ∈ gW) (hi : Cond.initialized "java/lang/System" ∈ gW) : gSnd own cc nL scr pc sCopy := by
  intro p l e R s m args below meth c cells slots Q ad dC dI tc A d E C hE σ lv st h H locs ls hP hS hlen hlv
  obtain ⟨hx, hb, hml, hown, hts, hnw, hK, hA, hap, hro, hsc, hfr, hlo, hce, hsl⟩ := C
  simp only [sCopy] at h
  split at h
  next n dp b sp a r =>
    split at h
    next n0 n1 hs1 hs2 =>
      cases hq : Nat.ble (gCats r) 8 with
      | false => rw [hq] at h; exact h.elim
      | true =>
        rw [hq] at h
        simp only [cond_true] at h
        cases hi2 : (!decide (sp < 0) && !decide (dp < 0) && !decide (n < 0) && decide (sp.toNatClampNeg + n.toNatClampNeg ≤ n0) && decide (dp.toNatClampNeg + n.toNatClampNeg ≤ n1)) with
        | false => rw [hi2] at h; exact (h.2 rfl).elim
        | true =>
          rw [hi2] at h
          simp only [Bool.and_eq_true, Bool.not_eq_true', decide_eq_false_iff_not, decide_eq_true_eq] at hi2
          obtain ⟨⟨⟨⟨h1, h2⟩, h3⟩, h4⟩, h5⟩ := hi2
          have hg := Nat.le_of_ble_eq_true hq
          refine va_copyi hx hb (by rw [hml]; exact hlv.1.symm) hown (hts _ hl) (hts _ hn) (hts _ hst) (hts _ hi) hK hP (hap.D tc σ) hS a b 0 0 (ty := .int) (gShape_arr hs1) (gShape_arr hs2) rfl rfl rfl h1 h2 h3 h4 h5 (fun _ _ => rfl) (by omega) ?_ hd (fun H1 locs1 hP1 _ hS1 => ?_)
          · rw [gCats_gv]
            have : nativeFrameWords "java/lang/System" "arraycopy" 5 ≤ 21 := by decide +kernel
            omega
          · rw [gWs_ast hs2] at hP1
            exact h.1 rfl H1 locs1 ls hP1 hS1 hlen hlv
    next => exact h.elim
  next => exact h.elim
theorem gs_mmax {idx : Nat} (hd : decode cc pc = .ok (.invokestatic idx, 3)) (hl : Cond.methodLink own idx Lib.Math.max.name ∈ gW) (hst : Cond.static Lib.Math.max.name ∈ gW) (hi : Cond.initialized "java/lang/Math" ∈ gW) (hcd : Cond.code Lib.Math.max.name Lib.Math.max.code 2 (some .int) ∈ gW) : gSnd own cc nL scr pc (sMM (fun x y => if x < y then y else x)) := by
  intro p l e R s m args below meth c cells slots Q ad dC dI tc A d E C hE σ lv st h H locs ls hP hS hlen hlv
  obtain ⟨hx, hb, hml, hown, hts, hnw, hK, hA, hap, hro, hsc, hfr, hlo, hce, hsl⟩ := C
  simp only [sMM] at h
  split at h
  next y x r =>
    cases hq : Nat.ble (gCats r) 8 with
    | false => rw [hq] at h; exact h.elim
    | true =>
      rw [hq] at h
      have hg := Nat.le_of_ble_eq_true hq
      exact va_mmax hx hb (by rw [hml]; exact hlv.1.symm) hown (hts _ hl) (hts _ hst) (hts _ hi) (hts _ hcd) (by omega) (by rw [gCats_gv]; omega) hce hsl hd (h.1 rfl H locs ls hP hS hlen hlv)
  next => exact h.elim
theorem gs_mmin {idx : Nat} (hd : decode cc pc = .ok (.invokestatic idx, 3)) (hl : Cond.methodLink own idx Lib.Math.min.name ∈ gW) (hst : Cond.static Lib.Math.min.name ∈ gW) (hi : Cond.initialized "java/lang/Math" ∈ gW) (hcd : Cond.code Lib.Math.min.name Lib.Math.min.code 2 (some .int) ∈ gW) : gSnd own cc nL scr pc (sMM (fun x y => if y < x then y else x)) := by
  intro p l e R s m args below meth c cells slots Q ad dC dI tc A d E C hE σ lv st h H locs ls hP hS hlen hlv
  obtain ⟨hx, hb, hml, hown, hts, hnw, hK, hA, hap, hro, hsc, hfr, hlo, hce, hsl⟩ := C
  simp only [sMM] at h
  split at h
  next y x r =>
    cases hq : Nat.ble (gCats r) 8 with
    | false => rw [hq] at h; exact h.elim
    | true =>
      rw [hq] at h
      have hg := Nat.le_of_ble_eq_true hq
      exact va_mmin hx hb (by rw [hml]; exact hlv.1.symm) hown (hts _ hl) (hts _ hst) (hts _ hi) (hts _ hcd) (by omega) (by rw [gCats_gv]; omega) hce hsl hd (h.1 rfl H locs ls hP hS hlen hlv)
  next => exact h.elim
end GHEAP
end
section
theorem gNext_mono {WP WP' : gS → gF → Prop} {E : gE} {F F' : Option Value → gS → Prop} {σ : gS} {r : Option gRes} (h1 : ∀ σ f, WP σ f → WP' σ f) (h2 : ∀ v σ, F v σ → F' v σ) (h : gNext WP E F σ r) : gNext WP' E F' σ r := by
  match r, h with
  | none, h => exact h.elim
  | some (.inl (b, s1, none)), h => exact ⟨fun z => h1 _ _ (h.1 z), h.2⟩
  | some (.inl (b, s1, some s2)), h => exact ⟨fun z => h1 _ _ (h.1 z), fun z => h1 _ _ (h.2 z)⟩
  | some (.inr (.inl (mid, as, f))), h =>
    obtain ⟨v, σ', he, hw⟩ := h
    exact ⟨v, σ', he, h1 _ _ hw⟩
  | some (.inr (.inr v)), h => exact h2 _ _ h
theorem gRoH.next {ad : Nat → Nat} {A A1 : Nat → Prop} {s U : State} {H : Heap} {locs : List Loc} (h : gRoH ad A s s.heap) (hS : va_S A s.heap H locs) (hA1 : ∀ q, A1 q → A q) (hU : U.heap = H) (hW : s.vm.Alike U.vm) : gRoH ad A1 U U.heap := by
  intro j n nm xs hj
  obtain ⟨h1, h2, h3, h4⟩ := h j n nm xs hj
  subst hU
  exact ⟨(h1.kept (hS.2.1 _ h2 h3)).moved hW, Nat.lt_of_lt_of_le h2 hS.1, fun z => h3 (hA1 _ z), ((h4.kept hS.2.1).narrow hA1).moved hW⟩
theorem gRoH.same {ad : Nat → Nat} {A : Nat → Prop} {s U : State} {H : Heap} (h : gRoH ad A s H) (hW : s.vm.Alike U.vm) : gRoH ad A U H := by
  intro j n nm xs hj
  obtain ⟨h1, h2, h3, h4⟩ := h j n nm xs hj
  exact ⟨h1.moved hW, h2, h3, h4.moved hW⟩
theorem gPc.blind {ad : Nat → Nat} {dC : Nat → ClassId} {dI : Nat → Nat → Nat} {tc : Nat → ClassId} {σ : gS} {sz : Nat} {as : List Value} : FrameBlind (gPc ad dC dI tc σ sz as) := by
  intro a U g mk q
  obtain ⟨q0, q1, qP, qK, qD, qR, qN⟩ := q
  exact ⟨q0, q1, qP, va_K.moved (u := U) (U := U.calling g mk a) (Vm.Alike.refl U.vm) qK, qD, gRoH.same (s := U) (U := U.calling g mk a) qR (Vm.Alike.refl U.vm), gNest_same (s := U) (U := U.calling g mk a) rfl qN⟩
theorem gW_wsapp {pre : List Cond} {c : Cond} (h1 : ∀ w ∈ pre, w ∈ gW) (hc : c ∈ gW) : GoodIn gW (pre ++ (c :: gW)) := by
  intro w hw
  have : w ∈ gW := by
    rcases List.mem_append.mp hw with h | h
    · exact h1 w h
    · rcases List.mem_cons.mp h with h | h
      · rw [h]; exact hc
      · exact h
  exact gW_good w this
theorem gW_wscode {c : Cond} (hc : c ∈ gW) : GoodIn gW (c :: gW) := gW_wsapp (pre := []) (by simp) hc
section GCALL
variable {p : Program} {l : Launch} {e : Env} {R : Room} {s : State} {m : MethodId} {args : Array Value} {below : List Frame} {meth : Method} {c : Code} {cells slots : Nat} {Q : State → Prop} {H : Heap} {locs : List Loc} {ad : Nat → Nat} {dC : Nat → ClassId} {dI : Nat → Nat → Nat} {tc : Nat → ClassId} {A : Nat → Prop}
theorem g_after {A1 free : Nat → Prop} {pc : Nat} {ls : Array Slot} {st0 rest : List Value} {a : Array Value} {σ' : gS} {v : Option Value} (hr : va_Run p l e R s m args below meth c H locs cells slots 0 0 (F0 m pc ls st0) rest (gQc ad dC dI tc σ' A1 v a) free) (hS : va_S A s.heap H locs) (hA : ∀ q, A1 q → A q) (hf : ∀ q, free q → A q)
    (kk : ∀ (H1 : Heap) (locs1 : List Loc), va_P (dC, dI) vwCl (gWs ad tc σ') H1 → va_S A s.heap H1 locs1 → W p l e R s m args below meth c H1 locs1 cells slots Q (F0 m (pc + 3) ls ((v.map (gv ad)).toList ++ rest))) : W p l e R s m args below meth c H locs cells slots Q (F0 m pc ls st0) := by
  intro T hT X
  obtain ⟨v', st₀, t, T', L, h0, X', hL, e1, e2, ⟨hv, hp, hz, hk⟩, st⟩ := hr T hT X
  cases hv
  rw [h0] at hz hk
  obtain ⟨t2, a1, b1⟩ := kk T'.heap (locs ++ L) (by rw [e1]; exact hp)
    ⟨Nat.le_trans hS.1 (by rw [e1]; exact hz), fun q h1 h2 => by rw [e1, hk q (Nat.lt_of_lt_of_le h1 hS.1) (fun z => h2 (hA q z))]; exact hS.2.1 q h1 h2, fun q hq => by
      rcases List.mem_append.mp hq with h | h
      · exact hS.2.2 q h
      · exact hf _ (hL q h)⟩ T' rfl X'
  exact ⟨t2, st t2 a1, b1⟩
theorem g_pre {σ : gS} {as : List Value} (hP : va_P (dC, dI) vwCl (gWs ad tc σ) H) (hS : va_S A s.heap H locs) (hK : va_K (dC, dI) vwCl (gTys tc) s) (hap : gApart ad A) (hro : gRoH ad A s s.heap) (hnw : ∀ w ∈ gNest, va_Nw w s) (hA1 : ∀ q, va_A (gWs ad tc σ) H.size q → A q) : ∀ U : State, U.heap = H → s.WarmedH U.vm → gPc ad dC dI tc σ H.size as (as.map (gv ad)).toArray U :=
  fun U hU hW => ⟨rfl, by rw [hU], by rw [hU]; exact hP, va_K.moved hW.alike hK, (hap.D tc σ).weaken (fun _ _ _ _ => trivial), gRoH.next hro hS hA1 hU hW.alike, gNest_warm hW hnw⟩
theorem g_A1 {σ : gS} (hS : va_S A s.heap H locs) (hap : gApart ad A) (hA : ∀ q, s.heap.size ≤ q → A q) : ∀ q, va_A (gWs ad tc σ) H.size q → A q := by
  intro q hq
  rcases gWs_A.mp hq with ⟨i, h1, h2⟩ | h
  · rw [h2]; exact hap.2 i h1
  · exact hA q (Nat.le_trans hS.1 h)
end GCALL
theorem g_stack (ad : Nat → Nat) (st : List Value) (n : Nat) : st.map (gv ad) = (((st.take n).reverse).map (gv ad)).reverse ++ (st.drop n).map (gv ad) := by
  rw [← List.map_reverse, List.reverse_reverse, ← List.map_append, List.take_append_drop]
theorem g_toList (ad : Nat → Nat) (v : Option Value) (r : List Value) : (v.map (gv ad)).toList ++ r.map (gv ad) = (v.toList ++ r).map (gv ad) := by
  cases v <;> simp
section GCALLS
variable {own : String} {cc : ByteArray} {nL : Nat} {scr : Option (Nat × (Nat → Int32))} {pc : Nat}
theorem gs_callS {mid n idx ml : Nat} {y : MethodName} {cb : ByteArray} {rt : Option FieldType} (hd : decode cc pc = .ok (.invokestatic idx, 3)) (hm : gM mid = (y, cb, ml, rt)) (hl : Cond.methodLink own idx y ∈ gW) (hcd : Cond.code y cb ml rt ∈ gW) (hst : Cond.static y ∈ gW) (hin : Cond.initialized y.cls ∈ gW)
    (hp : y.cls ≠ "java/lang/invoke/MethodHandle" ∧ y.cls ≠ "java/lang/invoke/VarHandle" ∧ (parseMethodDescriptor y.desc).map (fun d => d.parameters.length) = some n) (hmx : ml ≤ 21) : gSnd own cc nL scr pc (sCallS mid n) := by
  intro p l e R s m args below meth c cells slots Q ad dC dI tc A d E C hE σ lv st h H locs ls hP hS hlen hlv
  obtain ⟨hx, hb, hml, hown, hts, hnw, hK, hA, hap, hro, hsc, hfr, hlo, hce, hsl⟩ := C
  simp only [sCallS] at h
  cases hq : (Nat.ble n st.length && Nat.ble (gCats (st.drop n)) 8) with
  | false => rw [hq] at h; exact h.elim
  | true =>
    rw [hq] at h
    simp only [Bool.and_eq_true] at hq
    obtain ⟨v, σ', he, hw⟩ := h
    have hn := Nat.le_of_ble_eq_true hq.1
    have hg := Nat.le_of_ble_eq_true hq.2
    have hM := hE mid _ σ v σ' he ad dC dI tc H.size
    rw [hm] at hM
    have hA1 := g_A1 (tc := tc) (σ := σ) hS hap hA
    refine g_after (va_runS (As := ((st.take n).reverse).map (gv ad)) (rest := (st.drop n).map (gv ad)) ⟨hx, hb, hml, hown, hts⟩ hM (va_cwS n hts (gW_wsapp (pre := [.methodLink own idx y, .static y, .initialized y.cls]) ?_ hcd) rfl rfl rfl hp ⟨hfr, ?_⟩) ⟨gPc.blind, g_pre hP hS hK hap hro hnw hA1⟩ rfl ?_ hlv.1 (g_stack ad st n) (lv_room ?_) hd ⟨by omega, by omega⟩) hS hA1 hA1 (fun H1 locs1 hP1 hS1 => ?_)
    · intro w hw
      simp only [List.mem_cons, List.not_mem_nil, or_false] at hw
      rcases hw with rfl | rfl | rfl
      · exact hl
      · exact hst
      · exact hin
    · show 8 + (ml + 11) + 40 * d ≤ R.locals
      omega
    · simp; omega
    · rw [gCats_gv]; exact hg
    · rw [g_toList]
      exact hw H1 locs1 ls hP1 hS1 hlen hlv
theorem gs_callSN {mid n idx ml : Nat} {y : MethodName} {cb : ByteArray} {rt : Option FieldType} {host : String} (hd : decode cc pc = .ok (.invokestatic idx, 3)) (hm : gM mid = (y, cb, ml, rt)) (hl : Cond.methodLinkNest own idx y host ∈ gNest) (hcd : Cond.code y cb ml rt ∈ gW) (hst : Cond.static y ∈ gW) (hin : Cond.initialized y.cls ∈ gW)
    (hp : y.cls ≠ "java/lang/invoke/MethodHandle" ∧ y.cls ≠ "java/lang/invoke/VarHandle" ∧ (parseMethodDescriptor y.desc).map (fun d => d.parameters.length) = some n) (hmx : ml ≤ 21) : gSnd own cc nL scr pc (sCallS mid n) := by
  intro p l e R s m args below meth c cells slots Q ad dC dI tc A d E C hE σ lv st h H locs ls hP hS hlen hlv
  obtain ⟨hx, hb, hml, hown, hts, hnw, hK, hA, hap, hro, hsc, hfr, hlo, hce, hsl⟩ := C
  simp only [sCallS] at h
  cases hq : (Nat.ble n st.length && Nat.ble (gCats (st.drop n)) 8) with
  | false => rw [hq] at h; exact h.elim
  | true =>
    rw [hq] at h
    simp only [Bool.and_eq_true] at hq
    obtain ⟨v, σ', he, hw⟩ := h
    have hn := Nat.le_of_ble_eq_true hq.1
    have hg := Nat.le_of_ble_eq_true hq.2
    have hM := hE mid _ σ v σ' he ad dC dI tc H.size
    rw [hm] at hM
    have hA1 := g_A1 (tc := tc) (σ := σ) hS hap hA
    refine g_after (va_runSN (As := ((st.take n).reverse).map (gv ad)) (rest := (st.drop n).map (gv ad)) ⟨hx, hb, hml, hown, hts⟩ hM ⟨va_cnB n hts (gW_wscode hcd) rfl rfl rfl (hnw _ hl) (hts _ hin) hp ⟨hfr, ?_⟩, hts _ hst, trivial⟩ ⟨gPc.blind, g_pre hP hS hK hap hro hnw hA1⟩ rfl ?_ hlv.1 (g_stack ad st n) (lv_room ?_) hd ⟨by omega, by omega⟩) hS hA1 hA1 (fun H1 locs1 hP1 hS1 => ?_)
    · show 8 + (ml + 11) + 40 * d ≤ R.locals
      omega
    · simp; omega
    · rw [gCats_gv]; exact hg
    · rw [g_toList]
      exact hw H1 locs1 ls hP1 hS1 hlen hlv
theorem gs_callV {mid ci n idx ml N : Nat} {y : MethodName} {cb : ByteArray} {rt : Option FieldType} {T : u_T} (hd : decode cc pc = .ok (.invokevirtual idx, 3)) (hm : gM mid = (y, cb, ml, rt)) (hc : vwCl[ci]? = some (y.cls, T, N)) (hl : Cond.methodLink own idx y ∈ gW) (hcd : Cond.code y cb ml rt ∈ gW) (hst : Cond.instanceMethod y ∈ gW) (hse : Cond.selects y.cls y y ∈ gW) (hin : Cond.initialized y.cls ∈ gW)
    (hp : y.cls ≠ "java/lang/invoke/MethodHandle" ∧ y.cls ≠ "java/lang/invoke/VarHandle" ∧ (parseMethodDescriptor y.desc).map (fun d => d.parameters.length) = some n) (hmx : ml ≤ 21) : gSnd own cc nL scr pc (sCallV mid ci n) := by
  intro p l e R s m args below meth c cells slots Q ad dC dI tc A d E C hE σ lv st h H locs ls hP hS hlen hlv
  obtain ⟨hx, hb, hml, hown, hts, hnw, hK, hA, hap, hro, hsc, hfr, hlo, hce, hsl⟩ := C
  simp only [sCallV] at h
  split at h
  next v0 r hdr =>
    cases hq : (gIsO ci v0 && Nat.ble n st.length && Nat.ble (gCats r) 8) with
    | false => rw [hq] at h; exact h.elim
    | true =>
      rw [hq] at h
      simp only [Bool.and_eq_true] at hq
      obtain ⟨v, σ', he, hw⟩ := h
      obtain ⟨⟨ho, hn0⟩, hg0⟩ := hq
      have hn := Nat.le_of_ble_eq_true hn0
      have hg := Nat.le_of_ble_eq_true hg0
      have hM := hE mid _ σ v σ' he ad dC dI tc H.size
      rw [hm] at hM
      have hA1 := g_A1 (tc := tc) (σ := σ) hS hap hA
      unfold gIsO at ho
      split at ho
      next q =>
        split at ho
        next cj ks hs =>
          have hcc := Nat.eq_of_beq_eq_true ho
          subst hcc
          refine g_after (va_runV (C := y.cls) (b := ad q) (As := ((st.take n).reverse).map (gv ad)) (rest := r.map (gv ad)) ⟨hx, hb, hml, hown, hts⟩ hM (cwV n hts (gW_wsapp (pre := [.methodLink own idx y, .instanceMethod y, .selects y.cls y y, .initialized y.cls]) ?_ hcd) rfl rfl rfl ⟨rfl, hp⟩ ⟨hfr, ?_⟩) ⟨gPc.blind, va_recv hK hP hc (gShape_obj hs), g_pre (as := .ref q :: (st.take n).reverse) hP hS hK hap hro hnw hA1⟩ rfl ?_ hlv.1 ?_ (lv_room ?_) hd ⟨by omega, by omega⟩) hS hA1 hA1 (fun H1 locs1 hP1 hS1 => ?_)
          · intro w hw
            simp only [List.mem_cons, List.not_mem_nil, or_false] at hw
            rcases hw with rfl | rfl | rfl | rfl
            · exact hl
            · exact hst
            · exact hse
            · exact hin
          · show 8 + (ml + 11) + 40 * d ≤ R.locals
            omega
          · simp; omega
          · show st.map (gv ad) = _
            rw [g_stack ad st n, hdr]; rfl
          · rw [gCats_gv]; exact hg
          · rw [g_toList]
            exact hw H1 locs1 ls hP1 hS1 hlen hlv
        next => cases ho
      next => cases ho
  next => exact h.elim
end GCALLS
-- a run of the pure machine is one of the machine
section GRUN
variable {p : Program} {l : Launch} {e : Env} {R : Room} {s : State} {m : MethodId} {args : Array Value} {below : List Frame} {meth : Method} {c : Code} {cells slots : Nat} {Q : State → Prop} {ad : Nat → Nat} {dC : Nat → ClassId} {dI : Nat → Nat → Nat} {tc : Nat → ClassId} {A : Nat → Prop} {own : String} {cc : ByteArray} {nL d : Nat} {scr : Option (Nat × (Nat → Int32))} {E : gE} {P : gProg} {Fin : Option Value → gS → Prop}
theorem gRun_sound (C : gCtx own cc nL scr p R s m args c cells slots ad dC dI tc A d) (hE : gCallOK l d E) (hP : ∀ pc sem, gFind P pc = some sem → gSnd own cc nL scr pc sem) (hF : ∀ v τ, Fin v τ → gFin cc p l e R s m args below meth c cells slots Q ad dC dI tc A v τ) : ∀ (n : Nat) (σ : gS) (f : gF), gRn P E Fin n σ f → gWP p l e R s m args below meth c cells slots Q ad dC dI tc A nL σ f := by
  intro n
  induction n with
  | zero => intro σ f h; exact h.elim
  | succ n ih =>
    intro σ f h
    obtain ⟨pc, lv, st⟩ := f
    rcases h with ⟨lv', h1, h2⟩ | h
    · have hw := ih _ _ h2
      intro H locs ls hP1 hS hlen hlv
      obtain ⟨hl1, hl2⟩ := gLe_at h1
      refine hw H locs ls hP1 hS (hl1.trans hlen) ⟨hlv.1, hlv.2.1, fun q hq => hlv.2.2 q ?_⟩
      obtain ⟨j, v, a1, a2⟩ := (gAs_mem ad lv' 0 q).mp hq
      exact (gAs_mem ad lv 0 q).mpr ⟨j, v, hl2 j v a1, a2⟩
    · simp only [gStep] at h
      split at h
      next sem hs => exact hP pc sem hs p l e R s m args below meth c cells slots Q ad dC dI tc A d E C hE σ lv st (gNext_mono ih hF h)
      next => exact h.elim
end GRUN
def gRetOk : Option FieldType → Option Value → Prop
  | none, none => True
  | some .int, some (.int _) => True
  | some .boolean, some (.int x) => x = 0 ∨ x = 1
  | some .long, some (.long _) => True
  | some (.object _), some (.ref _) => True
  | _, _ => False
def gEnt : List Value → gL
  | [] => []
  | v :: l => if v.category = 2 then some v :: none :: gEnt l else some v :: gEnt l
def gEntry (nL : Nat) (as : List Value) : gL := gEnt as ++ List.replicate (nL - (gEnt as).length) none
theorem gEnt_len (ad : Nat → Nat) : ∀ as : List Value, (lg_sl (as.map (gv ad))).length = (gEnt as).length
  | [] => rfl
  | v :: l => by
    have ih := gEnt_len ad l
    simp only [lg_sl] at ih
    simp only [List.map_cons, lg_sl, List.flatMap_cons, List.length_append, gv_cat, gEnt, ih]
    split <;> simp <;> omega
theorem gAs_none (ad : Nat → Nat) (n : Nat) : ∀ k : Nat, gAs ad k (List.replicate n none) = [] := by
  induction n with
  | zero => intro k; rfl
  | succ n ih => intro k; exact ih (k + 1)
theorem gAs_ent (ad : Nat → Nat) (n : Nat) : ∀ (as : List Value) (k : Nat), gAs ad k (gEnt as ++ List.replicate n none) = lv_args k (as.map (gv ad))
  | [], k => gAs_none ad n k
  | v :: l, k => by
    simp only [gEnt, List.map_cons, lv_args, gv_cat]
    split
    next => simp only [List.cons_append, gAs]; rw [gAs_ent ad n l (k + 2)]
    next => simp only [List.cons_append, gAs]; rw [gAs_ent ad n l (k + 1)]
/-- a call of method mid, at most d deep -/
def gEV (PT : Nat → gProg) : Nat → gE
  | 0 => fun _ _ _ _ _ => False
  | d + 1 => fun mid as σ v σ' => mid < gMs.length ∧ gRetOk (gM mid).2.2.2 v ∧ (gEnt as).length ≤ (gM mid).2.2.1 ∧ gR (PT mid) (gEV PT d) (fun w τ => w = v ∧ τ = σ') σ (0, gEntry (gM mid).2.2.1 as, [])
def gProgOK (PT : Nat → gProg) : Prop := ∀ mid, mid < gMs.length → ∀ pc sem, gFind (PT mid) pc = some sem → gSnd (gM mid).1.cls (gM mid).2.1 (gM mid).2.2.1 none pc sem
theorem gPlain : ∀ x ∈ gMs, plainName x.1.cls = true := by decide +kernel
theorem gPlain_at {mid : Nat} (h : mid < gMs.length) : plainName (gM mid).1.cls = true := by
  apply gPlain
  unfold gM
  rw [gAt_eq, List.getElem?_eq_getElem h]
  exact List.getElem_mem h
theorem gEV_sound {PT : Nat → gProg} (hPT : gProgOK PT) (l : Launch) : ∀ d, gCallOK l d (gEV PT d)
  | 0 => fun _ _ _ _ _ h => h.elim
  | d + 1 => by
    have hE := gEV_sound hPT l d
    intro mid as σ v σ' h ad dC dI tc sz
    obtain ⟨hmid, hrt, hen, n, hrun⟩ := h
    have hpl := gPlain_at hmid
    have hprog := hPT mid hmid
    revert hrt hen hrun hpl hprog
    obtain ⟨y, cb, ml, rt⟩ := gM mid
    intro hrt hen hrun hpl hprog
    refine Met.ofW (cc := cb) (maxL := ml) (ret := rt) hpl rfl ?_
    intro p e s m args below meth c s₁ B hml hv
    obtain ⟨rfl, hsz, hP, hK, hD0, hro, hnw⟩ := hv
    have hx := B.exec
    have hb := B.bytes
    have hr := B.returns
    have hts := atoms_spec (ws := Cond.code y cb ml rt :: gW) B.pre
    have hown : s.vm.findClass y.cls = some m.cls := findClass_of_methodNamed B.named
    have hlocks := B.notSynchronized
    subst hsz
    have hap : gApart ad (va_A (gWs ad tc σ) s.heap.size) := gApart.of (hD0.self (sz := s.heap.size))
    generalize hAe : va_A (gWs ad tc σ) s.heap.size = A at hap hro ⊢
    have hA : ∀ q : Nat, s.heap.size ≤ q → A q := fun q h => by rw [← hAe]; exact Or.inr h
    have hS : va_S A s.heap s.heap [] := va_S.rf
    have C : gCtx y.cls cb ml none p ({ frames := d + 1, cells := 0, slots := 0, locals := 40 * (d + 1) } : Room) s m (as.map (gv ad)).toArray c 0 0 ad dC dI tc A d :=
      ⟨hx, hb, hml, hown, fun w hw => hts w (List.mem_cons_of_mem _ hw), hnw, hK, hA, hap, hro, trivial, Nat.le_refl _, Nat.le_refl _, Nat.le_refl _, Nat.le_refl _⟩
    have key := gRun_sound (Q := MQ below (gQc ad dC dI tc σ' A v) (as.map (gv ad)).toArray s 0 0 A) (e := e) (below := below) (meth := meth) C hE hprog (Fin := fun w τ => w = v ∧ τ = σ') ?_ n σ _ hrun
    · have hl := lv_entry (as.map (gv ad)) (n := ml) (by rw [gEnt_len]; exact hen)
      rw [lg_entry_eq]
      refine key s.heap [] _ hP hS ?_ ?_
      · have hen' : (gEnt as).length ≤ ml := hen
        simp [gEntry]; omega
      · show lv_has _ ml (gAs ad 0 (gEnt as ++ List.replicate (ml - (gEnt as).length) none))
        rw [gAs_ent]
        exact hl
    · rintro w τ ⟨rfl, rfl⟩ pc H locs ls hP1 hS1 hd
      match rt, w, hrt with
      | none, none, _ => exact W.vret hx hb hr (fun t ht hW => ⟨rfl, by rw [ht]; exact hP1, hS1.F ht⟩) hS1.2.2 hd
      | some .int, some (.int z), _ => exact W.iret (v := z) hx hb hr (fun t ht hW => ⟨rfl, by rw [ht]; exact hP1, hS1.F ht⟩) hS1.2.2 hd
      | some .boolean, some (.int z), hz => exact W.zret (v := z) (ty := .boolean) hx hb hr (by rcases hz with rfl | rfl <;> rfl) (fun t ht hW => ⟨rfl, by rw [ht]; exact hP1, hS1.F ht⟩) hS1.2.2 hd
      | some .long, some (.long z), _ => exact W.lret (v := z) hx hb hr (fun t ht hW => ⟨rfl, by rw [ht]; exact hP1, hS1.F ht⟩) hS1.2.2 hd
      | some (.object nm), some (.ref z), _ => exact W.aret (v := .ref (ad z)) (rt := .object nm) hx hb hr (Or.inl ⟨nm, rfl⟩) (Or.inr ⟨_, rfl⟩) (fun t ht hW => ⟨rfl, by rw [ht]; exact hP1, hS1.F ht⟩) hS1.2.2 hd
end
section
abbrev sIadd : gSem := sBin (fun x y => x + y)
abbrev sIsub : gSem := sBin (fun x y => x - y)
abbrev sImul : gSem := sBin (fun x y => x * y)
abbrev sIand : gSem := sBin (fun x y => x &&& y)
abbrev sIor : gSem := sBin (fun x y => x ||| y)
abbrev sIxor : gSem := sBin (fun x y => x ^^^ y)
abbrev sIshl : gSem := sBin (fun x y => x <<< (y &&& 31))
abbrev sIshr : gSem := sBin (fun x y => x >>> (y &&& 31))
abbrev sIushr : gSem := sBin (fun x y => (x.toUInt32 >>> (y.toUInt32 &&& Int32.toUInt32 31)).toInt32)
abbrev sLadd : gSem := sBinL (fun x y => x + y)
abbrev sLsub : gSem := sBinL (fun x y => x - y)
abbrev sLmul : gSem := sBinL (fun x y => x * y)
abbrev sLand : gSem := sBinL (fun x y => x &&& y)
abbrev sLor : gSem := sBinL (fun x y => x ||| y)
abbrev sLshl : gSem := sShL (fun x y => x <<< (y.toInt64 &&& 63))
abbrev sLshr : gSem := sShL (fun x y => x >>> (y.toInt64 &&& 63))
abbrev sIdiv : gSem := sDiv (fun x y => x / y)
abbrev sIrem : gSem := sDiv (fun x y => x - x / y * y)
abbrev sLdiv : gSem := sDivL (fun x y => x / y)
abbrev sLrem : gSem := sDivL (fun x y => x - x / y * y)
abbrev sI2b : gSem := sUn (fun x => x.toInt8.toInt32)
abbrev sI2s : gSem := sUn (fun x => x.toInt16.toInt32)
abbrev sMmax : gSem := sMM (fun x y => if x < y then y else x)
abbrev sMmin : gSem := sMM (fun x y => if y < x then y else x)
abbrev sIfeq (t : Nat) : gSem := sIf1 (fun x => decide (x = 0)) t
abbrev sIfne (t : Nat) : gSem := sIf1 (fun x => decide (¬ x = 0)) t
abbrev sIflt (t : Nat) : gSem := sIf1 (fun x => decide (x < 0)) t
abbrev sIfge (t : Nat) : gSem := sIf1 (fun x => decide (0 ≤ x)) t
abbrev sIfgt (t : Nat) : gSem := sIf1 (fun x => decide (0 < x)) t
abbrev sIfle (t : Nat) : gSem := sIf1 (fun x => decide (x ≤ 0)) t
abbrev sCmpeq (t : Nat) : gSem := sIf2 (fun x y => decide (x = y)) t
abbrev sCmpne (t : Nat) : gSem := sIf2 (fun x y => decide (¬ x = y)) t
abbrev sCmplt (t : Nat) : gSem := sIf2 (fun x y => decide (x < y)) t
abbrev sCmpge (t : Nat) : gSem := sIf2 (fun x y => decide (y ≤ x)) t
abbrev sCmpgt (t : Nat) : gSem := sIf2 (fun x y => decide (y < x)) t
abbrev sCmple (t : Nat) : gSem := sIf2 (fun x y => decide (x ≤ y)) t
theorem inW0 : ∀ w ∈ u_ws RX0 TX0 1, w ∈ gW := by decide +kernel
theorem inW1 : ∀ w ∈ u_ws RX1 TX1 4, w ∈ gW := by decide +kernel
theorem inW2 : ∀ w ∈ u_ws RX2 TX2 4, w ∈ gW := by decide +kernel
theorem inW3 : ∀ w ∈ u_ws RX3 TX3 2, w ∈ gW := by decide +kernel
theorem inW4 : ∀ w ∈ u_ws RX4 TX4 1, w ∈ gW := by decide +kernel
theorem inW5 : ∀ w ∈ u_ws RX5 TX5 1, w ∈ gW := by decide +kernel
theorem inW6 : ∀ w ∈ u_ws RX6 TX6 10, w ∈ gW := by decide +kernel
theorem inW7 : ∀ w ∈ u_ws RX7 TX7 4, w ∈ gW := by decide +kernel
theorem inW8 : ∀ w ∈ u_ws RX8 TX8 3, w ∈ gW := by decide +kernel
theorem inW9 : ∀ w ∈ u_ws RX9 TX9 8, w ∈ gW := by decide +kernel
theorem inW10 : ∀ w ∈ u_ws RX10 TX10 13, w ∈ gW := by decide +kernel
theorem inW11 : ∀ w ∈ u_ws RX11 TX11 29, w ∈ gW := by decide +kernel
theorem mp_0 : yX0_size.cls ≠ "java/lang/invoke/MethodHandle" ∧ yX0_size.cls ≠ "java/lang/invoke/VarHandle" ∧ (parseMethodDescriptor yX0_size.desc).map (fun d => d.parameters.length) = some 0 := by decide +kernel
theorem mp_1 : yX0_has.cls ≠ "java/lang/invoke/MethodHandle" ∧ yX0_has.cls ≠ "java/lang/invoke/VarHandle" ∧ (parseMethodDescriptor yX0_has.desc).map (fun d => d.parameters.length) = some 1 := by decide +kernel
theorem mp_2 : yX0_kindOf.cls ≠ "java/lang/invoke/MethodHandle" ∧ yX0_kindOf.cls ≠ "java/lang/invoke/VarHandle" ∧ (parseMethodDescriptor yX0_kindOf.desc).map (fun d => d.parameters.length) = some 1 := by decide +kernel
theorem mp_3 : yX0_beginOf.cls ≠ "java/lang/invoke/MethodHandle" ∧ yX0_beginOf.cls ≠ "java/lang/invoke/VarHandle" ∧ (parseMethodDescriptor yX0_beginOf.desc).map (fun d => d.parameters.length) = some 1 := by decide +kernel
theorem mp_4 : yX0_sparksOf.cls ≠ "java/lang/invoke/MethodHandle" ∧ yX0_sparksOf.cls ≠ "java/lang/invoke/VarHandle" ∧ (parseMethodDescriptor yX0_sparksOf.desc).map (fun d => d.parameters.length) = some 1 := by decide +kernel
theorem mp_5 : yX1_follow.cls ≠ "java/lang/invoke/MethodHandle" ∧ yX1_follow.cls ≠ "java/lang/invoke/VarHandle" ∧ (parseMethodDescriptor yX1_follow.desc).map (fun d => d.parameters.length) = some 5 := by decide +kernel
theorem mp_6 : yX1_beginIn.cls ≠ "java/lang/invoke/MethodHandle" ∧ yX1_beginIn.cls ≠ "java/lang/invoke/VarHandle" ∧ (parseMethodDescriptor yX1_beginIn.desc).map (fun d => d.parameters.length) = some 2 := by decide +kernel
theorem mp_7 : yX1_stateIn.cls ≠ "java/lang/invoke/MethodHandle" ∧ yX1_stateIn.cls ≠ "java/lang/invoke/VarHandle" ∧ (parseMethodDescriptor yX1_stateIn.desc).map (fun d => d.parameters.length) = some 1 := by decide +kernel
theorem mp_8 : yX2_add.cls ≠ "java/lang/invoke/MethodHandle" ∧ yX2_add.cls ≠ "java/lang/invoke/VarHandle" ∧ (parseMethodDescriptor yX2_add.desc).map (fun d => d.parameters.length) = some 3 := by decide +kernel
theorem mp_9 : yX2_dropLast.cls ≠ "java/lang/invoke/MethodHandle" ∧ yX2_dropLast.cls ≠ "java/lang/invoke/VarHandle" ∧ (parseMethodDescriptor yX2_dropLast.desc).map (fun d => d.parameters.length) = some 0 := by decide +kernel
theorem mp_10 : yX2_clear.cls ≠ "java/lang/invoke/MethodHandle" ∧ yX2_clear.cls ≠ "java/lang/invoke/VarHandle" ∧ (parseMethodDescriptor yX2_clear.desc).map (fun d => d.parameters.length) = some 0 := by decide +kernel
theorem mp_11 : yX2_holding.cls ≠ "java/lang/invoke/MethodHandle" ∧ yX2_holding.cls ≠ "java/lang/invoke/VarHandle" ∧ (parseMethodDescriptor yX2_holding.desc).map (fun d => d.parameters.length) = some 3 := by decide +kernel
theorem mp_12 : yX2_hindering.cls ≠ "java/lang/invoke/MethodHandle" ∧ yX2_hindering.cls ≠ "java/lang/invoke/VarHandle" ∧ (parseMethodDescriptor yX2_hindering.desc).map (fun d => d.parameters.length) = some 3 := by decide +kernel
theorem mp_13 : yX3_grow.cls ≠ "java/lang/invoke/MethodHandle" ∧ yX3_grow.cls ≠ "java/lang/invoke/VarHandle" ∧ (parseMethodDescriptor yX3_grow.desc).map (fun d => d.parameters.length) = some 2 := by decide +kernel
theorem mp_14 : yX3_yellowIn.cls ≠ "java/lang/invoke/MethodHandle" ∧ yX3_yellowIn.cls ≠ "java/lang/invoke/VarHandle" ∧ (parseMethodDescriptor yX3_yellowIn.desc).map (fun d => d.parameters.length) = some 1 := by decide +kernel
theorem mp_15 : yX3_seemingIn.cls ≠ "java/lang/invoke/MethodHandle" ∧ yX3_seemingIn.cls ≠ "java/lang/invoke/VarHandle" ∧ (parseMethodDescriptor yX3_seemingIn.desc).map (fun d => d.parameters.length) = some 1 := by decide +kernel
theorem mp_16 : yX4_size.cls ≠ "java/lang/invoke/MethodHandle" ∧ yX4_size.cls ≠ "java/lang/invoke/VarHandle" ∧ (parseMethodDescriptor yX4_size.desc).map (fun d => d.parameters.length) = some 0 := by decide +kernel
theorem mp_17 : yX4_has.cls ≠ "java/lang/invoke/MethodHandle" ∧ yX4_has.cls ≠ "java/lang/invoke/VarHandle" ∧ (parseMethodDescriptor yX4_has.desc).map (fun d => d.parameters.length) = some 1 := by decide +kernel
theorem mp_18 : yX4_monthOf.cls ≠ "java/lang/invoke/MethodHandle" ∧ yX4_monthOf.cls ≠ "java/lang/invoke/VarHandle" ∧ (parseMethodDescriptor yX4_monthOf.desc).map (fun d => d.parameters.length) = some 1 := by decide +kernel
theorem mp_19 : yX4_bushOf.cls ≠ "java/lang/invoke/MethodHandle" ∧ yX4_bushOf.cls ≠ "java/lang/invoke/VarHandle" ∧ (parseMethodDescriptor yX4_bushOf.desc).map (fun d => d.parameters.length) = some 1 := by decide +kernel
theorem mp_20 : yX5_draw.cls ≠ "java/lang/invoke/MethodHandle" ∧ yX5_draw.cls ≠ "java/lang/invoke/VarHandle" ∧ (parseMethodDescriptor yX5_draw.desc).map (fun d => d.parameters.length) = some 1 := by decide +kernel
theorem mp_21 : yX6_reckon.cls ≠ "java/lang/invoke/MethodHandle" ∧ yX6_reckon.cls ≠ "java/lang/invoke/VarHandle" ∧ (parseMethodDescriptor yX6_reckon.desc).map (fun d => d.parameters.length) = some 1 := by decide +kernel
theorem mp_22 : yX6_runWith.cls ≠ "java/lang/invoke/MethodHandle" ∧ yX6_runWith.cls ≠ "java/lang/invoke/VarHandle" ∧ (parseMethodDescriptor yX6_runWith.desc).map (fun d => d.parameters.length) = some 2 := by decide +kernel
theorem mp_23 : yX6_countFires.cls ≠ "java/lang/invoke/MethodHandle" ∧ yX6_countFires.cls ≠ "java/lang/invoke/VarHandle" ∧ (parseMethodDescriptor yX6_countFires.desc).map (fun d => d.parameters.length) = some 1 := by decide +kernel
theorem mp_24 : yX6_gatherLooks.cls ≠ "java/lang/invoke/MethodHandle" ∧ yX6_gatherLooks.cls ≠ "java/lang/invoke/VarHandle" ∧ (parseMethodDescriptor yX6_gatherLooks.desc).map (fun d => d.parameters.length) = some 0 := by decide +kernel
theorem mp_25 : yX6_worthOf.cls ≠ "java/lang/invoke/MethodHandle" ∧ yX6_worthOf.cls ≠ "java/lang/invoke/VarHandle" ∧ (parseMethodDescriptor yX6_worthOf.desc).map (fun d => d.parameters.length) = some 2 := by decide +kernel
theorem mp_26 : yX6_behind.cls ≠ "java/lang/invoke/MethodHandle" ∧ yX6_behind.cls ≠ "java/lang/invoke/VarHandle" ∧ (parseMethodDescriptor yX6_behind.desc).map (fun d => d.parameters.length) = some 3 := by decide +kernel
theorem mp_27 : yX6_bounded.cls ≠ "java/lang/invoke/MethodHandle" ∧ yX6_bounded.cls ≠ "java/lang/invoke/VarHandle" ∧ (parseMethodDescriptor yX6_bounded.desc).map (fun d => d.parameters.length) = some 1 := by decide +kernel
theorem mp_28 : yX7_add.cls ≠ "java/lang/invoke/MethodHandle" ∧ yX7_add.cls ≠ "java/lang/invoke/VarHandle" ∧ (parseMethodDescriptor yX7_add.desc).map (fun d => d.parameters.length) = some 3 := by decide +kernel
theorem mp_29 : yX7_clear.cls ≠ "java/lang/invoke/MethodHandle" ∧ yX7_clear.cls ≠ "java/lang/invoke/VarHandle" ∧ (parseMethodDescriptor yX7_clear.desc).map (fun d => d.parameters.length) = some 0 := by decide +kernel
theorem mp_30 : yX7_comeOut.cls ≠ "java/lang/invoke/MethodHandle" ∧ yX7_comeOut.cls ≠ "java/lang/invoke/VarHandle" ∧ (parseMethodDescriptor yX7_comeOut.desc).map (fun d => d.parameters.length) = some 1 := by decide +kernel
theorem mp_31 : yX8_isLost.cls ≠ "java/lang/invoke/MethodHandle" ∧ yX8_isLost.cls ≠ "java/lang/invoke/VarHandle" ∧ (parseMethodDescriptor yX8_isLost.desc).map (fun d => d.parameters.length) = some 0 := by decide +kernel
theorem mp_32 : yX8_renew.cls ≠ "java/lang/invoke/MethodHandle" ∧ yX8_renew.cls ≠ "java/lang/invoke/VarHandle" ∧ (parseMethodDescriptor yX8_renew.desc).map (fun d => d.parameters.length) = some 2 := by decide +kernel
theorem mp_33 : yX8_discard.cls ≠ "java/lang/invoke/MethodHandle" ∧ yX8_discard.cls ≠ "java/lang/invoke/VarHandle" ∧ (parseMethodDescriptor yX8_discard.desc).map (fun d => d.parameters.length) = some 0 := by decide +kernel
theorem mp_34 : yX8_hasItems.cls ≠ "java/lang/invoke/MethodHandle" ∧ yX8_hasItems.cls ≠ "java/lang/invoke/VarHandle" ∧ (parseMethodDescriptor yX8_hasItems.desc).map (fun d => d.parameters.length) = some 2 := by decide +kernel
theorem mp_35 : yX8_item.cls ≠ "java/lang/invoke/MethodHandle" ∧ yX8_item.cls ≠ "java/lang/invoke/VarHandle" ∧ (parseMethodDescriptor yX8_item.desc).map (fun d => d.parameters.length) = some 1 := by decide +kernel
theorem mp_36 : yX8_put.cls ≠ "java/lang/invoke/MethodHandle" ∧ yX8_put.cls ≠ "java/lang/invoke/VarHandle" ∧ (parseMethodDescriptor yX8_put.desc).map (fun d => d.parameters.length) = some 2 := by decide +kernel
theorem mp_37 : yX8_narrowed.cls ≠ "java/lang/invoke/MethodHandle" ∧ yX8_narrowed.cls ≠ "java/lang/invoke/VarHandle" ∧ (parseMethodDescriptor yX8_narrowed.desc).map (fun d => d.parameters.length) = some 1 := by decide +kernel
theorem mp_38 : yX9_put.cls ≠ "java/lang/invoke/MethodHandle" ∧ yX9_put.cls ≠ "java/lang/invoke/VarHandle" ∧ (parseMethodDescriptor yX9_put.desc).map (fun d => d.parameters.length) = some 1 := by decide +kernel
theorem mp_39 : yX9_clear.cls ≠ "java/lang/invoke/MethodHandle" ∧ yX9_clear.cls ≠ "java/lang/invoke/VarHandle" ∧ (parseMethodDescriptor yX9_clear.desc).map (fun d => d.parameters.length) = some 0 := by decide +kernel
theorem mp_40 : yX9_drop.cls ≠ "java/lang/invoke/MethodHandle" ∧ yX9_drop.cls ≠ "java/lang/invoke/VarHandle" ∧ (parseMethodDescriptor yX9_drop.desc).map (fun d => d.parameters.length) = some 0 := by decide +kernel
theorem mp_41 : yX9_parse.cls ≠ "java/lang/invoke/MethodHandle" ∧ yX9_parse.cls ≠ "java/lang/invoke/VarHandle" ∧ (parseMethodDescriptor yX9_parse.desc).map (fun d => d.parameters.length) = some 0 := by decide +kernel
theorem mp_42 : yX9_firstFault.cls ≠ "java/lang/invoke/MethodHandle" ∧ yX9_firstFault.cls ≠ "java/lang/invoke/VarHandle" ∧ (parseMethodDescriptor yX9_firstFault.desc).map (fun d => d.parameters.length) = some 0 := by decide +kernel
theorem mp_43 : yX9_mayStand.cls ≠ "java/lang/invoke/MethodHandle" ∧ yX9_mayStand.cls ≠ "java/lang/invoke/VarHandle" ∧ (parseMethodDescriptor yX9_mayStand.desc).map (fun d => d.parameters.length) = some 3 := by decide +kernel
theorem mp_44 : yX10_type.cls ≠ "java/lang/invoke/MethodHandle" ∧ yX10_type.cls ≠ "java/lang/invoke/VarHandle" ∧ (parseMethodDescriptor yX10_type.desc).map (fun d => d.parameters.length) = some 2 := by decide +kernel
theorem mp_45 : yX10_wipe.cls ≠ "java/lang/invoke/MethodHandle" ∧ yX10_wipe.cls ≠ "java/lang/invoke/VarHandle" ∧ (parseMethodDescriptor yX10_wipe.desc).map (fun d => d.parameters.length) = some 1 := by decide +kernel
theorem mp_46 : yX10_undo.cls ≠ "java/lang/invoke/MethodHandle" ∧ yX10_undo.cls ≠ "java/lang/invoke/VarHandle" ∧ (parseMethodDescriptor yX10_undo.desc).map (fun d => d.parameters.length) = some 1 := by decide +kernel
theorem mp_47 : yX10_fault.cls ≠ "java/lang/invoke/MethodHandle" ∧ yX10_fault.cls ≠ "java/lang/invoke/VarHandle" ∧ (parseMethodDescriptor yX10_fault.desc).map (fun d => d.parameters.length) = some 1 := by decide +kernel
theorem mp_48 : yX10_bush.cls ≠ "java/lang/invoke/MethodHandle" ∧ yX10_bush.cls ≠ "java/lang/invoke/VarHandle" ∧ (parseMethodDescriptor yX10_bush.desc).map (fun d => d.parameters.length) = some 2 := by decide +kernel
theorem mp_49 : yX10_look.cls ≠ "java/lang/invoke/MethodHandle" ∧ yX10_look.cls ≠ "java/lang/invoke/VarHandle" ∧ (parseMethodDescriptor yX10_look.desc).map (fun d => d.parameters.length) = some 2 := by decide +kernel
theorem mp_50 : yX10_set.cls ≠ "java/lang/invoke/MethodHandle" ∧ yX10_set.cls ≠ "java/lang/invoke/VarHandle" ∧ (parseMethodDescriptor yX10_set.desc).map (fun d => d.parameters.length) = some 2 := by decide +kernel
theorem mp_51 : yX10_event.cls ≠ "java/lang/invoke/MethodHandle" ∧ yX10_event.cls ≠ "java/lang/invoke/VarHandle" ∧ (parseMethodDescriptor yX10_event.desc).map (fun d => d.parameters.length) = some 3 := by decide +kernel
theorem mp_52 : yX10_back.cls ≠ "java/lang/invoke/MethodHandle" ∧ yX10_back.cls ≠ "java/lang/invoke/VarHandle" ∧ (parseMethodDescriptor yX10_back.desc).map (fun d => d.parameters.length) = some 0 := by decide +kernel
theorem mp_53 : yX10_read.cls ≠ "java/lang/invoke/MethodHandle" ∧ yX10_read.cls ≠ "java/lang/invoke/VarHandle" ∧ (parseMethodDescriptor yX10_read.desc).map (fun d => d.parameters.length) = some 1 := by decide +kernel
theorem mp_54 : yX10_at.cls ≠ "java/lang/invoke/MethodHandle" ∧ yX10_at.cls ≠ "java/lang/invoke/VarHandle" ∧ (parseMethodDescriptor yX10_at.desc).map (fun d => d.parameters.length) = some 3 := by decide +kernel
theorem mp_55 : yX10_hill.cls ≠ "java/lang/invoke/MethodHandle" ∧ yX10_hill.cls ≠ "java/lang/invoke/VarHandle" ∧ (parseMethodDescriptor yX10_hill.desc).map (fun d => d.parameters.length) = some 2 := by decide +kernel
theorem mp_56 : yX10_bare.cls ≠ "java/lang/invoke/MethodHandle" ∧ yX10_bare.cls ≠ "java/lang/invoke/VarHandle" ∧ (parseMethodDescriptor yX10_bare.desc).map (fun d => d.parameters.length) = some 0 := by decide +kernel
theorem mp_57 : yX10_run.cls ≠ "java/lang/invoke/MethodHandle" ∧ yX10_run.cls ≠ "java/lang/invoke/VarHandle" ∧ (parseMethodDescriptor yX10_run.desc).map (fun d => d.parameters.length) = some 0 := by decide +kernel
theorem mp_58 : yX10_fake.cls ≠ "java/lang/invoke/MethodHandle" ∧ yX10_fake.cls ≠ "java/lang/invoke/VarHandle" ∧ (parseMethodDescriptor yX10_fake.desc).map (fun d => d.parameters.length) = some 0 := by decide +kernel
theorem mp_59 : yX10_last.cls ≠ "java/lang/invoke/MethodHandle" ∧ yX10_last.cls ≠ "java/lang/invoke/VarHandle" ∧ (parseMethodDescriptor yX10_last.desc).map (fun d => d.parameters.length) = some 1 := by decide +kernel
theorem mp_60 : yX10_plant.cls ≠ "java/lang/invoke/MethodHandle" ∧ yX10_plant.cls ≠ "java/lang/invoke/VarHandle" ∧ (parseMethodDescriptor yX10_plant.desc).map (fun d => d.parameters.length) = some 1 := by decide +kernel
theorem mp_61 : yX10_send.cls ≠ "java/lang/invoke/MethodHandle" ∧ yX10_send.cls ≠ "java/lang/invoke/VarHandle" ∧ (parseMethodDescriptor yX10_send.desc).map (fun d => d.parameters.length) = some 1 := by decide +kernel
theorem mp_62 : yX10_save.cls ≠ "java/lang/invoke/MethodHandle" ∧ yX10_save.cls ≠ "java/lang/invoke/VarHandle" ∧ (parseMethodDescriptor yX10_save.desc).map (fun d => d.parameters.length) = some 1 := by decide +kernel
theorem mp_63 : yX10_deal.cls ≠ "java/lang/invoke/MethodHandle" ∧ yX10_deal.cls ≠ "java/lang/invoke/VarHandle" ∧ (parseMethodDescriptor yX10_deal.desc).map (fun d => d.parameters.length) = some 1 := by decide +kernel
theorem mp_64 : yX10_seen.cls ≠ "java/lang/invoke/MethodHandle" ∧ yX10_seen.cls ≠ "java/lang/invoke/VarHandle" ∧ (parseMethodDescriptor yX10_seen.desc).map (fun d => d.parameters.length) = some 3 := by decide +kernel
theorem mp_65 : yX10_forget.cls ≠ "java/lang/invoke/MethodHandle" ∧ yX10_forget.cls ≠ "java/lang/invoke/VarHandle" ∧ (parseMethodDescriptor yX10_forget.desc).map (fun d => d.parameters.length) = some 0 := by decide +kernel
theorem mp_66 : yX10_never.cls ≠ "java/lang/invoke/MethodHandle" ∧ yX10_never.cls ≠ "java/lang/invoke/VarHandle" ∧ (parseMethodDescriptor yX10_never.desc).map (fun d => d.parameters.length) = some 0 := by decide +kernel
theorem mp_67 : yX10_was.cls ≠ "java/lang/invoke/MethodHandle" ∧ yX10_was.cls ≠ "java/lang/invoke/VarHandle" ∧ (parseMethodDescriptor yX10_was.desc).map (fun d => d.parameters.length) = some 2 := by decide +kernel
theorem mp_68 : yX10_ask.cls ≠ "java/lang/invoke/MethodHandle" ∧ yX10_ask.cls ≠ "java/lang/invoke/VarHandle" ∧ (parseMethodDescriptor yX10_ask.desc).map (fun d => d.parameters.length) = some 1 := by decide +kernel
theorem mp_69 : yX10_luck.cls ≠ "java/lang/invoke/MethodHandle" ∧ yX10_luck.cls ≠ "java/lang/invoke/VarHandle" ∧ (parseMethodDescriptor yX10_luck.desc).map (fun d => d.parameters.length) = some 3 := by decide +kernel
theorem mp_70 : yX10_century.cls ≠ "java/lang/invoke/MethodHandle" ∧ yX10_century.cls ≠ "java/lang/invoke/VarHandle" ∧ (parseMethodDescriptor yX10_century.desc).map (fun d => d.parameters.length) = some 3 := by decide +kernel
theorem mp_71 : yX10_sheet.cls ≠ "java/lang/invoke/MethodHandle" ∧ yX10_sheet.cls ≠ "java/lang/invoke/VarHandle" ∧ (parseMethodDescriptor yX10_sheet.desc).map (fun d => d.parameters.length) = some 3 := by decide +kernel
theorem mp_72 : yX10_lose.cls ≠ "java/lang/invoke/MethodHandle" ∧ yX10_lose.cls ≠ "java/lang/invoke/VarHandle" ∧ (parseMethodDescriptor yX10_lose.desc).map (fun d => d.parameters.length) = some 1 := by decide +kernel
theorem mp_73 : yX10_lay.cls ≠ "java/lang/invoke/MethodHandle" ∧ yX10_lay.cls ≠ "java/lang/invoke/VarHandle" ∧ (parseMethodDescriptor yX10_lay.desc).map (fun d => d.parameters.length) = some 4 := by decide +kernel
theorem mp_74 : yX10_get.cls ≠ "java/lang/invoke/MethodHandle" ∧ yX10_get.cls ≠ "java/lang/invoke/VarHandle" ∧ (parseMethodDescriptor yX10_get.desc).map (fun d => d.parameters.length) = some 3 := by decide +kernel
theorem mp_75 : yX10_copy.cls ≠ "java/lang/invoke/MethodHandle" ∧ yX10_copy.cls ≠ "java/lang/invoke/VarHandle" ∧ (parseMethodDescriptor yX10_copy.desc).map (fun d => d.parameters.length) = some 5 := by decide +kernel
theorem mp_76 : yX10_write.cls ≠ "java/lang/invoke/MethodHandle" ∧ yX10_write.cls ≠ "java/lang/invoke/VarHandle" ∧ (parseMethodDescriptor yX10_write.desc).map (fun d => d.parameters.length) = some 1 := by decide +kernel
theorem mp_77 : yX10_count.cls ≠ "java/lang/invoke/MethodHandle" ∧ yX10_count.cls ≠ "java/lang/invoke/VarHandle" ∧ (parseMethodDescriptor yX10_count.desc).map (fun d => d.parameters.length) = some 1 := by decide +kernel
theorem mp_78 : yX10_digest.cls ≠ "java/lang/invoke/MethodHandle" ∧ yX10_digest.cls ≠ "java/lang/invoke/VarHandle" ∧ (parseMethodDescriptor yX10_digest.desc).map (fun d => d.parameters.length) = some 0 := by decide +kernel
theorem mp_79 : yX10_digestOfCounts.cls ≠ "java/lang/invoke/MethodHandle" ∧ yX10_digestOfCounts.cls ≠ "java/lang/invoke/VarHandle" ∧ (parseMethodDescriptor yX10_digestOfCounts.desc).map (fun d => d.parameters.length) = some 1 := by decide +kernel
theorem mp_80 : yX10_digestOfMonths.cls ≠ "java/lang/invoke/MethodHandle" ∧ yX10_digestOfMonths.cls ≠ "java/lang/invoke/VarHandle" ∧ (parseMethodDescriptor yX10_digestOfMonths.desc).map (fun d => d.parameters.length) = some 1 := by decide +kernel
theorem mp_81 : yX10_digestOfLooks.cls ≠ "java/lang/invoke/MethodHandle" ∧ yX10_digestOfLooks.cls ≠ "java/lang/invoke/VarHandle" ∧ (parseMethodDescriptor yX10_digestOfLooks.desc).map (fun d => d.parameters.length) = some 1 := by decide +kernel
theorem mp_82 : yX10_digestOfBush.cls ≠ "java/lang/invoke/MethodHandle" ∧ yX10_digestOfBush.cls ≠ "java/lang/invoke/VarHandle" ∧ (parseMethodDescriptor yX10_digestOfBush.desc).map (fun d => d.parameters.length) = some 2 := by decide +kernel
theorem mp_83 : yX10_digestOfBushIn.cls ≠ "java/lang/invoke/MethodHandle" ∧ yX10_digestOfBushIn.cls ≠ "java/lang/invoke/VarHandle" ∧ (parseMethodDescriptor yX10_digestOfBushIn.desc).map (fun d => d.parameters.length) = some 3 := by decide +kernel
theorem mp_84 : yX10_digestOfHill.cls ≠ "java/lang/invoke/MethodHandle" ∧ yX10_digestOfHill.cls ≠ "java/lang/invoke/VarHandle" ∧ (parseMethodDescriptor yX10_digestOfHill.desc).map (fun d => d.parameters.length) = some 1 := by decide +kernel
theorem mp_85 : yX10_digestOfPlans.cls ≠ "java/lang/invoke/MethodHandle" ∧ yX10_digestOfPlans.cls ≠ "java/lang/invoke/VarHandle" ∧ (parseMethodDescriptor yX10_digestOfPlans.desc).map (fun d => d.parameters.length) = some 1 := by decide +kernel
theorem mp_86 : yX10_digestOfLuck.cls ≠ "java/lang/invoke/MethodHandle" ∧ yX10_digestOfLuck.cls ≠ "java/lang/invoke/VarHandle" ∧ (parseMethodDescriptor yX10_digestOfLuck.desc).map (fun d => d.parameters.length) = some 1 := by decide +kernel
theorem mp_87 : yX10_allYellow.cls ≠ "java/lang/invoke/MethodHandle" ∧ yX10_allYellow.cls ≠ "java/lang/invoke/VarHandle" ∧ (parseMethodDescriptor yX10_allYellow.desc).map (fun d => d.parameters.length) = some 0 := by decide +kernel
theorem mp_88 : yX10_bareIfPlanted.cls ≠ "java/lang/invoke/MethodHandle" ∧ yX10_bareIfPlanted.cls ≠ "java/lang/invoke/VarHandle" ∧ (parseMethodDescriptor yX10_bareIfPlanted.desc).map (fun d => d.parameters.length) = some 3 := by decide +kernel
theorem mp_89 : yX10_bestSend.cls ≠ "java/lang/invoke/MethodHandle" ∧ yX10_bestSend.cls ≠ "java/lang/invoke/VarHandle" ∧ (parseMethodDescriptor yX10_bestSend.desc).map (fun d => d.parameters.length) = some 0 := by decide +kernel
theorem mp_90 : yX10_bestDeal.cls ≠ "java/lang/invoke/MethodHandle" ∧ yX10_bestDeal.cls ≠ "java/lang/invoke/VarHandle" ∧ (parseMethodDescriptor yX10_bestDeal.desc).map (fun d => d.parameters.length) = some 0 := by decide +kernel
theorem mp_91 : yX10_fewestToLose.cls ≠ "java/lang/invoke/MethodHandle" ∧ yX10_fewestToLose.cls ≠ "java/lang/invoke/VarHandle" ∧ (parseMethodDescriptor yX10_fewestToLose.desc).map (fun d => d.parameters.length) = some 0 := by decide +kernel
theorem mp_92 : yX10_placeOfBit.cls ≠ "java/lang/invoke/MethodHandle" ∧ yX10_placeOfBit.cls ≠ "java/lang/invoke/VarHandle" ∧ (parseMethodDescriptor yX10_placeOfBit.desc).map (fun d => d.parameters.length) = some 2 := by decide +kernel
theorem mp_93 : yX10_beginsThatFit.cls ≠ "java/lang/invoke/MethodHandle" ∧ yX10_beginsThatFit.cls ≠ "java/lang/invoke/VarHandle" ∧ (parseMethodDescriptor yX10_beginsThatFit.desc).map (fun d => d.parameters.length) = some 1 := by decide +kernel
theorem mp_94 : yX10_kindsThatFit.cls ≠ "java/lang/invoke/MethodHandle" ∧ yX10_kindsThatFit.cls ≠ "java/lang/invoke/VarHandle" ∧ (parseMethodDescriptor yX10_kindsThatFit.desc).map (fun d => d.parameters.length) = some 1 := by decide +kernel
theorem mp_95 : yX10_greatestAlike.cls ≠ "java/lang/invoke/MethodHandle" ∧ yX10_greatestAlike.cls ≠ "java/lang/invoke/VarHandle" ∧ (parseMethodDescriptor yX10_greatestAlike.desc).map (fun d => d.parameters.length) = some 3 := by decide +kernel
theorem mp_96 : yX10_bareShares.cls ≠ "java/lang/invoke/MethodHandle" ∧ yX10_bareShares.cls ≠ "java/lang/invoke/VarHandle" ∧ (parseMethodDescriptor yX10_bareShares.desc).map (fun d => d.parameters.length) = some 2 := by decide +kernel
theorem mp_97 : yX10_gatherHinderers.cls ≠ "java/lang/invoke/MethodHandle" ∧ yX10_gatherHinderers.cls ≠ "java/lang/invoke/VarHandle" ∧ (parseMethodDescriptor yX10_gatherHinderers.desc).map (fun d => d.parameters.length) = some 1 := by decide +kernel
theorem mp_98 : yX10_hindersAll.cls ≠ "java/lang/invoke/MethodHandle" ∧ yX10_hindersAll.cls ≠ "java/lang/invoke/VarHandle" ∧ (parseMethodDescriptor yX10_hindersAll.desc).map (fun d => d.parameters.length) = some 2 := by decide +kernel
theorem mp_99 : yX10_shareOf.cls ≠ "java/lang/invoke/MethodHandle" ∧ yX10_shareOf.cls ≠ "java/lang/invoke/VarHandle" ∧ (parseMethodDescriptor yX10_shareOf.desc).map (fun d => d.parameters.length) = some 2 := by decide +kernel
theorem mp_100 : yX10_drawEvents.cls ≠ "java/lang/invoke/MethodHandle" ∧ yX10_drawEvents.cls ≠ "java/lang/invoke/VarHandle" ∧ (parseMethodDescriptor yX10_drawEvents.desc).map (fun d => d.parameters.length) = some 2 := by decide +kernel
theorem mp_101 : yX10_finding.cls ≠ "java/lang/invoke/MethodHandle" ∧ yX10_finding.cls ≠ "java/lang/invoke/VarHandle" ∧ (parseMethodDescriptor yX10_finding.desc).map (fun d => d.parameters.length) = some 1 := by decide +kernel
theorem mp_102 : yX10_findingOfItem.cls ≠ "java/lang/invoke/MethodHandle" ∧ yX10_findingOfItem.cls ≠ "java/lang/invoke/VarHandle" ∧ (parseMethodDescriptor yX10_findingOfItem.desc).map (fun d => d.parameters.length) = some 3 := by decide +kernel
theorem mp_103 : yX10_textOf.cls ≠ "java/lang/invoke/MethodHandle" ∧ yX10_textOf.cls ≠ "java/lang/invoke/VarHandle" ∧ (parseMethodDescriptor yX10_textOf.desc).map (fun d => d.parameters.length) = some 1 := by decide +kernel
theorem mp_104 : yX10_isText.cls ≠ "java/lang/invoke/MethodHandle" ∧ yX10_isText.cls ≠ "java/lang/invoke/VarHandle" ∧ (parseMethodDescriptor yX10_isText.desc).map (fun d => d.parameters.length) = some 1 := by decide +kernel
theorem mp_105 : yX10_isMonth.cls ≠ "java/lang/invoke/MethodHandle" ∧ yX10_isMonth.cls ≠ "java/lang/invoke/VarHandle" ∧ (parseMethodDescriptor yX10_isMonth.desc).map (fun d => d.parameters.length) = some 1 := by decide +kernel
theorem mp_106 : yX10_isSheet.cls ≠ "java/lang/invoke/MethodHandle" ∧ yX10_isSheet.cls ≠ "java/lang/invoke/VarHandle" ∧ (parseMethodDescriptor yX10_isSheet.desc).map (fun d => d.parameters.length) = some 1 := by decide +kernel
theorem mp_107 : yX10_isForm.cls ≠ "java/lang/invoke/MethodHandle" ∧ yX10_isForm.cls ≠ "java/lang/invoke/VarHandle" ∧ (parseMethodDescriptor yX10_isForm.desc).map (fun d => d.parameters.length) = some 1 := by decide +kernel
theorem mp_108 : yX10_mayBeEvent.cls ≠ "java/lang/invoke/MethodHandle" ∧ yX10_mayBeEvent.cls ≠ "java/lang/invoke/VarHandle" ∧ (parseMethodDescriptor yX10_mayBeEvent.desc).map (fun d => d.parameters.length) = some 3 := by decide +kernel
theorem mp_109 : yX10_within.cls ≠ "java/lang/invoke/MethodHandle" ∧ yX10_within.cls ≠ "java/lang/invoke/VarHandle" ∧ (parseMethodDescriptor yX10_within.desc).map (fun d => d.parameters.length) = some 3 := by decide +kernel
theorem mp_110 : yX10_bit.cls ≠ "java/lang/invoke/MethodHandle" ∧ yX10_bit.cls ≠ "java/lang/invoke/VarHandle" ∧ (parseMethodDescriptor yX10_bit.desc).map (fun d => d.parameters.length) = some 2 := by decide +kernel
theorem mp_111 : yX11_in.cls ≠ "java/lang/invoke/MethodHandle" ∧ yX11_in.cls ≠ "java/lang/invoke/VarHandle" ∧ (parseMethodDescriptor yX11_in.desc).map (fun d => d.parameters.length) = some 3 := by decide +kernel
theorem mp_112 : yX11_no.cls ≠ "java/lang/invoke/MethodHandle" ∧ yX11_no.cls ≠ "java/lang/invoke/VarHandle" ∧ (parseMethodDescriptor yX11_no.desc).map (fun d => d.parameters.length) = some 1 := by decide +kernel
theorem mp_113 : yX11_isTwo.cls ≠ "java/lang/invoke/MethodHandle" ∧ yX11_isTwo.cls ≠ "java/lang/invoke/VarHandle" ∧ (parseMethodDescriptor yX11_isTwo.desc).map (fun d => d.parameters.length) = some 1 := by decide +kernel
theorem mp_114 : yX11_isIn.cls ≠ "java/lang/invoke/MethodHandle" ∧ yX11_isIn.cls ≠ "java/lang/invoke/VarHandle" ∧ (parseMethodDescriptor yX11_isIn.desc).map (fun d => d.parameters.length) = some 2 := by decide +kernel
theorem mp_115 : yX11_ones.cls ≠ "java/lang/invoke/MethodHandle" ∧ yX11_ones.cls ≠ "java/lang/invoke/VarHandle" ∧ (parseMethodDescriptor yX11_ones.desc).map (fun d => d.parameters.length) = some 1 := by decide +kernel
theorem mp_116 : yX11_lesser.cls ≠ "java/lang/invoke/MethodHandle" ∧ yX11_lesser.cls ≠ "java/lang/invoke/VarHandle" ∧ (parseMethodDescriptor yX11_lesser.desc).map (fun d => d.parameters.length) = some 2 := by decide +kernel
theorem mp_117 : yX11_greater.cls ≠ "java/lang/invoke/MethodHandle" ∧ yX11_greater.cls ≠ "java/lang/invoke/VarHandle" ∧ (parseMethodDescriptor yX11_greater.desc).map (fun d => d.parameters.length) = some 2 := by decide +kernel
theorem mp_118 : yX11_part.cls ≠ "java/lang/invoke/MethodHandle" ∧ yX11_part.cls ≠ "java/lang/invoke/VarHandle" ∧ (parseMethodDescriptor yX11_part.desc).map (fun d => d.parameters.length) = some 3 := by decide +kernel
theorem mp_119 : yX11_finds.cls ≠ "java/lang/invoke/MethodHandle" ∧ yX11_finds.cls ≠ "java/lang/invoke/VarHandle" ∧ (parseMethodDescriptor yX11_finds.desc).map (fun d => d.parameters.length) = some 1 := by decide +kernel
theorem mp_120 : yX11_isSheet.cls ≠ "java/lang/invoke/MethodHandle" ∧ yX11_isSheet.cls ≠ "java/lang/invoke/VarHandle" ∧ (parseMethodDescriptor yX11_isSheet.desc).map (fun d => d.parameters.length) = some 1 := by decide +kernel
theorem mp_121 : yX11_sheet.cls ≠ "java/lang/invoke/MethodHandle" ∧ yX11_sheet.cls ≠ "java/lang/invoke/VarHandle" ∧ (parseMethodDescriptor yX11_sheet.desc).map (fun d => d.parameters.length) = some 3 := by decide +kernel
theorem mp_122 : yX11_lose.cls ≠ "java/lang/invoke/MethodHandle" ∧ yX11_lose.cls ≠ "java/lang/invoke/VarHandle" ∧ (parseMethodDescriptor yX11_lose.desc).map (fun d => d.parameters.length) = some 1 := by decide +kernel
theorem mp_123 : yX11_lacks.cls ≠ "java/lang/invoke/MethodHandle" ∧ yX11_lacks.cls ≠ "java/lang/invoke/VarHandle" ∧ (parseMethodDescriptor yX11_lacks.desc).map (fun d => d.parameters.length) = some 3 := by decide +kernel
theorem mp_124 : yX11_cut.cls ≠ "java/lang/invoke/MethodHandle" ∧ yX11_cut.cls ≠ "java/lang/invoke/VarHandle" ∧ (parseMethodDescriptor yX11_cut.desc).map (fun d => d.parameters.length) = some 2 := by decide +kernel
theorem mp_125 : yX11_lay.cls ≠ "java/lang/invoke/MethodHandle" ∧ yX11_lay.cls ≠ "java/lang/invoke/VarHandle" ∧ (parseMethodDescriptor yX11_lay.desc).map (fun d => d.parameters.length) = some 4 := by decide +kernel
theorem mp_126 : yX11_get.cls ≠ "java/lang/invoke/MethodHandle" ∧ yX11_get.cls ≠ "java/lang/invoke/VarHandle" ∧ (parseMethodDescriptor yX11_get.desc).map (fun d => d.parameters.length) = some 3 := by decide +kernel
theorem mp_127 : yX11_copy.cls ≠ "java/lang/invoke/MethodHandle" ∧ yX11_copy.cls ≠ "java/lang/invoke/VarHandle" ∧ (parseMethodDescriptor yX11_copy.desc).map (fun d => d.parameters.length) = some 5 := by decide +kernel
theorem mp_128 : yX11_type.cls ≠ "java/lang/invoke/MethodHandle" ∧ yX11_type.cls ≠ "java/lang/invoke/VarHandle" ∧ (parseMethodDescriptor yX11_type.desc).map (fun d => d.parameters.length) = some 2 := by decide +kernel
theorem mp_129 : yX11_wipe.cls ≠ "java/lang/invoke/MethodHandle" ∧ yX11_wipe.cls ≠ "java/lang/invoke/VarHandle" ∧ (parseMethodDescriptor yX11_wipe.desc).map (fun d => d.parameters.length) = some 1 := by decide +kernel
theorem mp_130 : yX11_undo.cls ≠ "java/lang/invoke/MethodHandle" ∧ yX11_undo.cls ≠ "java/lang/invoke/VarHandle" ∧ (parseMethodDescriptor yX11_undo.desc).map (fun d => d.parameters.length) = some 1 := by decide +kernel
theorem mp_131 : yX11_kindOf.cls ≠ "java/lang/invoke/MethodHandle" ∧ yX11_kindOf.cls ≠ "java/lang/invoke/VarHandle" ∧ (parseMethodDescriptor yX11_kindOf.desc).map (fun d => d.parameters.length) = some 1 := by decide +kernel
theorem mp_132 : yX11_bushOf.cls ≠ "java/lang/invoke/MethodHandle" ∧ yX11_bushOf.cls ≠ "java/lang/invoke/VarHandle" ∧ (parseMethodDescriptor yX11_bushOf.desc).map (fun d => d.parameters.length) = some 2 := by decide +kernel
theorem mp_133 : yX11_readsBushes.cls ≠ "java/lang/invoke/MethodHandle" ∧ yX11_readsBushes.cls ≠ "java/lang/invoke/VarHandle" ∧ (parseMethodDescriptor yX11_readsBushes.desc).map (fun d => d.parameters.length) = some 0 := by decide +kernel
theorem mp_134 : yX11_lookOf.cls ≠ "java/lang/invoke/MethodHandle" ∧ yX11_lookOf.cls ≠ "java/lang/invoke/VarHandle" ∧ (parseMethodDescriptor yX11_lookOf.desc).map (fun d => d.parameters.length) = some 2 := by decide +kernel
theorem mp_135 : yX11_readsLooks.cls ≠ "java/lang/invoke/MethodHandle" ∧ yX11_readsLooks.cls ≠ "java/lang/invoke/VarHandle" ∧ (parseMethodDescriptor yX11_readsLooks.desc).map (fun d => d.parameters.length) = some 0 := by decide +kernel
theorem mp_136 : yX11_readsText.cls ≠ "java/lang/invoke/MethodHandle" ∧ yX11_readsText.cls ≠ "java/lang/invoke/VarHandle" ∧ (parseMethodDescriptor yX11_readsText.desc).map (fun d => d.parameters.length) = some 1 := by decide +kernel
theorem mp_137 : yX11_fault.cls ≠ "java/lang/invoke/MethodHandle" ∧ yX11_fault.cls ≠ "java/lang/invoke/VarHandle" ∧ (parseMethodDescriptor yX11_fault.desc).map (fun d => d.parameters.length) = some 1 := by decide +kernel
theorem mp_138 : yX11_isBush.cls ≠ "java/lang/invoke/MethodHandle" ∧ yX11_isBush.cls ≠ "java/lang/invoke/VarHandle" ∧ (parseMethodDescriptor yX11_isBush.desc).map (fun d => d.parameters.length) = some 1 := by decide +kernel
theorem mp_139 : yX11_isMonth.cls ≠ "java/lang/invoke/MethodHandle" ∧ yX11_isMonth.cls ≠ "java/lang/invoke/VarHandle" ∧ (parseMethodDescriptor yX11_isMonth.desc).map (fun d => d.parameters.length) = some 1 := by decide +kernel
theorem mp_140 : yX11_bush.cls ≠ "java/lang/invoke/MethodHandle" ∧ yX11_bush.cls ≠ "java/lang/invoke/VarHandle" ∧ (parseMethodDescriptor yX11_bush.desc).map (fun d => d.parameters.length) = some 2 := by decide +kernel
theorem mp_141 : yX11_lookBy.cls ≠ "java/lang/invoke/MethodHandle" ∧ yX11_lookBy.cls ≠ "java/lang/invoke/VarHandle" ∧ (parseMethodDescriptor yX11_lookBy.desc).map (fun d => d.parameters.length) = some 2 := by decide +kernel
theorem mp_142 : yX11_look.cls ≠ "java/lang/invoke/MethodHandle" ∧ yX11_look.cls ≠ "java/lang/invoke/VarHandle" ∧ (parseMethodDescriptor yX11_look.desc).map (fun d => d.parameters.length) = some 2 := by decide +kernel
theorem mp_143 : yX11_set.cls ≠ "java/lang/invoke/MethodHandle" ∧ yX11_set.cls ≠ "java/lang/invoke/VarHandle" ∧ (parseMethodDescriptor yX11_set.desc).map (fun d => d.parameters.length) = some 2 := by decide +kernel
theorem mp_144 : yX11_puts.cls ≠ "java/lang/invoke/MethodHandle" ∧ yX11_puts.cls ≠ "java/lang/invoke/VarHandle" ∧ (parseMethodDescriptor yX11_puts.desc).map (fun d => d.parameters.length) = some 3 := by decide +kernel
theorem mp_145 : yX11_event.cls ≠ "java/lang/invoke/MethodHandle" ∧ yX11_event.cls ≠ "java/lang/invoke/VarHandle" ∧ (parseMethodDescriptor yX11_event.desc).map (fun d => d.parameters.length) = some 3 := by decide +kernel
theorem mp_146 : yX11_back.cls ≠ "java/lang/invoke/MethodHandle" ∧ yX11_back.cls ≠ "java/lang/invoke/VarHandle" ∧ (parseMethodDescriptor yX11_back.desc).map (fun d => d.parameters.length) = some 0 := by decide +kernel
theorem mp_147 : yX11_read.cls ≠ "java/lang/invoke/MethodHandle" ∧ yX11_read.cls ≠ "java/lang/invoke/VarHandle" ∧ (parseMethodDescriptor yX11_read.desc).map (fun d => d.parameters.length) = some 1 := by decide +kernel
theorem mp_148 : yX11_lasts.cls ≠ "java/lang/invoke/MethodHandle" ∧ yX11_lasts.cls ≠ "java/lang/invoke/VarHandle" ∧ (parseMethodDescriptor yX11_lasts.desc).map (fun d => d.parameters.length) = some 2 := by decide +kernel
theorem mp_149 : yX11_isOn.cls ≠ "java/lang/invoke/MethodHandle" ∧ yX11_isOn.cls ≠ "java/lang/invoke/VarHandle" ∧ (parseMethodDescriptor yX11_isOn.desc).map (fun d => d.parameters.length) = some 3 := by decide +kernel
theorem mp_150 : yX11_isSeason.cls ≠ "java/lang/invoke/MethodHandle" ∧ yX11_isSeason.cls ≠ "java/lang/invoke/VarHandle" ∧ (parseMethodDescriptor yX11_isSeason.desc).map (fun d => d.parameters.length) = some 2 := by decide +kernel
theorem mp_151 : yX11_stateOf.cls ≠ "java/lang/invoke/MethodHandle" ∧ yX11_stateOf.cls ≠ "java/lang/invoke/VarHandle" ∧ (parseMethodDescriptor yX11_stateOf.desc).map (fun d => d.parameters.length) = some 2 := by decide +kernel
theorem mp_152 : yX11_grows.cls ≠ "java/lang/invoke/MethodHandle" ∧ yX11_grows.cls ≠ "java/lang/invoke/VarHandle" ∧ (parseMethodDescriptor yX11_grows.desc).map (fun d => d.parameters.length) = some 0 := by decide +kernel
theorem mp_153 : yX11_isSeeming.cls ≠ "java/lang/invoke/MethodHandle" ∧ yX11_isSeeming.cls ≠ "java/lang/invoke/VarHandle" ∧ (parseMethodDescriptor yX11_isSeeming.desc).map (fun d => d.parameters.length) = some 2 := by decide +kernel
theorem mp_154 : yX11_kept.cls ≠ "java/lang/invoke/MethodHandle" ∧ yX11_kept.cls ≠ "java/lang/invoke/VarHandle" ∧ (parseMethodDescriptor yX11_kept.desc).map (fun d => d.parameters.length) = some 1 := by decide +kernel
theorem mp_155 : yX11_looked.cls ≠ "java/lang/invoke/MethodHandle" ∧ yX11_looked.cls ≠ "java/lang/invoke/VarHandle" ∧ (parseMethodDescriptor yX11_looked.desc).map (fun d => d.parameters.length) = some 3 := by decide +kernel
theorem mp_156 : yX11_believes.cls ≠ "java/lang/invoke/MethodHandle" ∧ yX11_believes.cls ≠ "java/lang/invoke/VarHandle" ∧ (parseMethodDescriptor yX11_believes.desc).map (fun d => d.parameters.length) = some 0 := by decide +kernel
theorem mp_157 : yX11_lives.cls ≠ "java/lang/invoke/MethodHandle" ∧ yX11_lives.cls ≠ "java/lang/invoke/VarHandle" ∧ (parseMethodDescriptor yX11_lives.desc).map (fun d => d.parameters.length) = some 0 := by decide +kernel
theorem mp_158 : yX11_find.cls ≠ "java/lang/invoke/MethodHandle" ∧ yX11_find.cls ≠ "java/lang/invoke/VarHandle" ∧ (parseMethodDescriptor yX11_find.desc).map (fun d => d.parameters.length) = some 0 := by decide +kernel
theorem mp_159 : yX11_atBy.cls ≠ "java/lang/invoke/MethodHandle" ∧ yX11_atBy.cls ≠ "java/lang/invoke/VarHandle" ∧ (parseMethodDescriptor yX11_atBy.desc).map (fun d => d.parameters.length) = some 3 := by decide +kernel
theorem mp_160 : yX11_at.cls ≠ "java/lang/invoke/MethodHandle" ∧ yX11_at.cls ≠ "java/lang/invoke/VarHandle" ∧ (parseMethodDescriptor yX11_at.desc).map (fun d => d.parameters.length) = some 3 := by decide +kernel
theorem mp_161 : yX11_hillBy.cls ≠ "java/lang/invoke/MethodHandle" ∧ yX11_hillBy.cls ≠ "java/lang/invoke/VarHandle" ∧ (parseMethodDescriptor yX11_hillBy.desc).map (fun d => d.parameters.length) = some 2 := by decide +kernel
theorem mp_162 : yX11_hill.cls ≠ "java/lang/invoke/MethodHandle" ∧ yX11_hill.cls ≠ "java/lang/invoke/VarHandle" ∧ (parseMethodDescriptor yX11_hill.desc).map (fun d => d.parameters.length) = some 2 := by decide +kernel
theorem mp_163 : yX11_bareNow.cls ≠ "java/lang/invoke/MethodHandle" ∧ yX11_bareNow.cls ≠ "java/lang/invoke/VarHandle" ∧ (parseMethodDescriptor yX11_bareNow.desc).map (fun d => d.parameters.length) = some 0 := by decide +kernel
theorem mp_164 : yX11_bare.cls ≠ "java/lang/invoke/MethodHandle" ∧ yX11_bare.cls ≠ "java/lang/invoke/VarHandle" ∧ (parseMethodDescriptor yX11_bare.desc).map (fun d => d.parameters.length) = some 0 := by decide +kernel
theorem mp_165 : yX11_runNow.cls ≠ "java/lang/invoke/MethodHandle" ∧ yX11_runNow.cls ≠ "java/lang/invoke/VarHandle" ∧ (parseMethodDescriptor yX11_runNow.desc).map (fun d => d.parameters.length) = some 0 := by decide +kernel
theorem mp_166 : yX11_run.cls ≠ "java/lang/invoke/MethodHandle" ∧ yX11_run.cls ≠ "java/lang/invoke/VarHandle" ∧ (parseMethodDescriptor yX11_run.desc).map (fun d => d.parameters.length) = some 0 := by decide +kernel
theorem mp_167 : yX11_fakeNow.cls ≠ "java/lang/invoke/MethodHandle" ∧ yX11_fakeNow.cls ≠ "java/lang/invoke/VarHandle" ∧ (parseMethodDescriptor yX11_fakeNow.desc).map (fun d => d.parameters.length) = some 0 := by decide +kernel
theorem mp_168 : yX11_fake.cls ≠ "java/lang/invoke/MethodHandle" ∧ yX11_fake.cls ≠ "java/lang/invoke/VarHandle" ∧ (parseMethodDescriptor yX11_fake.desc).map (fun d => d.parameters.length) = some 0 := by decide +kernel
theorem mp_169 : yX11_lastBy.cls ≠ "java/lang/invoke/MethodHandle" ∧ yX11_lastBy.cls ≠ "java/lang/invoke/VarHandle" ∧ (parseMethodDescriptor yX11_lastBy.desc).map (fun d => d.parameters.length) = some 1 := by decide +kernel
theorem mp_170 : yX11_last.cls ≠ "java/lang/invoke/MethodHandle" ∧ yX11_last.cls ≠ "java/lang/invoke/VarHandle" ∧ (parseMethodDescriptor yX11_last.desc).map (fun d => d.parameters.length) = some 1 := by decide +kernel
theorem mp_171 : yX11_plantBy.cls ≠ "java/lang/invoke/MethodHandle" ∧ yX11_plantBy.cls ≠ "java/lang/invoke/VarHandle" ∧ (parseMethodDescriptor yX11_plantBy.desc).map (fun d => d.parameters.length) = some 1 := by decide +kernel
theorem mp_172 : yX11_plant.cls ≠ "java/lang/invoke/MethodHandle" ∧ yX11_plant.cls ≠ "java/lang/invoke/VarHandle" ∧ (parseMethodDescriptor yX11_plant.desc).map (fun d => d.parameters.length) = some 1 := by decide +kernel
theorem mp_173 : yX11_sendBy.cls ≠ "java/lang/invoke/MethodHandle" ∧ yX11_sendBy.cls ≠ "java/lang/invoke/VarHandle" ∧ (parseMethodDescriptor yX11_sendBy.desc).map (fun d => d.parameters.length) = some 1 := by decide +kernel
theorem mp_174 : yX11_send.cls ≠ "java/lang/invoke/MethodHandle" ∧ yX11_send.cls ≠ "java/lang/invoke/VarHandle" ∧ (parseMethodDescriptor yX11_send.desc).map (fun d => d.parameters.length) = some 1 := by decide +kernel
theorem mp_175 : yX11_isSaved.cls ≠ "java/lang/invoke/MethodHandle" ∧ yX11_isSaved.cls ≠ "java/lang/invoke/VarHandle" ∧ (parseMethodDescriptor yX11_isSaved.desc).map (fun d => d.parameters.length) = some 1 := by decide +kernel
theorem mp_176 : yX11_saveOf.cls ≠ "java/lang/invoke/MethodHandle" ∧ yX11_saveOf.cls ≠ "java/lang/invoke/VarHandle" ∧ (parseMethodDescriptor yX11_saveOf.desc).map (fun d => d.parameters.length) = some 1 := by decide +kernel
theorem mp_177 : yX11_save.cls ≠ "java/lang/invoke/MethodHandle" ∧ yX11_save.cls ≠ "java/lang/invoke/VarHandle" ∧ (parseMethodDescriptor yX11_save.desc).map (fun d => d.parameters.length) = some 1 := by decide +kernel
theorem mp_178 : yX11_dealBy.cls ≠ "java/lang/invoke/MethodHandle" ∧ yX11_dealBy.cls ≠ "java/lang/invoke/VarHandle" ∧ (parseMethodDescriptor yX11_dealBy.desc).map (fun d => d.parameters.length) = some 1 := by decide +kernel
theorem mp_179 : yX11_deal.cls ≠ "java/lang/invoke/MethodHandle" ∧ yX11_deal.cls ≠ "java/lang/invoke/VarHandle" ∧ (parseMethodDescriptor yX11_deal.desc).map (fun d => d.parameters.length) = some 1 := by decide +kernel
theorem mp_180 : yX11_seen.cls ≠ "java/lang/invoke/MethodHandle" ∧ yX11_seen.cls ≠ "java/lang/invoke/VarHandle" ∧ (parseMethodDescriptor yX11_seen.desc).map (fun d => d.parameters.length) = some 3 := by decide +kernel
theorem mp_181 : yX11_forget.cls ≠ "java/lang/invoke/MethodHandle" ∧ yX11_forget.cls ≠ "java/lang/invoke/VarHandle" ∧ (parseMethodDescriptor yX11_forget.desc).map (fun d => d.parameters.length) = some 0 := by decide +kernel
theorem mp_182 : yX11_isSeen.cls ≠ "java/lang/invoke/MethodHandle" ∧ yX11_isSeen.cls ≠ "java/lang/invoke/VarHandle" ∧ (parseMethodDescriptor yX11_isSeen.desc).map (fun d => d.parameters.length) = some 0 := by decide +kernel
theorem mp_183 : yX11_neverNow.cls ≠ "java/lang/invoke/MethodHandle" ∧ yX11_neverNow.cls ≠ "java/lang/invoke/VarHandle" ∧ (parseMethodDescriptor yX11_neverNow.desc).map (fun d => d.parameters.length) = some 0 := by decide +kernel
theorem mp_184 : yX11_never.cls ≠ "java/lang/invoke/MethodHandle" ∧ yX11_never.cls ≠ "java/lang/invoke/VarHandle" ∧ (parseMethodDescriptor yX11_never.desc).map (fun d => d.parameters.length) = some 0 := by decide +kernel
theorem mp_185 : yX11_beganOf.cls ≠ "java/lang/invoke/MethodHandle" ∧ yX11_beganOf.cls ≠ "java/lang/invoke/VarHandle" ∧ (parseMethodDescriptor yX11_beganOf.desc).map (fun d => d.parameters.length) = some 1 := by decide +kernel
theorem mp_186 : yX11_sortOf.cls ≠ "java/lang/invoke/MethodHandle" ∧ yX11_sortOf.cls ≠ "java/lang/invoke/VarHandle" ∧ (parseMethodDescriptor yX11_sortOf.desc).map (fun d => d.parameters.length) = some 1 := by decide +kernel
theorem mp_187 : yX11_wasOf.cls ≠ "java/lang/invoke/MethodHandle" ∧ yX11_wasOf.cls ≠ "java/lang/invoke/VarHandle" ∧ (parseMethodDescriptor yX11_wasOf.desc).map (fun d => d.parameters.length) = some 2 := by decide +kernel
theorem mp_188 : yX11_was.cls ≠ "java/lang/invoke/MethodHandle" ∧ yX11_was.cls ≠ "java/lang/invoke/VarHandle" ∧ (parseMethodDescriptor yX11_was.desc).map (fun d => d.parameters.length) = some 2 := by decide +kernel
theorem mp_189 : yX11_askOf.cls ≠ "java/lang/invoke/MethodHandle" ∧ yX11_askOf.cls ≠ "java/lang/invoke/VarHandle" ∧ (parseMethodDescriptor yX11_askOf.desc).map (fun d => d.parameters.length) = some 1 := by decide +kernel
theorem mp_190 : yX11_ask.cls ≠ "java/lang/invoke/MethodHandle" ∧ yX11_ask.cls ≠ "java/lang/invoke/VarHandle" ∧ (parseMethodDescriptor yX11_ask.desc).map (fun d => d.parameters.length) = some 1 := by decide +kernel
theorem mp_191 : yX11_luckOf.cls ≠ "java/lang/invoke/MethodHandle" ∧ yX11_luckOf.cls ≠ "java/lang/invoke/VarHandle" ∧ (parseMethodDescriptor yX11_luckOf.desc).map (fun d => d.parameters.length) = some 3 := by decide +kernel
theorem mp_192 : yX11_luck.cls ≠ "java/lang/invoke/MethodHandle" ∧ yX11_luck.cls ≠ "java/lang/invoke/VarHandle" ∧ (parseMethodDescriptor yX11_luck.desc).map (fun d => d.parameters.length) = some 3 := by decide +kernel
theorem mp_193 : yX11_lot.cls ≠ "java/lang/invoke/MethodHandle" ∧ yX11_lot.cls ≠ "java/lang/invoke/VarHandle" ∧ (parseMethodDescriptor yX11_lot.desc).map (fun d => d.parameters.length) = some 1 := by decide +kernel
theorem mp_194 : yX11_centuryOf.cls ≠ "java/lang/invoke/MethodHandle" ∧ yX11_centuryOf.cls ≠ "java/lang/invoke/VarHandle" ∧ (parseMethodDescriptor yX11_centuryOf.desc).map (fun d => d.parameters.length) = some 3 := by decide +kernel
theorem mp_195 : yX11_century.cls ≠ "java/lang/invoke/MethodHandle" ∧ yX11_century.cls ≠ "java/lang/invoke/VarHandle" ∧ (parseMethodDescriptor yX11_century.desc).map (fun d => d.parameters.length) = some 3 := by decide +kernel
theorem mp_196 : yX11_write.cls ≠ "java/lang/invoke/MethodHandle" ∧ yX11_write.cls ≠ "java/lang/invoke/VarHandle" ∧ (parseMethodDescriptor yX11_write.desc).map (fun d => d.parameters.length) = some 1 := by decide +kernel
theorem mp_197 : yX11_allYellow.cls ≠ "java/lang/invoke/MethodHandle" ∧ yX11_allYellow.cls ≠ "java/lang/invoke/VarHandle" ∧ (parseMethodDescriptor yX11_allYellow.desc).map (fun d => d.parameters.length) = some 0 := by decide +kernel
theorem mp_198 : yX11_count.cls ≠ "java/lang/invoke/MethodHandle" ∧ yX11_count.cls ≠ "java/lang/invoke/VarHandle" ∧ (parseMethodDescriptor yX11_count.desc).map (fun d => d.parameters.length) = some 1 := by decide +kernel
theorem mp_199 : yX11_tellsMonth.cls ≠ "java/lang/invoke/MethodHandle" ∧ yX11_tellsMonth.cls ≠ "java/lang/invoke/VarHandle" ∧ (parseMethodDescriptor yX11_tellsMonth.desc).map (fun d => d.parameters.length) = some 3 := by decide +kernel
theorem mp_200 : yX11_tellsBush.cls ≠ "java/lang/invoke/MethodHandle" ∧ yX11_tellsBush.cls ≠ "java/lang/invoke/VarHandle" ∧ (parseMethodDescriptor yX11_tellsBush.desc).map (fun d => d.parameters.length) = some 2 := by decide +kernel
theorem mp_201 : yX11_digest.cls ≠ "java/lang/invoke/MethodHandle" ∧ yX11_digest.cls ≠ "java/lang/invoke/VarHandle" ∧ (parseMethodDescriptor yX11_digest.desc).map (fun d => d.parameters.length) = some 0 := by decide +kernel
theorem mp_202 : yJ6_bitCount_0f7a4.cls ≠ "java/lang/invoke/MethodHandle" ∧ yJ6_bitCount_0f7a4.cls ≠ "java/lang/invoke/VarHandle" ∧ (parseMethodDescriptor yJ6_bitCount_0f7a4.desc).map (fun d => d.parameters.length) = some 1 := by decide +kernel
theorem mp_203 : yJ7_fill_53178.cls ≠ "java/lang/invoke/MethodHandle" ∧ yJ7_fill_53178.cls ≠ "java/lang/invoke/VarHandle" ∧ (parseMethodDescriptor yJ7_fill_53178.desc).map (fun d => d.parameters.length) = some 2 := by decide +kernel
theorem wd_1 : Cond.initialized "GorseGold" ∈ gW := List.mem_filter.mpr ⟨List.mem_of_getElem? (i := 72) (by decide +kernel), by decide +kernel⟩
theorem wd_2 : Cond.initialized "GorseGold$Market" ∈ gW := List.mem_filter.mpr ⟨List.mem_of_getElem? (i := 73) (by decide +kernel), by decide +kernel⟩
theorem wd_3 : Cond.initialized "GorseGold$Hill" ∈ gW := List.mem_filter.mpr ⟨List.mem_of_getElem? (i := 74) (by decide +kernel), by decide +kernel⟩
theorem wd_4 : Cond.initialized "GorseGold$Bushes" ∈ gW := List.mem_filter.mpr ⟨List.mem_of_getElem? (i := 75) (by decide +kernel), by decide +kernel⟩
theorem wd_5 : Cond.initialized "GorseGold$Text" ∈ gW := List.mem_filter.mpr ⟨List.mem_of_getElem? (i := 76) (by decide +kernel), by decide +kernel⟩
theorem wd_6 : Cond.initialized "GorseGold$Course" ∈ gW := List.mem_filter.mpr ⟨List.mem_of_getElem? (i := 77) (by decide +kernel), by decide +kernel⟩
theorem wd_7 : Cond.initialized "GorseGold$Looks" ∈ gW := List.mem_filter.mpr ⟨List.mem_of_getElem? (i := 78) (by decide +kernel), by decide +kernel⟩
theorem wd_8 : Cond.initialized "GorseGold$Events" ∈ gW := List.mem_filter.mpr ⟨List.mem_of_getElem? (i := 79) (by decide +kernel), by decide +kernel⟩
theorem wd_9 : Cond.initialized "GorseGold$Seen" ∈ gW := List.mem_filter.mpr ⟨List.mem_of_getElem? (i := 80) (by decide +kernel), by decide +kernel⟩
theorem wd_10 : Cond.initialized "GorseGold$Lots" ∈ gW := List.mem_filter.mpr ⟨List.mem_of_getElem? (i := 81) (by decide +kernel), by decide +kernel⟩
theorem wd_11 : Cond.initialized "GorseGold$Sheet" ∈ gW := List.mem_filter.mpr ⟨List.mem_of_getElem? (i := 82) (by decide +kernel), by decide +kernel⟩
theorem wd_12 : Cond.initialized "GorseGoldModel" ∈ gW := List.mem_filter.mpr ⟨List.mem_of_getElem? (i := 83) (by decide +kernel), by decide +kernel⟩
theorem wd_13 : Cond.initialized "java/util/Arrays" ∈ gW := List.mem_filter.mpr ⟨List.mem_of_getElem? (i := 84) (by decide +kernel), by decide +kernel⟩
theorem wd_14 : Cond.initialized "java/lang/Math" ∈ gW := List.mem_filter.mpr ⟨List.mem_of_getElem? (i := 85) (by decide +kernel), by decide +kernel⟩
theorem wd_15 : Cond.initialized "java/lang/Integer" ∈ gW := List.mem_filter.mpr ⟨List.mem_of_getElem? (i := 86) (by decide +kernel), by decide +kernel⟩
theorem wd_16 : Cond.initialized "java/lang/System" ∈ gW := List.mem_filter.mpr ⟨List.mem_of_getElem? (i := 87) (by decide +kernel), by decide +kernel⟩
theorem wd_53 : Cond.fieldLink RX9 9 "GorseGold$Text" "bytes" "[I" ∈ gW := List.mem_filter.mpr ⟨List.mem_of_getElem? (i := 124) (by decide +kernel), by decide +kernel⟩
theorem wn_54 : Cond.fieldLinkNest RX4 35 "GorseGold$Text" "bytes" "[I" "GorseGold" ∈ gNest := List.mem_filter.mpr ⟨List.mem_of_getElem? (i := 125) (by decide +kernel), by decide +kernel⟩
theorem wn_55 : Cond.fieldLinkNest RX0 38 "GorseGold$Text" "bytes" "[I" "GorseGold" ∈ gNest := List.mem_filter.mpr ⟨List.mem_of_getElem? (i := 126) (by decide +kernel), by decide +kernel⟩
theorem wd_56 : Cond.fieldLink RX9 15 "GorseGold$Text" "lows" "[I" ∈ gW := List.mem_filter.mpr ⟨List.mem_of_getElem? (i := 127) (by decide +kernel), by decide +kernel⟩
theorem wd_57 : Cond.fieldLink RX9 18 "GorseGold$Text" "highs" "[I" ∈ gW := List.mem_filter.mpr ⟨List.mem_of_getElem? (i := 128) (by decide +kernel), by decide +kernel⟩
theorem wd_58 : Cond.fieldLink RX9 21 "GorseGold$Text" "mostItems" "I" ∈ gW := List.mem_filter.mpr ⟨List.mem_of_getElem? (i := 129) (by decide +kernel), by decide +kernel⟩
theorem wd_59 : Cond.fieldLink RX9 25 "GorseGold$Text" "step" "I" ∈ gW := List.mem_filter.mpr ⟨List.mem_of_getElem? (i := 130) (by decide +kernel), by decide +kernel⟩
theorem wd_60 : Cond.fieldLink RX9 28 "GorseGold$Text" "length" "I" ∈ gW := List.mem_filter.mpr ⟨List.mem_of_getElem? (i := 131) (by decide +kernel), by decide +kernel⟩
theorem wn_61 : Cond.fieldLinkNest RX10 304 "GorseGold$Text" "length" "I" "GorseGold" ∈ gNest := List.mem_filter.mpr ⟨List.mem_of_getElem? (i := 132) (by decide +kernel), by decide +kernel⟩
theorem wd_62 : Cond.fieldLink RX9 31 "GorseGold$Text" "faultPlace" "I" ∈ gW := List.mem_filter.mpr ⟨List.mem_of_getElem? (i := 133) (by decide +kernel), by decide +kernel⟩
theorem wn_63 : Cond.fieldLinkNest RX10 107 "GorseGold$Text" "faultPlace" "I" "GorseGold" ∈ gNest := List.mem_filter.mpr ⟨List.mem_of_getElem? (i := 134) (by decide +kernel), by decide +kernel⟩
theorem wd_64 : Cond.fieldLink RX9 34 "GorseGold$Text" "items" "I" ∈ gW := List.mem_filter.mpr ⟨List.mem_of_getElem? (i := 135) (by decide +kernel), by decide +kernel⟩
theorem wn_65 : Cond.fieldLinkNest RX4 27 "GorseGold$Text" "items" "I" "GorseGold" ∈ gNest := List.mem_filter.mpr ⟨List.mem_of_getElem? (i := 136) (by decide +kernel), by decide +kernel⟩
theorem wn_66 : Cond.fieldLinkNest RX0 27 "GorseGold$Text" "items" "I" "GorseGold" ∈ gNest := List.mem_filter.mpr ⟨List.mem_of_getElem? (i := 137) (by decide +kernel), by decide +kernel⟩
theorem wd_85 : Cond.fieldLink RX0 21 "GorseGold$Bushes" "text" "LGorseGold$Text;" ∈ gW := List.mem_filter.mpr ⟨List.mem_of_getElem? (i := 156) (by decide +kernel), by decide +kernel⟩
theorem wn_86 : Cond.fieldLinkNest RX10 300 "GorseGold$Bushes" "text" "LGorseGold$Text;" "GorseGold" ∈ gNest := List.mem_filter.mpr ⟨List.mem_of_getElem? (i := 157) (by decide +kernel), by decide +kernel⟩
theorem wd_97 : Cond.fieldLink RX1 9 "GorseGold$Course" "held" "[I" ∈ gW := List.mem_filter.mpr ⟨List.mem_of_getElem? (i := 168) (by decide +kernel), by decide +kernel⟩
theorem wn_98 : Cond.fieldLinkNest RX10 180 "GorseGold$Course" "held" "[I" "GorseGold" ∈ gNest := List.mem_filter.mpr ⟨List.mem_of_getElem? (i := 169) (by decide +kernel), by decide +kernel⟩
theorem wd_99 : Cond.fieldLink RX1 15 "GorseGold$Course" "season" "I" ∈ gW := List.mem_filter.mpr ⟨List.mem_of_getElem? (i := 170) (by decide +kernel), by decide +kernel⟩
theorem wn_100 : Cond.fieldLinkNest RX10 421 "GorseGold$Course" "season" "I" "GorseGold" ∈ gNest := List.mem_filter.mpr ⟨List.mem_of_getElem? (i := 171) (by decide +kernel), by decide +kernel⟩
theorem wd_101 : Cond.fieldLink RX1 19 "GorseGold$Course" "blooming" "I" ∈ gW := List.mem_filter.mpr ⟨List.mem_of_getElem? (i := 172) (by decide +kernel), by decide +kernel⟩
theorem wn_102 : Cond.fieldLinkNest RX3 40 "GorseGold$Course" "blooming" "I" "GorseGold" ∈ gNest := List.mem_filter.mpr ⟨List.mem_of_getElem? (i := 173) (by decide +kernel), by decide +kernel⟩
theorem wn_103 : Cond.fieldLinkNest RX10 211 "GorseGold$Course" "blooming" "I" "GorseGold" ∈ gNest := List.mem_filter.mpr ⟨List.mem_of_getElem? (i := 174) (by decide +kernel), by decide +kernel⟩
theorem wd_104 : Cond.fieldLink RX1 22 "GorseGold$Course" "seeming" "I" ∈ gW := List.mem_filter.mpr ⟨List.mem_of_getElem? (i := 175) (by decide +kernel), by decide +kernel⟩
theorem wn_105 : Cond.fieldLinkNest RX3 52 "GorseGold$Course" "seeming" "I" "GorseGold" ∈ gNest := List.mem_filter.mpr ⟨List.mem_of_getElem? (i := 176) (by decide +kernel), by decide +kernel⟩
theorem wn_106 : Cond.fieldLinkNest RX6 113 "GorseGold$Course" "seeming" "I" "GorseGold" ∈ gNest := List.mem_filter.mpr ⟨List.mem_of_getElem? (i := 177) (by decide +kernel), by decide +kernel⟩
theorem wn_107 : Cond.fieldLinkNest RX10 177 "GorseGold$Course" "seeming" "I" "GorseGold" ∈ gNest := List.mem_filter.mpr ⟨List.mem_of_getElem? (i := 178) (by decide +kernel), by decide +kernel⟩
theorem wd_117 : Cond.fieldLink RX3 12 "GorseGold$Hill" "bushes" "LGorseGold$Bushes;" ∈ gW := List.mem_filter.mpr ⟨List.mem_of_getElem? (i := 188) (by decide +kernel), by decide +kernel⟩
theorem wn_119 : Cond.fieldLinkNest RX7 25 "GorseGold$Hill" "bushes" "LGorseGold$Bushes;" "GorseGold" ∈ gNest := List.mem_filter.mpr ⟨List.mem_of_getElem? (i := 190) (by decide +kernel), by decide +kernel⟩
theorem wn_120 : Cond.fieldLinkNest RX6 84 "GorseGold$Hill" "bushes" "LGorseGold$Bushes;" "GorseGold" ∈ gNest := List.mem_filter.mpr ⟨List.mem_of_getElem? (i := 191) (by decide +kernel), by decide +kernel⟩
theorem wd_121 : Cond.fieldLink RX3 20 "GorseGold$Hill" "courses" "[LGorseGold$Course;" ∈ gW := List.mem_filter.mpr ⟨List.mem_of_getElem? (i := 192) (by decide +kernel), by decide +kernel⟩
theorem wn_122 : Cond.fieldLinkNest RX7 36 "GorseGold$Hill" "courses" "[LGorseGold$Course;" "GorseGold" ∈ gNest := List.mem_filter.mpr ⟨List.mem_of_getElem? (i := 193) (by decide +kernel), by decide +kernel⟩
theorem wn_123 : Cond.fieldLinkNest RX6 109 "GorseGold$Hill" "courses" "[LGorseGold$Course;" "GorseGold" ∈ gNest := List.mem_filter.mpr ⟨List.mem_of_getElem? (i := 194) (by decide +kernel), by decide +kernel⟩
theorem wn_124 : Cond.fieldLinkNest RX10 207 "GorseGold$Hill" "courses" "[LGorseGold$Course;" "GorseGold" ∈ gNest := List.mem_filter.mpr ⟨List.mem_of_getElem? (i := 195) (by decide +kernel), by decide +kernel⟩
theorem wd_142 : Cond.fieldLink RX4 21 "GorseGold$Looks" "text" "LGorseGold$Text;" ∈ gW := List.mem_filter.mpr ⟨List.mem_of_getElem? (i := 213) (by decide +kernel), by decide +kernel⟩
theorem wn_143 : Cond.fieldLinkNest RX10 307 "GorseGold$Looks" "text" "LGorseGold$Text;" "GorseGold" ∈ gNest := List.mem_filter.mpr ⟨List.mem_of_getElem? (i := 214) (by decide +kernel), by decide +kernel⟩
theorem wd_147 : Cond.fieldLink RX6 12 "GorseGold$Market" "hill" "LGorseGold$Hill;" ∈ gW := List.mem_filter.mpr ⟨List.mem_of_getElem? (i := 218) (by decide +kernel), by decide +kernel⟩
theorem wd_149 : Cond.fieldLink RX6 21 "GorseGold$Market" "looks" "LGorseGold$Looks;" ∈ gW := List.mem_filter.mpr ⟨List.mem_of_getElem? (i := 220) (by decide +kernel), by decide +kernel⟩
theorem wd_151 : Cond.fieldLink RX6 25 "GorseGold$Market" "fires" "[I" ∈ gW := List.mem_filter.mpr ⟨List.mem_of_getElem? (i := 222) (by decide +kernel), by decide +kernel⟩
theorem wd_152 : Cond.fieldLink RX6 29 "GorseGold$Market" "lookMonths" "[I" ∈ gW := List.mem_filter.mpr ⟨List.mem_of_getElem? (i := 223) (by decide +kernel), by decide +kernel⟩
theorem wd_153 : Cond.fieldLink RX6 32 "GorseGold$Market" "lookWorths" "[I" ∈ gW := List.mem_filter.mpr ⟨List.mem_of_getElem? (i := 224) (by decide +kernel), by decide +kernel⟩
theorem wd_154 : Cond.fieldLink RX6 35 "GorseGold$Market" "belief" "[I" ∈ gW := List.mem_filter.mpr ⟨List.mem_of_getElem? (i := 225) (by decide +kernel), by decide +kernel⟩
theorem wn_155 : Cond.fieldLinkNest RX10 191 "GorseGold$Market" "belief" "[I" "GorseGold" ∈ gNest := List.mem_filter.mpr ⟨List.mem_of_getElem? (i := 226) (by decide +kernel), by decide +kernel⟩
theorem wd_156 : Cond.fieldLink RX6 38 "GorseGold$Market" "looksThatCount" "I" ∈ gW := List.mem_filter.mpr ⟨List.mem_of_getElem? (i := 227) (by decide +kernel), by decide +kernel⟩
theorem wd_157 : Cond.fieldLink RX6 42 "GorseGold$Market" "runMonth" "I" ∈ gW := List.mem_filter.mpr ⟨List.mem_of_getElem? (i := 228) (by decide +kernel), by decide +kernel⟩
theorem wn_158 : Cond.fieldLinkNest RX10 204 "GorseGold$Market" "runMonth" "I" "GorseGold" ∈ gNest := List.mem_filter.mpr ⟨List.mem_of_getElem? (i := 229) (by decide +kernel), by decide +kernel⟩
theorem wd_159 : Cond.fieldLink RX6 45 "GorseGold$Market" "faith" "I" ∈ gW := List.mem_filter.mpr ⟨List.mem_of_getElem? (i := 230) (by decide +kernel), by decide +kernel⟩
theorem wn_160 : Cond.fieldLinkNest RX10 135 "GorseGold$Market" "faith" "I" "GorseGold" ∈ gNest := List.mem_filter.mpr ⟨List.mem_of_getElem? (i := 231) (by decide +kernel), by decide +kernel⟩
theorem wd_161 : Cond.fieldLink RX6 48 "GorseGold$Market" "doubt" "I" ∈ gW := List.mem_filter.mpr ⟨List.mem_of_getElem? (i := 232) (by decide +kernel), by decide +kernel⟩
theorem wn_162 : Cond.fieldLinkNest RX10 138 "GorseGold$Market" "doubt" "I" "GorseGold" ∈ gNest := List.mem_filter.mpr ⟨List.mem_of_getElem? (i := 233) (by decide +kernel), by decide +kernel⟩
theorem wd_190 : Cond.fieldLink RX2 9 "GorseGold$Events" "kinds" "[I" ∈ gW := List.mem_filter.mpr ⟨List.mem_of_getElem? (i := 261) (by decide +kernel), by decide +kernel⟩
theorem wn_191 : Cond.fieldLinkNest RX1 40 "GorseGold$Events" "kinds" "[I" "GorseGold" ∈ gNest := List.mem_filter.mpr ⟨List.mem_of_getElem? (i := 262) (by decide +kernel), by decide +kernel⟩
theorem wn_192 : Cond.fieldLinkNest RX6 81 "GorseGold$Events" "kinds" "[I" "GorseGold" ∈ gNest := List.mem_filter.mpr ⟨List.mem_of_getElem? (i := 263) (by decide +kernel), by decide +kernel⟩
theorem wd_193 : Cond.fieldLink RX2 15 "GorseGold$Events" "months" "[I" ∈ gW := List.mem_filter.mpr ⟨List.mem_of_getElem? (i := 264) (by decide +kernel), by decide +kernel⟩
theorem wn_194 : Cond.fieldLinkNest RX6 96 "GorseGold$Events" "months" "[I" "GorseGold" ∈ gNest := List.mem_filter.mpr ⟨List.mem_of_getElem? (i := 265) (by decide +kernel), by decide +kernel⟩
theorem wd_195 : Cond.fieldLink RX2 18 "GorseGold$Events" "bushes" "[I" ∈ gW := List.mem_filter.mpr ⟨List.mem_of_getElem? (i := 266) (by decide +kernel), by decide +kernel⟩
theorem wn_196 : Cond.fieldLinkNest RX6 88 "GorseGold$Events" "bushes" "[I" "GorseGold" ∈ gNest := List.mem_filter.mpr ⟨List.mem_of_getElem? (i := 267) (by decide +kernel), by decide +kernel⟩
theorem wd_197 : Cond.fieldLink RX2 21 "GorseGold$Events" "size" "I" ∈ gW := List.mem_filter.mpr ⟨List.mem_of_getElem? (i := 268) (by decide +kernel), by decide +kernel⟩
theorem wn_198 : Cond.fieldLinkNest RX1 31 "GorseGold$Events" "size" "I" "GorseGold" ∈ gNest := List.mem_filter.mpr ⟨List.mem_of_getElem? (i := 269) (by decide +kernel), by decide +kernel⟩
theorem wn_199 : Cond.fieldLinkNest RX6 76 "GorseGold$Events" "size" "I" "GorseGold" ∈ gNest := List.mem_filter.mpr ⟨List.mem_of_getElem? (i := 270) (by decide +kernel), by decide +kernel⟩
theorem wn_200 : Cond.fieldLinkNest RX10 161 "GorseGold$Events" "size" "I" "GorseGold" ∈ gNest := List.mem_filter.mpr ⟨List.mem_of_getElem? (i := 271) (by decide +kernel), by decide +kernel⟩
theorem wd_218 : Cond.fieldLink RX7 9 "GorseGold$Seen" "months" "[I" ∈ gW := List.mem_filter.mpr ⟨List.mem_of_getElem? (i := 289) (by decide +kernel), by decide +kernel⟩
theorem wd_219 : Cond.fieldLink RX7 15 "GorseGold$Seen" "bushes" "[I" ∈ gW := List.mem_filter.mpr ⟨List.mem_of_getElem? (i := 290) (by decide +kernel), by decide +kernel⟩
theorem wd_220 : Cond.fieldLink RX7 18 "GorseGold$Seen" "states" "[I" ∈ gW := List.mem_filter.mpr ⟨List.mem_of_getElem? (i := 291) (by decide +kernel), by decide +kernel⟩
theorem wd_221 : Cond.fieldLink RX7 21 "GorseGold$Seen" "size" "I" ∈ gW := List.mem_filter.mpr ⟨List.mem_of_getElem? (i := 292) (by decide +kernel), by decide +kernel⟩
theorem wn_222 : Cond.fieldLinkNest RX10 314 "GorseGold$Seen" "size" "I" "GorseGold" ∈ gNest := List.mem_filter.mpr ⟨List.mem_of_getElem? (i := 293) (by decide +kernel), by decide +kernel⟩
theorem wd_238 : Cond.fieldLink RX5 7 "GorseGold$Lots" "seed" "I" ∈ gW := List.mem_filter.mpr ⟨List.mem_of_getElem? (i := 309) (by decide +kernel), by decide +kernel⟩
theorem wn_239 : Cond.fieldLinkNest RX10 429 "GorseGold$Lots" "seed" "I" "GorseGold" ∈ gNest := List.mem_filter.mpr ⟨List.mem_of_getElem? (i := 310) (by decide +kernel), by decide +kernel⟩
theorem wd_250 : Cond.fieldLink RX8 9 "GorseGold$Sheet" "items" "[I" ∈ gW := List.mem_filter.mpr ⟨List.mem_of_getElem? (i := 321) (by decide +kernel), by decide +kernel⟩
theorem wn_251 : Cond.fieldLinkNest RX10 286 "GorseGold$Sheet" "items" "[I" "GorseGold" ∈ gNest := List.mem_filter.mpr ⟨List.mem_of_getElem? (i := 322) (by decide +kernel), by decide +kernel⟩
theorem wd_252 : Cond.fieldLink RX8 15 "GorseGold$Sheet" "form" "I" ∈ gW := List.mem_filter.mpr ⟨List.mem_of_getElem? (i := 323) (by decide +kernel), by decide +kernel⟩
theorem wn_253 : Cond.fieldLinkNest RX10 279 "GorseGold$Sheet" "form" "I" "GorseGold" ∈ gNest := List.mem_filter.mpr ⟨List.mem_of_getElem? (i := 324) (by decide +kernel), by decide +kernel⟩
theorem wd_254 : Cond.fieldLink RX8 19 "GorseGold$Sheet" "size" "I" ∈ gW := List.mem_filter.mpr ⟨List.mem_of_getElem? (i := 325) (by decide +kernel), by decide +kernel⟩
theorem wn_255 : Cond.fieldLinkNest RX10 163 "GorseGold$Sheet" "size" "I" "GorseGold" ∈ gNest := List.mem_filter.mpr ⟨List.mem_of_getElem? (i := 326) (by decide +kernel), by decide +kernel⟩
theorem wd_263 : Cond.fieldLink RX10 12 "GorseGold" "market" "LGorseGold$Market;" ∈ gW := List.mem_filter.mpr ⟨List.mem_of_getElem? (i := 334) (by decide +kernel), by decide +kernel⟩
theorem wd_264 : Cond.fieldLink RX10 20 "GorseGold" "hill" "LGorseGold$Hill;" ∈ gW := List.mem_filter.mpr ⟨List.mem_of_getElem? (i := 335) (by decide +kernel), by decide +kernel⟩
theorem wd_265 : Cond.fieldLink RX10 27 "GorseGold" "bushes" "LGorseGold$Bushes;" ∈ gW := List.mem_filter.mpr ⟨List.mem_of_getElem? (i := 336) (by decide +kernel), by decide +kernel⟩
theorem wd_266 : Cond.fieldLink RX10 32 "GorseGold" "looks" "LGorseGold$Looks;" ∈ gW := List.mem_filter.mpr ⟨List.mem_of_getElem? (i := 337) (by decide +kernel), by decide +kernel⟩
theorem wd_267 : Cond.fieldLink RX10 36 "GorseGold" "events" "LGorseGold$Events;" ∈ gW := List.mem_filter.mpr ⟨List.mem_of_getElem? (i := 338) (by decide +kernel), by decide +kernel⟩
theorem wd_268 : Cond.fieldLink RX10 40 "GorseGold" "drawn" "LGorseGold$Events;" ∈ gW := List.mem_filter.mpr ⟨List.mem_of_getElem? (i := 339) (by decide +kernel), by decide +kernel⟩
theorem wd_269 : Cond.fieldLink RX10 46 "GorseGold" "lone" "LGorseGold$Course;" ∈ gW := List.mem_filter.mpr ⟨List.mem_of_getElem? (i := 340) (by decide +kernel), by decide +kernel⟩
theorem wd_270 : Cond.fieldLink RX10 53 "GorseGold" "sights" "LGorseGold$Seen;" ∈ gW := List.mem_filter.mpr ⟨List.mem_of_getElem? (i := 341) (by decide +kernel), by decide +kernel⟩
theorem wd_271 : Cond.fieldLink RX10 60 "GorseGold" "lots" "LGorseGold$Lots;" ∈ gW := List.mem_filter.mpr ⟨List.mem_of_getElem? (i := 342) (by decide +kernel), by decide +kernel⟩
theorem wd_272 : Cond.fieldLink RX10 66 "GorseGold" "sheets" "[LGorseGold$Sheet;" ∈ gW := List.mem_filter.mpr ⟨List.mem_of_getElem? (i := 343) (by decide +kernel), by decide +kernel⟩
theorem wd_273 : Cond.fieldLink RX10 71 "GorseGold" "hinderers" "[I" ∈ gW := List.mem_filter.mpr ⟨List.mem_of_getElem? (i := 344) (by decide +kernel), by decide +kernel⟩
theorem wd_274 : Cond.fieldLink RX10 75 "GorseGold" "alike" "[I" ∈ gW := List.mem_filter.mpr ⟨List.mem_of_getElem? (i := 345) (by decide +kernel), by decide +kernel⟩
theorem wd_275 : Cond.fieldLink RX10 78 "GorseGold" "latestFinding" "I" ∈ gW := List.mem_filter.mpr ⟨List.mem_of_getElem? (i := 346) (by decide +kernel), by decide +kernel⟩
theorem wd_303 : Cond.methodLink R_law 13 yX10_type ∈ gW := List.mem_filter.mpr ⟨List.mem_of_getElem? (i := 374) (by decide +kernel), by decide +kernel⟩
theorem wd_304 : Cond.instanceMethod yX10_type ∈ gW := List.mem_filter.mpr ⟨List.mem_of_getElem? (i := 375) (by decide +kernel), by decide +kernel⟩
theorem wd_305 : Cond.selects RX10 yX10_type yX10_type ∈ gW := List.mem_filter.mpr ⟨List.mem_of_getElem? (i := 376) (by decide +kernel), by decide +kernel⟩
theorem wd_306 : Cond.code yX10_type cX10_type 3 (some (.int)) ∈ gW := List.mem_filter.mpr ⟨List.mem_of_getElem? (i := 377) (by decide +kernel), by decide +kernel⟩
theorem wd_307 : Cond.methodLink RX10 82 yX10_isText ∈ gW := List.mem_filter.mpr ⟨List.mem_of_getElem? (i := 378) (by decide +kernel), by decide +kernel⟩
theorem wd_308 : Cond.static yX10_isText ∈ gW := List.mem_filter.mpr ⟨List.mem_of_getElem? (i := 379) (by decide +kernel), by decide +kernel⟩
theorem wd_309 : Cond.code yX10_isText cX10_isText 1 (some (.boolean)) ∈ gW := List.mem_filter.mpr ⟨List.mem_of_getElem? (i := 380) (by decide +kernel), by decide +kernel⟩
theorem wd_310 : Cond.methodLink RX10 86 yX10_within ∈ gW := List.mem_filter.mpr ⟨List.mem_of_getElem? (i := 381) (by decide +kernel), by decide +kernel⟩
theorem wd_311 : Cond.static yX10_within ∈ gW := List.mem_filter.mpr ⟨List.mem_of_getElem? (i := 382) (by decide +kernel), by decide +kernel⟩
theorem wd_312 : Cond.code yX10_within cX10_within 3 (some (.boolean)) ∈ gW := List.mem_filter.mpr ⟨List.mem_of_getElem? (i := 383) (by decide +kernel), by decide +kernel⟩
theorem wd_313 : Cond.methodLink RX10 90 yX10_textOf ∈ gW := List.mem_filter.mpr ⟨List.mem_of_getElem? (i := 384) (by decide +kernel), by decide +kernel⟩
theorem wd_315 : Cond.instanceMethod yX10_textOf ∈ gW := List.mem_filter.mpr ⟨List.mem_of_getElem? (i := 386) (by decide +kernel), by decide +kernel⟩
theorem wd_316 : Cond.code yX10_textOf cX10_textOf 2 (some (.object "GorseGold$Text")) ∈ gW := List.mem_filter.mpr ⟨List.mem_of_getElem? (i := 387) (by decide +kernel), by decide +kernel⟩
theorem wd_317 : Cond.methodLink RX10 94 yX9_put ∈ gW := List.mem_filter.mpr ⟨List.mem_of_getElem? (i := 388) (by decide +kernel), by decide +kernel⟩
theorem wd_318 : Cond.instanceMethod yX9_put ∈ gW := List.mem_filter.mpr ⟨List.mem_of_getElem? (i := 389) (by decide +kernel), by decide +kernel⟩
theorem wd_319 : Cond.selects RX9 yX9_put yX9_put ∈ gW := List.mem_filter.mpr ⟨List.mem_of_getElem? (i := 390) (by decide +kernel), by decide +kernel⟩
theorem wd_320 : Cond.code yX9_put cX9_put 2 (some (.int)) ∈ gW := List.mem_filter.mpr ⟨List.mem_of_getElem? (i := 391) (by decide +kernel), by decide +kernel⟩
theorem wd_321 : Cond.methodLink RX9 37 yX9_parse ∈ gW := List.mem_filter.mpr ⟨List.mem_of_getElem? (i := 392) (by decide +kernel), by decide +kernel⟩
theorem wd_323 : Cond.instanceMethod yX9_parse ∈ gW := List.mem_filter.mpr ⟨List.mem_of_getElem? (i := 394) (by decide +kernel), by decide +kernel⟩
theorem wd_324 : Cond.code yX9_parse cX9_parse 1 none ∈ gW := List.mem_filter.mpr ⟨List.mem_of_getElem? (i := 395) (by decide +kernel), by decide +kernel⟩
theorem wd_325 : Cond.methodLink RX9 40 yX9_firstFault ∈ gW := List.mem_filter.mpr ⟨List.mem_of_getElem? (i := 396) (by decide +kernel), by decide +kernel⟩
theorem wd_327 : Cond.instanceMethod yX9_firstFault ∈ gW := List.mem_filter.mpr ⟨List.mem_of_getElem? (i := 398) (by decide +kernel), by decide +kernel⟩
theorem wd_328 : Cond.code yX9_firstFault cX9_firstFault 2 (some (.int)) ∈ gW := List.mem_filter.mpr ⟨List.mem_of_getElem? (i := 399) (by decide +kernel), by decide +kernel⟩
theorem wd_329 : Cond.methodLink RX9 44 yX9_mayStand ∈ gW := List.mem_filter.mpr ⟨List.mem_of_getElem? (i := 400) (by decide +kernel), by decide +kernel⟩
theorem wd_331 : Cond.instanceMethod yX9_mayStand ∈ gW := List.mem_filter.mpr ⟨List.mem_of_getElem? (i := 402) (by decide +kernel), by decide +kernel⟩
theorem wd_332 : Cond.code yX9_mayStand cX9_mayStand 4 (some (.boolean)) ∈ gW := List.mem_filter.mpr ⟨List.mem_of_getElem? (i := 403) (by decide +kernel), by decide +kernel⟩
theorem wd_333 : Cond.methodLink R_law 18 yX10_wipe ∈ gW := List.mem_filter.mpr ⟨List.mem_of_getElem? (i := 404) (by decide +kernel), by decide +kernel⟩
theorem wd_334 : Cond.instanceMethod yX10_wipe ∈ gW := List.mem_filter.mpr ⟨List.mem_of_getElem? (i := 405) (by decide +kernel), by decide +kernel⟩
theorem wd_335 : Cond.selects RX10 yX10_wipe yX10_wipe ∈ gW := List.mem_filter.mpr ⟨List.mem_of_getElem? (i := 406) (by decide +kernel), by decide +kernel⟩
theorem wd_336 : Cond.code yX10_wipe cX10_wipe 2 (some (.int)) ∈ gW := List.mem_filter.mpr ⟨List.mem_of_getElem? (i := 407) (by decide +kernel), by decide +kernel⟩
theorem wd_337 : Cond.methodLink RX10 100 yX9_clear ∈ gW := List.mem_filter.mpr ⟨List.mem_of_getElem? (i := 408) (by decide +kernel), by decide +kernel⟩
theorem wd_338 : Cond.instanceMethod yX9_clear ∈ gW := List.mem_filter.mpr ⟨List.mem_of_getElem? (i := 409) (by decide +kernel), by decide +kernel⟩
theorem wd_339 : Cond.selects RX9 yX9_clear yX9_clear ∈ gW := List.mem_filter.mpr ⟨List.mem_of_getElem? (i := 410) (by decide +kernel), by decide +kernel⟩
theorem wd_340 : Cond.code yX9_clear cX9_clear 2 (some (.int)) ∈ gW := List.mem_filter.mpr ⟨List.mem_of_getElem? (i := 411) (by decide +kernel), by decide +kernel⟩
theorem wd_341 : Cond.methodLink R_law 23 yX10_undo ∈ gW := List.mem_filter.mpr ⟨List.mem_of_getElem? (i := 412) (by decide +kernel), by decide +kernel⟩
theorem wd_342 : Cond.instanceMethod yX10_undo ∈ gW := List.mem_filter.mpr ⟨List.mem_of_getElem? (i := 413) (by decide +kernel), by decide +kernel⟩
theorem wd_343 : Cond.selects RX10 yX10_undo yX10_undo ∈ gW := List.mem_filter.mpr ⟨List.mem_of_getElem? (i := 414) (by decide +kernel), by decide +kernel⟩
theorem wd_344 : Cond.code yX10_undo cX10_undo 2 (some (.int)) ∈ gW := List.mem_filter.mpr ⟨List.mem_of_getElem? (i := 415) (by decide +kernel), by decide +kernel⟩
theorem wd_345 : Cond.methodLink RX10 104 yX9_drop ∈ gW := List.mem_filter.mpr ⟨List.mem_of_getElem? (i := 416) (by decide +kernel), by decide +kernel⟩
theorem wd_346 : Cond.instanceMethod yX9_drop ∈ gW := List.mem_filter.mpr ⟨List.mem_of_getElem? (i := 417) (by decide +kernel), by decide +kernel⟩
theorem wd_347 : Cond.selects RX9 yX9_drop yX9_drop ∈ gW := List.mem_filter.mpr ⟨List.mem_of_getElem? (i := 418) (by decide +kernel), by decide +kernel⟩
theorem wd_348 : Cond.code yX9_drop cX9_drop 1 (some (.int)) ∈ gW := List.mem_filter.mpr ⟨List.mem_of_getElem? (i := 419) (by decide +kernel), by decide +kernel⟩
theorem wd_349 : Cond.methodLink R_law 27 yX10_fault ∈ gW := List.mem_filter.mpr ⟨List.mem_of_getElem? (i := 420) (by decide +kernel), by decide +kernel⟩
theorem wd_350 : Cond.instanceMethod yX10_fault ∈ gW := List.mem_filter.mpr ⟨List.mem_of_getElem? (i := 421) (by decide +kernel), by decide +kernel⟩
theorem wd_351 : Cond.selects RX10 yX10_fault yX10_fault ∈ gW := List.mem_filter.mpr ⟨List.mem_of_getElem? (i := 422) (by decide +kernel), by decide +kernel⟩
theorem wd_352 : Cond.code yX10_fault cX10_fault 2 (some (.int)) ∈ gW := List.mem_filter.mpr ⟨List.mem_of_getElem? (i := 423) (by decide +kernel), by decide +kernel⟩
theorem wd_353 : Cond.methodLink R_law 31 yX10_bush ∈ gW := List.mem_filter.mpr ⟨List.mem_of_getElem? (i := 424) (by decide +kernel), by decide +kernel⟩
theorem wd_354 : Cond.instanceMethod yX10_bush ∈ gW := List.mem_filter.mpr ⟨List.mem_of_getElem? (i := 425) (by decide +kernel), by decide +kernel⟩
theorem wd_355 : Cond.selects RX10 yX10_bush yX10_bush ∈ gW := List.mem_filter.mpr ⟨List.mem_of_getElem? (i := 426) (by decide +kernel), by decide +kernel⟩
theorem wd_356 : Cond.code yX10_bush cX10_bush 3 (some (.int)) ∈ gW := List.mem_filter.mpr ⟨List.mem_of_getElem? (i := 427) (by decide +kernel), by decide +kernel⟩
theorem wd_357 : Cond.methodLink RX10 110 yX0_has ∈ gW := List.mem_filter.mpr ⟨List.mem_of_getElem? (i := 428) (by decide +kernel), by decide +kernel⟩
theorem wd_358 : Cond.instanceMethod yX0_has ∈ gW := List.mem_filter.mpr ⟨List.mem_of_getElem? (i := 429) (by decide +kernel), by decide +kernel⟩
theorem wd_359 : Cond.selects RX0 yX0_has yX0_has ∈ gW := List.mem_filter.mpr ⟨List.mem_of_getElem? (i := 430) (by decide +kernel), by decide +kernel⟩
theorem wd_360 : Cond.code yX0_has cX0_has 2 (some (.boolean)) ∈ gW := List.mem_filter.mpr ⟨List.mem_of_getElem? (i := 431) (by decide +kernel), by decide +kernel⟩
theorem wd_361 : Cond.methodLink RX10 115 yX0_kindOf ∈ gW := List.mem_filter.mpr ⟨List.mem_of_getElem? (i := 432) (by decide +kernel), by decide +kernel⟩
theorem wd_362 : Cond.instanceMethod yX0_kindOf ∈ gW := List.mem_filter.mpr ⟨List.mem_of_getElem? (i := 433) (by decide +kernel), by decide +kernel⟩
theorem wd_363 : Cond.selects RX0 yX0_kindOf yX0_kindOf ∈ gW := List.mem_filter.mpr ⟨List.mem_of_getElem? (i := 434) (by decide +kernel), by decide +kernel⟩
theorem wd_364 : Cond.code yX0_kindOf cX0_kindOf 2 (some (.int)) ∈ gW := List.mem_filter.mpr ⟨List.mem_of_getElem? (i := 435) (by decide +kernel), by decide +kernel⟩
theorem wd_365 : Cond.methodLink RX0 31 yX0_has ∈ gW := List.mem_filter.mpr ⟨List.mem_of_getElem? (i := 436) (by decide +kernel), by decide +kernel⟩
theorem wn_366 : Cond.fieldLinkNest RX0 35 "GorseGold" "KIND_OF_SIGN" "[I" "GorseGold" ∈ gNest := List.mem_filter.mpr ⟨List.mem_of_getElem? (i := 437) (by decide +kernel), by decide +kernel⟩
theorem wd_368 : Cond.methodLink RX10 118 yX0_beginOf ∈ gW := List.mem_filter.mpr ⟨List.mem_of_getElem? (i := 439) (by decide +kernel), by decide +kernel⟩
theorem wd_369 : Cond.instanceMethod yX0_beginOf ∈ gW := List.mem_filter.mpr ⟨List.mem_of_getElem? (i := 440) (by decide +kernel), by decide +kernel⟩
theorem wd_370 : Cond.selects RX0 yX0_beginOf yX0_beginOf ∈ gW := List.mem_filter.mpr ⟨List.mem_of_getElem? (i := 441) (by decide +kernel), by decide +kernel⟩
theorem wd_371 : Cond.code yX0_beginOf cX0_beginOf 2 (some (.int)) ∈ gW := List.mem_filter.mpr ⟨List.mem_of_getElem? (i := 442) (by decide +kernel), by decide +kernel⟩
theorem wd_372 : Cond.methodLink RX10 121 yX0_sparksOf ∈ gW := List.mem_filter.mpr ⟨List.mem_of_getElem? (i := 443) (by decide +kernel), by decide +kernel⟩
theorem wd_373 : Cond.instanceMethod yX0_sparksOf ∈ gW := List.mem_filter.mpr ⟨List.mem_of_getElem? (i := 444) (by decide +kernel), by decide +kernel⟩
theorem wd_374 : Cond.selects RX0 yX0_sparksOf yX0_sparksOf ∈ gW := List.mem_filter.mpr ⟨List.mem_of_getElem? (i := 445) (by decide +kernel), by decide +kernel⟩
theorem wd_375 : Cond.code yX0_sparksOf cX0_sparksOf 2 (some (.int)) ∈ gW := List.mem_filter.mpr ⟨List.mem_of_getElem? (i := 446) (by decide +kernel), by decide +kernel⟩
theorem wd_376 : Cond.methodLink R_law 35 yX10_look ∈ gW := List.mem_filter.mpr ⟨List.mem_of_getElem? (i := 447) (by decide +kernel), by decide +kernel⟩
theorem wd_377 : Cond.instanceMethod yX10_look ∈ gW := List.mem_filter.mpr ⟨List.mem_of_getElem? (i := 448) (by decide +kernel), by decide +kernel⟩
theorem wd_378 : Cond.selects RX10 yX10_look yX10_look ∈ gW := List.mem_filter.mpr ⟨List.mem_of_getElem? (i := 449) (by decide +kernel), by decide +kernel⟩
theorem wd_379 : Cond.code yX10_look cX10_look 3 (some (.int)) ∈ gW := List.mem_filter.mpr ⟨List.mem_of_getElem? (i := 450) (by decide +kernel), by decide +kernel⟩
theorem wd_380 : Cond.methodLink RX10 124 yX4_size ∈ gW := List.mem_filter.mpr ⟨List.mem_of_getElem? (i := 451) (by decide +kernel), by decide +kernel⟩
theorem wd_381 : Cond.instanceMethod yX4_size ∈ gW := List.mem_filter.mpr ⟨List.mem_of_getElem? (i := 452) (by decide +kernel), by decide +kernel⟩
theorem wd_382 : Cond.selects RX4 yX4_size yX4_size ∈ gW := List.mem_filter.mpr ⟨List.mem_of_getElem? (i := 453) (by decide +kernel), by decide +kernel⟩
theorem wd_383 : Cond.code yX4_size cX4_size 1 (some (.int)) ∈ gW := List.mem_filter.mpr ⟨List.mem_of_getElem? (i := 454) (by decide +kernel), by decide +kernel⟩
theorem wd_384 : Cond.methodLink RX10 129 yX4_monthOf ∈ gW := List.mem_filter.mpr ⟨List.mem_of_getElem? (i := 455) (by decide +kernel), by decide +kernel⟩
theorem wd_385 : Cond.instanceMethod yX4_monthOf ∈ gW := List.mem_filter.mpr ⟨List.mem_of_getElem? (i := 456) (by decide +kernel), by decide +kernel⟩
theorem wd_386 : Cond.selects RX4 yX4_monthOf yX4_monthOf ∈ gW := List.mem_filter.mpr ⟨List.mem_of_getElem? (i := 457) (by decide +kernel), by decide +kernel⟩
theorem wd_387 : Cond.code yX4_monthOf cX4_monthOf 2 (some (.int)) ∈ gW := List.mem_filter.mpr ⟨List.mem_of_getElem? (i := 458) (by decide +kernel), by decide +kernel⟩
theorem wd_388 : Cond.methodLink RX4 31 yX4_has ∈ gW := List.mem_filter.mpr ⟨List.mem_of_getElem? (i := 459) (by decide +kernel), by decide +kernel⟩
theorem wd_389 : Cond.instanceMethod yX4_has ∈ gW := List.mem_filter.mpr ⟨List.mem_of_getElem? (i := 460) (by decide +kernel), by decide +kernel⟩
theorem wd_390 : Cond.selects RX4 yX4_has yX4_has ∈ gW := List.mem_filter.mpr ⟨List.mem_of_getElem? (i := 461) (by decide +kernel), by decide +kernel⟩
theorem wd_391 : Cond.code yX4_has cX4_has 2 (some (.boolean)) ∈ gW := List.mem_filter.mpr ⟨List.mem_of_getElem? (i := 462) (by decide +kernel), by decide +kernel⟩
theorem wd_392 : Cond.methodLink RX10 132 yX4_bushOf ∈ gW := List.mem_filter.mpr ⟨List.mem_of_getElem? (i := 463) (by decide +kernel), by decide +kernel⟩
theorem wd_393 : Cond.instanceMethod yX4_bushOf ∈ gW := List.mem_filter.mpr ⟨List.mem_of_getElem? (i := 464) (by decide +kernel), by decide +kernel⟩
theorem wd_394 : Cond.selects RX4 yX4_bushOf yX4_bushOf ∈ gW := List.mem_filter.mpr ⟨List.mem_of_getElem? (i := 465) (by decide +kernel), by decide +kernel⟩
theorem wd_395 : Cond.code yX4_bushOf cX4_bushOf 2 (some (.int)) ∈ gW := List.mem_filter.mpr ⟨List.mem_of_getElem? (i := 466) (by decide +kernel), by decide +kernel⟩
theorem wd_396 : Cond.methodLink R_law 39 yX10_set ∈ gW := List.mem_filter.mpr ⟨List.mem_of_getElem? (i := 467) (by decide +kernel), by decide +kernel⟩
theorem wd_397 : Cond.instanceMethod yX10_set ∈ gW := List.mem_filter.mpr ⟨List.mem_of_getElem? (i := 468) (by decide +kernel), by decide +kernel⟩
theorem wd_398 : Cond.selects RX10 yX10_set yX10_set ∈ gW := List.mem_filter.mpr ⟨List.mem_of_getElem? (i := 469) (by decide +kernel), by decide +kernel⟩
theorem wd_399 : Cond.code yX10_set cX10_set 4 (some (.int)) ∈ gW := List.mem_filter.mpr ⟨List.mem_of_getElem? (i := 470) (by decide +kernel), by decide +kernel⟩
theorem wd_400 : Cond.methodLink R_law 43 yX10_event ∈ gW := List.mem_filter.mpr ⟨List.mem_of_getElem? (i := 471) (by decide +kernel), by decide +kernel⟩
theorem wd_401 : Cond.instanceMethod yX10_event ∈ gW := List.mem_filter.mpr ⟨List.mem_of_getElem? (i := 472) (by decide +kernel), by decide +kernel⟩
theorem wd_402 : Cond.selects RX10 yX10_event yX10_event ∈ gW := List.mem_filter.mpr ⟨List.mem_of_getElem? (i := 473) (by decide +kernel), by decide +kernel⟩
theorem wd_403 : Cond.code yX10_event cX10_event 4 (some (.int)) ∈ gW := List.mem_filter.mpr ⟨List.mem_of_getElem? (i := 474) (by decide +kernel), by decide +kernel⟩
theorem wd_404 : Cond.methodLink RX10 141 yX10_mayBeEvent ∈ gW := List.mem_filter.mpr ⟨List.mem_of_getElem? (i := 475) (by decide +kernel), by decide +kernel⟩
theorem wd_405 : Cond.static yX10_mayBeEvent ∈ gW := List.mem_filter.mpr ⟨List.mem_of_getElem? (i := 476) (by decide +kernel), by decide +kernel⟩
theorem wd_406 : Cond.code yX10_mayBeEvent cX10_mayBeEvent 3 (some (.boolean)) ∈ gW := List.mem_filter.mpr ⟨List.mem_of_getElem? (i := 477) (by decide +kernel), by decide +kernel⟩
theorem wd_407 : Cond.methodLink RX10 167 yX10_isMonth ∈ gW := List.mem_filter.mpr ⟨List.mem_of_getElem? (i := 478) (by decide +kernel), by decide +kernel⟩
theorem wd_408 : Cond.static yX10_isMonth ∈ gW := List.mem_filter.mpr ⟨List.mem_of_getElem? (i := 479) (by decide +kernel), by decide +kernel⟩
theorem wd_409 : Cond.code yX10_isMonth cX10_isMonth 1 (some (.boolean)) ∈ gW := List.mem_filter.mpr ⟨List.mem_of_getElem? (i := 480) (by decide +kernel), by decide +kernel⟩
theorem wd_410 : Cond.methodLink RX10 144 yX2_add ∈ gW := List.mem_filter.mpr ⟨List.mem_of_getElem? (i := 481) (by decide +kernel), by decide +kernel⟩
theorem wd_411 : Cond.instanceMethod yX2_add ∈ gW := List.mem_filter.mpr ⟨List.mem_of_getElem? (i := 482) (by decide +kernel), by decide +kernel⟩
theorem wd_412 : Cond.selects RX2 yX2_add yX2_add ∈ gW := List.mem_filter.mpr ⟨List.mem_of_getElem? (i := 483) (by decide +kernel), by decide +kernel⟩
theorem wd_413 : Cond.code yX2_add cX2_add 4 (some (.int)) ∈ gW := List.mem_filter.mpr ⟨List.mem_of_getElem? (i := 484) (by decide +kernel), by decide +kernel⟩
theorem wd_414 : Cond.methodLink R_law 48 yX10_back ∈ gW := List.mem_filter.mpr ⟨List.mem_of_getElem? (i := 485) (by decide +kernel), by decide +kernel⟩
theorem wd_415 : Cond.instanceMethod yX10_back ∈ gW := List.mem_filter.mpr ⟨List.mem_of_getElem? (i := 486) (by decide +kernel), by decide +kernel⟩
theorem wd_416 : Cond.selects RX10 yX10_back yX10_back ∈ gW := List.mem_filter.mpr ⟨List.mem_of_getElem? (i := 487) (by decide +kernel), by decide +kernel⟩
theorem wd_417 : Cond.code yX10_back cX10_back 1 (some (.int)) ∈ gW := List.mem_filter.mpr ⟨List.mem_of_getElem? (i := 488) (by decide +kernel), by decide +kernel⟩
theorem wd_418 : Cond.methodLink RX10 148 yX2_dropLast ∈ gW := List.mem_filter.mpr ⟨List.mem_of_getElem? (i := 489) (by decide +kernel), by decide +kernel⟩
theorem wd_419 : Cond.instanceMethod yX2_dropLast ∈ gW := List.mem_filter.mpr ⟨List.mem_of_getElem? (i := 490) (by decide +kernel), by decide +kernel⟩
theorem wd_420 : Cond.selects RX2 yX2_dropLast yX2_dropLast ∈ gW := List.mem_filter.mpr ⟨List.mem_of_getElem? (i := 491) (by decide +kernel), by decide +kernel⟩
theorem wd_421 : Cond.code yX2_dropLast cX2_dropLast 1 (some (.int)) ∈ gW := List.mem_filter.mpr ⟨List.mem_of_getElem? (i := 492) (by decide +kernel), by decide +kernel⟩
theorem wd_422 : Cond.methodLink R_law 53 yX10_read ∈ gW := List.mem_filter.mpr ⟨List.mem_of_getElem? (i := 493) (by decide +kernel), by decide +kernel⟩
theorem wd_423 : Cond.instanceMethod yX10_read ∈ gW := List.mem_filter.mpr ⟨List.mem_of_getElem? (i := 494) (by decide +kernel), by decide +kernel⟩
theorem wd_424 : Cond.selects RX10 yX10_read yX10_read ∈ gW := List.mem_filter.mpr ⟨List.mem_of_getElem? (i := 495) (by decide +kernel), by decide +kernel⟩
theorem wd_425 : Cond.code yX10_read cX10_read 8 (some (.int)) ∈ gW := List.mem_filter.mpr ⟨List.mem_of_getElem? (i := 496) (by decide +kernel), by decide +kernel⟩
theorem wd_426 : Cond.methodLink RX10 151 yX10_isSheet ∈ gW := List.mem_filter.mpr ⟨List.mem_of_getElem? (i := 497) (by decide +kernel), by decide +kernel⟩
theorem wd_427 : Cond.static yX10_isSheet ∈ gW := List.mem_filter.mpr ⟨List.mem_of_getElem? (i := 498) (by decide +kernel), by decide +kernel⟩
theorem wd_428 : Cond.code yX10_isSheet cX10_isSheet 1 (some (.boolean)) ∈ gW := List.mem_filter.mpr ⟨List.mem_of_getElem? (i := 499) (by decide +kernel), by decide +kernel⟩
theorem wd_429 : Cond.methodLink RX10 154 yX8_isLost ∈ gW := List.mem_filter.mpr ⟨List.mem_of_getElem? (i := 500) (by decide +kernel), by decide +kernel⟩
theorem wd_430 : Cond.instanceMethod yX8_isLost ∈ gW := List.mem_filter.mpr ⟨List.mem_of_getElem? (i := 501) (by decide +kernel), by decide +kernel⟩
theorem wd_431 : Cond.selects RX8 yX8_isLost yX8_isLost ∈ gW := List.mem_filter.mpr ⟨List.mem_of_getElem? (i := 502) (by decide +kernel), by decide +kernel⟩
theorem wd_432 : Cond.code yX8_isLost cX8_isLost 1 (some (.boolean)) ∈ gW := List.mem_filter.mpr ⟨List.mem_of_getElem? (i := 503) (by decide +kernel), by decide +kernel⟩
theorem wd_433 : Cond.methodLink RX10 158 yX10_finding ∈ gW := List.mem_filter.mpr ⟨List.mem_of_getElem? (i := 504) (by decide +kernel), by decide +kernel⟩
theorem wd_435 : Cond.instanceMethod yX10_finding ∈ gW := List.mem_filter.mpr ⟨List.mem_of_getElem? (i := 506) (by decide +kernel), by decide +kernel⟩
theorem wd_436 : Cond.code yX10_finding cX10_finding 2 (some (.int)) ∈ gW := List.mem_filter.mpr ⟨List.mem_of_getElem? (i := 507) (by decide +kernel), by decide +kernel⟩
theorem wd_437 : Cond.methodLink RX10 164 yX8_item ∈ gW := List.mem_filter.mpr ⟨List.mem_of_getElem? (i := 508) (by decide +kernel), by decide +kernel⟩
theorem wd_438 : Cond.instanceMethod yX8_item ∈ gW := List.mem_filter.mpr ⟨List.mem_of_getElem? (i := 509) (by decide +kernel), by decide +kernel⟩
theorem wd_439 : Cond.selects RX8 yX8_item yX8_item ∈ gW := List.mem_filter.mpr ⟨List.mem_of_getElem? (i := 510) (by decide +kernel), by decide +kernel⟩
theorem wd_440 : Cond.code yX8_item cX8_item 2 (some (.int)) ∈ gW := List.mem_filter.mpr ⟨List.mem_of_getElem? (i := 511) (by decide +kernel), by decide +kernel⟩
theorem wd_441 : Cond.methodLink RX8 28 yX8_hasItems ∈ gW := List.mem_filter.mpr ⟨List.mem_of_getElem? (i := 512) (by decide +kernel), by decide +kernel⟩
theorem wd_442 : Cond.instanceMethod yX8_hasItems ∈ gW := List.mem_filter.mpr ⟨List.mem_of_getElem? (i := 513) (by decide +kernel), by decide +kernel⟩
theorem wd_443 : Cond.selects RX8 yX8_hasItems yX8_hasItems ∈ gW := List.mem_filter.mpr ⟨List.mem_of_getElem? (i := 514) (by decide +kernel), by decide +kernel⟩
theorem wd_444 : Cond.code yX8_hasItems cX8_hasItems 3 (some (.boolean)) ∈ gW := List.mem_filter.mpr ⟨List.mem_of_getElem? (i := 515) (by decide +kernel), by decide +kernel⟩
theorem wd_445 : Cond.methodLink R_law 57 yX10_at ∈ gW := List.mem_filter.mpr ⟨List.mem_of_getElem? (i := 516) (by decide +kernel), by decide +kernel⟩
theorem wd_446 : Cond.instanceMethod yX10_at ∈ gW := List.mem_filter.mpr ⟨List.mem_of_getElem? (i := 517) (by decide +kernel), by decide +kernel⟩
theorem wd_447 : Cond.selects RX10 yX10_at yX10_at ∈ gW := List.mem_filter.mpr ⟨List.mem_of_getElem? (i := 518) (by decide +kernel), by decide +kernel⟩
theorem wd_448 : Cond.code yX10_at cX10_at 4 (some (.int)) ∈ gW := List.mem_filter.mpr ⟨List.mem_of_getElem? (i := 519) (by decide +kernel), by decide +kernel⟩
theorem wd_449 : Cond.methodLink RX10 170 yX1_follow ∈ gW := List.mem_filter.mpr ⟨List.mem_of_getElem? (i := 520) (by decide +kernel), by decide +kernel⟩
theorem wd_450 : Cond.instanceMethod yX1_follow ∈ gW := List.mem_filter.mpr ⟨List.mem_of_getElem? (i := 521) (by decide +kernel), by decide +kernel⟩
theorem wd_451 : Cond.selects RX1 yX1_follow yX1_follow ∈ gW := List.mem_filter.mpr ⟨List.mem_of_getElem? (i := 522) (by decide +kernel), by decide +kernel⟩
theorem wd_452 : Cond.code yX1_follow cX1_follow 7 none ∈ gW := List.mem_filter.mpr ⟨List.mem_of_getElem? (i := 523) (by decide +kernel), by decide +kernel⟩
theorem wd_453 : Cond.methodLink RX1 25 yJ7_fill_53178 ∈ gW := List.mem_filter.mpr ⟨List.mem_of_getElem? (i := 524) (by decide +kernel), by decide +kernel⟩
theorem wd_454 : Cond.static yJ7_fill_53178 ∈ gW := List.mem_filter.mpr ⟨List.mem_of_getElem? (i := 525) (by decide +kernel), by decide +kernel⟩
theorem wd_455 : Cond.code yJ7_fill_53178 cJ7_fill_53178 4 none ∈ gW := List.mem_filter.mpr ⟨List.mem_of_getElem? (i := 526) (by decide +kernel), by decide +kernel⟩
theorem wn_456 : Cond.methodLinkNest RX1 36 yX10_bit "GorseGold" ∈ gNest := List.mem_filter.mpr ⟨List.mem_of_getElem? (i := 527) (by decide +kernel), by decide +kernel⟩
theorem wd_457 : Cond.static yX10_bit ∈ gW := List.mem_filter.mpr ⟨List.mem_of_getElem? (i := 528) (by decide +kernel), by decide +kernel⟩
theorem wd_458 : Cond.code yX10_bit cX10_bit 2 (some (.int)) ∈ gW := List.mem_filter.mpr ⟨List.mem_of_getElem? (i := 529) (by decide +kernel), by decide +kernel⟩
theorem wd_459 : Cond.methodLink RX1 43 yX2_holding ∈ gW := List.mem_filter.mpr ⟨List.mem_of_getElem? (i := 530) (by decide +kernel), by decide +kernel⟩
theorem wd_460 : Cond.instanceMethod yX2_holding ∈ gW := List.mem_filter.mpr ⟨List.mem_of_getElem? (i := 531) (by decide +kernel), by decide +kernel⟩
theorem wd_461 : Cond.selects RX2 yX2_holding yX2_holding ∈ gW := List.mem_filter.mpr ⟨List.mem_of_getElem? (i := 532) (by decide +kernel), by decide +kernel⟩
theorem wd_462 : Cond.code yX2_holding cX2_holding 5 (some (.int)) ∈ gW := List.mem_filter.mpr ⟨List.mem_of_getElem? (i := 533) (by decide +kernel), by decide +kernel⟩
theorem wn_463 : Cond.fieldLinkNest RX2 25 "GorseGold" "LASTING" "[I" "GorseGold" ∈ gNest := List.mem_filter.mpr ⟨List.mem_of_getElem? (i := 534) (by decide +kernel), by decide +kernel⟩
theorem wd_465 : Cond.constant RX2 28 16777215 ∈ gW := List.mem_filter.mpr ⟨List.mem_of_getElem? (i := 536) (by decide +kernel), by decide +kernel⟩
theorem wd_466 : Cond.methodLink RX1 47 yX1_beginIn ∈ gW := List.mem_filter.mpr ⟨List.mem_of_getElem? (i := 537) (by decide +kernel), by decide +kernel⟩
theorem wd_467 : Cond.instanceMethod yX1_beginIn ∈ gW := List.mem_filter.mpr ⟨List.mem_of_getElem? (i := 538) (by decide +kernel), by decide +kernel⟩
theorem wd_468 : Cond.selects RX1 yX1_beginIn yX1_beginIn ∈ gW := List.mem_filter.mpr ⟨List.mem_of_getElem? (i := 539) (by decide +kernel), by decide +kernel⟩
theorem wd_469 : Cond.code yX1_beginIn cX1_beginIn 5 none ∈ gW := List.mem_filter.mpr ⟨List.mem_of_getElem? (i := 540) (by decide +kernel), by decide +kernel⟩
theorem wn_470 : Cond.fieldLinkNest RX1 51 "GorseGold" "SEASON_OF_KIND" "[I" "GorseGold" ∈ gNest := List.mem_filter.mpr ⟨List.mem_of_getElem? (i := 541) (by decide +kernel), by decide +kernel⟩
theorem wd_472 : Cond.methodLink RX10 174 yX1_stateIn ∈ gW := List.mem_filter.mpr ⟨List.mem_of_getElem? (i := 543) (by decide +kernel), by decide +kernel⟩
theorem wd_473 : Cond.instanceMethod yX1_stateIn ∈ gW := List.mem_filter.mpr ⟨List.mem_of_getElem? (i := 544) (by decide +kernel), by decide +kernel⟩
theorem wd_474 : Cond.selects RX1 yX1_stateIn yX1_stateIn ∈ gW := List.mem_filter.mpr ⟨List.mem_of_getElem? (i := 545) (by decide +kernel), by decide +kernel⟩
theorem wd_475 : Cond.code yX1_stateIn cX1_stateIn 3 (some (.int)) ∈ gW := List.mem_filter.mpr ⟨List.mem_of_getElem? (i := 546) (by decide +kernel), by decide +kernel⟩
theorem wd_476 : Cond.methodLink RX10 183 yX10_bit ∈ gW := List.mem_filter.mpr ⟨List.mem_of_getElem? (i := 547) (by decide +kernel), by decide +kernel⟩
theorem wd_477 : Cond.methodLink R_law 61 yX10_hill ∈ gW := List.mem_filter.mpr ⟨List.mem_of_getElem? (i := 548) (by decide +kernel), by decide +kernel⟩
theorem wd_478 : Cond.instanceMethod yX10_hill ∈ gW := List.mem_filter.mpr ⟨List.mem_of_getElem? (i := 549) (by decide +kernel), by decide +kernel⟩
theorem wd_479 : Cond.selects RX10 yX10_hill yX10_hill ∈ gW := List.mem_filter.mpr ⟨List.mem_of_getElem? (i := 550) (by decide +kernel), by decide +kernel⟩
theorem wd_480 : Cond.code yX10_hill cX10_hill 3 (some (.int)) ∈ gW := List.mem_filter.mpr ⟨List.mem_of_getElem? (i := 551) (by decide +kernel), by decide +kernel⟩
theorem wd_481 : Cond.methodLink RX10 187 yX6_reckon ∈ gW := List.mem_filter.mpr ⟨List.mem_of_getElem? (i := 552) (by decide +kernel), by decide +kernel⟩
theorem wd_482 : Cond.instanceMethod yX6_reckon ∈ gW := List.mem_filter.mpr ⟨List.mem_of_getElem? (i := 553) (by decide +kernel), by decide +kernel⟩
theorem wd_483 : Cond.selects RX6 yX6_reckon yX6_reckon ∈ gW := List.mem_filter.mpr ⟨List.mem_of_getElem? (i := 554) (by decide +kernel), by decide +kernel⟩
theorem wd_484 : Cond.code yX6_reckon cX6_reckon 4 none ∈ gW := List.mem_filter.mpr ⟨List.mem_of_getElem? (i := 555) (by decide +kernel), by decide +kernel⟩
theorem wd_485 : Cond.methodLink RX6 51 yX3_grow ∈ gW := List.mem_filter.mpr ⟨List.mem_of_getElem? (i := 556) (by decide +kernel), by decide +kernel⟩
theorem wd_486 : Cond.instanceMethod yX3_grow ∈ gW := List.mem_filter.mpr ⟨List.mem_of_getElem? (i := 557) (by decide +kernel), by decide +kernel⟩
theorem wd_487 : Cond.selects RX3 yX3_grow yX3_grow ∈ gW := List.mem_filter.mpr ⟨List.mem_of_getElem? (i := 558) (by decide +kernel), by decide +kernel⟩
theorem wd_488 : Cond.code yX3_grow cX3_grow 6 (some (.int)) ∈ gW := List.mem_filter.mpr ⟨List.mem_of_getElem? (i := 559) (by decide +kernel), by decide +kernel⟩
theorem wd_489 : Cond.methodLink RX3 25 yX0_size ∈ gW := List.mem_filter.mpr ⟨List.mem_of_getElem? (i := 560) (by decide +kernel), by decide +kernel⟩
theorem wd_490 : Cond.instanceMethod yX0_size ∈ gW := List.mem_filter.mpr ⟨List.mem_of_getElem? (i := 561) (by decide +kernel), by decide +kernel⟩
theorem wd_491 : Cond.selects RX0 yX0_size yX0_size ∈ gW := List.mem_filter.mpr ⟨List.mem_of_getElem? (i := 562) (by decide +kernel), by decide +kernel⟩
theorem wd_492 : Cond.code yX0_size cX0_size 1 (some (.int)) ∈ gW := List.mem_filter.mpr ⟨List.mem_of_getElem? (i := 563) (by decide +kernel), by decide +kernel⟩
theorem wd_493 : Cond.methodLink RX3 29 yX0_kindOf ∈ gW := List.mem_filter.mpr ⟨List.mem_of_getElem? (i := 564) (by decide +kernel), by decide +kernel⟩
theorem wd_494 : Cond.methodLink RX3 33 yX0_beginOf ∈ gW := List.mem_filter.mpr ⟨List.mem_of_getElem? (i := 565) (by decide +kernel), by decide +kernel⟩
theorem wd_495 : Cond.methodLink RX3 36 yX1_follow ∈ gW := List.mem_filter.mpr ⟨List.mem_of_getElem? (i := 566) (by decide +kernel), by decide +kernel⟩
theorem wd_496 : Cond.constant RX3 44 16777215 ∈ gW := List.mem_filter.mpr ⟨List.mem_of_getElem? (i := 567) (by decide +kernel), by decide +kernel⟩
theorem wd_497 : Cond.methodLink RX6 55 yX6_countFires ∈ gW := List.mem_filter.mpr ⟨List.mem_of_getElem? (i := 568) (by decide +kernel), by decide +kernel⟩
theorem wd_499 : Cond.instanceMethod yX6_countFires ∈ gW := List.mem_filter.mpr ⟨List.mem_of_getElem? (i := 570) (by decide +kernel), by decide +kernel⟩
theorem wd_500 : Cond.code yX6_countFires cX6_countFires 3 none ∈ gW := List.mem_filter.mpr ⟨List.mem_of_getElem? (i := 571) (by decide +kernel), by decide +kernel⟩
theorem wd_501 : Cond.methodLink RX6 70 yJ7_fill_53178 ∈ gW := List.mem_filter.mpr ⟨List.mem_of_getElem? (i := 572) (by decide +kernel), by decide +kernel⟩
theorem wd_502 : Cond.methodLink RX6 90 yX0_has ∈ gW := List.mem_filter.mpr ⟨List.mem_of_getElem? (i := 573) (by decide +kernel), by decide +kernel⟩
theorem wd_503 : Cond.methodLink RX6 59 yX6_gatherLooks ∈ gW := List.mem_filter.mpr ⟨List.mem_of_getElem? (i := 574) (by decide +kernel), by decide +kernel⟩
theorem wd_505 : Cond.instanceMethod yX6_gatherLooks ∈ gW := List.mem_filter.mpr ⟨List.mem_of_getElem? (i := 576) (by decide +kernel), by decide +kernel⟩
theorem wd_506 : Cond.code yX6_gatherLooks cX6_gatherLooks 4 none ∈ gW := List.mem_filter.mpr ⟨List.mem_of_getElem? (i := 577) (by decide +kernel), by decide +kernel⟩
theorem wd_507 : Cond.methodLink RX6 99 yX4_size ∈ gW := List.mem_filter.mpr ⟨List.mem_of_getElem? (i := 578) (by decide +kernel), by decide +kernel⟩
theorem wd_508 : Cond.methodLink RX6 102 yX4_monthOf ∈ gW := List.mem_filter.mpr ⟨List.mem_of_getElem? (i := 579) (by decide +kernel), by decide +kernel⟩
theorem wd_509 : Cond.methodLink RX6 106 yX4_bushOf ∈ gW := List.mem_filter.mpr ⟨List.mem_of_getElem? (i := 580) (by decide +kernel), by decide +kernel⟩
theorem wd_510 : Cond.methodLink RX6 66 yX6_worthOf ∈ gW := List.mem_filter.mpr ⟨List.mem_of_getElem? (i := 581) (by decide +kernel), by decide +kernel⟩
theorem wd_512 : Cond.instanceMethod yX6_worthOf ∈ gW := List.mem_filter.mpr ⟨List.mem_of_getElem? (i := 583) (by decide +kernel), by decide +kernel⟩
theorem wd_513 : Cond.code yX6_worthOf cX6_worthOf 4 (some (.int)) ∈ gW := List.mem_filter.mpr ⟨List.mem_of_getElem? (i := 584) (by decide +kernel), by decide +kernel⟩
theorem wn_514 : Cond.methodLinkNest RX6 118 yX10_bit "GorseGold" ∈ gNest := List.mem_filter.mpr ⟨List.mem_of_getElem? (i := 585) (by decide +kernel), by decide +kernel⟩
theorem wd_515 : Cond.methodLink RX6 121 yX0_sparksOf ∈ gW := List.mem_filter.mpr ⟨List.mem_of_getElem? (i := 586) (by decide +kernel), by decide +kernel⟩
theorem wd_516 : Cond.methodLink RX6 62 yX6_behind ∈ gW := List.mem_filter.mpr ⟨List.mem_of_getElem? (i := 587) (by decide +kernel), by decide +kernel⟩
theorem wd_518 : Cond.instanceMethod yX6_behind ∈ gW := List.mem_filter.mpr ⟨List.mem_of_getElem? (i := 589) (by decide +kernel), by decide +kernel⟩
theorem wd_519 : Cond.code yX6_behind cX6_behind 7 (some (.int)) ∈ gW := List.mem_filter.mpr ⟨List.mem_of_getElem? (i := 590) (by decide +kernel), by decide +kernel⟩
theorem wd_520 : Cond.methodLink RX6 124 yX6_bounded ∈ gW := List.mem_filter.mpr ⟨List.mem_of_getElem? (i := 591) (by decide +kernel), by decide +kernel⟩
theorem wd_521 : Cond.static yX6_bounded ∈ gW := List.mem_filter.mpr ⟨List.mem_of_getElem? (i := 592) (by decide +kernel), by decide +kernel⟩
theorem wd_522 : Cond.code yX6_bounded cX6_bounded 1 (some (.int)) ∈ gW := List.mem_filter.mpr ⟨List.mem_of_getElem? (i := 593) (by decide +kernel), by decide +kernel⟩
theorem wd_523 : Cond.methodLink RX6 127 Lib.Math.min.name ∈ gW := List.mem_filter.mpr ⟨List.mem_of_getElem? (i := 594) (by decide +kernel), by decide +kernel⟩
theorem wd_524 : Cond.static Lib.Math.min.name ∈ gW := List.mem_filter.mpr ⟨List.mem_of_getElem? (i := 595) (by decide +kernel), by decide +kernel⟩
theorem wd_525 : Cond.code Lib.Math.min.name Lib.Math.min.code 2 (some .int) ∈ gW := List.mem_filter.mpr ⟨List.mem_of_getElem? (i := 596) (by decide +kernel), by decide +kernel⟩
theorem wd_526 : Cond.methodLink RX6 132 Lib.Math.max.name ∈ gW := List.mem_filter.mpr ⟨List.mem_of_getElem? (i := 597) (by decide +kernel), by decide +kernel⟩
theorem wd_527 : Cond.static Lib.Math.max.name ∈ gW := List.mem_filter.mpr ⟨List.mem_of_getElem? (i := 598) (by decide +kernel), by decide +kernel⟩
theorem wd_528 : Cond.code Lib.Math.max.name Lib.Math.max.code 2 (some .int) ∈ gW := List.mem_filter.mpr ⟨List.mem_of_getElem? (i := 599) (by decide +kernel), by decide +kernel⟩
theorem wd_529 : Cond.methodLink RX10 194 yX3_grow ∈ gW := List.mem_filter.mpr ⟨List.mem_of_getElem? (i := 600) (by decide +kernel), by decide +kernel⟩
theorem wd_530 : Cond.methodLink RX10 198 yX3_yellowIn ∈ gW := List.mem_filter.mpr ⟨List.mem_of_getElem? (i := 601) (by decide +kernel), by decide +kernel⟩
theorem wd_531 : Cond.instanceMethod yX3_yellowIn ∈ gW := List.mem_filter.mpr ⟨List.mem_of_getElem? (i := 602) (by decide +kernel), by decide +kernel⟩
theorem wd_532 : Cond.selects RX3 yX3_yellowIn yX3_yellowIn ∈ gW := List.mem_filter.mpr ⟨List.mem_of_getElem? (i := 603) (by decide +kernel), by decide +kernel⟩
theorem wd_533 : Cond.code yX3_yellowIn cX3_yellowIn 4 (some (.int)) ∈ gW := List.mem_filter.mpr ⟨List.mem_of_getElem? (i := 604) (by decide +kernel), by decide +kernel⟩
theorem wn_534 : Cond.methodLinkNest RX3 45 yX10_bit "GorseGold" ∈ gNest := List.mem_filter.mpr ⟨List.mem_of_getElem? (i := 605) (by decide +kernel), by decide +kernel⟩
theorem wd_535 : Cond.methodLink RX3 49 yX0_sparksOf ∈ gW := List.mem_filter.mpr ⟨List.mem_of_getElem? (i := 606) (by decide +kernel), by decide +kernel⟩
theorem wd_536 : Cond.methodLink RX10 201 yX3_seemingIn ∈ gW := List.mem_filter.mpr ⟨List.mem_of_getElem? (i := 607) (by decide +kernel), by decide +kernel⟩
theorem wd_537 : Cond.instanceMethod yX3_seemingIn ∈ gW := List.mem_filter.mpr ⟨List.mem_of_getElem? (i := 608) (by decide +kernel), by decide +kernel⟩
theorem wd_538 : Cond.selects RX3 yX3_seemingIn yX3_seemingIn ∈ gW := List.mem_filter.mpr ⟨List.mem_of_getElem? (i := 609) (by decide +kernel), by decide +kernel⟩
theorem wd_539 : Cond.code yX3_seemingIn cX3_seemingIn 4 (some (.int)) ∈ gW := List.mem_filter.mpr ⟨List.mem_of_getElem? (i := 610) (by decide +kernel), by decide +kernel⟩
theorem wd_540 : Cond.methodLink R_law 65 yX10_bare ∈ gW := List.mem_filter.mpr ⟨List.mem_of_getElem? (i := 611) (by decide +kernel), by decide +kernel⟩
theorem wd_541 : Cond.instanceMethod yX10_bare ∈ gW := List.mem_filter.mpr ⟨List.mem_of_getElem? (i := 612) (by decide +kernel), by decide +kernel⟩
theorem wd_542 : Cond.selects RX10 yX10_bare yX10_bare ∈ gW := List.mem_filter.mpr ⟨List.mem_of_getElem? (i := 613) (by decide +kernel), by decide +kernel⟩
theorem wd_543 : Cond.code yX10_bare cX10_bare 1 (some (.int)) ∈ gW := List.mem_filter.mpr ⟨List.mem_of_getElem? (i := 614) (by decide +kernel), by decide +kernel⟩
theorem wd_544 : Cond.methodLink R_law 69 yX10_run ∈ gW := List.mem_filter.mpr ⟨List.mem_of_getElem? (i := 615) (by decide +kernel), by decide +kernel⟩
theorem wd_545 : Cond.instanceMethod yX10_run ∈ gW := List.mem_filter.mpr ⟨List.mem_of_getElem? (i := 616) (by decide +kernel), by decide +kernel⟩
theorem wd_546 : Cond.selects RX10 yX10_run yX10_run ∈ gW := List.mem_filter.mpr ⟨List.mem_of_getElem? (i := 617) (by decide +kernel), by decide +kernel⟩
theorem wd_547 : Cond.code yX10_run cX10_run 1 (some (.int)) ∈ gW := List.mem_filter.mpr ⟨List.mem_of_getElem? (i := 618) (by decide +kernel), by decide +kernel⟩
theorem wd_548 : Cond.methodLink R_law 73 yX10_fake ∈ gW := List.mem_filter.mpr ⟨List.mem_of_getElem? (i := 619) (by decide +kernel), by decide +kernel⟩
theorem wd_549 : Cond.instanceMethod yX10_fake ∈ gW := List.mem_filter.mpr ⟨List.mem_of_getElem? (i := 620) (by decide +kernel), by decide +kernel⟩
theorem wd_550 : Cond.selects RX10 yX10_fake yX10_fake ∈ gW := List.mem_filter.mpr ⟨List.mem_of_getElem? (i := 621) (by decide +kernel), by decide +kernel⟩
theorem wd_551 : Cond.code yX10_fake cX10_fake 5 (some (.int)) ∈ gW := List.mem_filter.mpr ⟨List.mem_of_getElem? (i := 622) (by decide +kernel), by decide +kernel⟩
theorem wd_552 : Cond.methodLink R_law 77 yX10_last ∈ gW := List.mem_filter.mpr ⟨List.mem_of_getElem? (i := 623) (by decide +kernel), by decide +kernel⟩
theorem wd_553 : Cond.instanceMethod yX10_last ∈ gW := List.mem_filter.mpr ⟨List.mem_of_getElem? (i := 624) (by decide +kernel), by decide +kernel⟩
theorem wd_554 : Cond.selects RX10 yX10_last yX10_last ∈ gW := List.mem_filter.mpr ⟨List.mem_of_getElem? (i := 625) (by decide +kernel), by decide +kernel⟩
theorem wd_555 : Cond.code yX10_last cX10_last 6 (some (.int)) ∈ gW := List.mem_filter.mpr ⟨List.mem_of_getElem? (i := 626) (by decide +kernel), by decide +kernel⟩
theorem wd_556 : Cond.methodLink RX10 214 yX0_size ∈ gW := List.mem_filter.mpr ⟨List.mem_of_getElem? (i := 627) (by decide +kernel), by decide +kernel⟩
theorem wd_557 : Cond.methodLink RX10 215 yJ6_bitCount_0f7a4 ∈ gW := List.mem_filter.mpr ⟨List.mem_of_getElem? (i := 628) (by decide +kernel), by decide +kernel⟩
theorem wd_558 : Cond.static yJ6_bitCount_0f7a4 ∈ gW := List.mem_filter.mpr ⟨List.mem_of_getElem? (i := 629) (by decide +kernel), by decide +kernel⟩
theorem wd_559 : Cond.code yJ6_bitCount_0f7a4 cJ6_bitCount_0f7a4 1 (some (.int)) ∈ gW := List.mem_filter.mpr ⟨List.mem_of_getElem? (i := 630) (by decide +kernel), by decide +kernel⟩
theorem wd_560 : Cond.constant RJ6 265 1431655765 ∈ gW := List.mem_filter.mpr ⟨List.mem_of_getElem? (i := 631) (by decide +kernel), by decide +kernel⟩
theorem wd_561 : Cond.constant RJ6 266 858993459 ∈ gW := List.mem_filter.mpr ⟨List.mem_of_getElem? (i := 632) (by decide +kernel), by decide +kernel⟩
theorem wd_562 : Cond.constant RJ6 267 252645135 ∈ gW := List.mem_filter.mpr ⟨List.mem_of_getElem? (i := 633) (by decide +kernel), by decide +kernel⟩
theorem wd_563 : Cond.methodLink R_law 81 yX10_plant ∈ gW := List.mem_filter.mpr ⟨List.mem_of_getElem? (i := 634) (by decide +kernel), by decide +kernel⟩
theorem wd_564 : Cond.instanceMethod yX10_plant ∈ gW := List.mem_filter.mpr ⟨List.mem_of_getElem? (i := 635) (by decide +kernel), by decide +kernel⟩
theorem wd_565 : Cond.selects RX10 yX10_plant yX10_plant ∈ gW := List.mem_filter.mpr ⟨List.mem_of_getElem? (i := 636) (by decide +kernel), by decide +kernel⟩
theorem wd_566 : Cond.code yX10_plant cX10_plant 7 (some (.int)) ∈ gW := List.mem_filter.mpr ⟨List.mem_of_getElem? (i := 637) (by decide +kernel), by decide +kernel⟩
theorem wd_567 : Cond.methodLink RX10 220 yX10_bareIfPlanted ∈ gW := List.mem_filter.mpr ⟨List.mem_of_getElem? (i := 638) (by decide +kernel), by decide +kernel⟩
theorem wd_569 : Cond.instanceMethod yX10_bareIfPlanted ∈ gW := List.mem_filter.mpr ⟨List.mem_of_getElem? (i := 640) (by decide +kernel), by decide +kernel⟩
theorem wd_570 : Cond.code yX10_bareIfPlanted cX10_bareIfPlanted 4 (some (.int)) ∈ gW := List.mem_filter.mpr ⟨List.mem_of_getElem? (i := 641) (by decide +kernel), by decide +kernel⟩
theorem wd_571 : Cond.methodLink R_law 85 yX10_send ∈ gW := List.mem_filter.mpr ⟨List.mem_of_getElem? (i := 642) (by decide +kernel), by decide +kernel⟩
theorem wd_572 : Cond.instanceMethod yX10_send ∈ gW := List.mem_filter.mpr ⟨List.mem_of_getElem? (i := 643) (by decide +kernel), by decide +kernel⟩
theorem wd_573 : Cond.selects RX10 yX10_send yX10_send ∈ gW := List.mem_filter.mpr ⟨List.mem_of_getElem? (i := 644) (by decide +kernel), by decide +kernel⟩
theorem wd_574 : Cond.code yX10_send cX10_send 5 (some (.int)) ∈ gW := List.mem_filter.mpr ⟨List.mem_of_getElem? (i := 645) (by decide +kernel), by decide +kernel⟩
theorem wd_575 : Cond.methodLink RX10 223 yX10_bestSend ∈ gW := List.mem_filter.mpr ⟨List.mem_of_getElem? (i := 646) (by decide +kernel), by decide +kernel⟩
theorem wd_577 : Cond.instanceMethod yX10_bestSend ∈ gW := List.mem_filter.mpr ⟨List.mem_of_getElem? (i := 648) (by decide +kernel), by decide +kernel⟩
theorem wd_578 : Cond.code yX10_bestSend cX10_bestSend 6 (some (.int)) ∈ gW := List.mem_filter.mpr ⟨List.mem_of_getElem? (i := 649) (by decide +kernel), by decide +kernel⟩
theorem wd_579 : Cond.methodLink RX10 226 yX6_runWith ∈ gW := List.mem_filter.mpr ⟨List.mem_of_getElem? (i := 650) (by decide +kernel), by decide +kernel⟩
theorem wd_580 : Cond.instanceMethod yX6_runWith ∈ gW := List.mem_filter.mpr ⟨List.mem_of_getElem? (i := 651) (by decide +kernel), by decide +kernel⟩
theorem wd_581 : Cond.selects RX6 yX6_runWith yX6_runWith ∈ gW := List.mem_filter.mpr ⟨List.mem_of_getElem? (i := 652) (by decide +kernel), by decide +kernel⟩
theorem wd_582 : Cond.code yX6_runWith cX6_runWith 6 (some (.int)) ∈ gW := List.mem_filter.mpr ⟨List.mem_of_getElem? (i := 653) (by decide +kernel), by decide +kernel⟩
theorem wd_583 : Cond.methodLink R_law 89 yX10_save ∈ gW := List.mem_filter.mpr ⟨List.mem_of_getElem? (i := 654) (by decide +kernel), by decide +kernel⟩
theorem wd_584 : Cond.instanceMethod yX10_save ∈ gW := List.mem_filter.mpr ⟨List.mem_of_getElem? (i := 655) (by decide +kernel), by decide +kernel⟩
theorem wd_585 : Cond.selects RX10 yX10_save yX10_save ∈ gW := List.mem_filter.mpr ⟨List.mem_of_getElem? (i := 656) (by decide +kernel), by decide +kernel⟩
theorem wd_586 : Cond.code yX10_save cX10_save 3 (some (.int)) ∈ gW := List.mem_filter.mpr ⟨List.mem_of_getElem? (i := 657) (by decide +kernel), by decide +kernel⟩
theorem wd_587 : Cond.methodLink RX10 229 yX10_fewestToLose ∈ gW := List.mem_filter.mpr ⟨List.mem_of_getElem? (i := 658) (by decide +kernel), by decide +kernel⟩
theorem wd_589 : Cond.instanceMethod yX10_fewestToLose ∈ gW := List.mem_filter.mpr ⟨List.mem_of_getElem? (i := 660) (by decide +kernel), by decide +kernel⟩
theorem wd_590 : Cond.code yX10_fewestToLose cX10_fewestToLose 3 (some (.int)) ∈ gW := List.mem_filter.mpr ⟨List.mem_of_getElem? (i := 661) (by decide +kernel), by decide +kernel⟩
theorem wd_591 : Cond.methodLink RX10 232 yX10_placeOfBit ∈ gW := List.mem_filter.mpr ⟨List.mem_of_getElem? (i := 662) (by decide +kernel), by decide +kernel⟩
theorem wd_592 : Cond.static yX10_placeOfBit ∈ gW := List.mem_filter.mpr ⟨List.mem_of_getElem? (i := 663) (by decide +kernel), by decide +kernel⟩
theorem wd_593 : Cond.code yX10_placeOfBit cX10_placeOfBit 4 (some (.int)) ∈ gW := List.mem_filter.mpr ⟨List.mem_of_getElem? (i := 664) (by decide +kernel), by decide +kernel⟩
theorem wd_594 : Cond.methodLink R_law 93 yX10_deal ∈ gW := List.mem_filter.mpr ⟨List.mem_of_getElem? (i := 665) (by decide +kernel), by decide +kernel⟩
theorem wd_595 : Cond.instanceMethod yX10_deal ∈ gW := List.mem_filter.mpr ⟨List.mem_of_getElem? (i := 666) (by decide +kernel), by decide +kernel⟩
theorem wd_596 : Cond.selects RX10 yX10_deal yX10_deal ∈ gW := List.mem_filter.mpr ⟨List.mem_of_getElem? (i := 667) (by decide +kernel), by decide +kernel⟩
theorem wd_597 : Cond.code yX10_deal cX10_deal 5 (some (.int)) ∈ gW := List.mem_filter.mpr ⟨List.mem_of_getElem? (i := 668) (by decide +kernel), by decide +kernel⟩
theorem wd_598 : Cond.methodLink RX10 235 yX10_bestDeal ∈ gW := List.mem_filter.mpr ⟨List.mem_of_getElem? (i := 669) (by decide +kernel), by decide +kernel⟩
theorem wd_600 : Cond.instanceMethod yX10_bestDeal ∈ gW := List.mem_filter.mpr ⟨List.mem_of_getElem? (i := 671) (by decide +kernel), by decide +kernel⟩
theorem wd_601 : Cond.code yX10_bestDeal cX10_bestDeal 6 (some (.int)) ∈ gW := List.mem_filter.mpr ⟨List.mem_of_getElem? (i := 672) (by decide +kernel), by decide +kernel⟩
theorem wd_602 : Cond.methodLink R_law 97 yX10_seen ∈ gW := List.mem_filter.mpr ⟨List.mem_of_getElem? (i := 673) (by decide +kernel), by decide +kernel⟩
theorem wd_603 : Cond.instanceMethod yX10_seen ∈ gW := List.mem_filter.mpr ⟨List.mem_of_getElem? (i := 674) (by decide +kernel), by decide +kernel⟩
theorem wd_604 : Cond.selects RX10 yX10_seen yX10_seen ∈ gW := List.mem_filter.mpr ⟨List.mem_of_getElem? (i := 675) (by decide +kernel), by decide +kernel⟩
theorem wd_605 : Cond.code yX10_seen cX10_seen 4 (some (.int)) ∈ gW := List.mem_filter.mpr ⟨List.mem_of_getElem? (i := 676) (by decide +kernel), by decide +kernel⟩
theorem wd_606 : Cond.methodLink RX10 238 yX7_add ∈ gW := List.mem_filter.mpr ⟨List.mem_of_getElem? (i := 677) (by decide +kernel), by decide +kernel⟩
theorem wd_607 : Cond.instanceMethod yX7_add ∈ gW := List.mem_filter.mpr ⟨List.mem_of_getElem? (i := 678) (by decide +kernel), by decide +kernel⟩
theorem wd_608 : Cond.selects RX7 yX7_add yX7_add ∈ gW := List.mem_filter.mpr ⟨List.mem_of_getElem? (i := 679) (by decide +kernel), by decide +kernel⟩
theorem wd_609 : Cond.code yX7_add cX7_add 4 (some (.int)) ∈ gW := List.mem_filter.mpr ⟨List.mem_of_getElem? (i := 680) (by decide +kernel), by decide +kernel⟩
theorem wd_610 : Cond.methodLink R_law 101 yX10_forget ∈ gW := List.mem_filter.mpr ⟨List.mem_of_getElem? (i := 681) (by decide +kernel), by decide +kernel⟩
theorem wd_611 : Cond.instanceMethod yX10_forget ∈ gW := List.mem_filter.mpr ⟨List.mem_of_getElem? (i := 682) (by decide +kernel), by decide +kernel⟩
theorem wd_612 : Cond.selects RX10 yX10_forget yX10_forget ∈ gW := List.mem_filter.mpr ⟨List.mem_of_getElem? (i := 683) (by decide +kernel), by decide +kernel⟩
theorem wd_613 : Cond.code yX10_forget cX10_forget 1 (some (.int)) ∈ gW := List.mem_filter.mpr ⟨List.mem_of_getElem? (i := 684) (by decide +kernel), by decide +kernel⟩
theorem wd_614 : Cond.methodLink RX10 239 yX7_clear ∈ gW := List.mem_filter.mpr ⟨List.mem_of_getElem? (i := 685) (by decide +kernel), by decide +kernel⟩
theorem wd_615 : Cond.instanceMethod yX7_clear ∈ gW := List.mem_filter.mpr ⟨List.mem_of_getElem? (i := 686) (by decide +kernel), by decide +kernel⟩
theorem wd_616 : Cond.selects RX7 yX7_clear yX7_clear ∈ gW := List.mem_filter.mpr ⟨List.mem_of_getElem? (i := 687) (by decide +kernel), by decide +kernel⟩
theorem wd_617 : Cond.code yX7_clear cX7_clear 2 (some (.int)) ∈ gW := List.mem_filter.mpr ⟨List.mem_of_getElem? (i := 688) (by decide +kernel), by decide +kernel⟩
theorem wd_618 : Cond.methodLink R_law 105 yX10_never ∈ gW := List.mem_filter.mpr ⟨List.mem_of_getElem? (i := 689) (by decide +kernel), by decide +kernel⟩
theorem wd_619 : Cond.instanceMethod yX10_never ∈ gW := List.mem_filter.mpr ⟨List.mem_of_getElem? (i := 690) (by decide +kernel), by decide +kernel⟩
theorem wd_620 : Cond.selects RX10 yX10_never yX10_never ∈ gW := List.mem_filter.mpr ⟨List.mem_of_getElem? (i := 691) (by decide +kernel), by decide +kernel⟩
theorem wd_621 : Cond.code yX10_never cX10_never 3 (some (.int)) ∈ gW := List.mem_filter.mpr ⟨List.mem_of_getElem? (i := 692) (by decide +kernel), by decide +kernel⟩
theorem wd_622 : Cond.methodLink RX10 240 yX7_comeOut ∈ gW := List.mem_filter.mpr ⟨List.mem_of_getElem? (i := 693) (by decide +kernel), by decide +kernel⟩
theorem wd_623 : Cond.instanceMethod yX7_comeOut ∈ gW := List.mem_filter.mpr ⟨List.mem_of_getElem? (i := 694) (by decide +kernel), by decide +kernel⟩
theorem wd_624 : Cond.selects RX7 yX7_comeOut yX7_comeOut ∈ gW := List.mem_filter.mpr ⟨List.mem_of_getElem? (i := 695) (by decide +kernel), by decide +kernel⟩
theorem wd_625 : Cond.code yX7_comeOut cX7_comeOut 4 (some (.boolean)) ∈ gW := List.mem_filter.mpr ⟨List.mem_of_getElem? (i := 696) (by decide +kernel), by decide +kernel⟩
theorem wd_626 : Cond.methodLink RX7 30 yX0_has ∈ gW := List.mem_filter.mpr ⟨List.mem_of_getElem? (i := 697) (by decide +kernel), by decide +kernel⟩
theorem wd_627 : Cond.methodLink RX7 40 yX1_stateIn ∈ gW := List.mem_filter.mpr ⟨List.mem_of_getElem? (i := 698) (by decide +kernel), by decide +kernel⟩
theorem wd_628 : Cond.methodLink R_law 109 yX10_was ∈ gW := List.mem_filter.mpr ⟨List.mem_of_getElem? (i := 699) (by decide +kernel), by decide +kernel⟩
theorem wd_629 : Cond.instanceMethod yX10_was ∈ gW := List.mem_filter.mpr ⟨List.mem_of_getElem? (i := 700) (by decide +kernel), by decide +kernel⟩
theorem wd_630 : Cond.selects RX10 yX10_was yX10_was ∈ gW := List.mem_filter.mpr ⟨List.mem_of_getElem? (i := 701) (by decide +kernel), by decide +kernel⟩
theorem wd_631 : Cond.code yX10_was cX10_was 3 (some (.int)) ∈ gW := List.mem_filter.mpr ⟨List.mem_of_getElem? (i := 702) (by decide +kernel), by decide +kernel⟩
theorem wd_632 : Cond.methodLink RX10 244 yX10_beginsThatFit ∈ gW := List.mem_filter.mpr ⟨List.mem_of_getElem? (i := 703) (by decide +kernel), by decide +kernel⟩
theorem wd_634 : Cond.instanceMethod yX10_beginsThatFit ∈ gW := List.mem_filter.mpr ⟨List.mem_of_getElem? (i := 705) (by decide +kernel), by decide +kernel⟩
theorem wd_635 : Cond.code yX10_beginsThatFit cX10_beginsThatFit 6 (some (.int)) ∈ gW := List.mem_filter.mpr ⟨List.mem_of_getElem? (i := 706) (by decide +kernel), by decide +kernel⟩
theorem wd_636 : Cond.methodLink RX10 400 yX1_beginIn ∈ gW := List.mem_filter.mpr ⟨List.mem_of_getElem? (i := 707) (by decide +kernel), by decide +kernel⟩
theorem wd_637 : Cond.methodLink RX10 247 yX10_kindsThatFit ∈ gW := List.mem_filter.mpr ⟨List.mem_of_getElem? (i := 708) (by decide +kernel), by decide +kernel⟩
theorem wd_639 : Cond.instanceMethod yX10_kindsThatFit ∈ gW := List.mem_filter.mpr ⟨List.mem_of_getElem? (i := 710) (by decide +kernel), by decide +kernel⟩
theorem wd_640 : Cond.code yX10_kindsThatFit cX10_kindsThatFit 5 (some (.int)) ∈ gW := List.mem_filter.mpr ⟨List.mem_of_getElem? (i := 711) (by decide +kernel), by decide +kernel⟩
theorem wd_641 : Cond.methodLink R_law 113 yX10_ask ∈ gW := List.mem_filter.mpr ⟨List.mem_of_getElem? (i := 712) (by decide +kernel), by decide +kernel⟩
theorem wd_642 : Cond.instanceMethod yX10_ask ∈ gW := List.mem_filter.mpr ⟨List.mem_of_getElem? (i := 713) (by decide +kernel), by decide +kernel⟩
theorem wd_643 : Cond.selects RX10 yX10_ask yX10_ask ∈ gW := List.mem_filter.mpr ⟨List.mem_of_getElem? (i := 714) (by decide +kernel), by decide +kernel⟩
theorem wd_644 : Cond.code yX10_ask cX10_ask 7 (some (.int)) ∈ gW := List.mem_filter.mpr ⟨List.mem_of_getElem? (i := 715) (by decide +kernel), by decide +kernel⟩
theorem wd_645 : Cond.methodLink RX10 250 yX10_greatestAlike ∈ gW := List.mem_filter.mpr ⟨List.mem_of_getElem? (i := 716) (by decide +kernel), by decide +kernel⟩
theorem wd_647 : Cond.instanceMethod yX10_greatestAlike ∈ gW := List.mem_filter.mpr ⟨List.mem_of_getElem? (i := 718) (by decide +kernel), by decide +kernel⟩
theorem wd_648 : Cond.code yX10_greatestAlike cX10_greatestAlike 9 (some (.int)) ∈ gW := List.mem_filter.mpr ⟨List.mem_of_getElem? (i := 719) (by decide +kernel), by decide +kernel⟩
theorem wd_649 : Cond.methodLink RX10 403 yJ7_fill_53178 ∈ gW := List.mem_filter.mpr ⟨List.mem_of_getElem? (i := 720) (by decide +kernel), by decide +kernel⟩
theorem wd_650 : Cond.methodLink RX10 409 Lib.Math.max.name ∈ gW := List.mem_filter.mpr ⟨List.mem_of_getElem? (i := 721) (by decide +kernel), by decide +kernel⟩
theorem wd_651 : Cond.methodLink R_law 117 yX10_luck ∈ gW := List.mem_filter.mpr ⟨List.mem_of_getElem? (i := 722) (by decide +kernel), by decide +kernel⟩
theorem wd_652 : Cond.instanceMethod yX10_luck ∈ gW := List.mem_filter.mpr ⟨List.mem_of_getElem? (i := 723) (by decide +kernel), by decide +kernel⟩
theorem wd_653 : Cond.selects RX10 yX10_luck yX10_luck ∈ gW := List.mem_filter.mpr ⟨List.mem_of_getElem? (i := 724) (by decide +kernel), by decide +kernel⟩
theorem wd_654 : Cond.code yX10_luck cX10_luck 9 (some (.long)) ∈ gW := List.mem_filter.mpr ⟨List.mem_of_getElem? (i := 725) (by decide +kernel), by decide +kernel⟩
theorem wd_655 : Cond.constantLong RX10 253 (-9223372036854775806) ∈ gW := List.mem_filter.mpr ⟨List.mem_of_getElem? (i := 726) (by decide +kernel), by decide +kernel⟩
theorem wd_656 : Cond.methodLink RX10 255 yX10_bareShares ∈ gW := List.mem_filter.mpr ⟨List.mem_of_getElem? (i := 727) (by decide +kernel), by decide +kernel⟩
theorem wd_658 : Cond.instanceMethod yX10_bareShares ∈ gW := List.mem_filter.mpr ⟨List.mem_of_getElem? (i := 729) (by decide +kernel), by decide +kernel⟩
theorem wd_659 : Cond.code yX10_bareShares cX10_bareShares 7 (some (.long)) ∈ gW := List.mem_filter.mpr ⟨List.mem_of_getElem? (i := 730) (by decide +kernel), by decide +kernel⟩
theorem wd_660 : Cond.methodLink RX10 412 yX10_gatherHinderers ∈ gW := List.mem_filter.mpr ⟨List.mem_of_getElem? (i := 731) (by decide +kernel), by decide +kernel⟩
theorem wd_662 : Cond.instanceMethod yX10_gatherHinderers ∈ gW := List.mem_filter.mpr ⟨List.mem_of_getElem? (i := 733) (by decide +kernel), by decide +kernel⟩
theorem wd_663 : Cond.code yX10_gatherHinderers cX10_gatherHinderers 4 (some (.int)) ∈ gW := List.mem_filter.mpr ⟨List.mem_of_getElem? (i := 734) (by decide +kernel), by decide +kernel⟩
theorem wd_664 : Cond.methodLink RX10 424 yX2_hindering ∈ gW := List.mem_filter.mpr ⟨List.mem_of_getElem? (i := 735) (by decide +kernel), by decide +kernel⟩
theorem wd_665 : Cond.instanceMethod yX2_hindering ∈ gW := List.mem_filter.mpr ⟨List.mem_of_getElem? (i := 736) (by decide +kernel), by decide +kernel⟩
theorem wd_666 : Cond.selects RX2 yX2_hindering yX2_hindering ∈ gW := List.mem_filter.mpr ⟨List.mem_of_getElem? (i := 737) (by decide +kernel), by decide +kernel⟩
theorem wd_667 : Cond.code yX2_hindering cX2_hindering 6 (some (.int)) ∈ gW := List.mem_filter.mpr ⟨List.mem_of_getElem? (i := 738) (by decide +kernel), by decide +kernel⟩
theorem wd_668 : Cond.methodLink RX2 29 yX2_holding ∈ gW := List.mem_filter.mpr ⟨List.mem_of_getElem? (i := 739) (by decide +kernel), by decide +kernel⟩
theorem wn_669 : Cond.methodLinkNest RX2 33 yX10_bit "GorseGold" ∈ gNest := List.mem_filter.mpr ⟨List.mem_of_getElem? (i := 740) (by decide +kernel), by decide +kernel⟩
theorem wd_670 : Cond.methodLink RX10 415 yX10_hindersAll ∈ gW := List.mem_filter.mpr ⟨List.mem_of_getElem? (i := 741) (by decide +kernel), by decide +kernel⟩
theorem wd_672 : Cond.instanceMethod yX10_hindersAll ∈ gW := List.mem_filter.mpr ⟨List.mem_of_getElem? (i := 743) (by decide +kernel), by decide +kernel⟩
theorem wd_673 : Cond.code yX10_hindersAll cX10_hindersAll 4 (some (.boolean)) ∈ gW := List.mem_filter.mpr ⟨List.mem_of_getElem? (i := 744) (by decide +kernel), by decide +kernel⟩
theorem wd_674 : Cond.methodLink RX10 418 yX10_shareOf ∈ gW := List.mem_filter.mpr ⟨List.mem_of_getElem? (i := 745) (by decide +kernel), by decide +kernel⟩
theorem wd_676 : Cond.instanceMethod yX10_shareOf ∈ gW := List.mem_filter.mpr ⟨List.mem_of_getElem? (i := 747) (by decide +kernel), by decide +kernel⟩
theorem wd_677 : Cond.code yX10_shareOf cX10_shareOf 6 (some (.long)) ∈ gW := List.mem_filter.mpr ⟨List.mem_of_getElem? (i := 748) (by decide +kernel), by decide +kernel⟩
theorem wd_678 : Cond.methodLink R_law 122 yX10_century ∈ gW := List.mem_filter.mpr ⟨List.mem_of_getElem? (i := 749) (by decide +kernel), by decide +kernel⟩
theorem wd_679 : Cond.instanceMethod yX10_century ∈ gW := List.mem_filter.mpr ⟨List.mem_of_getElem? (i := 750) (by decide +kernel), by decide +kernel⟩
theorem wd_680 : Cond.selects RX10 yX10_century yX10_century ∈ gW := List.mem_filter.mpr ⟨List.mem_of_getElem? (i := 751) (by decide +kernel), by decide +kernel⟩
theorem wd_681 : Cond.code yX10_century cX10_century 4 (some (.int)) ∈ gW := List.mem_filter.mpr ⟨List.mem_of_getElem? (i := 752) (by decide +kernel), by decide +kernel⟩
theorem wd_682 : Cond.methodLink RX10 259 yX10_drawEvents ∈ gW := List.mem_filter.mpr ⟨List.mem_of_getElem? (i := 753) (by decide +kernel), by decide +kernel⟩
theorem wd_684 : Cond.instanceMethod yX10_drawEvents ∈ gW := List.mem_filter.mpr ⟨List.mem_of_getElem? (i := 755) (by decide +kernel), by decide +kernel⟩
theorem wd_685 : Cond.code yX10_drawEvents cX10_drawEvents 7 none ∈ gW := List.mem_filter.mpr ⟨List.mem_of_getElem? (i := 756) (by decide +kernel), by decide +kernel⟩
theorem wd_686 : Cond.methodLink RX10 427 yX2_clear ∈ gW := List.mem_filter.mpr ⟨List.mem_of_getElem? (i := 757) (by decide +kernel), by decide +kernel⟩
theorem wd_687 : Cond.instanceMethod yX2_clear ∈ gW := List.mem_filter.mpr ⟨List.mem_of_getElem? (i := 758) (by decide +kernel), by decide +kernel⟩
theorem wd_688 : Cond.selects RX2 yX2_clear yX2_clear ∈ gW := List.mem_filter.mpr ⟨List.mem_of_getElem? (i := 759) (by decide +kernel), by decide +kernel⟩
theorem wd_689 : Cond.code yX2_clear cX2_clear 1 none ∈ gW := List.mem_filter.mpr ⟨List.mem_of_getElem? (i := 760) (by decide +kernel), by decide +kernel⟩
theorem wd_690 : Cond.methodLink RX10 432 yX5_draw ∈ gW := List.mem_filter.mpr ⟨List.mem_of_getElem? (i := 761) (by decide +kernel), by decide +kernel⟩
theorem wd_691 : Cond.instanceMethod yX5_draw ∈ gW := List.mem_filter.mpr ⟨List.mem_of_getElem? (i := 762) (by decide +kernel), by decide +kernel⟩
theorem wd_692 : Cond.selects RX5 yX5_draw yX5_draw ∈ gW := List.mem_filter.mpr ⟨List.mem_of_getElem? (i := 763) (by decide +kernel), by decide +kernel⟩
theorem wd_693 : Cond.code yX5_draw cX5_draw 2 (some (.int)) ∈ gW := List.mem_filter.mpr ⟨List.mem_of_getElem? (i := 764) (by decide +kernel), by decide +kernel⟩
theorem wd_694 : Cond.constant RX5 13 1103515245 ∈ gW := List.mem_filter.mpr ⟨List.mem_of_getElem? (i := 765) (by decide +kernel), by decide +kernel⟩
theorem wd_695 : Cond.methodLink R_law 126 yX10_sheet ∈ gW := List.mem_filter.mpr ⟨List.mem_of_getElem? (i := 766) (by decide +kernel), by decide +kernel⟩
theorem wd_696 : Cond.instanceMethod yX10_sheet ∈ gW := List.mem_filter.mpr ⟨List.mem_of_getElem? (i := 767) (by decide +kernel), by decide +kernel⟩
theorem wd_697 : Cond.selects RX10 yX10_sheet yX10_sheet ∈ gW := List.mem_filter.mpr ⟨List.mem_of_getElem? (i := 768) (by decide +kernel), by decide +kernel⟩
theorem wd_698 : Cond.code yX10_sheet cX10_sheet 4 (some (.int)) ∈ gW := List.mem_filter.mpr ⟨List.mem_of_getElem? (i := 769) (by decide +kernel), by decide +kernel⟩
theorem wd_699 : Cond.methodLink RX10 263 yX10_isForm ∈ gW := List.mem_filter.mpr ⟨List.mem_of_getElem? (i := 770) (by decide +kernel), by decide +kernel⟩
theorem wd_700 : Cond.static yX10_isForm ∈ gW := List.mem_filter.mpr ⟨List.mem_of_getElem? (i := 771) (by decide +kernel), by decide +kernel⟩
theorem wd_701 : Cond.code yX10_isForm cX10_isForm 1 (some (.boolean)) ∈ gW := List.mem_filter.mpr ⟨List.mem_of_getElem? (i := 772) (by decide +kernel), by decide +kernel⟩
theorem wd_702 : Cond.methodLink RX10 266 yX8_renew ∈ gW := List.mem_filter.mpr ⟨List.mem_of_getElem? (i := 773) (by decide +kernel), by decide +kernel⟩
theorem wd_703 : Cond.instanceMethod yX8_renew ∈ gW := List.mem_filter.mpr ⟨List.mem_of_getElem? (i := 774) (by decide +kernel), by decide +kernel⟩
theorem wd_704 : Cond.selects RX8 yX8_renew yX8_renew ∈ gW := List.mem_filter.mpr ⟨List.mem_of_getElem? (i := 775) (by decide +kernel), by decide +kernel⟩
theorem wd_705 : Cond.code yX8_renew cX8_renew 3 none ∈ gW := List.mem_filter.mpr ⟨List.mem_of_getElem? (i := 776) (by decide +kernel), by decide +kernel⟩
theorem wd_706 : Cond.methodLink RX8 22 yJ7_fill_53178 ∈ gW := List.mem_filter.mpr ⟨List.mem_of_getElem? (i := 777) (by decide +kernel), by decide +kernel⟩
theorem wd_707 : Cond.methodLink R_law 130 yX10_lose ∈ gW := List.mem_filter.mpr ⟨List.mem_of_getElem? (i := 778) (by decide +kernel), by decide +kernel⟩
theorem wd_708 : Cond.instanceMethod yX10_lose ∈ gW := List.mem_filter.mpr ⟨List.mem_of_getElem? (i := 779) (by decide +kernel), by decide +kernel⟩
theorem wd_709 : Cond.selects RX10 yX10_lose yX10_lose ∈ gW := List.mem_filter.mpr ⟨List.mem_of_getElem? (i := 780) (by decide +kernel), by decide +kernel⟩
theorem wd_710 : Cond.code yX10_lose cX10_lose 2 (some (.int)) ∈ gW := List.mem_filter.mpr ⟨List.mem_of_getElem? (i := 781) (by decide +kernel), by decide +kernel⟩
theorem wd_711 : Cond.methodLink RX10 269 yX8_discard ∈ gW := List.mem_filter.mpr ⟨List.mem_of_getElem? (i := 782) (by decide +kernel), by decide +kernel⟩
theorem wd_712 : Cond.instanceMethod yX8_discard ∈ gW := List.mem_filter.mpr ⟨List.mem_of_getElem? (i := 783) (by decide +kernel), by decide +kernel⟩
theorem wd_713 : Cond.selects RX8 yX8_discard yX8_discard ∈ gW := List.mem_filter.mpr ⟨List.mem_of_getElem? (i := 784) (by decide +kernel), by decide +kernel⟩
theorem wd_714 : Cond.code yX8_discard cX8_discard 2 (some (.int)) ∈ gW := List.mem_filter.mpr ⟨List.mem_of_getElem? (i := 785) (by decide +kernel), by decide +kernel⟩
theorem wd_715 : Cond.methodLink R_law 134 yX10_lay ∈ gW := List.mem_filter.mpr ⟨List.mem_of_getElem? (i := 786) (by decide +kernel), by decide +kernel⟩
theorem wd_716 : Cond.instanceMethod yX10_lay ∈ gW := List.mem_filter.mpr ⟨List.mem_of_getElem? (i := 787) (by decide +kernel), by decide +kernel⟩
theorem wd_717 : Cond.selects RX10 yX10_lay yX10_lay ∈ gW := List.mem_filter.mpr ⟨List.mem_of_getElem? (i := 788) (by decide +kernel), by decide +kernel⟩
theorem wd_718 : Cond.code yX10_lay cX10_lay 6 (some (.int)) ∈ gW := List.mem_filter.mpr ⟨List.mem_of_getElem? (i := 789) (by decide +kernel), by decide +kernel⟩
theorem wd_719 : Cond.methodLink RX10 272 yX10_findingOfItem ∈ gW := List.mem_filter.mpr ⟨List.mem_of_getElem? (i := 790) (by decide +kernel), by decide +kernel⟩
theorem wd_720 : Cond.static yX10_findingOfItem ∈ gW := List.mem_filter.mpr ⟨List.mem_of_getElem? (i := 791) (by decide +kernel), by decide +kernel⟩
theorem wd_721 : Cond.code yX10_findingOfItem cX10_findingOfItem 3 (some (.int)) ∈ gW := List.mem_filter.mpr ⟨List.mem_of_getElem? (i := 792) (by decide +kernel), by decide +kernel⟩
theorem wd_722 : Cond.methodLink RX10 282 yX8_hasItems ∈ gW := List.mem_filter.mpr ⟨List.mem_of_getElem? (i := 793) (by decide +kernel), by decide +kernel⟩
theorem wd_723 : Cond.methodLink RX10 276 yX8_put ∈ gW := List.mem_filter.mpr ⟨List.mem_of_getElem? (i := 794) (by decide +kernel), by decide +kernel⟩
theorem wd_724 : Cond.instanceMethod yX8_put ∈ gW := List.mem_filter.mpr ⟨List.mem_of_getElem? (i := 795) (by decide +kernel), by decide +kernel⟩
theorem wd_725 : Cond.selects RX8 yX8_put yX8_put ∈ gW := List.mem_filter.mpr ⟨List.mem_of_getElem? (i := 796) (by decide +kernel), by decide +kernel⟩
theorem wd_726 : Cond.code yX8_put cX8_put 3 none ∈ gW := List.mem_filter.mpr ⟨List.mem_of_getElem? (i := 797) (by decide +kernel), by decide +kernel⟩
theorem wd_727 : Cond.methodLink RX8 32 yX8_narrowed ∈ gW := List.mem_filter.mpr ⟨List.mem_of_getElem? (i := 798) (by decide +kernel), by decide +kernel⟩
theorem wd_729 : Cond.instanceMethod yX8_narrowed ∈ gW := List.mem_filter.mpr ⟨List.mem_of_getElem? (i := 800) (by decide +kernel), by decide +kernel⟩
theorem wd_730 : Cond.code yX8_narrowed cX8_narrowed 2 (some (.int)) ∈ gW := List.mem_filter.mpr ⟨List.mem_of_getElem? (i := 801) (by decide +kernel), by decide +kernel⟩
theorem wd_731 : Cond.methodLink R_law 139 yX10_get ∈ gW := List.mem_filter.mpr ⟨List.mem_of_getElem? (i := 802) (by decide +kernel), by decide +kernel⟩
theorem wd_732 : Cond.instanceMethod yX10_get ∈ gW := List.mem_filter.mpr ⟨List.mem_of_getElem? (i := 803) (by decide +kernel), by decide +kernel⟩
theorem wd_733 : Cond.selects RX10 yX10_get yX10_get ∈ gW := List.mem_filter.mpr ⟨List.mem_of_getElem? (i := 804) (by decide +kernel), by decide +kernel⟩
theorem wd_734 : Cond.code yX10_get cX10_get 5 (some (.int)) ∈ gW := List.mem_filter.mpr ⟨List.mem_of_getElem? (i := 805) (by decide +kernel), by decide +kernel⟩
theorem wd_735 : Cond.constant RX10 278 (-2147483648) ∈ gW := List.mem_filter.mpr ⟨List.mem_of_getElem? (i := 806) (by decide +kernel), by decide +kernel⟩
theorem wd_736 : Cond.methodLink R_law 143 yX10_copy ∈ gW := List.mem_filter.mpr ⟨List.mem_of_getElem? (i := 807) (by decide +kernel), by decide +kernel⟩
theorem wd_737 : Cond.instanceMethod yX10_copy ∈ gW := List.mem_filter.mpr ⟨List.mem_of_getElem? (i := 808) (by decide +kernel), by decide +kernel⟩
theorem wd_738 : Cond.selects RX10 yX10_copy yX10_copy ∈ gW := List.mem_filter.mpr ⟨List.mem_of_getElem? (i := 809) (by decide +kernel), by decide +kernel⟩
theorem wd_739 : Cond.code yX10_copy cX10_copy 8 (some (.int)) ∈ gW := List.mem_filter.mpr ⟨List.mem_of_getElem? (i := 810) (by decide +kernel), by decide +kernel⟩
theorem wd_740 : Cond.methodLink RX10 289 arraycopyName ∈ gW := List.mem_filter.mpr ⟨List.mem_of_getElem? (i := 811) (by decide +kernel), by decide +kernel⟩
theorem wd_741 : Cond.static arraycopyName ∈ gW := List.mem_filter.mpr ⟨List.mem_of_getElem? (i := 812) (by decide +kernel), by decide +kernel⟩
theorem wd_742 : Cond.native arraycopyName ∈ gW := List.mem_filter.mpr ⟨List.mem_of_getElem? (i := 813) (by decide +kernel), by decide +kernel⟩
theorem wd_743 : Cond.methodLink R_law 148 yX10_write ∈ gW := List.mem_filter.mpr ⟨List.mem_of_getElem? (i := 814) (by decide +kernel), by decide +kernel⟩
theorem wd_744 : Cond.instanceMethod yX10_write ∈ gW := List.mem_filter.mpr ⟨List.mem_of_getElem? (i := 815) (by decide +kernel), by decide +kernel⟩
theorem wd_745 : Cond.selects RX10 yX10_write yX10_write ∈ gW := List.mem_filter.mpr ⟨List.mem_of_getElem? (i := 816) (by decide +kernel), by decide +kernel⟩
theorem wd_746 : Cond.code yX10_write cX10_write 5 (some (.int)) ∈ gW := List.mem_filter.mpr ⟨List.mem_of_getElem? (i := 817) (by decide +kernel), by decide +kernel⟩
theorem wd_747 : Cond.methodLink RX10 295 Lib.Math.min.name ∈ gW := List.mem_filter.mpr ⟨List.mem_of_getElem? (i := 818) (by decide +kernel), by decide +kernel⟩
theorem wd_748 : Cond.methodLink R_law 152 yX10_count ∈ gW := List.mem_filter.mpr ⟨List.mem_of_getElem? (i := 819) (by decide +kernel), by decide +kernel⟩
theorem wd_749 : Cond.instanceMethod yX10_count ∈ gW := List.mem_filter.mpr ⟨List.mem_of_getElem? (i := 820) (by decide +kernel), by decide +kernel⟩
theorem wd_750 : Cond.selects RX10 yX10_count yX10_count ∈ gW := List.mem_filter.mpr ⟨List.mem_of_getElem? (i := 821) (by decide +kernel), by decide +kernel⟩
theorem wd_751 : Cond.code yX10_count cX10_count 2 (some (.int)) ∈ gW := List.mem_filter.mpr ⟨List.mem_of_getElem? (i := 822) (by decide +kernel), by decide +kernel⟩
theorem wd_752 : Cond.methodLink RX10 308 yX10_bare ∈ gW := List.mem_filter.mpr ⟨List.mem_of_getElem? (i := 823) (by decide +kernel), by decide +kernel⟩
theorem wd_753 : Cond.methodLink RX10 311 yX10_allYellow ∈ gW := List.mem_filter.mpr ⟨List.mem_of_getElem? (i := 824) (by decide +kernel), by decide +kernel⟩
theorem wd_755 : Cond.instanceMethod yX10_allYellow ∈ gW := List.mem_filter.mpr ⟨List.mem_of_getElem? (i := 826) (by decide +kernel), by decide +kernel⟩
theorem wd_756 : Cond.code yX10_allYellow cX10_allYellow 3 (some (.int)) ∈ gW := List.mem_filter.mpr ⟨List.mem_of_getElem? (i := 827) (by decide +kernel), by decide +kernel⟩
theorem wd_757 : Cond.methodLink R_law 156 yX10_digest ∈ gW := List.mem_filter.mpr ⟨List.mem_of_getElem? (i := 828) (by decide +kernel), by decide +kernel⟩
theorem wd_758 : Cond.instanceMethod yX10_digest ∈ gW := List.mem_filter.mpr ⟨List.mem_of_getElem? (i := 829) (by decide +kernel), by decide +kernel⟩
theorem wd_759 : Cond.selects RX10 yX10_digest yX10_digest ∈ gW := List.mem_filter.mpr ⟨List.mem_of_getElem? (i := 830) (by decide +kernel), by decide +kernel⟩
theorem wd_760 : Cond.code yX10_digest cX10_digest 4 (some (.long)) ∈ gW := List.mem_filter.mpr ⟨List.mem_of_getElem? (i := 831) (by decide +kernel), by decide +kernel⟩
theorem wd_761 : Cond.constantLong RX10 315 17 ∈ gW := List.mem_filter.mpr ⟨List.mem_of_getElem? (i := 832) (by decide +kernel), by decide +kernel⟩
theorem wd_762 : Cond.methodLink RX10 317 yX10_digestOfCounts ∈ gW := List.mem_filter.mpr ⟨List.mem_of_getElem? (i := 833) (by decide +kernel), by decide +kernel⟩
theorem wd_764 : Cond.instanceMethod yX10_digestOfCounts ∈ gW := List.mem_filter.mpr ⟨List.mem_of_getElem? (i := 835) (by decide +kernel), by decide +kernel⟩
theorem wd_765 : Cond.code yX10_digestOfCounts cX10_digestOfCounts 4 (some (.long)) ∈ gW := List.mem_filter.mpr ⟨List.mem_of_getElem? (i := 836) (by decide +kernel), by decide +kernel⟩
theorem wd_766 : Cond.constantLong RX10 340 31 ∈ gW := List.mem_filter.mpr ⟨List.mem_of_getElem? (i := 837) (by decide +kernel), by decide +kernel⟩
theorem wd_767 : Cond.methodLink RX10 342 yX10_count ∈ gW := List.mem_filter.mpr ⟨List.mem_of_getElem? (i := 838) (by decide +kernel), by decide +kernel⟩
theorem wd_768 : Cond.methodLink RX10 345 yX10_fault ∈ gW := List.mem_filter.mpr ⟨List.mem_of_getElem? (i := 839) (by decide +kernel), by decide +kernel⟩
theorem wd_769 : Cond.methodLink RX10 321 yX10_digestOfMonths ∈ gW := List.mem_filter.mpr ⟨List.mem_of_getElem? (i := 840) (by decide +kernel), by decide +kernel⟩
theorem wd_771 : Cond.instanceMethod yX10_digestOfMonths ∈ gW := List.mem_filter.mpr ⟨List.mem_of_getElem? (i := 842) (by decide +kernel), by decide +kernel⟩
theorem wd_772 : Cond.code yX10_digestOfMonths cX10_digestOfMonths 5 (some (.long)) ∈ gW := List.mem_filter.mpr ⟨List.mem_of_getElem? (i := 843) (by decide +kernel), by decide +kernel⟩
theorem wd_773 : Cond.methodLink RX10 348 yX10_hill ∈ gW := List.mem_filter.mpr ⟨List.mem_of_getElem? (i := 844) (by decide +kernel), by decide +kernel⟩
theorem wd_774 : Cond.methodLink RX10 324 yX10_digestOfLooks ∈ gW := List.mem_filter.mpr ⟨List.mem_of_getElem? (i := 845) (by decide +kernel), by decide +kernel⟩
theorem wd_776 : Cond.instanceMethod yX10_digestOfLooks ∈ gW := List.mem_filter.mpr ⟨List.mem_of_getElem? (i := 847) (by decide +kernel), by decide +kernel⟩
theorem wd_777 : Cond.code yX10_digestOfLooks cX10_digestOfLooks 4 (some (.long)) ∈ gW := List.mem_filter.mpr ⟨List.mem_of_getElem? (i := 848) (by decide +kernel), by decide +kernel⟩
theorem wd_778 : Cond.methodLink RX10 350 yX10_look ∈ gW := List.mem_filter.mpr ⟨List.mem_of_getElem? (i := 849) (by decide +kernel), by decide +kernel⟩
theorem wd_779 : Cond.methodLink RX10 327 yX10_digestOfBush ∈ gW := List.mem_filter.mpr ⟨List.mem_of_getElem? (i := 850) (by decide +kernel), by decide +kernel⟩
theorem wd_781 : Cond.instanceMethod yX10_digestOfBush ∈ gW := List.mem_filter.mpr ⟨List.mem_of_getElem? (i := 852) (by decide +kernel), by decide +kernel⟩
theorem wd_782 : Cond.code yX10_digestOfBush cX10_digestOfBush 5 (some (.long)) ∈ gW := List.mem_filter.mpr ⟨List.mem_of_getElem? (i := 853) (by decide +kernel), by decide +kernel⟩
theorem wd_783 : Cond.methodLink RX10 353 yX10_bush ∈ gW := List.mem_filter.mpr ⟨List.mem_of_getElem? (i := 854) (by decide +kernel), by decide +kernel⟩
theorem wd_784 : Cond.methodLink RX10 356 yX10_digestOfBushIn ∈ gW := List.mem_filter.mpr ⟨List.mem_of_getElem? (i := 855) (by decide +kernel), by decide +kernel⟩
theorem wd_786 : Cond.instanceMethod yX10_digestOfBushIn ∈ gW := List.mem_filter.mpr ⟨List.mem_of_getElem? (i := 857) (by decide +kernel), by decide +kernel⟩
theorem wd_787 : Cond.code yX10_digestOfBushIn cX10_digestOfBushIn 6 (some (.long)) ∈ gW := List.mem_filter.mpr ⟨List.mem_of_getElem? (i := 858) (by decide +kernel), by decide +kernel⟩
theorem wd_788 : Cond.methodLink RX10 366 yX10_at ∈ gW := List.mem_filter.mpr ⟨List.mem_of_getElem? (i := 859) (by decide +kernel), by decide +kernel⟩
theorem wd_789 : Cond.methodLink RX10 360 yX10_was ∈ gW := List.mem_filter.mpr ⟨List.mem_of_getElem? (i := 860) (by decide +kernel), by decide +kernel⟩
theorem wd_790 : Cond.methodLink RX10 363 yX10_ask ∈ gW := List.mem_filter.mpr ⟨List.mem_of_getElem? (i := 861) (by decide +kernel), by decide +kernel⟩
theorem wd_791 : Cond.methodLink RX10 331 yX10_digestOfHill ∈ gW := List.mem_filter.mpr ⟨List.mem_of_getElem? (i := 862) (by decide +kernel), by decide +kernel⟩
theorem wd_793 : Cond.instanceMethod yX10_digestOfHill ∈ gW := List.mem_filter.mpr ⟨List.mem_of_getElem? (i := 864) (by decide +kernel), by decide +kernel⟩
theorem wd_794 : Cond.code yX10_digestOfHill cX10_digestOfHill 3 (some (.long)) ∈ gW := List.mem_filter.mpr ⟨List.mem_of_getElem? (i := 865) (by decide +kernel), by decide +kernel⟩
theorem wd_795 : Cond.methodLink RX10 369 yX10_run ∈ gW := List.mem_filter.mpr ⟨List.mem_of_getElem? (i := 866) (by decide +kernel), by decide +kernel⟩
theorem wd_796 : Cond.methodLink RX10 372 yX10_fake ∈ gW := List.mem_filter.mpr ⟨List.mem_of_getElem? (i := 867) (by decide +kernel), by decide +kernel⟩
theorem wd_797 : Cond.methodLink RX10 375 yX10_last ∈ gW := List.mem_filter.mpr ⟨List.mem_of_getElem? (i := 868) (by decide +kernel), by decide +kernel⟩
theorem wd_798 : Cond.methodLink RX10 334 yX10_digestOfPlans ∈ gW := List.mem_filter.mpr ⟨List.mem_of_getElem? (i := 869) (by decide +kernel), by decide +kernel⟩
theorem wd_800 : Cond.instanceMethod yX10_digestOfPlans ∈ gW := List.mem_filter.mpr ⟨List.mem_of_getElem? (i := 871) (by decide +kernel), by decide +kernel⟩
theorem wd_801 : Cond.code yX10_digestOfPlans cX10_digestOfPlans 4 (some (.long)) ∈ gW := List.mem_filter.mpr ⟨List.mem_of_getElem? (i := 872) (by decide +kernel), by decide +kernel⟩
theorem wd_802 : Cond.methodLink RX10 378 yX10_plant ∈ gW := List.mem_filter.mpr ⟨List.mem_of_getElem? (i := 873) (by decide +kernel), by decide +kernel⟩
theorem wd_803 : Cond.methodLink RX10 381 yX10_send ∈ gW := List.mem_filter.mpr ⟨List.mem_of_getElem? (i := 874) (by decide +kernel), by decide +kernel⟩
theorem wd_804 : Cond.methodLink RX10 384 yX10_save ∈ gW := List.mem_filter.mpr ⟨List.mem_of_getElem? (i := 875) (by decide +kernel), by decide +kernel⟩
theorem wd_805 : Cond.methodLink RX10 387 yX10_deal ∈ gW := List.mem_filter.mpr ⟨List.mem_of_getElem? (i := 876) (by decide +kernel), by decide +kernel⟩
theorem wd_806 : Cond.methodLink RX10 337 yX10_digestOfLuck ∈ gW := List.mem_filter.mpr ⟨List.mem_of_getElem? (i := 877) (by decide +kernel), by decide +kernel⟩
theorem wd_808 : Cond.instanceMethod yX10_digestOfLuck ∈ gW := List.mem_filter.mpr ⟨List.mem_of_getElem? (i := 879) (by decide +kernel), by decide +kernel⟩
theorem wd_809 : Cond.code yX10_digestOfLuck cX10_digestOfLuck 3 (some (.long)) ∈ gW := List.mem_filter.mpr ⟨List.mem_of_getElem? (i := 880) (by decide +kernel), by decide +kernel⟩
theorem wd_810 : Cond.methodLink RX10 390 yX10_never ∈ gW := List.mem_filter.mpr ⟨List.mem_of_getElem? (i := 881) (by decide +kernel), by decide +kernel⟩
theorem wd_811 : Cond.methodLink RX10 393 yX10_luck ∈ gW := List.mem_filter.mpr ⟨List.mem_of_getElem? (i := 882) (by decide +kernel), by decide +kernel⟩
theorem wd_812 : Cond.methodLink RX10 397 yX10_century ∈ gW := List.mem_filter.mpr ⟨List.mem_of_getElem? (i := 883) (by decide +kernel), by decide +kernel⟩
theorem wd_819 : Cond.fieldLink RX11 7 "GorseGoldModel" "forms" "[I" ∈ gW := List.mem_filter.mpr ⟨List.mem_of_getElem? (i := 890) (by decide +kernel), by decide +kernel⟩
theorem wd_820 : Cond.fieldLink RX11 13 "GorseGoldModel" "sizes" "[I" ∈ gW := List.mem_filter.mpr ⟨List.mem_of_getElem? (i := 891) (by decide +kernel), by decide +kernel⟩
theorem wd_821 : Cond.fieldLink RX11 16 "GorseGoldModel" "items" "[I" ∈ gW := List.mem_filter.mpr ⟨List.mem_of_getElem? (i := 892) (by decide +kernel), by decide +kernel⟩
theorem wd_822 : Cond.fieldLink RX11 19 "GorseGoldModel" "moved" "[I" ∈ gW := List.mem_filter.mpr ⟨List.mem_of_getElem? (i := 893) (by decide +kernel), by decide +kernel⟩
theorem wd_823 : Cond.fieldLink RX11 78 "GorseGoldModel" "latest" "I" ∈ gW := List.mem_filter.mpr ⟨List.mem_of_getElem? (i := 894) (by decide +kernel), by decide +kernel⟩
theorem wd_824 : Cond.fieldLink RX11 22 "GorseGoldModel" "bytes" "[I" ∈ gW := List.mem_filter.mpr ⟨List.mem_of_getElem? (i := 895) (by decide +kernel), by decide +kernel⟩
theorem wd_825 : Cond.fieldLink RX11 25 "GorseGoldModel" "typed" "[I" ∈ gW := List.mem_filter.mpr ⟨List.mem_of_getElem? (i := 896) (by decide +kernel), by decide +kernel⟩
theorem wd_826 : Cond.fieldLink RX11 118 "GorseGoldModel" "bushes" "I" ∈ gW := List.mem_filter.mpr ⟨List.mem_of_getElem? (i := 897) (by decide +kernel), by decide +kernel⟩
theorem wd_827 : Cond.fieldLink RX11 28 "GorseGoldModel" "bush" "[I" ∈ gW := List.mem_filter.mpr ⟨List.mem_of_getElem? (i := 898) (by decide +kernel), by decide +kernel⟩
theorem wd_828 : Cond.fieldLink RX11 128 "GorseGoldModel" "looks" "I" ∈ gW := List.mem_filter.mpr ⟨List.mem_of_getElem? (i := 899) (by decide +kernel), by decide +kernel⟩
theorem wd_829 : Cond.fieldLink RX11 31 "GorseGoldModel" "look" "[I" ∈ gW := List.mem_filter.mpr ⟨List.mem_of_getElem? (i := 900) (by decide +kernel), by decide +kernel⟩
theorem wd_830 : Cond.fieldLink RX11 62 "GorseGoldModel" "faith" "I" ∈ gW := List.mem_filter.mpr ⟨List.mem_of_getElem? (i := 901) (by decide +kernel), by decide +kernel⟩
theorem wd_831 : Cond.fieldLink RX11 66 "GorseGoldModel" "doubt" "I" ∈ gW := List.mem_filter.mpr ⟨List.mem_of_getElem? (i := 902) (by decide +kernel), by decide +kernel⟩
theorem wd_832 : Cond.fieldLink RX11 158 "GorseGoldModel" "events" "I" ∈ gW := List.mem_filter.mpr ⟨List.mem_of_getElem? (i := 903) (by decide +kernel), by decide +kernel⟩
theorem wd_833 : Cond.fieldLink RX11 34 "GorseGoldModel" "event" "[I" ∈ gW := List.mem_filter.mpr ⟨List.mem_of_getElem? (i := 904) (by decide +kernel), by decide +kernel⟩
theorem wd_834 : Cond.fieldLink RX11 176 "GorseGoldModel" "gone" "I" ∈ gW := List.mem_filter.mpr ⟨List.mem_of_getElem? (i := 905) (by decide +kernel), by decide +kernel⟩
theorem wd_835 : Cond.fieldLink RX11 37 "GorseGoldModel" "state" "[I" ∈ gW := List.mem_filter.mpr ⟨List.mem_of_getElem? (i := 906) (by decide +kernel), by decide +kernel⟩
theorem wd_836 : Cond.fieldLink RX11 40 "GorseGoldModel" "painted" "[Z" ∈ gW := List.mem_filter.mpr ⟨List.mem_of_getElem? (i := 907) (by decide +kernel), by decide +kernel⟩
theorem wd_837 : Cond.fieldLink RX11 44 "GorseGoldModel" "yellow" "[I" ∈ gW := List.mem_filter.mpr ⟨List.mem_of_getElem? (i := 908) (by decide +kernel), by decide +kernel⟩
theorem wd_838 : Cond.fieldLink RX11 47 "GorseGoldModel" "belief" "[I" ∈ gW := List.mem_filter.mpr ⟨List.mem_of_getElem? (i := 909) (by decide +kernel), by decide +kernel⟩
theorem wd_839 : Cond.fieldLink RX11 50 "GorseGoldModel" "seems" "[I" ∈ gW := List.mem_filter.mpr ⟨List.mem_of_getElem? (i := 910) (by decide +kernel), by decide +kernel⟩
theorem wd_840 : Cond.fieldLink RX11 172 "GorseGoldModel" "hasMore" "Z" ∈ gW := List.mem_filter.mpr ⟨List.mem_of_getElem? (i := 911) (by decide +kernel), by decide +kernel⟩
theorem wd_841 : Cond.fieldLink RX11 69 "GorseGoldModel" "oddMonth" "I" ∈ gW := List.mem_filter.mpr ⟨List.mem_of_getElem? (i := 912) (by decide +kernel), by decide +kernel⟩
theorem wd_842 : Cond.fieldLink RX11 205 "GorseGoldModel" "oddBush" "I" ∈ gW := List.mem_filter.mpr ⟨List.mem_of_getElem? (i := 913) (by decide +kernel), by decide +kernel⟩
theorem wd_843 : Cond.fieldLink RX11 266 "GorseGoldModel" "sights" "I" ∈ gW := List.mem_filter.mpr ⟨List.mem_of_getElem? (i := 914) (by decide +kernel), by decide +kernel⟩
theorem wd_844 : Cond.fieldLink RX11 53 "GorseGoldModel" "sight" "[I" ∈ gW := List.mem_filter.mpr ⟨List.mem_of_getElem? (i := 915) (by decide +kernel), by decide +kernel⟩
theorem wd_845 : Cond.fieldLink RX11 56 "GorseGoldModel" "alike" "[I" ∈ gW := List.mem_filter.mpr ⟨List.mem_of_getElem? (i := 916) (by decide +kernel), by decide +kernel⟩
theorem wd_846 : Cond.fieldLink RX11 303 "GorseGoldModel" "drawn" "I" ∈ gW := List.mem_filter.mpr ⟨List.mem_of_getElem? (i := 917) (by decide +kernel), by decide +kernel⟩
theorem wd_847 : Cond.fieldLink RX11 59 "GorseGoldModel" "told" "[I" ∈ gW := List.mem_filter.mpr ⟨List.mem_of_getElem? (i := 918) (by decide +kernel), by decide +kernel⟩
theorem wd_908 : Cond.methodLink R_law 129 yX11_sheet ∈ gW := List.mem_filter.mpr ⟨List.mem_of_getElem? (i := 979) (by decide +kernel), by decide +kernel⟩
theorem wd_909 : Cond.instanceMethod yX11_sheet ∈ gW := List.mem_filter.mpr ⟨List.mem_of_getElem? (i := 980) (by decide +kernel), by decide +kernel⟩
theorem wd_910 : Cond.selects RX11 yX11_sheet yX11_sheet ∈ gW := List.mem_filter.mpr ⟨List.mem_of_getElem? (i := 981) (by decide +kernel), by decide +kernel⟩
theorem wd_911 : Cond.code yX11_sheet cX11_sheet 5 (some (.int)) ∈ gW := List.mem_filter.mpr ⟨List.mem_of_getElem? (i := 982) (by decide +kernel), by decide +kernel⟩
theorem wd_912 : Cond.methodLink RX11 83 yX11_isSheet ∈ gW := List.mem_filter.mpr ⟨List.mem_of_getElem? (i := 983) (by decide +kernel), by decide +kernel⟩
theorem wd_913 : Cond.static yX11_isSheet ∈ gW := List.mem_filter.mpr ⟨List.mem_of_getElem? (i := 984) (by decide +kernel), by decide +kernel⟩
theorem wd_914 : Cond.code yX11_isSheet cX11_isSheet 1 (some (.boolean)) ∈ gW := List.mem_filter.mpr ⟨List.mem_of_getElem? (i := 985) (by decide +kernel), by decide +kernel⟩
theorem wd_915 : Cond.constantLong RX11 81 3 ∈ gW := List.mem_filter.mpr ⟨List.mem_of_getElem? (i := 986) (by decide +kernel), by decide +kernel⟩
theorem wd_916 : Cond.methodLink RX11 74 yX11_in ∈ gW := List.mem_filter.mpr ⟨List.mem_of_getElem? (i := 987) (by decide +kernel), by decide +kernel⟩
theorem wd_917 : Cond.static yX11_in ∈ gW := List.mem_filter.mpr ⟨List.mem_of_getElem? (i := 988) (by decide +kernel), by decide +kernel⟩
theorem wd_918 : Cond.code yX11_in cX11_in 6 (some (.boolean)) ∈ gW := List.mem_filter.mpr ⟨List.mem_of_getElem? (i := 989) (by decide +kernel), by decide +kernel⟩
theorem wd_919 : Cond.constantLong RX11 87 2 ∈ gW := List.mem_filter.mpr ⟨List.mem_of_getElem? (i := 990) (by decide +kernel), by decide +kernel⟩
theorem wd_920 : Cond.methodLink RX11 89 yX11_finds ∈ gW := List.mem_filter.mpr ⟨List.mem_of_getElem? (i := 991) (by decide +kernel), by decide +kernel⟩
theorem wd_922 : Cond.instanceMethod yX11_finds ∈ gW := List.mem_filter.mpr ⟨List.mem_of_getElem? (i := 993) (by decide +kernel), by decide +kernel⟩
theorem wd_923 : Cond.code yX11_finds cX11_finds 2 (some (.int)) ∈ gW := List.mem_filter.mpr ⟨List.mem_of_getElem? (i := 994) (by decide +kernel), by decide +kernel⟩
theorem wd_924 : Cond.methodLink R_law 133 yX11_lose ∈ gW := List.mem_filter.mpr ⟨List.mem_of_getElem? (i := 995) (by decide +kernel), by decide +kernel⟩
theorem wd_925 : Cond.instanceMethod yX11_lose ∈ gW := List.mem_filter.mpr ⟨List.mem_of_getElem? (i := 996) (by decide +kernel), by decide +kernel⟩
theorem wd_926 : Cond.selects RX11 yX11_lose yX11_lose ∈ gW := List.mem_filter.mpr ⟨List.mem_of_getElem? (i := 997) (by decide +kernel), by decide +kernel⟩
theorem wd_927 : Cond.code yX11_lose cX11_lose 2 (some (.int)) ∈ gW := List.mem_filter.mpr ⟨List.mem_of_getElem? (i := 998) (by decide +kernel), by decide +kernel⟩
theorem wd_928 : Cond.methodLink R_law 138 yX11_lay ∈ gW := List.mem_filter.mpr ⟨List.mem_of_getElem? (i := 999) (by decide +kernel), by decide +kernel⟩
theorem wd_929 : Cond.instanceMethod yX11_lay ∈ gW := List.mem_filter.mpr ⟨List.mem_of_getElem? (i := 1000) (by decide +kernel), by decide +kernel⟩
theorem wd_930 : Cond.selects RX11 yX11_lay yX11_lay ∈ gW := List.mem_filter.mpr ⟨List.mem_of_getElem? (i := 1001) (by decide +kernel), by decide +kernel⟩
theorem wd_931 : Cond.code yX11_lay cX11_lay 6 (some (.int)) ∈ gW := List.mem_filter.mpr ⟨List.mem_of_getElem? (i := 1002) (by decide +kernel), by decide +kernel⟩
theorem wd_932 : Cond.methodLink RX11 93 yX11_lacks ∈ gW := List.mem_filter.mpr ⟨List.mem_of_getElem? (i := 1003) (by decide +kernel), by decide +kernel⟩
theorem wd_934 : Cond.instanceMethod yX11_lacks ∈ gW := List.mem_filter.mpr ⟨List.mem_of_getElem? (i := 1005) (by decide +kernel), by decide +kernel⟩
theorem wd_935 : Cond.code yX11_lacks cX11_lacks 4 (some (.int)) ∈ gW := List.mem_filter.mpr ⟨List.mem_of_getElem? (i := 1006) (by decide +kernel), by decide +kernel⟩
theorem wd_936 : Cond.methodLink RX11 97 yX11_cut ∈ gW := List.mem_filter.mpr ⟨List.mem_of_getElem? (i := 1007) (by decide +kernel), by decide +kernel⟩
theorem wd_937 : Cond.static yX11_cut ∈ gW := List.mem_filter.mpr ⟨List.mem_of_getElem? (i := 1008) (by decide +kernel), by decide +kernel⟩
theorem wd_938 : Cond.code yX11_cut cX11_cut 2 (some (.int)) ∈ gW := List.mem_filter.mpr ⟨List.mem_of_getElem? (i := 1009) (by decide +kernel), by decide +kernel⟩
theorem wd_939 : Cond.methodLink R_law 142 yX11_get ∈ gW := List.mem_filter.mpr ⟨List.mem_of_getElem? (i := 1010) (by decide +kernel), by decide +kernel⟩
theorem wd_940 : Cond.instanceMethod yX11_get ∈ gW := List.mem_filter.mpr ⟨List.mem_of_getElem? (i := 1011) (by decide +kernel), by decide +kernel⟩
theorem wd_941 : Cond.selects RX11 yX11_get yX11_get ∈ gW := List.mem_filter.mpr ⟨List.mem_of_getElem? (i := 1012) (by decide +kernel), by decide +kernel⟩
theorem wd_942 : Cond.code yX11_get cX11_get 4 (some (.int)) ∈ gW := List.mem_filter.mpr ⟨List.mem_of_getElem? (i := 1013) (by decide +kernel), by decide +kernel⟩
theorem wd_943 : Cond.constant RX11 101 (-2147483648) ∈ gW := List.mem_filter.mpr ⟨List.mem_of_getElem? (i := 1014) (by decide +kernel), by decide +kernel⟩
theorem wd_944 : Cond.methodLink R_law 147 yX11_copy ∈ gW := List.mem_filter.mpr ⟨List.mem_of_getElem? (i := 1015) (by decide +kernel), by decide +kernel⟩
theorem wd_945 : Cond.instanceMethod yX11_copy ∈ gW := List.mem_filter.mpr ⟨List.mem_of_getElem? (i := 1016) (by decide +kernel), by decide +kernel⟩
theorem wd_946 : Cond.selects RX11 yX11_copy yX11_copy ∈ gW := List.mem_filter.mpr ⟨List.mem_of_getElem? (i := 1017) (by decide +kernel), by decide +kernel⟩
theorem wd_947 : Cond.code yX11_copy cX11_copy 7 (some (.int)) ∈ gW := List.mem_filter.mpr ⟨List.mem_of_getElem? (i := 1018) (by decide +kernel), by decide +kernel⟩
theorem wd_948 : Cond.methodLink R_law 17 yX11_type ∈ gW := List.mem_filter.mpr ⟨List.mem_of_getElem? (i := 1019) (by decide +kernel), by decide +kernel⟩
theorem wd_949 : Cond.instanceMethod yX11_type ∈ gW := List.mem_filter.mpr ⟨List.mem_of_getElem? (i := 1020) (by decide +kernel), by decide +kernel⟩
theorem wd_950 : Cond.selects RX11 yX11_type yX11_type ∈ gW := List.mem_filter.mpr ⟨List.mem_of_getElem? (i := 1021) (by decide +kernel), by decide +kernel⟩
theorem wd_951 : Cond.code yX11_type cX11_type 3 (some (.int)) ∈ gW := List.mem_filter.mpr ⟨List.mem_of_getElem? (i := 1022) (by decide +kernel), by decide +kernel⟩
theorem wd_952 : Cond.methodLink RX11 102 yX11_isTwo ∈ gW := List.mem_filter.mpr ⟨List.mem_of_getElem? (i := 1023) (by decide +kernel), by decide +kernel⟩
theorem wd_953 : Cond.static yX11_isTwo ∈ gW := List.mem_filter.mpr ⟨List.mem_of_getElem? (i := 1024) (by decide +kernel), by decide +kernel⟩
theorem wd_954 : Cond.code yX11_isTwo cX11_isTwo 1 (some (.boolean)) ∈ gW := List.mem_filter.mpr ⟨List.mem_of_getElem? (i := 1025) (by decide +kernel), by decide +kernel⟩
theorem wd_955 : Cond.constantLong RX11 105 255 ∈ gW := List.mem_filter.mpr ⟨List.mem_of_getElem? (i := 1026) (by decide +kernel), by decide +kernel⟩
theorem wd_956 : Cond.methodLink R_law 22 yX11_wipe ∈ gW := List.mem_filter.mpr ⟨List.mem_of_getElem? (i := 1027) (by decide +kernel), by decide +kernel⟩
theorem wd_957 : Cond.instanceMethod yX11_wipe ∈ gW := List.mem_filter.mpr ⟨List.mem_of_getElem? (i := 1028) (by decide +kernel), by decide +kernel⟩
theorem wd_958 : Cond.selects RX11 yX11_wipe yX11_wipe ∈ gW := List.mem_filter.mpr ⟨List.mem_of_getElem? (i := 1029) (by decide +kernel), by decide +kernel⟩
theorem wd_959 : Cond.code yX11_wipe cX11_wipe 3 (some (.int)) ∈ gW := List.mem_filter.mpr ⟨List.mem_of_getElem? (i := 1030) (by decide +kernel), by decide +kernel⟩
theorem wd_960 : Cond.methodLink R_law 26 yX11_undo ∈ gW := List.mem_filter.mpr ⟨List.mem_of_getElem? (i := 1031) (by decide +kernel), by decide +kernel⟩
theorem wd_961 : Cond.instanceMethod yX11_undo ∈ gW := List.mem_filter.mpr ⟨List.mem_of_getElem? (i := 1032) (by decide +kernel), by decide +kernel⟩
theorem wd_962 : Cond.selects RX11 yX11_undo yX11_undo ∈ gW := List.mem_filter.mpr ⟨List.mem_of_getElem? (i := 1033) (by decide +kernel), by decide +kernel⟩
theorem wd_963 : Cond.code yX11_undo cX11_undo 2 (some (.int)) ∈ gW := List.mem_filter.mpr ⟨List.mem_of_getElem? (i := 1034) (by decide +kernel), by decide +kernel⟩
theorem wd_964 : Cond.methodLink R_law 30 yX11_fault ∈ gW := List.mem_filter.mpr ⟨List.mem_of_getElem? (i := 1035) (by decide +kernel), by decide +kernel⟩
theorem wd_965 : Cond.instanceMethod yX11_fault ∈ gW := List.mem_filter.mpr ⟨List.mem_of_getElem? (i := 1036) (by decide +kernel), by decide +kernel⟩
theorem wd_966 : Cond.selects RX11 yX11_fault yX11_fault ∈ gW := List.mem_filter.mpr ⟨List.mem_of_getElem? (i := 1037) (by decide +kernel), by decide +kernel⟩
theorem wd_967 : Cond.code yX11_fault cX11_fault 2 (some (.int)) ∈ gW := List.mem_filter.mpr ⟨List.mem_of_getElem? (i := 1038) (by decide +kernel), by decide +kernel⟩
theorem wd_968 : Cond.methodLink RX11 141 yX11_readsText ∈ gW := List.mem_filter.mpr ⟨List.mem_of_getElem? (i := 1039) (by decide +kernel), by decide +kernel⟩
theorem wd_970 : Cond.instanceMethod yX11_readsText ∈ gW := List.mem_filter.mpr ⟨List.mem_of_getElem? (i := 1041) (by decide +kernel), by decide +kernel⟩
theorem wd_971 : Cond.code yX11_readsText cX11_readsText 2 (some (.int)) ∈ gW := List.mem_filter.mpr ⟨List.mem_of_getElem? (i := 1042) (by decide +kernel), by decide +kernel⟩
theorem wd_972 : Cond.methodLink RX11 134 yX11_readsBushes ∈ gW := List.mem_filter.mpr ⟨List.mem_of_getElem? (i := 1043) (by decide +kernel), by decide +kernel⟩
theorem wd_974 : Cond.instanceMethod yX11_readsBushes ∈ gW := List.mem_filter.mpr ⟨List.mem_of_getElem? (i := 1045) (by decide +kernel), by decide +kernel⟩
theorem wd_975 : Cond.code yX11_readsBushes cX11_readsBushes 5 (some (.int)) ∈ gW := List.mem_filter.mpr ⟨List.mem_of_getElem? (i := 1046) (by decide +kernel), by decide +kernel⟩
theorem wd_976 : Cond.methodLink RX11 121 yX11_bushOf ∈ gW := List.mem_filter.mpr ⟨List.mem_of_getElem? (i := 1047) (by decide +kernel), by decide +kernel⟩
theorem wd_977 : Cond.static yX11_bushOf ∈ gW := List.mem_filter.mpr ⟨List.mem_of_getElem? (i := 1048) (by decide +kernel), by decide +kernel⟩
theorem wd_978 : Cond.code yX11_bushOf cX11_bushOf 2 (some (.int)) ∈ gW := List.mem_filter.mpr ⟨List.mem_of_getElem? (i := 1049) (by decide +kernel), by decide +kernel⟩
theorem wd_979 : Cond.methodLink RX11 107 yX11_kindOf ∈ gW := List.mem_filter.mpr ⟨List.mem_of_getElem? (i := 1050) (by decide +kernel), by decide +kernel⟩
theorem wd_980 : Cond.static yX11_kindOf ∈ gW := List.mem_filter.mpr ⟨List.mem_of_getElem? (i := 1051) (by decide +kernel), by decide +kernel⟩
theorem wd_981 : Cond.code yX11_kindOf cX11_kindOf 1 (some (.int)) ∈ gW := List.mem_filter.mpr ⟨List.mem_of_getElem? (i := 1052) (by decide +kernel), by decide +kernel⟩
theorem wd_982 : Cond.constantLong RX11 110 97 ∈ gW := List.mem_filter.mpr ⟨List.mem_of_getElem? (i := 1053) (by decide +kernel), by decide +kernel⟩
theorem wd_983 : Cond.constantLong RX11 112 108 ∈ gW := List.mem_filter.mpr ⟨List.mem_of_getElem? (i := 1054) (by decide +kernel), by decide +kernel⟩
theorem wd_984 : Cond.constantLong RX11 114 49 ∈ gW := List.mem_filter.mpr ⟨List.mem_of_getElem? (i := 1055) (by decide +kernel), by decide +kernel⟩
theorem wd_985 : Cond.constantLong RX11 116 57 ∈ gW := List.mem_filter.mpr ⟨List.mem_of_getElem? (i := 1056) (by decide +kernel), by decide +kernel⟩
theorem wd_986 : Cond.methodLink RX11 138 yX11_readsLooks ∈ gW := List.mem_filter.mpr ⟨List.mem_of_getElem? (i := 1057) (by decide +kernel), by decide +kernel⟩
theorem wd_988 : Cond.instanceMethod yX11_readsLooks ∈ gW := List.mem_filter.mpr ⟨List.mem_of_getElem? (i := 1059) (by decide +kernel), by decide +kernel⟩
theorem wd_989 : Cond.code yX11_readsLooks cX11_readsLooks 5 (some (.int)) ∈ gW := List.mem_filter.mpr ⟨List.mem_of_getElem? (i := 1060) (by decide +kernel), by decide +kernel⟩
theorem wd_990 : Cond.methodLink RX11 131 yX11_lookOf ∈ gW := List.mem_filter.mpr ⟨List.mem_of_getElem? (i := 1061) (by decide +kernel), by decide +kernel⟩
theorem wd_991 : Cond.static yX11_lookOf ∈ gW := List.mem_filter.mpr ⟨List.mem_of_getElem? (i := 1062) (by decide +kernel), by decide +kernel⟩
theorem wd_992 : Cond.code yX11_lookOf cX11_lookOf 2 (some (.int)) ∈ gW := List.mem_filter.mpr ⟨List.mem_of_getElem? (i := 1063) (by decide +kernel), by decide +kernel⟩
theorem wd_993 : Cond.constantLong RX11 124 120 ∈ gW := List.mem_filter.mpr ⟨List.mem_of_getElem? (i := 1064) (by decide +kernel), by decide +kernel⟩
theorem wd_994 : Cond.constantLong RX11 126 48 ∈ gW := List.mem_filter.mpr ⟨List.mem_of_getElem? (i := 1065) (by decide +kernel), by decide +kernel⟩
theorem wd_995 : Cond.methodLink R_law 34 yX11_bush ∈ gW := List.mem_filter.mpr ⟨List.mem_of_getElem? (i := 1066) (by decide +kernel), by decide +kernel⟩
theorem wd_996 : Cond.instanceMethod yX11_bush ∈ gW := List.mem_filter.mpr ⟨List.mem_of_getElem? (i := 1067) (by decide +kernel), by decide +kernel⟩
theorem wd_997 : Cond.selects RX11 yX11_bush yX11_bush ∈ gW := List.mem_filter.mpr ⟨List.mem_of_getElem? (i := 1068) (by decide +kernel), by decide +kernel⟩
theorem wd_998 : Cond.code yX11_bush cX11_bush 3 (some (.int)) ∈ gW := List.mem_filter.mpr ⟨List.mem_of_getElem? (i := 1069) (by decide +kernel), by decide +kernel⟩
theorem wd_999 : Cond.methodLink RX11 146 yX11_isBush ∈ gW := List.mem_filter.mpr ⟨List.mem_of_getElem? (i := 1070) (by decide +kernel), by decide +kernel⟩
theorem wd_1001 : Cond.instanceMethod yX11_isBush ∈ gW := List.mem_filter.mpr ⟨List.mem_of_getElem? (i := 1072) (by decide +kernel), by decide +kernel⟩
theorem wd_1002 : Cond.code yX11_isBush cX11_isBush 2 (some (.boolean)) ∈ gW := List.mem_filter.mpr ⟨List.mem_of_getElem? (i := 1073) (by decide +kernel), by decide +kernel⟩
theorem wd_1003 : Cond.methodLink R_law 38 yX11_look ∈ gW := List.mem_filter.mpr ⟨List.mem_of_getElem? (i := 1074) (by decide +kernel), by decide +kernel⟩
theorem wd_1004 : Cond.instanceMethod yX11_look ∈ gW := List.mem_filter.mpr ⟨List.mem_of_getElem? (i := 1075) (by decide +kernel), by decide +kernel⟩
theorem wd_1005 : Cond.selects RX11 yX11_look yX11_look ∈ gW := List.mem_filter.mpr ⟨List.mem_of_getElem? (i := 1076) (by decide +kernel), by decide +kernel⟩
theorem wd_1006 : Cond.code yX11_look cX11_look 3 (some (.int)) ∈ gW := List.mem_filter.mpr ⟨List.mem_of_getElem? (i := 1077) (by decide +kernel), by decide +kernel⟩
theorem wd_1007 : Cond.constantLong RX11 149 11 ∈ gW := List.mem_filter.mpr ⟨List.mem_of_getElem? (i := 1078) (by decide +kernel), by decide +kernel⟩
theorem wd_1008 : Cond.methodLink RX11 151 yX11_lookBy ∈ gW := List.mem_filter.mpr ⟨List.mem_of_getElem? (i := 1079) (by decide +kernel), by decide +kernel⟩
theorem wd_1010 : Cond.instanceMethod yX11_lookBy ∈ gW := List.mem_filter.mpr ⟨List.mem_of_getElem? (i := 1081) (by decide +kernel), by decide +kernel⟩
theorem wd_1011 : Cond.code yX11_lookBy cX11_lookBy 3 (some (.int)) ∈ gW := List.mem_filter.mpr ⟨List.mem_of_getElem? (i := 1082) (by decide +kernel), by decide +kernel⟩
theorem wd_1012 : Cond.methodLink R_law 42 yX11_set ∈ gW := List.mem_filter.mpr ⟨List.mem_of_getElem? (i := 1083) (by decide +kernel), by decide +kernel⟩
theorem wd_1013 : Cond.instanceMethod yX11_set ∈ gW := List.mem_filter.mpr ⟨List.mem_of_getElem? (i := 1084) (by decide +kernel), by decide +kernel⟩
theorem wd_1014 : Cond.selects RX11 yX11_set yX11_set ∈ gW := List.mem_filter.mpr ⟨List.mem_of_getElem? (i := 1085) (by decide +kernel), by decide +kernel⟩
theorem wd_1015 : Cond.code yX11_set cX11_set 4 (some (.int)) ∈ gW := List.mem_filter.mpr ⟨List.mem_of_getElem? (i := 1086) (by decide +kernel), by decide +kernel⟩
theorem wd_1016 : Cond.constantLong RX11 154 100 ∈ gW := List.mem_filter.mpr ⟨List.mem_of_getElem? (i := 1087) (by decide +kernel), by decide +kernel⟩
theorem wd_1017 : Cond.constantLong RX11 156 50 ∈ gW := List.mem_filter.mpr ⟨List.mem_of_getElem? (i := 1088) (by decide +kernel), by decide +kernel⟩
theorem wd_1018 : Cond.methodLink R_law 47 yX11_event ∈ gW := List.mem_filter.mpr ⟨List.mem_of_getElem? (i := 1089) (by decide +kernel), by decide +kernel⟩
theorem wd_1019 : Cond.instanceMethod yX11_event ∈ gW := List.mem_filter.mpr ⟨List.mem_of_getElem? (i := 1090) (by decide +kernel), by decide +kernel⟩
theorem wd_1020 : Cond.selects RX11 yX11_event yX11_event ∈ gW := List.mem_filter.mpr ⟨List.mem_of_getElem? (i := 1091) (by decide +kernel), by decide +kernel⟩
theorem wd_1021 : Cond.code yX11_event cX11_event 4 (some (.int)) ∈ gW := List.mem_filter.mpr ⟨List.mem_of_getElem? (i := 1092) (by decide +kernel), by decide +kernel⟩
theorem wd_1022 : Cond.methodLink RX11 161 yX11_isMonth ∈ gW := List.mem_filter.mpr ⟨List.mem_of_getElem? (i := 1093) (by decide +kernel), by decide +kernel⟩
theorem wd_1023 : Cond.static yX11_isMonth ∈ gW := List.mem_filter.mpr ⟨List.mem_of_getElem? (i := 1094) (by decide +kernel), by decide +kernel⟩
theorem wd_1024 : Cond.code yX11_isMonth cX11_isMonth 1 (some (.boolean)) ∈ gW := List.mem_filter.mpr ⟨List.mem_of_getElem? (i := 1095) (by decide +kernel), by decide +kernel⟩
theorem wd_1025 : Cond.constantLong RX11 144 23 ∈ gW := List.mem_filter.mpr ⟨List.mem_of_getElem? (i := 1096) (by decide +kernel), by decide +kernel⟩
theorem wd_1026 : Cond.constantLong RX11 164 9 ∈ gW := List.mem_filter.mpr ⟨List.mem_of_getElem? (i := 1097) (by decide +kernel), by decide +kernel⟩
theorem wd_1027 : Cond.methodLink RX11 166 yX11_puts ∈ gW := List.mem_filter.mpr ⟨List.mem_of_getElem? (i := 1098) (by decide +kernel), by decide +kernel⟩
theorem wd_1029 : Cond.instanceMethod yX11_puts ∈ gW := List.mem_filter.mpr ⟨List.mem_of_getElem? (i := 1100) (by decide +kernel), by decide +kernel⟩
theorem wd_1030 : Cond.code yX11_puts cX11_puts 4 none ∈ gW := List.mem_filter.mpr ⟨List.mem_of_getElem? (i := 1101) (by decide +kernel), by decide +kernel⟩
theorem wd_1031 : Cond.methodLink R_law 52 yX11_back ∈ gW := List.mem_filter.mpr ⟨List.mem_of_getElem? (i := 1102) (by decide +kernel), by decide +kernel⟩
theorem wd_1032 : Cond.instanceMethod yX11_back ∈ gW := List.mem_filter.mpr ⟨List.mem_of_getElem? (i := 1103) (by decide +kernel), by decide +kernel⟩
theorem wd_1033 : Cond.selects RX11 yX11_back yX11_back ∈ gW := List.mem_filter.mpr ⟨List.mem_of_getElem? (i := 1104) (by decide +kernel), by decide +kernel⟩
theorem wd_1034 : Cond.code yX11_back cX11_back 1 (some (.int)) ∈ gW := List.mem_filter.mpr ⟨List.mem_of_getElem? (i := 1105) (by decide +kernel), by decide +kernel⟩
theorem wd_1035 : Cond.methodLink R_law 56 yX11_read ∈ gW := List.mem_filter.mpr ⟨List.mem_of_getElem? (i := 1106) (by decide +kernel), by decide +kernel⟩
theorem wd_1036 : Cond.instanceMethod yX11_read ∈ gW := List.mem_filter.mpr ⟨List.mem_of_getElem? (i := 1107) (by decide +kernel), by decide +kernel⟩
theorem wd_1037 : Cond.selects RX11 yX11_read yX11_read ∈ gW := List.mem_filter.mpr ⟨List.mem_of_getElem? (i := 1108) (by decide +kernel), by decide +kernel⟩
theorem wd_1038 : Cond.code yX11_read cX11_read 5 (some (.int)) ∈ gW := List.mem_filter.mpr ⟨List.mem_of_getElem? (i := 1109) (by decide +kernel), by decide +kernel⟩
theorem wd_1039 : Cond.methodLink RX11 170 yX11_event ∈ gW := List.mem_filter.mpr ⟨List.mem_of_getElem? (i := 1110) (by decide +kernel), by decide +kernel⟩
theorem wd_1040 : Cond.methodLink R_law 60 yX11_at ∈ gW := List.mem_filter.mpr ⟨List.mem_of_getElem? (i := 1111) (by decide +kernel), by decide +kernel⟩
theorem wd_1041 : Cond.instanceMethod yX11_at ∈ gW := List.mem_filter.mpr ⟨List.mem_of_getElem? (i := 1112) (by decide +kernel), by decide +kernel⟩
theorem wd_1042 : Cond.selects RX11 yX11_at yX11_at ∈ gW := List.mem_filter.mpr ⟨List.mem_of_getElem? (i := 1113) (by decide +kernel), by decide +kernel⟩
theorem wd_1043 : Cond.code yX11_at cX11_at 4 (some (.int)) ∈ gW := List.mem_filter.mpr ⟨List.mem_of_getElem? (i := 1114) (by decide +kernel), by decide +kernel⟩
theorem wd_1044 : Cond.methodLink RX11 217 yX11_find ∈ gW := List.mem_filter.mpr ⟨List.mem_of_getElem? (i := 1115) (by decide +kernel), by decide +kernel⟩
theorem wd_1046 : Cond.instanceMethod yX11_find ∈ gW := List.mem_filter.mpr ⟨List.mem_of_getElem? (i := 1117) (by decide +kernel), by decide +kernel⟩
theorem wd_1047 : Cond.code yX11_find cX11_find 1 none ∈ gW := List.mem_filter.mpr ⟨List.mem_of_getElem? (i := 1118) (by decide +kernel), by decide +kernel⟩
theorem wd_1048 : Cond.methodLink RX11 214 yX11_lives ∈ gW := List.mem_filter.mpr ⟨List.mem_of_getElem? (i := 1119) (by decide +kernel), by decide +kernel⟩
theorem wd_1050 : Cond.instanceMethod yX11_lives ∈ gW := List.mem_filter.mpr ⟨List.mem_of_getElem? (i := 1121) (by decide +kernel), by decide +kernel⟩
theorem wd_1051 : Cond.code yX11_lives cX11_lives 1 none ∈ gW := List.mem_filter.mpr ⟨List.mem_of_getElem? (i := 1122) (by decide +kernel), by decide +kernel⟩
theorem wd_1052 : Cond.methodLink RX11 208 yX11_grows ∈ gW := List.mem_filter.mpr ⟨List.mem_of_getElem? (i := 1123) (by decide +kernel), by decide +kernel⟩
theorem wd_1054 : Cond.instanceMethod yX11_grows ∈ gW := List.mem_filter.mpr ⟨List.mem_of_getElem? (i := 1125) (by decide +kernel), by decide +kernel⟩
theorem wd_1055 : Cond.code yX11_grows cX11_grows 4 none ∈ gW := List.mem_filter.mpr ⟨List.mem_of_getElem? (i := 1126) (by decide +kernel), by decide +kernel⟩
theorem wd_1056 : Cond.methodLink RX11 193 yX11_stateOf ∈ gW := List.mem_filter.mpr ⟨List.mem_of_getElem? (i := 1127) (by decide +kernel), by decide +kernel⟩
theorem wd_1058 : Cond.instanceMethod yX11_stateOf ∈ gW := List.mem_filter.mpr ⟨List.mem_of_getElem? (i := 1129) (by decide +kernel), by decide +kernel⟩
theorem wd_1059 : Cond.code yX11_stateOf cX11_stateOf 3 (some (.int)) ∈ gW := List.mem_filter.mpr ⟨List.mem_of_getElem? (i := 1130) (by decide +kernel), by decide +kernel⟩
theorem wd_1060 : Cond.methodLink RX11 186 yX11_isOn ∈ gW := List.mem_filter.mpr ⟨List.mem_of_getElem? (i := 1131) (by decide +kernel), by decide +kernel⟩
theorem wd_1062 : Cond.instanceMethod yX11_isOn ∈ gW := List.mem_filter.mpr ⟨List.mem_of_getElem? (i := 1133) (by decide +kernel), by decide +kernel⟩
theorem wd_1063 : Cond.code yX11_isOn cX11_isOn 8 (some (.boolean)) ∈ gW := List.mem_filter.mpr ⟨List.mem_of_getElem? (i := 1134) (by decide +kernel), by decide +kernel⟩
theorem wd_1064 : Cond.methodLink RX11 179 yX11_isIn ∈ gW := List.mem_filter.mpr ⟨List.mem_of_getElem? (i := 1135) (by decide +kernel), by decide +kernel⟩
theorem wd_1065 : Cond.static yX11_isIn ∈ gW := List.mem_filter.mpr ⟨List.mem_of_getElem? (i := 1136) (by decide +kernel), by decide +kernel⟩
theorem wd_1066 : Cond.code yX11_isIn cX11_isIn 2 (some (.boolean)) ∈ gW := List.mem_filter.mpr ⟨List.mem_of_getElem? (i := 1137) (by decide +kernel), by decide +kernel⟩
theorem wd_1067 : Cond.methodLink RX11 183 yX11_lasts ∈ gW := List.mem_filter.mpr ⟨List.mem_of_getElem? (i := 1138) (by decide +kernel), by decide +kernel⟩
theorem wd_1068 : Cond.static yX11_lasts ∈ gW := List.mem_filter.mpr ⟨List.mem_of_getElem? (i := 1139) (by decide +kernel), by decide +kernel⟩
theorem wd_1069 : Cond.code yX11_lasts cX11_lasts 2 (some (.int)) ∈ gW := List.mem_filter.mpr ⟨List.mem_of_getElem? (i := 1140) (by decide +kernel), by decide +kernel⟩
theorem wd_1070 : Cond.methodLink RX11 190 yX11_isSeason ∈ gW := List.mem_filter.mpr ⟨List.mem_of_getElem? (i := 1141) (by decide +kernel), by decide +kernel⟩
theorem wd_1072 : Cond.instanceMethod yX11_isSeason ∈ gW := List.mem_filter.mpr ⟨List.mem_of_getElem? (i := 1143) (by decide +kernel), by decide +kernel⟩
theorem wd_1073 : Cond.code yX11_isSeason cX11_isSeason 4 (some (.boolean)) ∈ gW := List.mem_filter.mpr ⟨List.mem_of_getElem? (i := 1144) (by decide +kernel), by decide +kernel⟩
theorem wd_1074 : Cond.methodLink RX11 196 yX11_isSeeming ∈ gW := List.mem_filter.mpr ⟨List.mem_of_getElem? (i := 1145) (by decide +kernel), by decide +kernel⟩
theorem wd_1076 : Cond.instanceMethod yX11_isSeeming ∈ gW := List.mem_filter.mpr ⟨List.mem_of_getElem? (i := 1147) (by decide +kernel), by decide +kernel⟩
theorem wd_1077 : Cond.code yX11_isSeeming cX11_isSeeming 3 (some (.boolean)) ∈ gW := List.mem_filter.mpr ⟨List.mem_of_getElem? (i := 1148) (by decide +kernel), by decide +kernel⟩
theorem wd_1078 : Cond.methodLink RX11 211 yX11_believes ∈ gW := List.mem_filter.mpr ⟨List.mem_of_getElem? (i := 1149) (by decide +kernel), by decide +kernel⟩
theorem wd_1080 : Cond.instanceMethod yX11_believes ∈ gW := List.mem_filter.mpr ⟨List.mem_of_getElem? (i := 1151) (by decide +kernel), by decide +kernel⟩
theorem wd_1081 : Cond.code yX11_believes cX11_believes 5 none ∈ gW := List.mem_filter.mpr ⟨List.mem_of_getElem? (i := 1152) (by decide +kernel), by decide +kernel⟩
theorem wd_1082 : Cond.methodLink RX11 199 yX11_kept ∈ gW := List.mem_filter.mpr ⟨List.mem_of_getElem? (i := 1153) (by decide +kernel), by decide +kernel⟩
theorem wd_1083 : Cond.static yX11_kept ∈ gW := List.mem_filter.mpr ⟨List.mem_of_getElem? (i := 1154) (by decide +kernel), by decide +kernel⟩
theorem wd_1084 : Cond.code yX11_kept cX11_kept 1 (some (.int)) ∈ gW := List.mem_filter.mpr ⟨List.mem_of_getElem? (i := 1155) (by decide +kernel), by decide +kernel⟩
theorem wd_1085 : Cond.methodLink RX11 202 yX11_looked ∈ gW := List.mem_filter.mpr ⟨List.mem_of_getElem? (i := 1156) (by decide +kernel), by decide +kernel⟩
theorem wd_1087 : Cond.instanceMethod yX11_looked ∈ gW := List.mem_filter.mpr ⟨List.mem_of_getElem? (i := 1158) (by decide +kernel), by decide +kernel⟩
theorem wd_1088 : Cond.code yX11_looked cX11_looked 4 (some (.int)) ∈ gW := List.mem_filter.mpr ⟨List.mem_of_getElem? (i := 1159) (by decide +kernel), by decide +kernel⟩
theorem wd_1089 : Cond.methodLink RX11 220 yX11_atBy ∈ gW := List.mem_filter.mpr ⟨List.mem_of_getElem? (i := 1160) (by decide +kernel), by decide +kernel⟩
theorem wd_1091 : Cond.instanceMethod yX11_atBy ∈ gW := List.mem_filter.mpr ⟨List.mem_of_getElem? (i := 1162) (by decide +kernel), by decide +kernel⟩
theorem wd_1092 : Cond.code yX11_atBy cX11_atBy 4 (some (.int)) ∈ gW := List.mem_filter.mpr ⟨List.mem_of_getElem? (i := 1163) (by decide +kernel), by decide +kernel⟩
theorem wd_1093 : Cond.methodLink R_law 64 yX11_hill ∈ gW := List.mem_filter.mpr ⟨List.mem_of_getElem? (i := 1164) (by decide +kernel), by decide +kernel⟩
theorem wd_1094 : Cond.instanceMethod yX11_hill ∈ gW := List.mem_filter.mpr ⟨List.mem_of_getElem? (i := 1165) (by decide +kernel), by decide +kernel⟩
theorem wd_1095 : Cond.selects RX11 yX11_hill yX11_hill ∈ gW := List.mem_filter.mpr ⟨List.mem_of_getElem? (i := 1166) (by decide +kernel), by decide +kernel⟩
theorem wd_1096 : Cond.code yX11_hill cX11_hill 3 (some (.int)) ∈ gW := List.mem_filter.mpr ⟨List.mem_of_getElem? (i := 1167) (by decide +kernel), by decide +kernel⟩
theorem wd_1097 : Cond.methodLink RX11 223 yX11_hillBy ∈ gW := List.mem_filter.mpr ⟨List.mem_of_getElem? (i := 1168) (by decide +kernel), by decide +kernel⟩
theorem wd_1099 : Cond.instanceMethod yX11_hillBy ∈ gW := List.mem_filter.mpr ⟨List.mem_of_getElem? (i := 1170) (by decide +kernel), by decide +kernel⟩
theorem wd_1100 : Cond.code yX11_hillBy cX11_hillBy 3 (some (.int)) ∈ gW := List.mem_filter.mpr ⟨List.mem_of_getElem? (i := 1171) (by decide +kernel), by decide +kernel⟩
theorem wd_1101 : Cond.methodLink R_law 68 yX11_bare ∈ gW := List.mem_filter.mpr ⟨List.mem_of_getElem? (i := 1172) (by decide +kernel), by decide +kernel⟩
theorem wd_1102 : Cond.instanceMethod yX11_bare ∈ gW := List.mem_filter.mpr ⟨List.mem_of_getElem? (i := 1173) (by decide +kernel), by decide +kernel⟩
theorem wd_1103 : Cond.selects RX11 yX11_bare yX11_bare ∈ gW := List.mem_filter.mpr ⟨List.mem_of_getElem? (i := 1174) (by decide +kernel), by decide +kernel⟩
theorem wd_1104 : Cond.code yX11_bare cX11_bare 1 (some (.int)) ∈ gW := List.mem_filter.mpr ⟨List.mem_of_getElem? (i := 1175) (by decide +kernel), by decide +kernel⟩
theorem wd_1105 : Cond.methodLink RX11 226 yX11_bareNow ∈ gW := List.mem_filter.mpr ⟨List.mem_of_getElem? (i := 1176) (by decide +kernel), by decide +kernel⟩
theorem wd_1107 : Cond.instanceMethod yX11_bareNow ∈ gW := List.mem_filter.mpr ⟨List.mem_of_getElem? (i := 1178) (by decide +kernel), by decide +kernel⟩
theorem wd_1108 : Cond.code yX11_bareNow cX11_bareNow 3 (some (.int)) ∈ gW := List.mem_filter.mpr ⟨List.mem_of_getElem? (i := 1179) (by decide +kernel), by decide +kernel⟩
theorem wd_1109 : Cond.methodLink R_law 72 yX11_run ∈ gW := List.mem_filter.mpr ⟨List.mem_of_getElem? (i := 1180) (by decide +kernel), by decide +kernel⟩
theorem wd_1110 : Cond.instanceMethod yX11_run ∈ gW := List.mem_filter.mpr ⟨List.mem_of_getElem? (i := 1181) (by decide +kernel), by decide +kernel⟩
theorem wd_1111 : Cond.selects RX11 yX11_run yX11_run ∈ gW := List.mem_filter.mpr ⟨List.mem_of_getElem? (i := 1182) (by decide +kernel), by decide +kernel⟩
theorem wd_1112 : Cond.code yX11_run cX11_run 1 (some (.int)) ∈ gW := List.mem_filter.mpr ⟨List.mem_of_getElem? (i := 1183) (by decide +kernel), by decide +kernel⟩
theorem wd_1113 : Cond.methodLink RX11 229 yX11_runNow ∈ gW := List.mem_filter.mpr ⟨List.mem_of_getElem? (i := 1184) (by decide +kernel), by decide +kernel⟩
theorem wd_1115 : Cond.instanceMethod yX11_runNow ∈ gW := List.mem_filter.mpr ⟨List.mem_of_getElem? (i := 1186) (by decide +kernel), by decide +kernel⟩
theorem wd_1116 : Cond.code yX11_runNow cX11_runNow 3 (some (.int)) ∈ gW := List.mem_filter.mpr ⟨List.mem_of_getElem? (i := 1187) (by decide +kernel), by decide +kernel⟩
theorem wd_1117 : Cond.methodLink R_law 76 yX11_fake ∈ gW := List.mem_filter.mpr ⟨List.mem_of_getElem? (i := 1188) (by decide +kernel), by decide +kernel⟩
theorem wd_1118 : Cond.instanceMethod yX11_fake ∈ gW := List.mem_filter.mpr ⟨List.mem_of_getElem? (i := 1189) (by decide +kernel), by decide +kernel⟩
theorem wd_1119 : Cond.selects RX11 yX11_fake yX11_fake ∈ gW := List.mem_filter.mpr ⟨List.mem_of_getElem? (i := 1190) (by decide +kernel), by decide +kernel⟩
theorem wd_1120 : Cond.code yX11_fake cX11_fake 1 (some (.int)) ∈ gW := List.mem_filter.mpr ⟨List.mem_of_getElem? (i := 1191) (by decide +kernel), by decide +kernel⟩
theorem wd_1121 : Cond.methodLink RX11 232 yX11_fakeNow ∈ gW := List.mem_filter.mpr ⟨List.mem_of_getElem? (i := 1192) (by decide +kernel), by decide +kernel⟩
theorem wd_1123 : Cond.instanceMethod yX11_fakeNow ∈ gW := List.mem_filter.mpr ⟨List.mem_of_getElem? (i := 1194) (by decide +kernel), by decide +kernel⟩
theorem wd_1124 : Cond.code yX11_fakeNow cX11_fakeNow 5 (some (.int)) ∈ gW := List.mem_filter.mpr ⟨List.mem_of_getElem? (i := 1195) (by decide +kernel), by decide +kernel⟩
theorem wd_1125 : Cond.methodLink R_law 80 yX11_last ∈ gW := List.mem_filter.mpr ⟨List.mem_of_getElem? (i := 1196) (by decide +kernel), by decide +kernel⟩
theorem wd_1126 : Cond.instanceMethod yX11_last ∈ gW := List.mem_filter.mpr ⟨List.mem_of_getElem? (i := 1197) (by decide +kernel), by decide +kernel⟩
theorem wd_1127 : Cond.selects RX11 yX11_last yX11_last ∈ gW := List.mem_filter.mpr ⟨List.mem_of_getElem? (i := 1198) (by decide +kernel), by decide +kernel⟩
theorem wd_1128 : Cond.code yX11_last cX11_last 2 (some (.int)) ∈ gW := List.mem_filter.mpr ⟨List.mem_of_getElem? (i := 1199) (by decide +kernel), by decide +kernel⟩
theorem wd_1129 : Cond.methodLink RX11 238 yX11_lastBy ∈ gW := List.mem_filter.mpr ⟨List.mem_of_getElem? (i := 1200) (by decide +kernel), by decide +kernel⟩
theorem wd_1131 : Cond.instanceMethod yX11_lastBy ∈ gW := List.mem_filter.mpr ⟨List.mem_of_getElem? (i := 1202) (by decide +kernel), by decide +kernel⟩
theorem wd_1132 : Cond.code yX11_lastBy cX11_lastBy 7 (some (.int)) ∈ gW := List.mem_filter.mpr ⟨List.mem_of_getElem? (i := 1203) (by decide +kernel), by decide +kernel⟩
theorem wd_1133 : Cond.methodLink RX11 235 yX11_greater ∈ gW := List.mem_filter.mpr ⟨List.mem_of_getElem? (i := 1204) (by decide +kernel), by decide +kernel⟩
theorem wd_1134 : Cond.static yX11_greater ∈ gW := List.mem_filter.mpr ⟨List.mem_of_getElem? (i := 1205) (by decide +kernel), by decide +kernel⟩
theorem wd_1135 : Cond.code yX11_greater cX11_greater 2 (some (.int)) ∈ gW := List.mem_filter.mpr ⟨List.mem_of_getElem? (i := 1206) (by decide +kernel), by decide +kernel⟩
theorem wd_1136 : Cond.methodLink R_law 84 yX11_plant ∈ gW := List.mem_filter.mpr ⟨List.mem_of_getElem? (i := 1207) (by decide +kernel), by decide +kernel⟩
theorem wd_1137 : Cond.instanceMethod yX11_plant ∈ gW := List.mem_filter.mpr ⟨List.mem_of_getElem? (i := 1208) (by decide +kernel), by decide +kernel⟩
theorem wd_1138 : Cond.selects RX11 yX11_plant yX11_plant ∈ gW := List.mem_filter.mpr ⟨List.mem_of_getElem? (i := 1209) (by decide +kernel), by decide +kernel⟩
theorem wd_1139 : Cond.code yX11_plant cX11_plant 2 (some (.int)) ∈ gW := List.mem_filter.mpr ⟨List.mem_of_getElem? (i := 1210) (by decide +kernel), by decide +kernel⟩
theorem wd_1140 : Cond.methodLink RX11 247 yX11_plantBy ∈ gW := List.mem_filter.mpr ⟨List.mem_of_getElem? (i := 1211) (by decide +kernel), by decide +kernel⟩
theorem wd_1142 : Cond.instanceMethod yX11_plantBy ∈ gW := List.mem_filter.mpr ⟨List.mem_of_getElem? (i := 1213) (by decide +kernel), by decide +kernel⟩
theorem wd_1143 : Cond.code yX11_plantBy cX11_plantBy 7 (some (.int)) ∈ gW := List.mem_filter.mpr ⟨List.mem_of_getElem? (i := 1214) (by decide +kernel), by decide +kernel⟩
theorem wd_1144 : Cond.methodLink RX11 241 yX11_ones ∈ gW := List.mem_filter.mpr ⟨List.mem_of_getElem? (i := 1215) (by decide +kernel), by decide +kernel⟩
theorem wd_1145 : Cond.static yX11_ones ∈ gW := List.mem_filter.mpr ⟨List.mem_of_getElem? (i := 1216) (by decide +kernel), by decide +kernel⟩
theorem wd_1146 : Cond.code yX11_ones cX11_ones 3 (some (.int)) ∈ gW := List.mem_filter.mpr ⟨List.mem_of_getElem? (i := 1217) (by decide +kernel), by decide +kernel⟩
theorem wd_1147 : Cond.methodLink RX11 244 yX11_lesser ∈ gW := List.mem_filter.mpr ⟨List.mem_of_getElem? (i := 1218) (by decide +kernel), by decide +kernel⟩
theorem wd_1148 : Cond.static yX11_lesser ∈ gW := List.mem_filter.mpr ⟨List.mem_of_getElem? (i := 1219) (by decide +kernel), by decide +kernel⟩
theorem wd_1149 : Cond.code yX11_lesser cX11_lesser 2 (some (.int)) ∈ gW := List.mem_filter.mpr ⟨List.mem_of_getElem? (i := 1220) (by decide +kernel), by decide +kernel⟩
theorem wd_1150 : Cond.methodLink R_law 88 yX11_send ∈ gW := List.mem_filter.mpr ⟨List.mem_of_getElem? (i := 1221) (by decide +kernel), by decide +kernel⟩
theorem wd_1151 : Cond.instanceMethod yX11_send ∈ gW := List.mem_filter.mpr ⟨List.mem_of_getElem? (i := 1222) (by decide +kernel), by decide +kernel⟩
theorem wd_1152 : Cond.selects RX11 yX11_send yX11_send ∈ gW := List.mem_filter.mpr ⟨List.mem_of_getElem? (i := 1223) (by decide +kernel), by decide +kernel⟩
theorem wd_1153 : Cond.code yX11_send cX11_send 2 (some (.int)) ∈ gW := List.mem_filter.mpr ⟨List.mem_of_getElem? (i := 1224) (by decide +kernel), by decide +kernel⟩
theorem wd_1154 : Cond.methodLink RX11 250 yX11_sendBy ∈ gW := List.mem_filter.mpr ⟨List.mem_of_getElem? (i := 1225) (by decide +kernel), by decide +kernel⟩
theorem wd_1156 : Cond.instanceMethod yX11_sendBy ∈ gW := List.mem_filter.mpr ⟨List.mem_of_getElem? (i := 1227) (by decide +kernel), by decide +kernel⟩
theorem wd_1157 : Cond.code yX11_sendBy cX11_sendBy 6 (some (.int)) ∈ gW := List.mem_filter.mpr ⟨List.mem_of_getElem? (i := 1228) (by decide +kernel), by decide +kernel⟩
theorem wd_1158 : Cond.methodLink R_law 92 yX11_save ∈ gW := List.mem_filter.mpr ⟨List.mem_of_getElem? (i := 1229) (by decide +kernel), by decide +kernel⟩
theorem wd_1159 : Cond.instanceMethod yX11_save ∈ gW := List.mem_filter.mpr ⟨List.mem_of_getElem? (i := 1230) (by decide +kernel), by decide +kernel⟩
theorem wd_1160 : Cond.selects RX11 yX11_save yX11_save ∈ gW := List.mem_filter.mpr ⟨List.mem_of_getElem? (i := 1231) (by decide +kernel), by decide +kernel⟩
theorem wd_1161 : Cond.code yX11_save cX11_save 2 (some (.int)) ∈ gW := List.mem_filter.mpr ⟨List.mem_of_getElem? (i := 1232) (by decide +kernel), by decide +kernel⟩
theorem wd_1162 : Cond.constantLong RX11 256 (-1) ∈ gW := List.mem_filter.mpr ⟨List.mem_of_getElem? (i := 1233) (by decide +kernel), by decide +kernel⟩
theorem wd_1163 : Cond.methodLink RX11 258 yX11_saveOf ∈ gW := List.mem_filter.mpr ⟨List.mem_of_getElem? (i := 1234) (by decide +kernel), by decide +kernel⟩
theorem wd_1165 : Cond.instanceMethod yX11_saveOf ∈ gW := List.mem_filter.mpr ⟨List.mem_of_getElem? (i := 1236) (by decide +kernel), by decide +kernel⟩
theorem wd_1166 : Cond.code yX11_saveOf cX11_saveOf 4 (some (.int)) ∈ gW := List.mem_filter.mpr ⟨List.mem_of_getElem? (i := 1237) (by decide +kernel), by decide +kernel⟩
theorem wd_1167 : Cond.methodLink RX11 253 yX11_isSaved ∈ gW := List.mem_filter.mpr ⟨List.mem_of_getElem? (i := 1238) (by decide +kernel), by decide +kernel⟩
theorem wd_1169 : Cond.instanceMethod yX11_isSaved ∈ gW := List.mem_filter.mpr ⟨List.mem_of_getElem? (i := 1240) (by decide +kernel), by decide +kernel⟩
theorem wd_1170 : Cond.code yX11_isSaved cX11_isSaved 2 (some (.boolean)) ∈ gW := List.mem_filter.mpr ⟨List.mem_of_getElem? (i := 1241) (by decide +kernel), by decide +kernel⟩
theorem wd_1171 : Cond.methodLink R_law 96 yX11_deal ∈ gW := List.mem_filter.mpr ⟨List.mem_of_getElem? (i := 1242) (by decide +kernel), by decide +kernel⟩
theorem wd_1172 : Cond.instanceMethod yX11_deal ∈ gW := List.mem_filter.mpr ⟨List.mem_of_getElem? (i := 1243) (by decide +kernel), by decide +kernel⟩
theorem wd_1173 : Cond.selects RX11 yX11_deal yX11_deal ∈ gW := List.mem_filter.mpr ⟨List.mem_of_getElem? (i := 1244) (by decide +kernel), by decide +kernel⟩
theorem wd_1174 : Cond.code yX11_deal cX11_deal 2 (some (.int)) ∈ gW := List.mem_filter.mpr ⟨List.mem_of_getElem? (i := 1245) (by decide +kernel), by decide +kernel⟩
theorem wd_1175 : Cond.methodLink RX11 261 yX11_dealBy ∈ gW := List.mem_filter.mpr ⟨List.mem_of_getElem? (i := 1246) (by decide +kernel), by decide +kernel⟩
theorem wd_1177 : Cond.instanceMethod yX11_dealBy ∈ gW := List.mem_filter.mpr ⟨List.mem_of_getElem? (i := 1248) (by decide +kernel), by decide +kernel⟩
theorem wd_1178 : Cond.code yX11_dealBy cX11_dealBy 7 (some (.int)) ∈ gW := List.mem_filter.mpr ⟨List.mem_of_getElem? (i := 1249) (by decide +kernel), by decide +kernel⟩
theorem wd_1179 : Cond.methodLink R_law 100 yX11_seen ∈ gW := List.mem_filter.mpr ⟨List.mem_of_getElem? (i := 1250) (by decide +kernel), by decide +kernel⟩
theorem wd_1180 : Cond.instanceMethod yX11_seen ∈ gW := List.mem_filter.mpr ⟨List.mem_of_getElem? (i := 1251) (by decide +kernel), by decide +kernel⟩
theorem wd_1181 : Cond.selects RX11 yX11_seen yX11_seen ∈ gW := List.mem_filter.mpr ⟨List.mem_of_getElem? (i := 1252) (by decide +kernel), by decide +kernel⟩
theorem wd_1182 : Cond.code yX11_seen cX11_seen 4 (some (.int)) ∈ gW := List.mem_filter.mpr ⟨List.mem_of_getElem? (i := 1253) (by decide +kernel), by decide +kernel⟩
theorem wd_1183 : Cond.constantLong RX11 264 4 ∈ gW := List.mem_filter.mpr ⟨List.mem_of_getElem? (i := 1254) (by decide +kernel), by decide +kernel⟩
theorem wd_1184 : Cond.methodLink R_law 104 yX11_forget ∈ gW := List.mem_filter.mpr ⟨List.mem_of_getElem? (i := 1255) (by decide +kernel), by decide +kernel⟩
theorem wd_1185 : Cond.instanceMethod yX11_forget ∈ gW := List.mem_filter.mpr ⟨List.mem_of_getElem? (i := 1256) (by decide +kernel), by decide +kernel⟩
theorem wd_1186 : Cond.selects RX11 yX11_forget yX11_forget ∈ gW := List.mem_filter.mpr ⟨List.mem_of_getElem? (i := 1257) (by decide +kernel), by decide +kernel⟩
theorem wd_1187 : Cond.code yX11_forget cX11_forget 2 (some (.int)) ∈ gW := List.mem_filter.mpr ⟨List.mem_of_getElem? (i := 1258) (by decide +kernel), by decide +kernel⟩
theorem wd_1188 : Cond.methodLink R_law 108 yX11_never ∈ gW := List.mem_filter.mpr ⟨List.mem_of_getElem? (i := 1259) (by decide +kernel), by decide +kernel⟩
theorem wd_1189 : Cond.instanceMethod yX11_never ∈ gW := List.mem_filter.mpr ⟨List.mem_of_getElem? (i := 1260) (by decide +kernel), by decide +kernel⟩
theorem wd_1190 : Cond.selects RX11 yX11_never yX11_never ∈ gW := List.mem_filter.mpr ⟨List.mem_of_getElem? (i := 1261) (by decide +kernel), by decide +kernel⟩
theorem wd_1191 : Cond.code yX11_never cX11_never 1 (some (.int)) ∈ gW := List.mem_filter.mpr ⟨List.mem_of_getElem? (i := 1262) (by decide +kernel), by decide +kernel⟩
theorem wd_1192 : Cond.methodLink RX11 273 yX11_neverNow ∈ gW := List.mem_filter.mpr ⟨List.mem_of_getElem? (i := 1263) (by decide +kernel), by decide +kernel⟩
theorem wd_1194 : Cond.instanceMethod yX11_neverNow ∈ gW := List.mem_filter.mpr ⟨List.mem_of_getElem? (i := 1265) (by decide +kernel), by decide +kernel⟩
theorem wd_1195 : Cond.code yX11_neverNow cX11_neverNow 3 (some (.int)) ∈ gW := List.mem_filter.mpr ⟨List.mem_of_getElem? (i := 1266) (by decide +kernel), by decide +kernel⟩
theorem wd_1196 : Cond.methodLink RX11 269 yX11_isSeen ∈ gW := List.mem_filter.mpr ⟨List.mem_of_getElem? (i := 1267) (by decide +kernel), by decide +kernel⟩
theorem wd_1198 : Cond.instanceMethod yX11_isSeen ∈ gW := List.mem_filter.mpr ⟨List.mem_of_getElem? (i := 1269) (by decide +kernel), by decide +kernel⟩
theorem wd_1199 : Cond.code yX11_isSeen cX11_isSeen 4 (some (.boolean)) ∈ gW := List.mem_filter.mpr ⟨List.mem_of_getElem? (i := 1270) (by decide +kernel), by decide +kernel⟩
theorem wd_1200 : Cond.methodLink R_law 112 yX11_was ∈ gW := List.mem_filter.mpr ⟨List.mem_of_getElem? (i := 1271) (by decide +kernel), by decide +kernel⟩
theorem wd_1201 : Cond.instanceMethod yX11_was ∈ gW := List.mem_filter.mpr ⟨List.mem_of_getElem? (i := 1272) (by decide +kernel), by decide +kernel⟩
theorem wd_1202 : Cond.selects RX11 yX11_was yX11_was ∈ gW := List.mem_filter.mpr ⟨List.mem_of_getElem? (i := 1273) (by decide +kernel), by decide +kernel⟩
theorem wd_1203 : Cond.code yX11_was cX11_was 3 (some (.int)) ∈ gW := List.mem_filter.mpr ⟨List.mem_of_getElem? (i := 1274) (by decide +kernel), by decide +kernel⟩
theorem wd_1204 : Cond.methodLink RX11 282 yX11_wasOf ∈ gW := List.mem_filter.mpr ⟨List.mem_of_getElem? (i := 1275) (by decide +kernel), by decide +kernel⟩
theorem wd_1206 : Cond.instanceMethod yX11_wasOf ∈ gW := List.mem_filter.mpr ⟨List.mem_of_getElem? (i := 1277) (by decide +kernel), by decide +kernel⟩
theorem wd_1207 : Cond.code yX11_wasOf cX11_wasOf 3 (some (.int)) ∈ gW := List.mem_filter.mpr ⟨List.mem_of_getElem? (i := 1278) (by decide +kernel), by decide +kernel⟩
theorem wd_1208 : Cond.methodLink RX11 276 yX11_beganOf ∈ gW := List.mem_filter.mpr ⟨List.mem_of_getElem? (i := 1279) (by decide +kernel), by decide +kernel⟩
theorem wd_1210 : Cond.instanceMethod yX11_beganOf ∈ gW := List.mem_filter.mpr ⟨List.mem_of_getElem? (i := 1281) (by decide +kernel), by decide +kernel⟩
theorem wd_1211 : Cond.code yX11_beganOf cX11_beganOf 5 (some (.int)) ∈ gW := List.mem_filter.mpr ⟨List.mem_of_getElem? (i := 1282) (by decide +kernel), by decide +kernel⟩
theorem wd_1212 : Cond.methodLink RX11 279 yX11_sortOf ∈ gW := List.mem_filter.mpr ⟨List.mem_of_getElem? (i := 1283) (by decide +kernel), by decide +kernel⟩
theorem wd_1214 : Cond.instanceMethod yX11_sortOf ∈ gW := List.mem_filter.mpr ⟨List.mem_of_getElem? (i := 1285) (by decide +kernel), by decide +kernel⟩
theorem wd_1215 : Cond.code yX11_sortOf cX11_sortOf 5 (some (.int)) ∈ gW := List.mem_filter.mpr ⟨List.mem_of_getElem? (i := 1286) (by decide +kernel), by decide +kernel⟩
theorem wd_1216 : Cond.methodLink R_law 116 yX11_ask ∈ gW := List.mem_filter.mpr ⟨List.mem_of_getElem? (i := 1287) (by decide +kernel), by decide +kernel⟩
theorem wd_1217 : Cond.instanceMethod yX11_ask ∈ gW := List.mem_filter.mpr ⟨List.mem_of_getElem? (i := 1288) (by decide +kernel), by decide +kernel⟩
theorem wd_1218 : Cond.selects RX11 yX11_ask yX11_ask ∈ gW := List.mem_filter.mpr ⟨List.mem_of_getElem? (i := 1289) (by decide +kernel), by decide +kernel⟩
theorem wd_1219 : Cond.code yX11_ask cX11_ask 2 (some (.int)) ∈ gW := List.mem_filter.mpr ⟨List.mem_of_getElem? (i := 1290) (by decide +kernel), by decide +kernel⟩
theorem wd_1220 : Cond.methodLink RX11 285 yX11_askOf ∈ gW := List.mem_filter.mpr ⟨List.mem_of_getElem? (i := 1291) (by decide +kernel), by decide +kernel⟩
theorem wd_1222 : Cond.instanceMethod yX11_askOf ∈ gW := List.mem_filter.mpr ⟨List.mem_of_getElem? (i := 1293) (by decide +kernel), by decide +kernel⟩
theorem wd_1223 : Cond.code yX11_askOf cX11_askOf 9 (some (.int)) ∈ gW := List.mem_filter.mpr ⟨List.mem_of_getElem? (i := 1294) (by decide +kernel), by decide +kernel⟩
theorem wd_1224 : Cond.methodLink R_law 121 yX11_luck ∈ gW := List.mem_filter.mpr ⟨List.mem_of_getElem? (i := 1295) (by decide +kernel), by decide +kernel⟩
theorem wd_1225 : Cond.instanceMethod yX11_luck ∈ gW := List.mem_filter.mpr ⟨List.mem_of_getElem? (i := 1296) (by decide +kernel), by decide +kernel⟩
theorem wd_1226 : Cond.selects RX11 yX11_luck yX11_luck ∈ gW := List.mem_filter.mpr ⟨List.mem_of_getElem? (i := 1297) (by decide +kernel), by decide +kernel⟩
theorem wd_1227 : Cond.code yX11_luck cX11_luck 4 (some (.long)) ∈ gW := List.mem_filter.mpr ⟨List.mem_of_getElem? (i := 1298) (by decide +kernel), by decide +kernel⟩
theorem wd_1228 : Cond.constantLong RX11 292 16 ∈ gW := List.mem_filter.mpr ⟨List.mem_of_getElem? (i := 1299) (by decide +kernel), by decide +kernel⟩
theorem wd_1229 : Cond.methodLink RX11 294 yX11_luckOf ∈ gW := List.mem_filter.mpr ⟨List.mem_of_getElem? (i := 1300) (by decide +kernel), by decide +kernel⟩
theorem wd_1231 : Cond.instanceMethod yX11_luckOf ∈ gW := List.mem_filter.mpr ⟨List.mem_of_getElem? (i := 1302) (by decide +kernel), by decide +kernel⟩
theorem wd_1232 : Cond.code yX11_luckOf cX11_luckOf 11 (some (.long)) ∈ gW := List.mem_filter.mpr ⟨List.mem_of_getElem? (i := 1303) (by decide +kernel), by decide +kernel⟩
theorem wd_1233 : Cond.methodLink RX11 288 yX11_part ∈ gW := List.mem_filter.mpr ⟨List.mem_of_getElem? (i := 1304) (by decide +kernel), by decide +kernel⟩
theorem wd_1234 : Cond.static yX11_part ∈ gW := List.mem_filter.mpr ⟨List.mem_of_getElem? (i := 1305) (by decide +kernel), by decide +kernel⟩
theorem wd_1235 : Cond.code yX11_part cX11_part 11 (some (.long)) ∈ gW := List.mem_filter.mpr ⟨List.mem_of_getElem? (i := 1306) (by decide +kernel), by decide +kernel⟩
theorem wd_1236 : Cond.methodLink RX11 298 yX11_no ∈ gW := List.mem_filter.mpr ⟨List.mem_of_getElem? (i := 1307) (by decide +kernel), by decide +kernel⟩
theorem wd_1237 : Cond.static yX11_no ∈ gW := List.mem_filter.mpr ⟨List.mem_of_getElem? (i := 1308) (by decide +kernel), by decide +kernel⟩
theorem wd_1238 : Cond.code yX11_no cX11_no 1 (some (.long)) ∈ gW := List.mem_filter.mpr ⟨List.mem_of_getElem? (i := 1309) (by decide +kernel), by decide +kernel⟩
theorem wd_1239 : Cond.constantLong RX11 72 (-9223372036854775808) ∈ gW := List.mem_filter.mpr ⟨List.mem_of_getElem? (i := 1310) (by decide +kernel), by decide +kernel⟩
theorem wd_1240 : Cond.methodLink R_law 125 yX11_century ∈ gW := List.mem_filter.mpr ⟨List.mem_of_getElem? (i := 1311) (by decide +kernel), by decide +kernel⟩
theorem wd_1241 : Cond.instanceMethod yX11_century ∈ gW := List.mem_filter.mpr ⟨List.mem_of_getElem? (i := 1312) (by decide +kernel), by decide +kernel⟩
theorem wd_1242 : Cond.selects RX11 yX11_century yX11_century ∈ gW := List.mem_filter.mpr ⟨List.mem_of_getElem? (i := 1313) (by decide +kernel), by decide +kernel⟩
theorem wd_1243 : Cond.code yX11_century cX11_century 4 (some (.int)) ∈ gW := List.mem_filter.mpr ⟨List.mem_of_getElem? (i := 1314) (by decide +kernel), by decide +kernel⟩
theorem wd_1244 : Cond.constantLong RX11 309 8 ∈ gW := List.mem_filter.mpr ⟨List.mem_of_getElem? (i := 1315) (by decide +kernel), by decide +kernel⟩
theorem wd_1245 : Cond.methodLink RX11 311 yX11_centuryOf ∈ gW := List.mem_filter.mpr ⟨List.mem_of_getElem? (i := 1316) (by decide +kernel), by decide +kernel⟩
theorem wd_1247 : Cond.instanceMethod yX11_centuryOf ∈ gW := List.mem_filter.mpr ⟨List.mem_of_getElem? (i := 1318) (by decide +kernel), by decide +kernel⟩
theorem wd_1248 : Cond.code yX11_centuryOf cX11_centuryOf 8 (some (.int)) ∈ gW := List.mem_filter.mpr ⟨List.mem_of_getElem? (i := 1319) (by decide +kernel), by decide +kernel⟩
theorem wd_1249 : Cond.methodLink RX11 306 yX11_lot ∈ gW := List.mem_filter.mpr ⟨List.mem_of_getElem? (i := 1320) (by decide +kernel), by decide +kernel⟩
theorem wd_1251 : Cond.instanceMethod yX11_lot ∈ gW := List.mem_filter.mpr ⟨List.mem_of_getElem? (i := 1322) (by decide +kernel), by decide +kernel⟩
theorem wd_1252 : Cond.code yX11_lot cX11_lot 2 (some (.int)) ∈ gW := List.mem_filter.mpr ⟨List.mem_of_getElem? (i := 1323) (by decide +kernel), by decide +kernel⟩
theorem wd_1253 : Cond.constant RX11 302 1103515245 ∈ gW := List.mem_filter.mpr ⟨List.mem_of_getElem? (i := 1324) (by decide +kernel), by decide +kernel⟩
theorem wd_1254 : Cond.methodLink R_law 151 yX11_write ∈ gW := List.mem_filter.mpr ⟨List.mem_of_getElem? (i := 1325) (by decide +kernel), by decide +kernel⟩
theorem wd_1255 : Cond.instanceMethod yX11_write ∈ gW := List.mem_filter.mpr ⟨List.mem_of_getElem? (i := 1326) (by decide +kernel), by decide +kernel⟩
theorem wd_1256 : Cond.selects RX11 yX11_write yX11_write ∈ gW := List.mem_filter.mpr ⟨List.mem_of_getElem? (i := 1327) (by decide +kernel), by decide +kernel⟩
theorem wd_1257 : Cond.code yX11_write cX11_write 4 (some (.int)) ∈ gW := List.mem_filter.mpr ⟨List.mem_of_getElem? (i := 1328) (by decide +kernel), by decide +kernel⟩
theorem wd_1258 : Cond.methodLink R_law 155 yX11_count ∈ gW := List.mem_filter.mpr ⟨List.mem_of_getElem? (i := 1329) (by decide +kernel), by decide +kernel⟩
theorem wd_1259 : Cond.instanceMethod yX11_count ∈ gW := List.mem_filter.mpr ⟨List.mem_of_getElem? (i := 1330) (by decide +kernel), by decide +kernel⟩
theorem wd_1260 : Cond.selects RX11 yX11_count yX11_count ∈ gW := List.mem_filter.mpr ⟨List.mem_of_getElem? (i := 1331) (by decide +kernel), by decide +kernel⟩
theorem wd_1261 : Cond.code yX11_count cX11_count 2 (some (.int)) ∈ gW := List.mem_filter.mpr ⟨List.mem_of_getElem? (i := 1332) (by decide +kernel), by decide +kernel⟩
theorem wd_1262 : Cond.methodLink RX11 314 yX11_allYellow ∈ gW := List.mem_filter.mpr ⟨List.mem_of_getElem? (i := 1333) (by decide +kernel), by decide +kernel⟩
theorem wd_1264 : Cond.instanceMethod yX11_allYellow ∈ gW := List.mem_filter.mpr ⟨List.mem_of_getElem? (i := 1335) (by decide +kernel), by decide +kernel⟩
theorem wd_1265 : Cond.code yX11_allYellow cX11_allYellow 3 (some (.int)) ∈ gW := List.mem_filter.mpr ⟨List.mem_of_getElem? (i := 1336) (by decide +kernel), by decide +kernel⟩
theorem wd_1266 : Cond.methodLink R_law 160 yX11_digest ∈ gW := List.mem_filter.mpr ⟨List.mem_of_getElem? (i := 1337) (by decide +kernel), by decide +kernel⟩
theorem wd_1267 : Cond.instanceMethod yX11_digest ∈ gW := List.mem_filter.mpr ⟨List.mem_of_getElem? (i := 1338) (by decide +kernel), by decide +kernel⟩
theorem wd_1268 : Cond.selects RX11 yX11_digest yX11_digest ∈ gW := List.mem_filter.mpr ⟨List.mem_of_getElem? (i := 1339) (by decide +kernel), by decide +kernel⟩
theorem wd_1269 : Cond.code yX11_digest cX11_digest 5 (some (.long)) ∈ gW := List.mem_filter.mpr ⟨List.mem_of_getElem? (i := 1340) (by decide +kernel), by decide +kernel⟩
theorem wd_1270 : Cond.constantLong RX11 323 17 ∈ gW := List.mem_filter.mpr ⟨List.mem_of_getElem? (i := 1341) (by decide +kernel), by decide +kernel⟩
theorem wd_1271 : Cond.constantLong RX11 317 31 ∈ gW := List.mem_filter.mpr ⟨List.mem_of_getElem? (i := 1342) (by decide +kernel), by decide +kernel⟩
theorem wd_1272 : Cond.methodLink RX11 325 yX11_count ∈ gW := List.mem_filter.mpr ⟨List.mem_of_getElem? (i := 1343) (by decide +kernel), by decide +kernel⟩
theorem wd_1273 : Cond.methodLink RX11 328 yX11_tellsBush ∈ gW := List.mem_filter.mpr ⟨List.mem_of_getElem? (i := 1344) (by decide +kernel), by decide +kernel⟩
theorem wd_1275 : Cond.instanceMethod yX11_tellsBush ∈ gW := List.mem_filter.mpr ⟨List.mem_of_getElem? (i := 1346) (by decide +kernel), by decide +kernel⟩
theorem wd_1276 : Cond.code yX11_tellsBush cX11_tellsBush 7 (some (.long)) ∈ gW := List.mem_filter.mpr ⟨List.mem_of_getElem? (i := 1347) (by decide +kernel), by decide +kernel⟩
theorem wd_1277 : Cond.methodLink RX11 319 yX11_tellsMonth ∈ gW := List.mem_filter.mpr ⟨List.mem_of_getElem? (i := 1348) (by decide +kernel), by decide +kernel⟩
theorem wd_1279 : Cond.instanceMethod yX11_tellsMonth ∈ gW := List.mem_filter.mpr ⟨List.mem_of_getElem? (i := 1350) (by decide +kernel), by decide +kernel⟩
theorem wd_1280 : Cond.code yX11_tellsMonth cX11_tellsMonth 8 (some (.long)) ∈ gW := List.mem_filter.mpr ⟨List.mem_of_getElem? (i := 1351) (by decide +kernel), by decide +kernel⟩
theorem ws_0 : Cond.selects RX10 yX10_textOf yX10_textOf ∈ gW := List.mem_filter.mpr ⟨List.mem_of_getElem? (i := 0) (by decide +kernel), by decide +kernel⟩
theorem ws_1 : Cond.selects RX9 yX9_parse yX9_parse ∈ gW := List.mem_filter.mpr ⟨List.mem_of_getElem? (i := 1) (by decide +kernel), by decide +kernel⟩
theorem ws_2 : Cond.selects RX9 yX9_firstFault yX9_firstFault ∈ gW := List.mem_filter.mpr ⟨List.mem_of_getElem? (i := 2) (by decide +kernel), by decide +kernel⟩
theorem ws_3 : Cond.selects RX9 yX9_mayStand yX9_mayStand ∈ gW := List.mem_filter.mpr ⟨List.mem_of_getElem? (i := 3) (by decide +kernel), by decide +kernel⟩
theorem ws_4 : Cond.selects RX10 yX10_finding yX10_finding ∈ gW := List.mem_filter.mpr ⟨List.mem_of_getElem? (i := 4) (by decide +kernel), by decide +kernel⟩
theorem ws_5 : Cond.selects RX6 yX6_countFires yX6_countFires ∈ gW := List.mem_filter.mpr ⟨List.mem_of_getElem? (i := 5) (by decide +kernel), by decide +kernel⟩
theorem ws_6 : Cond.selects RX6 yX6_gatherLooks yX6_gatherLooks ∈ gW := List.mem_filter.mpr ⟨List.mem_of_getElem? (i := 6) (by decide +kernel), by decide +kernel⟩
theorem ws_7 : Cond.selects RX6 yX6_worthOf yX6_worthOf ∈ gW := List.mem_filter.mpr ⟨List.mem_of_getElem? (i := 7) (by decide +kernel), by decide +kernel⟩
theorem ws_8 : Cond.selects RX6 yX6_behind yX6_behind ∈ gW := List.mem_filter.mpr ⟨List.mem_of_getElem? (i := 8) (by decide +kernel), by decide +kernel⟩
theorem ws_9 : Cond.selects RX10 yX10_bareIfPlanted yX10_bareIfPlanted ∈ gW := List.mem_filter.mpr ⟨List.mem_of_getElem? (i := 9) (by decide +kernel), by decide +kernel⟩
theorem ws_10 : Cond.selects RX10 yX10_bestSend yX10_bestSend ∈ gW := List.mem_filter.mpr ⟨List.mem_of_getElem? (i := 10) (by decide +kernel), by decide +kernel⟩
theorem ws_11 : Cond.selects RX10 yX10_fewestToLose yX10_fewestToLose ∈ gW := List.mem_filter.mpr ⟨List.mem_of_getElem? (i := 11) (by decide +kernel), by decide +kernel⟩
theorem ws_12 : Cond.selects RX10 yX10_bestDeal yX10_bestDeal ∈ gW := List.mem_filter.mpr ⟨List.mem_of_getElem? (i := 12) (by decide +kernel), by decide +kernel⟩
theorem ws_13 : Cond.selects RX10 yX10_beginsThatFit yX10_beginsThatFit ∈ gW := List.mem_filter.mpr ⟨List.mem_of_getElem? (i := 13) (by decide +kernel), by decide +kernel⟩
theorem ws_14 : Cond.selects RX10 yX10_kindsThatFit yX10_kindsThatFit ∈ gW := List.mem_filter.mpr ⟨List.mem_of_getElem? (i := 14) (by decide +kernel), by decide +kernel⟩
theorem ws_15 : Cond.selects RX10 yX10_greatestAlike yX10_greatestAlike ∈ gW := List.mem_filter.mpr ⟨List.mem_of_getElem? (i := 15) (by decide +kernel), by decide +kernel⟩
theorem ws_16 : Cond.selects RX10 yX10_bareShares yX10_bareShares ∈ gW := List.mem_filter.mpr ⟨List.mem_of_getElem? (i := 16) (by decide +kernel), by decide +kernel⟩
theorem ws_17 : Cond.selects RX10 yX10_gatherHinderers yX10_gatherHinderers ∈ gW := List.mem_filter.mpr ⟨List.mem_of_getElem? (i := 17) (by decide +kernel), by decide +kernel⟩
theorem ws_18 : Cond.selects RX10 yX10_hindersAll yX10_hindersAll ∈ gW := List.mem_filter.mpr ⟨List.mem_of_getElem? (i := 18) (by decide +kernel), by decide +kernel⟩
theorem ws_19 : Cond.selects RX10 yX10_shareOf yX10_shareOf ∈ gW := List.mem_filter.mpr ⟨List.mem_of_getElem? (i := 19) (by decide +kernel), by decide +kernel⟩
theorem ws_20 : Cond.selects RX10 yX10_drawEvents yX10_drawEvents ∈ gW := List.mem_filter.mpr ⟨List.mem_of_getElem? (i := 20) (by decide +kernel), by decide +kernel⟩
theorem ws_21 : Cond.selects RX8 yX8_narrowed yX8_narrowed ∈ gW := List.mem_filter.mpr ⟨List.mem_of_getElem? (i := 21) (by decide +kernel), by decide +kernel⟩
theorem ws_22 : Cond.selects RX10 yX10_allYellow yX10_allYellow ∈ gW := List.mem_filter.mpr ⟨List.mem_of_getElem? (i := 22) (by decide +kernel), by decide +kernel⟩
theorem ws_23 : Cond.selects RX10 yX10_digestOfCounts yX10_digestOfCounts ∈ gW := List.mem_filter.mpr ⟨List.mem_of_getElem? (i := 23) (by decide +kernel), by decide +kernel⟩
theorem ws_24 : Cond.selects RX10 yX10_digestOfMonths yX10_digestOfMonths ∈ gW := List.mem_filter.mpr ⟨List.mem_of_getElem? (i := 24) (by decide +kernel), by decide +kernel⟩
theorem ws_25 : Cond.selects RX10 yX10_digestOfLooks yX10_digestOfLooks ∈ gW := List.mem_filter.mpr ⟨List.mem_of_getElem? (i := 25) (by decide +kernel), by decide +kernel⟩
theorem ws_26 : Cond.selects RX10 yX10_digestOfBush yX10_digestOfBush ∈ gW := List.mem_filter.mpr ⟨List.mem_of_getElem? (i := 26) (by decide +kernel), by decide +kernel⟩
theorem ws_27 : Cond.selects RX10 yX10_digestOfBushIn yX10_digestOfBushIn ∈ gW := List.mem_filter.mpr ⟨List.mem_of_getElem? (i := 27) (by decide +kernel), by decide +kernel⟩
theorem ws_28 : Cond.selects RX10 yX10_digestOfHill yX10_digestOfHill ∈ gW := List.mem_filter.mpr ⟨List.mem_of_getElem? (i := 28) (by decide +kernel), by decide +kernel⟩
theorem ws_29 : Cond.selects RX10 yX10_digestOfPlans yX10_digestOfPlans ∈ gW := List.mem_filter.mpr ⟨List.mem_of_getElem? (i := 29) (by decide +kernel), by decide +kernel⟩
theorem ws_30 : Cond.selects RX10 yX10_digestOfLuck yX10_digestOfLuck ∈ gW := List.mem_filter.mpr ⟨List.mem_of_getElem? (i := 30) (by decide +kernel), by decide +kernel⟩
theorem ws_31 : Cond.selects RX11 yX11_finds yX11_finds ∈ gW := List.mem_filter.mpr ⟨List.mem_of_getElem? (i := 31) (by decide +kernel), by decide +kernel⟩
theorem ws_32 : Cond.selects RX11 yX11_lacks yX11_lacks ∈ gW := List.mem_filter.mpr ⟨List.mem_of_getElem? (i := 32) (by decide +kernel), by decide +kernel⟩
theorem ws_33 : Cond.selects RX11 yX11_readsText yX11_readsText ∈ gW := List.mem_filter.mpr ⟨List.mem_of_getElem? (i := 33) (by decide +kernel), by decide +kernel⟩
theorem ws_34 : Cond.selects RX11 yX11_readsBushes yX11_readsBushes ∈ gW := List.mem_filter.mpr ⟨List.mem_of_getElem? (i := 34) (by decide +kernel), by decide +kernel⟩
theorem ws_35 : Cond.selects RX11 yX11_readsLooks yX11_readsLooks ∈ gW := List.mem_filter.mpr ⟨List.mem_of_getElem? (i := 35) (by decide +kernel), by decide +kernel⟩
theorem ws_36 : Cond.selects RX11 yX11_isBush yX11_isBush ∈ gW := List.mem_filter.mpr ⟨List.mem_of_getElem? (i := 36) (by decide +kernel), by decide +kernel⟩
theorem ws_37 : Cond.selects RX11 yX11_lookBy yX11_lookBy ∈ gW := List.mem_filter.mpr ⟨List.mem_of_getElem? (i := 37) (by decide +kernel), by decide +kernel⟩
theorem ws_38 : Cond.selects RX11 yX11_puts yX11_puts ∈ gW := List.mem_filter.mpr ⟨List.mem_of_getElem? (i := 38) (by decide +kernel), by decide +kernel⟩
theorem ws_39 : Cond.selects RX11 yX11_find yX11_find ∈ gW := List.mem_filter.mpr ⟨List.mem_of_getElem? (i := 39) (by decide +kernel), by decide +kernel⟩
theorem ws_40 : Cond.selects RX11 yX11_lives yX11_lives ∈ gW := List.mem_filter.mpr ⟨List.mem_of_getElem? (i := 40) (by decide +kernel), by decide +kernel⟩
theorem ws_41 : Cond.selects RX11 yX11_grows yX11_grows ∈ gW := List.mem_filter.mpr ⟨List.mem_of_getElem? (i := 41) (by decide +kernel), by decide +kernel⟩
theorem ws_42 : Cond.selects RX11 yX11_stateOf yX11_stateOf ∈ gW := List.mem_filter.mpr ⟨List.mem_of_getElem? (i := 42) (by decide +kernel), by decide +kernel⟩
theorem ws_43 : Cond.selects RX11 yX11_isOn yX11_isOn ∈ gW := List.mem_filter.mpr ⟨List.mem_of_getElem? (i := 43) (by decide +kernel), by decide +kernel⟩
theorem ws_44 : Cond.selects RX11 yX11_isSeason yX11_isSeason ∈ gW := List.mem_filter.mpr ⟨List.mem_of_getElem? (i := 44) (by decide +kernel), by decide +kernel⟩
theorem ws_45 : Cond.selects RX11 yX11_isSeeming yX11_isSeeming ∈ gW := List.mem_filter.mpr ⟨List.mem_of_getElem? (i := 45) (by decide +kernel), by decide +kernel⟩
theorem ws_46 : Cond.selects RX11 yX11_believes yX11_believes ∈ gW := List.mem_filter.mpr ⟨List.mem_of_getElem? (i := 46) (by decide +kernel), by decide +kernel⟩
theorem ws_47 : Cond.selects RX11 yX11_looked yX11_looked ∈ gW := List.mem_filter.mpr ⟨List.mem_of_getElem? (i := 47) (by decide +kernel), by decide +kernel⟩
theorem ws_48 : Cond.selects RX11 yX11_atBy yX11_atBy ∈ gW := List.mem_filter.mpr ⟨List.mem_of_getElem? (i := 48) (by decide +kernel), by decide +kernel⟩
theorem ws_49 : Cond.selects RX11 yX11_hillBy yX11_hillBy ∈ gW := List.mem_filter.mpr ⟨List.mem_of_getElem? (i := 49) (by decide +kernel), by decide +kernel⟩
theorem ws_50 : Cond.selects RX11 yX11_bareNow yX11_bareNow ∈ gW := List.mem_filter.mpr ⟨List.mem_of_getElem? (i := 50) (by decide +kernel), by decide +kernel⟩
theorem ws_51 : Cond.selects RX11 yX11_runNow yX11_runNow ∈ gW := List.mem_filter.mpr ⟨List.mem_of_getElem? (i := 51) (by decide +kernel), by decide +kernel⟩
theorem ws_52 : Cond.selects RX11 yX11_fakeNow yX11_fakeNow ∈ gW := List.mem_filter.mpr ⟨List.mem_of_getElem? (i := 52) (by decide +kernel), by decide +kernel⟩
theorem ws_53 : Cond.selects RX11 yX11_lastBy yX11_lastBy ∈ gW := List.mem_filter.mpr ⟨List.mem_of_getElem? (i := 53) (by decide +kernel), by decide +kernel⟩
theorem ws_54 : Cond.selects RX11 yX11_plantBy yX11_plantBy ∈ gW := List.mem_filter.mpr ⟨List.mem_of_getElem? (i := 54) (by decide +kernel), by decide +kernel⟩
theorem ws_55 : Cond.selects RX11 yX11_sendBy yX11_sendBy ∈ gW := List.mem_filter.mpr ⟨List.mem_of_getElem? (i := 55) (by decide +kernel), by decide +kernel⟩
theorem ws_56 : Cond.selects RX11 yX11_saveOf yX11_saveOf ∈ gW := List.mem_filter.mpr ⟨List.mem_of_getElem? (i := 56) (by decide +kernel), by decide +kernel⟩
theorem ws_57 : Cond.selects RX11 yX11_isSaved yX11_isSaved ∈ gW := List.mem_filter.mpr ⟨List.mem_of_getElem? (i := 57) (by decide +kernel), by decide +kernel⟩
theorem ws_58 : Cond.selects RX11 yX11_dealBy yX11_dealBy ∈ gW := List.mem_filter.mpr ⟨List.mem_of_getElem? (i := 58) (by decide +kernel), by decide +kernel⟩
theorem ws_59 : Cond.selects RX11 yX11_neverNow yX11_neverNow ∈ gW := List.mem_filter.mpr ⟨List.mem_of_getElem? (i := 59) (by decide +kernel), by decide +kernel⟩
theorem ws_60 : Cond.selects RX11 yX11_isSeen yX11_isSeen ∈ gW := List.mem_filter.mpr ⟨List.mem_of_getElem? (i := 60) (by decide +kernel), by decide +kernel⟩
theorem ws_61 : Cond.selects RX11 yX11_wasOf yX11_wasOf ∈ gW := List.mem_filter.mpr ⟨List.mem_of_getElem? (i := 61) (by decide +kernel), by decide +kernel⟩
theorem ws_62 : Cond.selects RX11 yX11_beganOf yX11_beganOf ∈ gW := List.mem_filter.mpr ⟨List.mem_of_getElem? (i := 62) (by decide +kernel), by decide +kernel⟩
theorem ws_63 : Cond.selects RX11 yX11_sortOf yX11_sortOf ∈ gW := List.mem_filter.mpr ⟨List.mem_of_getElem? (i := 63) (by decide +kernel), by decide +kernel⟩
theorem ws_64 : Cond.selects RX11 yX11_askOf yX11_askOf ∈ gW := List.mem_filter.mpr ⟨List.mem_of_getElem? (i := 64) (by decide +kernel), by decide +kernel⟩
theorem ws_65 : Cond.selects RX11 yX11_luckOf yX11_luckOf ∈ gW := List.mem_filter.mpr ⟨List.mem_of_getElem? (i := 65) (by decide +kernel), by decide +kernel⟩
theorem ws_66 : Cond.selects RX11 yX11_centuryOf yX11_centuryOf ∈ gW := List.mem_filter.mpr ⟨List.mem_of_getElem? (i := 66) (by decide +kernel), by decide +kernel⟩
theorem ws_67 : Cond.selects RX11 yX11_lot yX11_lot ∈ gW := List.mem_filter.mpr ⟨List.mem_of_getElem? (i := 67) (by decide +kernel), by decide +kernel⟩
theorem ws_68 : Cond.selects RX11 yX11_allYellow yX11_allYellow ∈ gW := List.mem_filter.mpr ⟨List.mem_of_getElem? (i := 68) (by decide +kernel), by decide +kernel⟩
theorem ws_69 : Cond.selects RX11 yX11_tellsBush yX11_tellsBush ∈ gW := List.mem_filter.mpr ⟨List.mem_of_getElem? (i := 69) (by decide +kernel), by decide +kernel⟩
theorem ws_70 : Cond.selects RX11 yX11_tellsMonth yX11_tellsMonth ∈ gW := List.mem_filter.mpr ⟨List.mem_of_getElem? (i := 70) (by decide +kernel), by decide +kernel⟩
end
section
def pX0_size : gProg := [(0, sLdA 0 1),
  (1, sGet 0 0),
  (4, sGet 9 7),
  (7, sRetI)]
theorem kX0_size : ∀ q ∈ pX0_size, gSnd RX0 cX0_size 1 none q.1 q.2 := by
  simp only [pX0_size, List.forall_mem_cons]
  exact ⟨gs_aload_n (k := 0) (by decide +kernel) rfl,
    gs_get (T := TX0) (N := 1) (Cn := RX0) (by decide +kernel) rfl (by decide) inW0 rfl wd_85,
    gs_getN (T := TX9) (N := 8) (Cn := RX9) (by decide +kernel) rfl (by decide) inW9 rfl wn_66,
    gs_iret (by decide +kernel),
    fun _ h => absurd h List.not_mem_nil⟩
def pX0_has : gProg := [(0, sLdI 1 1),
  (1, sIflt 19),
  (4, sLdI 1 1),
  (5, sLdA 0 1),
  (6, sGet 0 0),
  (9, sGet 9 7),
  (12, sCmpge 19),
  (15, sPush (.int 1) 1),
  (16, sGoto 20),
  (19, sPush (.int 0) 1),
  (20, sRetI)]
theorem kX0_has : ∀ q ∈ pX0_has, gSnd RX0 cX0_has 2 none q.1 q.2 := by
  simp only [pX0_has, List.forall_mem_cons]
  exact ⟨gs_iload_n (k := 1) (by decide +kernel) rfl,
    gs_if_lt (off := 18) (by decide +kernel) (by decide),
    gs_iload_n (k := 1) (by decide +kernel) rfl,
    gs_aload_n (k := 0) (by decide +kernel) rfl,
    gs_get (T := TX0) (N := 1) (Cn := RX0) (by decide +kernel) rfl (by decide) inW0 rfl wd_85,
    gs_getN (T := TX9) (N := 8) (Cn := RX9) (by decide +kernel) rfl (by decide) inW9 rfl wn_66,
    gs_icmp_ge (off := 7) (by decide +kernel) (by decide),
    gs_iconst (n := 1) (by decide +kernel) (by decide),
    gs_goto (off := 4) (by decide +kernel) (by decide),
    gs_iconst (n := 0) (by decide +kernel) (by decide),
    gs_iret (by decide +kernel),
    fun _ h => absurd h List.not_mem_nil⟩
def pX0_kindOf : gProg := [(0, sLdA 0 1),
  (1, sLdI 1 1),
  (2, sCallV 1 0 1),
  (5, sIfeq 29),
  (8, sRo 1004),
  (11, sLdA 0 1),
  (12, sGet 0 0),
  (15, sGet 9 0),
  (18, sPush (.int 4) 1),
  (19, sLdI 1 1),
  (20, sImul),
  (21, sIald),
  (22, sPush (.int 99) 2),
  (24, sIsub),
  (25, sIald),
  (26, sGoto 30),
  (29, sPush (.int 0) 1),
  (30, sRetI)]
theorem kX0_kindOf : ∀ q ∈ pX0_kindOf, gSnd RX0 cX0_kindOf 2 none q.1 q.2 := by
  simp only [pX0_kindOf, List.forall_mem_cons]
  exact ⟨gs_aload_n (k := 0) (by decide +kernel) rfl,
    gs_iload_n (k := 1) (by decide +kernel) rfl,
    gs_callV (by decide +kernel) rfl rfl wd_365 wd_360 wd_358 wd_359 wd_4 mp_1 (by decide),
    gs_if_eq (off := 24) (by decide +kernel) (by decide),
    gs_roN (j := 4) (by decide +kernel) rfl wn_366,
    gs_aload_n (k := 0) (by decide +kernel) rfl,
    gs_get (T := TX0) (N := 1) (Cn := RX0) (by decide +kernel) rfl (by decide) inW0 rfl wd_85,
    gs_getN (T := TX9) (N := 8) (Cn := RX9) (by decide +kernel) rfl (by decide) inW9 rfl wn_55,
    gs_iconst (n := 4) (by decide +kernel) (by decide),
    gs_iload_n (k := 1) (by decide +kernel) rfl,
    gs_imul (by decide +kernel),
    gs_iaload (by decide +kernel),
    gs_bipush (n := 99) (by decide +kernel) (by decide),
    gs_isub (by decide +kernel),
    gs_iaload (by decide +kernel),
    gs_goto (off := 4) (by decide +kernel) (by decide),
    gs_iconst (n := 0) (by decide +kernel) (by decide),
    gs_iret (by decide +kernel),
    fun _ h => absurd h List.not_mem_nil⟩
def pX0_beginOf : gProg := [(0, sLdA 0 1),
  (1, sLdI 1 1),
  (2, sCallV 1 0 1),
  (5, sIfeq 27),
  (8, sLdA 0 1),
  (9, sGet 0 0),
  (12, sGet 9 0),
  (15, sPush (.int 4) 1),
  (16, sLdI 1 1),
  (17, sImul),
  (18, sPush (.int 1) 1),
  (19, sIadd),
  (20, sIald),
  (21, sPush (.int 97) 2),
  (23, sIsub),
  (24, sGoto 28),
  (27, sPush (.int 0) 1),
  (28, sRetI)]
theorem kX0_beginOf : ∀ q ∈ pX0_beginOf, gSnd RX0 cX0_beginOf 2 none q.1 q.2 := by
  simp only [pX0_beginOf, List.forall_mem_cons]
  exact ⟨gs_aload_n (k := 0) (by decide +kernel) rfl,
    gs_iload_n (k := 1) (by decide +kernel) rfl,
    gs_callV (by decide +kernel) rfl rfl wd_365 wd_360 wd_358 wd_359 wd_4 mp_1 (by decide),
    gs_if_eq (off := 22) (by decide +kernel) (by decide),
    gs_aload_n (k := 0) (by decide +kernel) rfl,
    gs_get (T := TX0) (N := 1) (Cn := RX0) (by decide +kernel) rfl (by decide) inW0 rfl wd_85,
    gs_getN (T := TX9) (N := 8) (Cn := RX9) (by decide +kernel) rfl (by decide) inW9 rfl wn_55,
    gs_iconst (n := 4) (by decide +kernel) (by decide),
    gs_iload_n (k := 1) (by decide +kernel) rfl,
    gs_imul (by decide +kernel),
    gs_iconst (n := 1) (by decide +kernel) (by decide),
    gs_iadd (by decide +kernel),
    gs_iaload (by decide +kernel),
    gs_bipush (n := 97) (by decide +kernel) (by decide),
    gs_isub (by decide +kernel),
    gs_goto (off := 4) (by decide +kernel) (by decide),
    gs_iconst (n := 0) (by decide +kernel) (by decide),
    gs_iret (by decide +kernel),
    fun _ h => absurd h List.not_mem_nil⟩
def pX0_sparksOf : gProg := [(0, sLdA 0 1),
  (1, sLdI 1 1),
  (2, sCallV 1 0 1),
  (5, sIfeq 27),
  (8, sLdA 0 1),
  (9, sGet 0 0),
  (12, sGet 9 0),
  (15, sPush (.int 4) 1),
  (16, sLdI 1 1),
  (17, sImul),
  (18, sPush (.int 2) 1),
  (19, sIadd),
  (20, sIald),
  (21, sPush (.int 48) 2),
  (23, sIsub),
  (24, sGoto 28),
  (27, sPush (.int 0) 1),
  (28, sRetI)]
theorem kX0_sparksOf : ∀ q ∈ pX0_sparksOf, gSnd RX0 cX0_sparksOf 2 none q.1 q.2 := by
  simp only [pX0_sparksOf, List.forall_mem_cons]
  exact ⟨gs_aload_n (k := 0) (by decide +kernel) rfl,
    gs_iload_n (k := 1) (by decide +kernel) rfl,
    gs_callV (by decide +kernel) rfl rfl wd_365 wd_360 wd_358 wd_359 wd_4 mp_1 (by decide),
    gs_if_eq (off := 22) (by decide +kernel) (by decide),
    gs_aload_n (k := 0) (by decide +kernel) rfl,
    gs_get (T := TX0) (N := 1) (Cn := RX0) (by decide +kernel) rfl (by decide) inW0 rfl wd_85,
    gs_getN (T := TX9) (N := 8) (Cn := RX9) (by decide +kernel) rfl (by decide) inW9 rfl wn_55,
    gs_iconst (n := 4) (by decide +kernel) (by decide),
    gs_iload_n (k := 1) (by decide +kernel) rfl,
    gs_imul (by decide +kernel),
    gs_iconst (n := 2) (by decide +kernel) (by decide),
    gs_iadd (by decide +kernel),
    gs_iaload (by decide +kernel),
    gs_bipush (n := 48) (by decide +kernel) (by decide),
    gs_isub (by decide +kernel),
    gs_goto (off := 4) (by decide +kernel) (by decide),
    gs_iconst (n := 0) (by decide +kernel) (by decide),
    gs_iret (by decide +kernel),
    fun _ h => absurd h List.not_mem_nil⟩
def pX1_follow : gProg := [(0, sLdA 0 1),
  (1, sGet 1 0),
  (4, sPush (.int 0) 1),
  (5, sCallS 203 2),
  (8, sPush (.int 0) 1),
  (9, sStI 6 2),
  (11, sLdI 6 2),
  (13, sLdA 1 1),
  (14, sGet 2 3),
  (17, sCmpge 59),
  (20, sLdI 2 1),
  (21, sLdI 6 2),
  (23, sCallS 110 2),
  (26, sIfne 53),
  (29, sLdA 0 1),
  (30, sGet 1 0),
  (33, sLdA 1 1),
  (34, sGet 2 0),
  (37, sLdI 6 2),
  (39, sIald),
  (40, sDup2),
  (41, sIald),
  (42, sLdA 1 1),
  (43, sLdI 6 2),
  (45, sLdI 3 1),
  (46, sLdI 4 2),
  (48, sCallV 11 2 3),
  (51, sIor),
  (52, sIast),
  (53, sInc 6 1),
  (56, sGoto 11),
  (59, sLdA 0 1),
  (60, sLdI 5 2),
  (62, sLdI 4 2),
  (64, sCallV 6 1 2),
  (67, sRetV)]
theorem kX1_follow : ∀ q ∈ pX1_follow, gSnd RX1 cX1_follow 7 none q.1 q.2 := by
  simp only [pX1_follow, List.forall_mem_cons]
  exact ⟨gs_aload_n (k := 0) (by decide +kernel) rfl,
    gs_get (T := TX1) (N := 4) (Cn := RX1) (by decide +kernel) rfl (by decide) inW1 rfl wd_97,
    gs_iconst (n := 0) (by decide +kernel) (by decide),
    gs_callS (by decide +kernel) rfl wd_453 wd_455 wd_454 wd_13 mp_203 (by decide),
    gs_iconst (n := 0) (by decide +kernel) (by decide),
    gs_istore (by decide +kernel),
    gs_iload (by decide +kernel),
    gs_aload_n (k := 1) (by decide +kernel) rfl,
    gs_getN (T := TX2) (N := 4) (Cn := RX2) (by decide +kernel) rfl (by decide) inW2 rfl wn_198,
    gs_icmp_ge (off := 42) (by decide +kernel) (by decide),
    gs_iload_n (k := 2) (by decide +kernel) rfl,
    gs_iload (by decide +kernel),
    gs_callSN (by decide +kernel) rfl wn_456 wd_458 wd_457 wd_1 mp_110 (by decide),
    gs_if_ne (off := 27) (by decide +kernel) (by decide),
    gs_aload_n (k := 0) (by decide +kernel) rfl,
    gs_get (T := TX1) (N := 4) (Cn := RX1) (by decide +kernel) rfl (by decide) inW1 rfl wd_97,
    gs_aload_n (k := 1) (by decide +kernel) rfl,
    gs_getN (T := TX2) (N := 4) (Cn := RX2) (by decide +kernel) rfl (by decide) inW2 rfl wn_191,
    gs_iload (by decide +kernel),
    gs_iaload (by decide +kernel),
    gs_dup2 (by decide +kernel),
    gs_iaload (by decide +kernel),
    gs_aload_n (k := 1) (by decide +kernel) rfl,
    gs_iload (by decide +kernel),
    gs_iload_n (k := 3) (by decide +kernel) rfl,
    gs_iload (by decide +kernel),
    gs_callV (by decide +kernel) rfl rfl wd_459 wd_462 wd_460 wd_461 wd_8 mp_11 (by decide),
    gs_ior (by decide +kernel),
    gs_iastore (by decide +kernel),
    gs_iinc (n := 1) (by decide +kernel) (by decide),
    gs_goto (off := -45) (by decide +kernel) (by decide),
    gs_aload_n (k := 0) (by decide +kernel) rfl,
    gs_iload (by decide +kernel),
    gs_iload (by decide +kernel),
    gs_callV (by decide +kernel) rfl rfl wd_466 wd_469 wd_467 wd_468 wd_6 mp_6 (by decide),
    gs_vret (by decide +kernel),
    fun _ h => absurd h List.not_mem_nil⟩
def pX1_beginIn : gProg := [(0, sPush (.int 1) 1),
  (1, sRo 1005),
  (4, sLdI 2 1),
  (5, sIald),
  (6, sIshl),
  (7, sPush (.int 1) 1),
  (8, sIsub),
  (9, sLdI 1 1),
  (10, sIshl),
  (11, sStI 3 1),
  (12, sLdI 3 1),
  (13, sLdI 3 1),
  (14, sPush (.int 12) 2),
  (16, sIshr),
  (17, sIor),
  (18, sPush (.int 4095) 3),
  (21, sIand),
  (22, sStI 4 2),
  (24, sLdA 0 1),
  (25, sLdI 4 2),
  (27, sLdI 4 2),
  (29, sPush (.int 12) 2),
  (31, sIshl),
  (32, sIor),
  (33, sPut 1 1),
  (36, sLdA 0 1),
  (37, sLdA 0 1),
  (38, sGet 1 1),
  (41, sLdA 0 1),
  (42, sGet 1 0),
  (45, sPush (.int 0) 1),
  (46, sIald),
  (47, sLdA 0 1),
  (48, sGet 1 0),
  (51, sPush (.int 1) 1),
  (52, sIald),
  (53, sIor),
  (54, sLdA 0 1),
  (55, sGet 1 0),
  (58, sPush (.int 2) 1),
  (59, sIald),
  (60, sIor),
  (61, sPush (.int (-1)) 1),
  (62, sIxor),
  (63, sIand),
  (64, sPut 1 2),
  (67, sLdA 0 1),
  (68, sLdA 0 1),
  (69, sGet 1 2),
  (72, sLdA 0 1),
  (73, sGet 1 0),
  (76, sPush (.int 3) 1),
  (77, sIald),
  (78, sIor),
  (79, sPut 1 3),
  (82, sRetV)]
theorem kX1_beginIn : ∀ q ∈ pX1_beginIn, gSnd RX1 cX1_beginIn 5 none q.1 q.2 := by
  simp only [pX1_beginIn, List.forall_mem_cons]
  exact ⟨gs_iconst (n := 1) (by decide +kernel) (by decide),
    gs_roN (j := 5) (by decide +kernel) rfl wn_470,
    gs_iload_n (k := 2) (by decide +kernel) rfl,
    gs_iaload (by decide +kernel),
    gs_ishl (by decide +kernel),
    gs_iconst (n := 1) (by decide +kernel) (by decide),
    gs_isub (by decide +kernel),
    gs_iload_n (k := 1) (by decide +kernel) rfl,
    gs_ishl (by decide +kernel),
    gs_istore_n (k := 3) (by decide +kernel) rfl,
    gs_iload_n (k := 3) (by decide +kernel) rfl,
    gs_iload_n (k := 3) (by decide +kernel) rfl,
    gs_bipush (n := 12) (by decide +kernel) (by decide),
    gs_ishr (by decide +kernel),
    gs_ior (by decide +kernel),
    gs_sipush (n := 4095) (by decide +kernel) (by decide),
    gs_iand (by decide +kernel),
    gs_istore (by decide +kernel),
    gs_aload_n (k := 0) (by decide +kernel) rfl,
    gs_iload (by decide +kernel),
    gs_iload (by decide +kernel),
    gs_bipush (n := 12) (by decide +kernel) (by decide),
    gs_ishl (by decide +kernel),
    gs_ior (by decide +kernel),
    gs_put (T := TX1) (N := 4) (Cn := RX1) (by decide +kernel) rfl (by decide) inW1 tyX1_ok nmX1 rfl wd_99,
    gs_aload_n (k := 0) (by decide +kernel) rfl,
    gs_aload_n (k := 0) (by decide +kernel) rfl,
    gs_get (T := TX1) (N := 4) (Cn := RX1) (by decide +kernel) rfl (by decide) inW1 rfl wd_99,
    gs_aload_n (k := 0) (by decide +kernel) rfl,
    gs_get (T := TX1) (N := 4) (Cn := RX1) (by decide +kernel) rfl (by decide) inW1 rfl wd_97,
    gs_iconst (n := 0) (by decide +kernel) (by decide),
    gs_iaload (by decide +kernel),
    gs_aload_n (k := 0) (by decide +kernel) rfl,
    gs_get (T := TX1) (N := 4) (Cn := RX1) (by decide +kernel) rfl (by decide) inW1 rfl wd_97,
    gs_iconst (n := 1) (by decide +kernel) (by decide),
    gs_iaload (by decide +kernel),
    gs_ior (by decide +kernel),
    gs_aload_n (k := 0) (by decide +kernel) rfl,
    gs_get (T := TX1) (N := 4) (Cn := RX1) (by decide +kernel) rfl (by decide) inW1 rfl wd_97,
    gs_iconst (n := 2) (by decide +kernel) (by decide),
    gs_iaload (by decide +kernel),
    gs_ior (by decide +kernel),
    gs_iconst (n := -1) (by decide +kernel) (by decide),
    gs_ixor (by decide +kernel),
    gs_iand (by decide +kernel),
    gs_put (T := TX1) (N := 4) (Cn := RX1) (by decide +kernel) rfl (by decide) inW1 tyX1_ok nmX1 rfl wd_101,
    gs_aload_n (k := 0) (by decide +kernel) rfl,
    gs_aload_n (k := 0) (by decide +kernel) rfl,
    gs_get (T := TX1) (N := 4) (Cn := RX1) (by decide +kernel) rfl (by decide) inW1 rfl wd_101,
    gs_aload_n (k := 0) (by decide +kernel) rfl,
    gs_get (T := TX1) (N := 4) (Cn := RX1) (by decide +kernel) rfl (by decide) inW1 rfl wd_97,
    gs_iconst (n := 3) (by decide +kernel) (by decide),
    gs_iaload (by decide +kernel),
    gs_ior (by decide +kernel),
    gs_put (T := TX1) (N := 4) (Cn := RX1) (by decide +kernel) rfl (by decide) inW1 tyX1_ok nmX1 rfl wd_104,
    gs_vret (by decide +kernel),
    fun _ h => absurd h List.not_mem_nil⟩
def pX1_stateIn : gProg := [(0, sPush (.int 0) 1),
  (1, sStI 2 1),
  (2, sLdI 2 1),
  (3, sPush (.int 2) 1),
  (4, sCmpgt 31),
  (7, sLdA 0 1),
  (8, sGet 1 0),
  (11, sLdI 2 1),
  (12, sIald),
  (13, sLdI 1 1),
  (14, sCallS 110 2),
  (17, sPush (.int 1) 1),
  (18, sCmpne 25),
  (21, sPush (.int 2) 1),
  (22, sLdI 2 1),
  (23, sIadd),
  (24, sRetI),
  (25, sInc 2 1),
  (28, sGoto 2),
  (31, sLdA 0 1),
  (32, sGet 1 1),
  (35, sLdI 1 1),
  (36, sCallS 110 2),
  (39, sPush (.int 1) 1),
  (40, sCmpne 47),
  (43, sPush (.int 1) 1),
  (44, sGoto 48),
  (47, sPush (.int 0) 1),
  (48, sRetI)]
theorem kX1_stateIn : ∀ q ∈ pX1_stateIn, gSnd RX1 cX1_stateIn 3 none q.1 q.2 := by
  simp only [pX1_stateIn, List.forall_mem_cons]
  exact ⟨gs_iconst (n := 0) (by decide +kernel) (by decide),
    gs_istore_n (k := 2) (by decide +kernel) rfl,
    gs_iload_n (k := 2) (by decide +kernel) rfl,
    gs_iconst (n := 2) (by decide +kernel) (by decide),
    gs_icmp_gt (off := 27) (by decide +kernel) (by decide),
    gs_aload_n (k := 0) (by decide +kernel) rfl,
    gs_get (T := TX1) (N := 4) (Cn := RX1) (by decide +kernel) rfl (by decide) inW1 rfl wd_97,
    gs_iload_n (k := 2) (by decide +kernel) rfl,
    gs_iaload (by decide +kernel),
    gs_iload_n (k := 1) (by decide +kernel) rfl,
    gs_callSN (by decide +kernel) rfl wn_456 wd_458 wd_457 wd_1 mp_110 (by decide),
    gs_iconst (n := 1) (by decide +kernel) (by decide),
    gs_icmp_ne (off := 7) (by decide +kernel) (by decide),
    gs_iconst (n := 2) (by decide +kernel) (by decide),
    gs_iload_n (k := 2) (by decide +kernel) rfl,
    gs_iadd (by decide +kernel),
    gs_iret (by decide +kernel),
    gs_iinc (n := 1) (by decide +kernel) (by decide),
    gs_goto (off := -26) (by decide +kernel) (by decide),
    gs_aload_n (k := 0) (by decide +kernel) rfl,
    gs_get (T := TX1) (N := 4) (Cn := RX1) (by decide +kernel) rfl (by decide) inW1 rfl wd_99,
    gs_iload_n (k := 1) (by decide +kernel) rfl,
    gs_callSN (by decide +kernel) rfl wn_456 wd_458 wd_457 wd_1 mp_110 (by decide),
    gs_iconst (n := 1) (by decide +kernel) (by decide),
    gs_icmp_ne (off := 7) (by decide +kernel) (by decide),
    gs_iconst (n := 1) (by decide +kernel) (by decide),
    gs_goto (off := 4) (by decide +kernel) (by decide),
    gs_iconst (n := 0) (by decide +kernel) (by decide),
    gs_iret (by decide +kernel),
    fun _ h => absurd h List.not_mem_nil⟩
def pX2_add : gProg := [(0, sLdA 0 1),
  (1, sGet 2 3),
  (4, sPush (.int 8) 2),
  (6, sCmplt 12),
  (9, sPush (.int (-4)) 2),
  (11, sRetI),
  (12, sLdA 0 1),
  (13, sGet 2 0),
  (16, sLdA 0 1),
  (17, sGet 2 3),
  (20, sLdI 1 1),
  (21, sIast),
  (22, sLdA 0 1),
  (23, sGet 2 1),
  (26, sLdA 0 1),
  (27, sGet 2 3),
  (30, sLdI 2 1),
  (31, sIast),
  (32, sLdA 0 1),
  (33, sGet 2 2),
  (36, sLdA 0 1),
  (37, sGet 2 3),
  (40, sLdI 3 1),
  (41, sIast),
  (42, sLdA 0 1),
  (43, sDup),
  (44, sGet 2 3),
  (47, sPush (.int 1) 1),
  (48, sIadd),
  (49, sPut 2 3),
  (52, sLdA 0 1),
  (53, sGet 2 3),
  (56, sRetI)]
theorem kX2_add : ∀ q ∈ pX2_add, gSnd RX2 cX2_add 4 none q.1 q.2 := by
  simp only [pX2_add, List.forall_mem_cons]
  exact ⟨gs_aload_n (k := 0) (by decide +kernel) rfl,
    gs_get (T := TX2) (N := 4) (Cn := RX2) (by decide +kernel) rfl (by decide) inW2 rfl wd_197,
    gs_bipush (n := 8) (by decide +kernel) (by decide),
    gs_icmp_lt (off := 6) (by decide +kernel) (by decide),
    gs_bipush (n := -4) (by decide +kernel) (by decide),
    gs_iret (by decide +kernel),
    gs_aload_n (k := 0) (by decide +kernel) rfl,
    gs_get (T := TX2) (N := 4) (Cn := RX2) (by decide +kernel) rfl (by decide) inW2 rfl wd_190,
    gs_aload_n (k := 0) (by decide +kernel) rfl,
    gs_get (T := TX2) (N := 4) (Cn := RX2) (by decide +kernel) rfl (by decide) inW2 rfl wd_197,
    gs_iload_n (k := 1) (by decide +kernel) rfl,
    gs_iastore (by decide +kernel),
    gs_aload_n (k := 0) (by decide +kernel) rfl,
    gs_get (T := TX2) (N := 4) (Cn := RX2) (by decide +kernel) rfl (by decide) inW2 rfl wd_193,
    gs_aload_n (k := 0) (by decide +kernel) rfl,
    gs_get (T := TX2) (N := 4) (Cn := RX2) (by decide +kernel) rfl (by decide) inW2 rfl wd_197,
    gs_iload_n (k := 2) (by decide +kernel) rfl,
    gs_iastore (by decide +kernel),
    gs_aload_n (k := 0) (by decide +kernel) rfl,
    gs_get (T := TX2) (N := 4) (Cn := RX2) (by decide +kernel) rfl (by decide) inW2 rfl wd_195,
    gs_aload_n (k := 0) (by decide +kernel) rfl,
    gs_get (T := TX2) (N := 4) (Cn := RX2) (by decide +kernel) rfl (by decide) inW2 rfl wd_197,
    gs_iload_n (k := 3) (by decide +kernel) rfl,
    gs_iastore (by decide +kernel),
    gs_aload_n (k := 0) (by decide +kernel) rfl,
    gs_dup (by decide +kernel),
    gs_get (T := TX2) (N := 4) (Cn := RX2) (by decide +kernel) rfl (by decide) inW2 rfl wd_197,
    gs_iconst (n := 1) (by decide +kernel) (by decide),
    gs_iadd (by decide +kernel),
    gs_put (T := TX2) (N := 4) (Cn := RX2) (by decide +kernel) rfl (by decide) inW2 tyX2_ok nmX2 rfl wd_197,
    gs_aload_n (k := 0) (by decide +kernel) rfl,
    gs_get (T := TX2) (N := 4) (Cn := RX2) (by decide +kernel) rfl (by decide) inW2 rfl wd_197,
    gs_iret (by decide +kernel),
    fun _ h => absurd h List.not_mem_nil⟩
def pX2_dropLast : gProg := [(0, sLdA 0 1),
  (1, sGet 2 3),
  (4, sIfne 10),
  (7, sPush (.int (-3)) 2),
  (9, sRetI),
  (10, sLdA 0 1),
  (11, sDup),
  (12, sGet 2 3),
  (15, sPush (.int 1) 1),
  (16, sIsub),
  (17, sPut 2 3),
  (20, sLdA 0 1),
  (21, sGet 2 3),
  (24, sRetI)]
theorem kX2_dropLast : ∀ q ∈ pX2_dropLast, gSnd RX2 cX2_dropLast 1 none q.1 q.2 := by
  simp only [pX2_dropLast, List.forall_mem_cons]
  exact ⟨gs_aload_n (k := 0) (by decide +kernel) rfl,
    gs_get (T := TX2) (N := 4) (Cn := RX2) (by decide +kernel) rfl (by decide) inW2 rfl wd_197,
    gs_if_ne (off := 6) (by decide +kernel) (by decide),
    gs_bipush (n := -3) (by decide +kernel) (by decide),
    gs_iret (by decide +kernel),
    gs_aload_n (k := 0) (by decide +kernel) rfl,
    gs_dup (by decide +kernel),
    gs_get (T := TX2) (N := 4) (Cn := RX2) (by decide +kernel) rfl (by decide) inW2 rfl wd_197,
    gs_iconst (n := 1) (by decide +kernel) (by decide),
    gs_isub (by decide +kernel),
    gs_put (T := TX2) (N := 4) (Cn := RX2) (by decide +kernel) rfl (by decide) inW2 tyX2_ok nmX2 rfl wd_197,
    gs_aload_n (k := 0) (by decide +kernel) rfl,
    gs_get (T := TX2) (N := 4) (Cn := RX2) (by decide +kernel) rfl (by decide) inW2 rfl wd_197,
    gs_iret (by decide +kernel),
    fun _ h => absurd h List.not_mem_nil⟩
def pX2_clear : gProg := [(0, sLdA 0 1),
  (1, sPush (.int 0) 1),
  (2, sPut 2 3),
  (5, sRetV)]
theorem kX2_clear : ∀ q ∈ pX2_clear, gSnd RX2 cX2_clear 1 none q.1 q.2 := by
  simp only [pX2_clear, List.forall_mem_cons]
  exact ⟨gs_aload_n (k := 0) (by decide +kernel) rfl,
    gs_iconst (n := 0) (by decide +kernel) (by decide),
    gs_put (T := TX2) (N := 4) (Cn := RX2) (by decide +kernel) rfl (by decide) inW2 tyX2_ok nmX2 rfl wd_197,
    gs_vret (by decide +kernel),
    fun _ h => absurd h List.not_mem_nil⟩
def pX2_holding : gProg := [(0, sLdA 0 1),
  (1, sGet 2 0),
  (4, sLdI 1 1),
  (5, sIald),
  (6, sPush (.int 2) 1),
  (7, sCmpeq 22),
  (10, sLdA 0 1),
  (11, sGet 2 2),
  (14, sLdI 1 1),
  (15, sIald),
  (16, sLdI 2 1),
  (17, sCmpeq 22),
  (20, sPush (.int 0) 1),
  (21, sRetI),
  (22, sRo 1006),
  (25, sLdA 0 1),
  (26, sGet 2 0),
  (29, sLdI 1 1),
  (30, sIald),
  (31, sPush (.int 3) 1),
  (32, sImul),
  (33, sLdI 3 1),
  (34, sIadd),
  (35, sIald),
  (36, sStI 4 2),
  (38, sPush (.int 1) 1),
  (39, sLdI 4 2),
  (41, sIshl),
  (42, sPush (.int 1) 1),
  (43, sIsub),
  (44, sLdA 0 1),
  (45, sGet 2 1),
  (48, sLdI 1 1),
  (49, sIald),
  (50, sIshl),
  (51, sPush (.int 16777215) 2),
  (53, sIand),
  (54, sRetI)]
theorem kX2_holding : ∀ q ∈ pX2_holding, gSnd RX2 cX2_holding 5 none q.1 q.2 := by
  simp only [pX2_holding, List.forall_mem_cons]
  exact ⟨gs_aload_n (k := 0) (by decide +kernel) rfl,
    gs_get (T := TX2) (N := 4) (Cn := RX2) (by decide +kernel) rfl (by decide) inW2 rfl wd_190,
    gs_iload_n (k := 1) (by decide +kernel) rfl,
    gs_iaload (by decide +kernel),
    gs_iconst (n := 2) (by decide +kernel) (by decide),
    gs_icmp_eq (off := 15) (by decide +kernel) (by decide),
    gs_aload_n (k := 0) (by decide +kernel) rfl,
    gs_get (T := TX2) (N := 4) (Cn := RX2) (by decide +kernel) rfl (by decide) inW2 rfl wd_195,
    gs_iload_n (k := 1) (by decide +kernel) rfl,
    gs_iaload (by decide +kernel),
    gs_iload_n (k := 2) (by decide +kernel) rfl,
    gs_icmp_eq (off := 5) (by decide +kernel) (by decide),
    gs_iconst (n := 0) (by decide +kernel) (by decide),
    gs_iret (by decide +kernel),
    gs_roN (j := 6) (by decide +kernel) rfl wn_463,
    gs_aload_n (k := 0) (by decide +kernel) rfl,
    gs_get (T := TX2) (N := 4) (Cn := RX2) (by decide +kernel) rfl (by decide) inW2 rfl wd_190,
    gs_iload_n (k := 1) (by decide +kernel) rfl,
    gs_iaload (by decide +kernel),
    gs_iconst (n := 3) (by decide +kernel) (by decide),
    gs_imul (by decide +kernel),
    gs_iload_n (k := 3) (by decide +kernel) rfl,
    gs_iadd (by decide +kernel),
    gs_iaload (by decide +kernel),
    gs_istore (by decide +kernel),
    gs_iconst (n := 1) (by decide +kernel) (by decide),
    gs_iload (by decide +kernel),
    gs_ishl (by decide +kernel),
    gs_iconst (n := 1) (by decide +kernel) (by decide),
    gs_isub (by decide +kernel),
    gs_aload_n (k := 0) (by decide +kernel) rfl,
    gs_get (T := TX2) (N := 4) (Cn := RX2) (by decide +kernel) rfl (by decide) inW2 rfl wd_193,
    gs_iload_n (k := 1) (by decide +kernel) rfl,
    gs_iaload (by decide +kernel),
    gs_ishl (by decide +kernel),
    gs_ldc (by decide +kernel) wd_465,
    gs_iand (by decide +kernel),
    gs_iret (by decide +kernel),
    fun _ h => absurd h List.not_mem_nil⟩
def pX2_hindering : gProg := [(0, sPush (.int 0) 1),
  (1, sStI 4 2),
  (3, sPush (.int 0) 1),
  (4, sStI 5 2),
  (6, sLdI 5 2),
  (8, sLdA 0 1),
  (9, sGet 2 3),
  (12, sCmpge 52),
  (15, sLdA 0 1),
  (16, sGet 2 0),
  (19, sLdI 5 2),
  (21, sIald),
  (22, sPush (.int 3) 1),
  (23, sCmpeq 46),
  (26, sLdI 4 2),
  (28, sLdA 0 1),
  (29, sLdI 5 2),
  (31, sLdI 1 1),
  (32, sLdI 2 1),
  (33, sCallV 11 2 3),
  (36, sLdI 3 1),
  (37, sCallS 110 2),
  (40, sLdI 5 2),
  (42, sIshl),
  (43, sIor),
  (44, sStI 4 2),
  (46, sInc 5 1),
  (49, sGoto 6),
  (52, sLdI 4 2),
  (54, sRetI)]
theorem kX2_hindering : ∀ q ∈ pX2_hindering, gSnd RX2 cX2_hindering 6 none q.1 q.2 := by
  simp only [pX2_hindering, List.forall_mem_cons]
  exact ⟨gs_iconst (n := 0) (by decide +kernel) (by decide),
    gs_istore (by decide +kernel),
    gs_iconst (n := 0) (by decide +kernel) (by decide),
    gs_istore (by decide +kernel),
    gs_iload (by decide +kernel),
    gs_aload_n (k := 0) (by decide +kernel) rfl,
    gs_get (T := TX2) (N := 4) (Cn := RX2) (by decide +kernel) rfl (by decide) inW2 rfl wd_197,
    gs_icmp_ge (off := 40) (by decide +kernel) (by decide),
    gs_aload_n (k := 0) (by decide +kernel) rfl,
    gs_get (T := TX2) (N := 4) (Cn := RX2) (by decide +kernel) rfl (by decide) inW2 rfl wd_190,
    gs_iload (by decide +kernel),
    gs_iaload (by decide +kernel),
    gs_iconst (n := 3) (by decide +kernel) (by decide),
    gs_icmp_eq (off := 23) (by decide +kernel) (by decide),
    gs_iload (by decide +kernel),
    gs_aload_n (k := 0) (by decide +kernel) rfl,
    gs_iload (by decide +kernel),
    gs_iload_n (k := 1) (by decide +kernel) rfl,
    gs_iload_n (k := 2) (by decide +kernel) rfl,
    gs_callV (by decide +kernel) rfl rfl wd_668 wd_462 wd_460 wd_461 wd_8 mp_11 (by decide),
    gs_iload_n (k := 3) (by decide +kernel) rfl,
    gs_callSN (by decide +kernel) rfl wn_669 wd_458 wd_457 wd_1 mp_110 (by decide),
    gs_iload (by decide +kernel),
    gs_ishl (by decide +kernel),
    gs_ior (by decide +kernel),
    gs_istore (by decide +kernel),
    gs_iinc (n := 1) (by decide +kernel) (by decide),
    gs_goto (off := -43) (by decide +kernel) (by decide),
    gs_iload (by decide +kernel),
    gs_iret (by decide +kernel),
    fun _ h => absurd h List.not_mem_nil⟩
def pX3_grow : gProg := [(0, sPush (.int 0) 1),
  (1, sStI 3 1),
  (2, sPush (.int 0) 1),
  (3, sStI 4 2),
  (5, sLdI 4 2),
  (7, sLdA 0 1),
  (8, sGet 3 0),
  (11, sCallV 0 0 0),
  (14, sCmpge 67),
  (17, sLdA 0 1),
  (18, sGet 3 1),
  (21, sLdI 4 2),
  (23, sAald),
  (24, sStA 5 2),
  (26, sLdA 5 2),
  (28, sLdA 1 1),
  (29, sLdI 2 1),
  (30, sLdI 4 2),
  (32, sLdA 0 1),
  (33, sGet 3 0),
  (36, sLdI 4 2),
  (38, sCallV 2 0 1),
  (41, sLdA 0 1),
  (42, sGet 3 0),
  (45, sLdI 4 2),
  (47, sCallV 3 0 1),
  (50, sCallV 5 1 5),
  (53, sLdI 3 1),
  (54, sLdA 5 2),
  (56, sGet 1 2),
  (59, sIor),
  (60, sStI 3 1),
  (61, sInc 4 1),
  (64, sGoto 5),
  (67, sPush (.int 16777215) 2),
  (69, sLdI 3 1),
  (70, sPush (.int (-1)) 1),
  (71, sIxor),
  (72, sIand),
  (73, sRetI)]
theorem kX3_grow : ∀ q ∈ pX3_grow, gSnd RX3 cX3_grow 6 none q.1 q.2 := by
  simp only [pX3_grow, List.forall_mem_cons]
  exact ⟨gs_iconst (n := 0) (by decide +kernel) (by decide),
    gs_istore_n (k := 3) (by decide +kernel) rfl,
    gs_iconst (n := 0) (by decide +kernel) (by decide),
    gs_istore (by decide +kernel),
    gs_iload (by decide +kernel),
    gs_aload_n (k := 0) (by decide +kernel) rfl,
    gs_get (T := TX3) (N := 2) (Cn := RX3) (by decide +kernel) rfl (by decide) inW3 rfl wd_117,
    gs_callV (by decide +kernel) rfl rfl wd_489 wd_492 wd_490 wd_491 wd_4 mp_0 (by decide),
    gs_icmp_ge (off := 53) (by decide +kernel) (by decide),
    gs_aload_n (k := 0) (by decide +kernel) rfl,
    gs_get (T := TX3) (N := 2) (Cn := RX3) (by decide +kernel) rfl (by decide) inW3 rfl wd_121,
    gs_iload (by decide +kernel),
    gs_aaload (by decide +kernel),
    gs_astore (by decide +kernel),
    gs_aload (by decide +kernel),
    gs_aload_n (k := 1) (by decide +kernel) rfl,
    gs_iload_n (k := 2) (by decide +kernel) rfl,
    gs_iload (by decide +kernel),
    gs_aload_n (k := 0) (by decide +kernel) rfl,
    gs_get (T := TX3) (N := 2) (Cn := RX3) (by decide +kernel) rfl (by decide) inW3 rfl wd_117,
    gs_iload (by decide +kernel),
    gs_callV (by decide +kernel) rfl rfl wd_493 wd_364 wd_362 wd_363 wd_4 mp_2 (by decide),
    gs_aload_n (k := 0) (by decide +kernel) rfl,
    gs_get (T := TX3) (N := 2) (Cn := RX3) (by decide +kernel) rfl (by decide) inW3 rfl wd_117,
    gs_iload (by decide +kernel),
    gs_callV (by decide +kernel) rfl rfl wd_494 wd_371 wd_369 wd_370 wd_4 mp_3 (by decide),
    gs_callV (by decide +kernel) rfl rfl wd_495 wd_452 wd_450 wd_451 wd_6 mp_5 (by decide),
    gs_iload_n (k := 3) (by decide +kernel) rfl,
    gs_aload (by decide +kernel),
    gs_getN (T := TX1) (N := 4) (Cn := RX1) (by decide +kernel) rfl (by decide) inW1 rfl wn_102,
    gs_ior (by decide +kernel),
    gs_istore_n (k := 3) (by decide +kernel) rfl,
    gs_iinc (n := 1) (by decide +kernel) (by decide),
    gs_goto (off := -59) (by decide +kernel) (by decide),
    gs_ldc (by decide +kernel) wd_496,
    gs_iload_n (k := 3) (by decide +kernel) rfl,
    gs_iconst (n := -1) (by decide +kernel) (by decide),
    gs_ixor (by decide +kernel),
    gs_iand (by decide +kernel),
    gs_iret (by decide +kernel),
    fun _ h => absurd h List.not_mem_nil⟩
def pX3_yellowIn : gProg := [(0, sPush (.int 0) 1),
  (1, sStI 2 1),
  (2, sPush (.int 0) 1),
  (3, sStI 3 1),
  (4, sLdI 3 1),
  (5, sLdA 0 1),
  (6, sGet 3 0),
  (9, sCallV 0 0 0),
  (12, sCmpge 46),
  (15, sLdI 2 1),
  (16, sLdA 0 1),
  (17, sGet 3 1),
  (20, sLdI 3 1),
  (21, sAald),
  (22, sGet 1 2),
  (25, sLdI 1 1),
  (26, sCallS 110 2),
  (29, sLdA 0 1),
  (30, sGet 3 0),
  (33, sLdI 3 1),
  (34, sCallV 4 0 1),
  (37, sImul),
  (38, sIadd),
  (39, sStI 2 1),
  (40, sInc 3 1),
  (43, sGoto 4),
  (46, sLdI 2 1),
  (47, sRetI)]
theorem kX3_yellowIn : ∀ q ∈ pX3_yellowIn, gSnd RX3 cX3_yellowIn 4 none q.1 q.2 := by
  simp only [pX3_yellowIn, List.forall_mem_cons]
  exact ⟨gs_iconst (n := 0) (by decide +kernel) (by decide),
    gs_istore_n (k := 2) (by decide +kernel) rfl,
    gs_iconst (n := 0) (by decide +kernel) (by decide),
    gs_istore_n (k := 3) (by decide +kernel) rfl,
    gs_iload_n (k := 3) (by decide +kernel) rfl,
    gs_aload_n (k := 0) (by decide +kernel) rfl,
    gs_get (T := TX3) (N := 2) (Cn := RX3) (by decide +kernel) rfl (by decide) inW3 rfl wd_117,
    gs_callV (by decide +kernel) rfl rfl wd_489 wd_492 wd_490 wd_491 wd_4 mp_0 (by decide),
    gs_icmp_ge (off := 34) (by decide +kernel) (by decide),
    gs_iload_n (k := 2) (by decide +kernel) rfl,
    gs_aload_n (k := 0) (by decide +kernel) rfl,
    gs_get (T := TX3) (N := 2) (Cn := RX3) (by decide +kernel) rfl (by decide) inW3 rfl wd_121,
    gs_iload_n (k := 3) (by decide +kernel) rfl,
    gs_aaload (by decide +kernel),
    gs_getN (T := TX1) (N := 4) (Cn := RX1) (by decide +kernel) rfl (by decide) inW1 rfl wn_102,
    gs_iload_n (k := 1) (by decide +kernel) rfl,
    gs_callSN (by decide +kernel) rfl wn_534 wd_458 wd_457 wd_1 mp_110 (by decide),
    gs_aload_n (k := 0) (by decide +kernel) rfl,
    gs_get (T := TX3) (N := 2) (Cn := RX3) (by decide +kernel) rfl (by decide) inW3 rfl wd_117,
    gs_iload_n (k := 3) (by decide +kernel) rfl,
    gs_callV (by decide +kernel) rfl rfl wd_535 wd_375 wd_373 wd_374 wd_4 mp_4 (by decide),
    gs_imul (by decide +kernel),
    gs_iadd (by decide +kernel),
    gs_istore_n (k := 2) (by decide +kernel) rfl,
    gs_iinc (n := 1) (by decide +kernel) (by decide),
    gs_goto (off := -39) (by decide +kernel) (by decide),
    gs_iload_n (k := 2) (by decide +kernel) rfl,
    gs_iret (by decide +kernel),
    fun _ h => absurd h List.not_mem_nil⟩
def pX3_seemingIn : gProg := [(0, sPush (.int 0) 1),
  (1, sStI 2 1),
  (2, sPush (.int 0) 1),
  (3, sStI 3 1),
  (4, sLdI 3 1),
  (5, sLdA 0 1),
  (6, sGet 3 0),
  (9, sCallV 0 0 0),
  (12, sCmpge 46),
  (15, sLdI 2 1),
  (16, sLdA 0 1),
  (17, sGet 3 1),
  (20, sLdI 3 1),
  (21, sAald),
  (22, sGet 1 3),
  (25, sLdI 1 1),
  (26, sCallS 110 2),
  (29, sLdA 0 1),
  (30, sGet 3 0),
  (33, sLdI 3 1),
  (34, sCallV 4 0 1),
  (37, sImul),
  (38, sIadd),
  (39, sStI 2 1),
  (40, sInc 3 1),
  (43, sGoto 4),
  (46, sLdI 2 1),
  (47, sRetI)]
theorem kX3_seemingIn : ∀ q ∈ pX3_seemingIn, gSnd RX3 cX3_seemingIn 4 none q.1 q.2 := by
  simp only [pX3_seemingIn, List.forall_mem_cons]
  exact ⟨gs_iconst (n := 0) (by decide +kernel) (by decide),
    gs_istore_n (k := 2) (by decide +kernel) rfl,
    gs_iconst (n := 0) (by decide +kernel) (by decide),
    gs_istore_n (k := 3) (by decide +kernel) rfl,
    gs_iload_n (k := 3) (by decide +kernel) rfl,
    gs_aload_n (k := 0) (by decide +kernel) rfl,
    gs_get (T := TX3) (N := 2) (Cn := RX3) (by decide +kernel) rfl (by decide) inW3 rfl wd_117,
    gs_callV (by decide +kernel) rfl rfl wd_489 wd_492 wd_490 wd_491 wd_4 mp_0 (by decide),
    gs_icmp_ge (off := 34) (by decide +kernel) (by decide),
    gs_iload_n (k := 2) (by decide +kernel) rfl,
    gs_aload_n (k := 0) (by decide +kernel) rfl,
    gs_get (T := TX3) (N := 2) (Cn := RX3) (by decide +kernel) rfl (by decide) inW3 rfl wd_121,
    gs_iload_n (k := 3) (by decide +kernel) rfl,
    gs_aaload (by decide +kernel),
    gs_getN (T := TX1) (N := 4) (Cn := RX1) (by decide +kernel) rfl (by decide) inW1 rfl wn_105,
    gs_iload_n (k := 1) (by decide +kernel) rfl,
    gs_callSN (by decide +kernel) rfl wn_534 wd_458 wd_457 wd_1 mp_110 (by decide),
    gs_aload_n (k := 0) (by decide +kernel) rfl,
    gs_get (T := TX3) (N := 2) (Cn := RX3) (by decide +kernel) rfl (by decide) inW3 rfl wd_117,
    gs_iload_n (k := 3) (by decide +kernel) rfl,
    gs_callV (by decide +kernel) rfl rfl wd_535 wd_375 wd_373 wd_374 wd_4 mp_4 (by decide),
    gs_imul (by decide +kernel),
    gs_iadd (by decide +kernel),
    gs_istore_n (k := 2) (by decide +kernel) rfl,
    gs_iinc (n := 1) (by decide +kernel) (by decide),
    gs_goto (off := -39) (by decide +kernel) (by decide),
    gs_iload_n (k := 2) (by decide +kernel) rfl,
    gs_iret (by decide +kernel),
    fun _ h => absurd h List.not_mem_nil⟩
def pX4_size : gProg := [(0, sLdA 0 1),
  (1, sGet 4 0),
  (4, sGet 9 7),
  (7, sRetI)]
theorem kX4_size : ∀ q ∈ pX4_size, gSnd RX4 cX4_size 1 none q.1 q.2 := by
  simp only [pX4_size, List.forall_mem_cons]
  exact ⟨gs_aload_n (k := 0) (by decide +kernel) rfl,
    gs_get (T := TX4) (N := 1) (Cn := RX4) (by decide +kernel) rfl (by decide) inW4 rfl wd_142,
    gs_getN (T := TX9) (N := 8) (Cn := RX9) (by decide +kernel) rfl (by decide) inW9 rfl wn_65,
    gs_iret (by decide +kernel),
    fun _ h => absurd h List.not_mem_nil⟩
def pX4_has : gProg := [(0, sLdI 1 1),
  (1, sIflt 19),
  (4, sLdI 1 1),
  (5, sLdA 0 1),
  (6, sGet 4 0),
  (9, sGet 9 7),
  (12, sCmpge 19),
  (15, sPush (.int 1) 1),
  (16, sGoto 20),
  (19, sPush (.int 0) 1),
  (20, sRetI)]
theorem kX4_has : ∀ q ∈ pX4_has, gSnd RX4 cX4_has 2 none q.1 q.2 := by
  simp only [pX4_has, List.forall_mem_cons]
  exact ⟨gs_iload_n (k := 1) (by decide +kernel) rfl,
    gs_if_lt (off := 18) (by decide +kernel) (by decide),
    gs_iload_n (k := 1) (by decide +kernel) rfl,
    gs_aload_n (k := 0) (by decide +kernel) rfl,
    gs_get (T := TX4) (N := 1) (Cn := RX4) (by decide +kernel) rfl (by decide) inW4 rfl wd_142,
    gs_getN (T := TX9) (N := 8) (Cn := RX9) (by decide +kernel) rfl (by decide) inW9 rfl wn_65,
    gs_icmp_ge (off := 7) (by decide +kernel) (by decide),
    gs_iconst (n := 1) (by decide +kernel) (by decide),
    gs_goto (off := 4) (by decide +kernel) (by decide),
    gs_iconst (n := 0) (by decide +kernel) (by decide),
    gs_iret (by decide +kernel),
    fun _ h => absurd h List.not_mem_nil⟩
def pX4_monthOf : gProg := [(0, sLdA 0 1),
  (1, sLdI 1 1),
  (2, sCallV 17 4 1),
  (5, sIfeq 25),
  (8, sLdA 0 1),
  (9, sGet 4 0),
  (12, sGet 9 0),
  (15, sPush (.int 3) 1),
  (16, sLdI 1 1),
  (17, sImul),
  (18, sIald),
  (19, sPush (.int 97) 2),
  (21, sIsub),
  (22, sGoto 26),
  (25, sPush (.int 0) 1),
  (26, sRetI)]
theorem kX4_monthOf : ∀ q ∈ pX4_monthOf, gSnd RX4 cX4_monthOf 2 none q.1 q.2 := by
  simp only [pX4_monthOf, List.forall_mem_cons]
  exact ⟨gs_aload_n (k := 0) (by decide +kernel) rfl,
    gs_iload_n (k := 1) (by decide +kernel) rfl,
    gs_callV (by decide +kernel) rfl rfl wd_388 wd_391 wd_389 wd_390 wd_7 mp_17 (by decide),
    gs_if_eq (off := 20) (by decide +kernel) (by decide),
    gs_aload_n (k := 0) (by decide +kernel) rfl,
    gs_get (T := TX4) (N := 1) (Cn := RX4) (by decide +kernel) rfl (by decide) inW4 rfl wd_142,
    gs_getN (T := TX9) (N := 8) (Cn := RX9) (by decide +kernel) rfl (by decide) inW9 rfl wn_54,
    gs_iconst (n := 3) (by decide +kernel) (by decide),
    gs_iload_n (k := 1) (by decide +kernel) rfl,
    gs_imul (by decide +kernel),
    gs_iaload (by decide +kernel),
    gs_bipush (n := 97) (by decide +kernel) (by decide),
    gs_isub (by decide +kernel),
    gs_goto (off := 4) (by decide +kernel) (by decide),
    gs_iconst (n := 0) (by decide +kernel) (by decide),
    gs_iret (by decide +kernel),
    fun _ h => absurd h List.not_mem_nil⟩
def pX4_bushOf : gProg := [(0, sLdA 0 1),
  (1, sLdI 1 1),
  (2, sCallV 17 4 1),
  (5, sIfeq 27),
  (8, sLdA 0 1),
  (9, sGet 4 0),
  (12, sGet 9 0),
  (15, sPush (.int 3) 1),
  (16, sLdI 1 1),
  (17, sImul),
  (18, sPush (.int 1) 1),
  (19, sIadd),
  (20, sIald),
  (21, sPush (.int 48) 2),
  (23, sIsub),
  (24, sGoto 28),
  (27, sPush (.int (-1)) 1),
  (28, sRetI)]
theorem kX4_bushOf : ∀ q ∈ pX4_bushOf, gSnd RX4 cX4_bushOf 2 none q.1 q.2 := by
  simp only [pX4_bushOf, List.forall_mem_cons]
  exact ⟨gs_aload_n (k := 0) (by decide +kernel) rfl,
    gs_iload_n (k := 1) (by decide +kernel) rfl,
    gs_callV (by decide +kernel) rfl rfl wd_388 wd_391 wd_389 wd_390 wd_7 mp_17 (by decide),
    gs_if_eq (off := 22) (by decide +kernel) (by decide),
    gs_aload_n (k := 0) (by decide +kernel) rfl,
    gs_get (T := TX4) (N := 1) (Cn := RX4) (by decide +kernel) rfl (by decide) inW4 rfl wd_142,
    gs_getN (T := TX9) (N := 8) (Cn := RX9) (by decide +kernel) rfl (by decide) inW9 rfl wn_54,
    gs_iconst (n := 3) (by decide +kernel) (by decide),
    gs_iload_n (k := 1) (by decide +kernel) rfl,
    gs_imul (by decide +kernel),
    gs_iconst (n := 1) (by decide +kernel) (by decide),
    gs_iadd (by decide +kernel),
    gs_iaload (by decide +kernel),
    gs_bipush (n := 48) (by decide +kernel) (by decide),
    gs_isub (by decide +kernel),
    gs_goto (off := 4) (by decide +kernel) (by decide),
    gs_iconst (n := -1) (by decide +kernel) (by decide),
    gs_iret (by decide +kernel),
    fun _ h => absurd h List.not_mem_nil⟩
def pX5_draw : gProg := [(0, sLdA 0 1),
  (1, sPush (.int 1103515245) 2),
  (3, sLdA 0 1),
  (4, sGet 5 0),
  (7, sImul),
  (8, sPush (.int 12345) 3),
  (11, sIadd),
  (12, sPut 5 0),
  (15, sLdI 1 1),
  (16, sIfle 31),
  (19, sLdA 0 1),
  (20, sGet 5 0),
  (23, sPush (.int 16) 2),
  (25, sIushr),
  (26, sLdI 1 1),
  (27, sIrem),
  (28, sGoto 32),
  (31, sPush (.int 0) 1),
  (32, sRetI)]
theorem kX5_draw : ∀ q ∈ pX5_draw, gSnd RX5 cX5_draw 2 none q.1 q.2 := by
  simp only [pX5_draw, List.forall_mem_cons]
  exact ⟨gs_aload_n (k := 0) (by decide +kernel) rfl,
    gs_ldc (by decide +kernel) wd_694,
    gs_aload_n (k := 0) (by decide +kernel) rfl,
    gs_get (T := TX5) (N := 1) (Cn := RX5) (by decide +kernel) rfl (by decide) inW5 rfl wd_238,
    gs_imul (by decide +kernel),
    gs_sipush (n := 12345) (by decide +kernel) (by decide),
    gs_iadd (by decide +kernel),
    gs_put (T := TX5) (N := 1) (Cn := RX5) (by decide +kernel) rfl (by decide) inW5 tyX5_ok nmX5 rfl wd_238,
    gs_iload_n (k := 1) (by decide +kernel) rfl,
    gs_if_le (off := 15) (by decide +kernel) (by decide),
    gs_aload_n (k := 0) (by decide +kernel) rfl,
    gs_get (T := TX5) (N := 1) (Cn := RX5) (by decide +kernel) rfl (by decide) inW5 rfl wd_238,
    gs_bipush (n := 16) (by decide +kernel) (by decide),
    gs_iushr (by decide +kernel),
    gs_iload_n (k := 1) (by decide +kernel) rfl,
    gs_irem (by decide +kernel),
    gs_goto (off := 4) (by decide +kernel) (by decide),
    gs_iconst (n := 0) (by decide +kernel) (by decide),
    gs_iret (by decide +kernel),
    fun _ h => absurd h List.not_mem_nil⟩
def pX6_reckon : gProg := [(0, sLdA 0 1),
  (1, sGet 6 0),
  (4, sLdA 1 1),
  (5, sPush (.int 0) 1),
  (6, sCallV 13 3 2),
  (9, sPop),
  (10, sLdA 0 1),
  (11, sLdA 1 1),
  (12, sCallV 23 6 1),
  (15, sLdA 0 1),
  (16, sCallV 24 6 0),
  (19, sLdA 0 1),
  (20, sPush (.int (-1)) 1),
  (21, sPut 6 7),
  (24, sLdA 0 1),
  (25, sGet 6 8),
  (28, sStI 2 1),
  (29, sPush (.int 0) 1),
  (30, sStI 3 1),
  (31, sLdI 3 1),
  (32, sPush (.int 24) 2),
  (34, sCmpge 79),
  (37, sLdA 0 1),
  (38, sLdI 3 1),
  (39, sLdI 2 1),
  (40, sPush (.int 0) 1),
  (41, sCallV 26 6 3),
  (44, sStI 2 1),
  (45, sLdA 0 1),
  (46, sGet 6 5),
  (49, sLdI 3 1),
  (50, sLdI 2 1),
  (51, sIast),
  (52, sLdA 0 1),
  (53, sGet 6 7),
  (56, sPush (.int (-1)) 1),
  (57, sCmpne 73),
  (60, sLdI 2 1),
  (61, sLdA 0 1),
  (62, sGet 6 9),
  (65, sCmpge 73),
  (68, sLdA 0 1),
  (69, sLdI 3 1),
  (70, sPut 6 7),
  (73, sInc 3 1),
  (76, sGoto 31),
  (79, sRetV)]
theorem kX6_reckon : ∀ q ∈ pX6_reckon, gSnd RX6 cX6_reckon 4 none q.1 q.2 := by
  simp only [pX6_reckon, List.forall_mem_cons]
  exact ⟨gs_aload_n (k := 0) (by decide +kernel) rfl,
    gs_get (T := TX6) (N := 10) (Cn := RX6) (by decide +kernel) rfl (by decide) inW6 rfl wd_147,
    gs_aload_n (k := 1) (by decide +kernel) rfl,
    gs_iconst (n := 0) (by decide +kernel) (by decide),
    gs_callV (by decide +kernel) rfl rfl wd_485 wd_488 wd_486 wd_487 wd_3 mp_13 (by decide),
    gs_pop (by decide +kernel),
    gs_aload_n (k := 0) (by decide +kernel) rfl,
    gs_aload_n (k := 1) (by decide +kernel) rfl,
    gs_callV (by decide +kernel) rfl rfl wd_497 wd_500 wd_499 ws_5 wd_2 mp_23 (by decide),
    gs_aload_n (k := 0) (by decide +kernel) rfl,
    gs_callV (by decide +kernel) rfl rfl wd_503 wd_506 wd_505 ws_6 wd_2 mp_24 (by decide),
    gs_aload_n (k := 0) (by decide +kernel) rfl,
    gs_iconst (n := -1) (by decide +kernel) (by decide),
    gs_put (T := TX6) (N := 10) (Cn := RX6) (by decide +kernel) rfl (by decide) inW6 tyX6_ok nmX6 rfl wd_157,
    gs_aload_n (k := 0) (by decide +kernel) rfl,
    gs_get (T := TX6) (N := 10) (Cn := RX6) (by decide +kernel) rfl (by decide) inW6 rfl wd_159,
    gs_istore_n (k := 2) (by decide +kernel) rfl,
    gs_iconst (n := 0) (by decide +kernel) (by decide),
    gs_istore_n (k := 3) (by decide +kernel) rfl,
    gs_iload_n (k := 3) (by decide +kernel) rfl,
    gs_bipush (n := 24) (by decide +kernel) (by decide),
    gs_icmp_ge (off := 45) (by decide +kernel) (by decide),
    gs_aload_n (k := 0) (by decide +kernel) rfl,
    gs_iload_n (k := 3) (by decide +kernel) rfl,
    gs_iload_n (k := 2) (by decide +kernel) rfl,
    gs_iconst (n := 0) (by decide +kernel) (by decide),
    gs_callV (by decide +kernel) rfl rfl wd_516 wd_519 wd_518 ws_8 wd_2 mp_26 (by decide),
    gs_istore_n (k := 2) (by decide +kernel) rfl,
    gs_aload_n (k := 0) (by decide +kernel) rfl,
    gs_get (T := TX6) (N := 10) (Cn := RX6) (by decide +kernel) rfl (by decide) inW6 rfl wd_154,
    gs_iload_n (k := 3) (by decide +kernel) rfl,
    gs_iload_n (k := 2) (by decide +kernel) rfl,
    gs_iastore (by decide +kernel),
    gs_aload_n (k := 0) (by decide +kernel) rfl,
    gs_get (T := TX6) (N := 10) (Cn := RX6) (by decide +kernel) rfl (by decide) inW6 rfl wd_157,
    gs_iconst (n := -1) (by decide +kernel) (by decide),
    gs_icmp_ne (off := 16) (by decide +kernel) (by decide),
    gs_iload_n (k := 2) (by decide +kernel) rfl,
    gs_aload_n (k := 0) (by decide +kernel) rfl,
    gs_get (T := TX6) (N := 10) (Cn := RX6) (by decide +kernel) rfl (by decide) inW6 rfl wd_161,
    gs_icmp_ge (off := 8) (by decide +kernel) (by decide),
    gs_aload_n (k := 0) (by decide +kernel) rfl,
    gs_iload_n (k := 3) (by decide +kernel) rfl,
    gs_put (T := TX6) (N := 10) (Cn := RX6) (by decide +kernel) rfl (by decide) inW6 tyX6_ok nmX6 rfl wd_157,
    gs_iinc (n := 1) (by decide +kernel) (by decide),
    gs_goto (off := -45) (by decide +kernel) (by decide),
    gs_vret (by decide +kernel),
    fun _ h => absurd h List.not_mem_nil⟩
def pX6_runWith : gProg := [(0, sLdA 0 1),
  (1, sGet 6 7),
  (4, sPush (.int (-1)) 1),
  (5, sCmpeq 21),
  (8, sLdA 0 1),
  (9, sGet 6 7),
  (12, sLdI 1 1),
  (13, sCmpge 21),
  (16, sLdA 0 1),
  (17, sGet 6 7),
  (20, sRetI),
  (21, sLdI 1 1),
  (22, sIfle 36),
  (25, sLdA 0 1),
  (26, sGet 6 5),
  (29, sLdI 1 1),
  (30, sPush (.int 1) 1),
  (31, sIsub),
  (32, sIald),
  (33, sGoto 40),
  (36, sLdA 0 1),
  (37, sGet 6 8),
  (40, sStI 3 1),
  (41, sLdA 0 1),
  (42, sLdI 1 1),
  (43, sLdI 2 1),
  (44, sCallV 25 6 2),
  (47, sStI 4 2),
  (49, sLdI 1 1),
  (50, sStI 5 2),
  (52, sLdI 5 2),
  (54, sPush (.int 24) 2),
  (56, sCmpge 96),
  (59, sLdA 0 1),
  (60, sLdI 5 2),
  (62, sLdI 3 1),
  (63, sLdI 5 2),
  (65, sLdI 1 1),
  (66, sCmpne 74),
  (69, sLdI 4 2),
  (71, sGoto 75),
  (74, sPush (.int 0) 1),
  (75, sCallV 26 6 3),
  (78, sStI 3 1),
  (79, sLdI 3 1),
  (80, sLdA 0 1),
  (81, sGet 6 9),
  (84, sCmpge 90),
  (87, sLdI 5 2),
  (89, sRetI),
  (90, sInc 5 1),
  (93, sGoto 52),
  (96, sPush (.int (-1)) 1),
  (97, sRetI)]
theorem kX6_runWith : ∀ q ∈ pX6_runWith, gSnd RX6 cX6_runWith 6 none q.1 q.2 := by
  simp only [pX6_runWith, List.forall_mem_cons]
  exact ⟨gs_aload_n (k := 0) (by decide +kernel) rfl,
    gs_get (T := TX6) (N := 10) (Cn := RX6) (by decide +kernel) rfl (by decide) inW6 rfl wd_157,
    gs_iconst (n := -1) (by decide +kernel) (by decide),
    gs_icmp_eq (off := 16) (by decide +kernel) (by decide),
    gs_aload_n (k := 0) (by decide +kernel) rfl,
    gs_get (T := TX6) (N := 10) (Cn := RX6) (by decide +kernel) rfl (by decide) inW6 rfl wd_157,
    gs_iload_n (k := 1) (by decide +kernel) rfl,
    gs_icmp_ge (off := 8) (by decide +kernel) (by decide),
    gs_aload_n (k := 0) (by decide +kernel) rfl,
    gs_get (T := TX6) (N := 10) (Cn := RX6) (by decide +kernel) rfl (by decide) inW6 rfl wd_157,
    gs_iret (by decide +kernel),
    gs_iload_n (k := 1) (by decide +kernel) rfl,
    gs_if_le (off := 14) (by decide +kernel) (by decide),
    gs_aload_n (k := 0) (by decide +kernel) rfl,
    gs_get (T := TX6) (N := 10) (Cn := RX6) (by decide +kernel) rfl (by decide) inW6 rfl wd_154,
    gs_iload_n (k := 1) (by decide +kernel) rfl,
    gs_iconst (n := 1) (by decide +kernel) (by decide),
    gs_isub (by decide +kernel),
    gs_iaload (by decide +kernel),
    gs_goto (off := 7) (by decide +kernel) (by decide),
    gs_aload_n (k := 0) (by decide +kernel) rfl,
    gs_get (T := TX6) (N := 10) (Cn := RX6) (by decide +kernel) rfl (by decide) inW6 rfl wd_159,
    gs_istore_n (k := 3) (by decide +kernel) rfl,
    gs_aload_n (k := 0) (by decide +kernel) rfl,
    gs_iload_n (k := 1) (by decide +kernel) rfl,
    gs_iload_n (k := 2) (by decide +kernel) rfl,
    gs_callV (by decide +kernel) rfl rfl wd_510 wd_513 wd_512 ws_7 wd_2 mp_25 (by decide),
    gs_istore (by decide +kernel),
    gs_iload_n (k := 1) (by decide +kernel) rfl,
    gs_istore (by decide +kernel),
    gs_iload (by decide +kernel),
    gs_bipush (n := 24) (by decide +kernel) (by decide),
    gs_icmp_ge (off := 40) (by decide +kernel) (by decide),
    gs_aload_n (k := 0) (by decide +kernel) rfl,
    gs_iload (by decide +kernel),
    gs_iload_n (k := 3) (by decide +kernel) rfl,
    gs_iload (by decide +kernel),
    gs_iload_n (k := 1) (by decide +kernel) rfl,
    gs_icmp_ne (off := 8) (by decide +kernel) (by decide),
    gs_iload (by decide +kernel),
    gs_goto (off := 4) (by decide +kernel) (by decide),
    gs_iconst (n := 0) (by decide +kernel) (by decide),
    gs_callV (by decide +kernel) rfl rfl wd_516 wd_519 wd_518 ws_8 wd_2 mp_26 (by decide),
    gs_istore_n (k := 3) (by decide +kernel) rfl,
    gs_iload_n (k := 3) (by decide +kernel) rfl,
    gs_aload_n (k := 0) (by decide +kernel) rfl,
    gs_get (T := TX6) (N := 10) (Cn := RX6) (by decide +kernel) rfl (by decide) inW6 rfl wd_161,
    gs_icmp_ge (off := 6) (by decide +kernel) (by decide),
    gs_iload (by decide +kernel),
    gs_iret (by decide +kernel),
    gs_iinc (n := 1) (by decide +kernel) (by decide),
    gs_goto (off := -41) (by decide +kernel) (by decide),
    gs_iconst (n := -1) (by decide +kernel) (by decide),
    gs_iret (by decide +kernel),
    fun _ h => absurd h List.not_mem_nil⟩
def pX6_countFires : gProg := [(0, sLdA 0 1),
  (1, sGet 6 2),
  (4, sPush (.int 0) 1),
  (5, sCallS 203 2),
  (8, sPush (.int 0) 1),
  (9, sStI 2 1),
  (10, sLdI 2 1),
  (11, sLdA 1 1),
  (12, sGet 2 3),
  (15, sCmpge 67),
  (18, sLdA 1 1),
  (19, sGet 2 0),
  (22, sLdI 2 1),
  (23, sIald),
  (24, sIfne 61),
  (27, sLdA 0 1),
  (28, sGet 6 0),
  (31, sGet 3 0),
  (34, sLdA 1 1),
  (35, sGet 2 2),
  (38, sLdI 2 1),
  (39, sIald),
  (40, sCallV 1 0 1),
  (43, sIfeq 61),
  (46, sLdA 0 1),
  (47, sGet 6 2),
  (50, sLdA 1 1),
  (51, sGet 2 1),
  (54, sLdI 2 1),
  (55, sIald),
  (56, sDup2),
  (57, sIald),
  (58, sPush (.int 1) 1),
  (59, sIadd),
  (60, sIast),
  (61, sInc 2 1),
  (64, sGoto 10),
  (67, sRetV)]
theorem kX6_countFires : ∀ q ∈ pX6_countFires, gSnd RX6 cX6_countFires 3 none q.1 q.2 := by
  simp only [pX6_countFires, List.forall_mem_cons]
  exact ⟨gs_aload_n (k := 0) (by decide +kernel) rfl,
    gs_get (T := TX6) (N := 10) (Cn := RX6) (by decide +kernel) rfl (by decide) inW6 rfl wd_151,
    gs_iconst (n := 0) (by decide +kernel) (by decide),
    gs_callS (by decide +kernel) rfl wd_501 wd_455 wd_454 wd_13 mp_203 (by decide),
    gs_iconst (n := 0) (by decide +kernel) (by decide),
    gs_istore_n (k := 2) (by decide +kernel) rfl,
    gs_iload_n (k := 2) (by decide +kernel) rfl,
    gs_aload_n (k := 1) (by decide +kernel) rfl,
    gs_getN (T := TX2) (N := 4) (Cn := RX2) (by decide +kernel) rfl (by decide) inW2 rfl wn_199,
    gs_icmp_ge (off := 52) (by decide +kernel) (by decide),
    gs_aload_n (k := 1) (by decide +kernel) rfl,
    gs_getN (T := TX2) (N := 4) (Cn := RX2) (by decide +kernel) rfl (by decide) inW2 rfl wn_192,
    gs_iload_n (k := 2) (by decide +kernel) rfl,
    gs_iaload (by decide +kernel),
    gs_if_ne (off := 37) (by decide +kernel) (by decide),
    gs_aload_n (k := 0) (by decide +kernel) rfl,
    gs_get (T := TX6) (N := 10) (Cn := RX6) (by decide +kernel) rfl (by decide) inW6 rfl wd_147,
    gs_getN (T := TX3) (N := 2) (Cn := RX3) (by decide +kernel) rfl (by decide) inW3 rfl wn_120,
    gs_aload_n (k := 1) (by decide +kernel) rfl,
    gs_getN (T := TX2) (N := 4) (Cn := RX2) (by decide +kernel) rfl (by decide) inW2 rfl wn_196,
    gs_iload_n (k := 2) (by decide +kernel) rfl,
    gs_iaload (by decide +kernel),
    gs_callV (by decide +kernel) rfl rfl wd_502 wd_360 wd_358 wd_359 wd_4 mp_1 (by decide),
    gs_if_eq (off := 18) (by decide +kernel) (by decide),
    gs_aload_n (k := 0) (by decide +kernel) rfl,
    gs_get (T := TX6) (N := 10) (Cn := RX6) (by decide +kernel) rfl (by decide) inW6 rfl wd_151,
    gs_aload_n (k := 1) (by decide +kernel) rfl,
    gs_getN (T := TX2) (N := 4) (Cn := RX2) (by decide +kernel) rfl (by decide) inW2 rfl wn_194,
    gs_iload_n (k := 2) (by decide +kernel) rfl,
    gs_iaload (by decide +kernel),
    gs_dup2 (by decide +kernel),
    gs_iaload (by decide +kernel),
    gs_iconst (n := 1) (by decide +kernel) (by decide),
    gs_iadd (by decide +kernel),
    gs_iastore (by decide +kernel),
    gs_iinc (n := 1) (by decide +kernel) (by decide),
    gs_goto (off := -54) (by decide +kernel) (by decide),
    gs_vret (by decide +kernel),
    fun _ h => absurd h List.not_mem_nil⟩
def pX6_gatherLooks : gProg := [(0, sLdA 0 1),
  (1, sPush (.int 0) 1),
  (2, sPut 6 6),
  (5, sPush (.int 0) 1),
  (6, sStI 1 1),
  (7, sLdI 1 1),
  (8, sLdA 0 1),
  (9, sGet 6 1),
  (12, sCallV 16 4 0),
  (15, sCmpge 91),
  (18, sLdA 0 1),
  (19, sGet 6 1),
  (22, sLdI 1 1),
  (23, sCallV 18 4 1),
  (26, sStI 2 1),
  (27, sLdA 0 1),
  (28, sGet 6 1),
  (31, sLdI 1 1),
  (32, sCallV 19 4 1),
  (35, sStI 3 1),
  (36, sLdA 0 1),
  (37, sGet 6 0),
  (40, sGet 3 0),
  (43, sLdI 3 1),
  (44, sCallV 1 0 1),
  (47, sIfeq 85),
  (50, sLdA 0 1),
  (51, sGet 6 3),
  (54, sLdA 0 1),
  (55, sGet 6 6),
  (58, sLdI 2 1),
  (59, sIast),
  (60, sLdA 0 1),
  (61, sGet 6 4),
  (64, sLdA 0 1),
  (65, sGet 6 6),
  (68, sLdA 0 1),
  (69, sLdI 2 1),
  (70, sLdI 3 1),
  (71, sCallV 25 6 2),
  (74, sIast),
  (75, sLdA 0 1),
  (76, sDup),
  (77, sGet 6 6),
  (80, sPush (.int 1) 1),
  (81, sIadd),
  (82, sPut 6 6),
  (85, sInc 1 1),
  (88, sGoto 7),
  (91, sRetV)]
theorem kX6_gatherLooks : ∀ q ∈ pX6_gatherLooks, gSnd RX6 cX6_gatherLooks 4 none q.1 q.2 := by
  simp only [pX6_gatherLooks, List.forall_mem_cons]
  exact ⟨gs_aload_n (k := 0) (by decide +kernel) rfl,
    gs_iconst (n := 0) (by decide +kernel) (by decide),
    gs_put (T := TX6) (N := 10) (Cn := RX6) (by decide +kernel) rfl (by decide) inW6 tyX6_ok nmX6 rfl wd_156,
    gs_iconst (n := 0) (by decide +kernel) (by decide),
    gs_istore_n (k := 1) (by decide +kernel) rfl,
    gs_iload_n (k := 1) (by decide +kernel) rfl,
    gs_aload_n (k := 0) (by decide +kernel) rfl,
    gs_get (T := TX6) (N := 10) (Cn := RX6) (by decide +kernel) rfl (by decide) inW6 rfl wd_149,
    gs_callV (by decide +kernel) rfl rfl wd_507 wd_383 wd_381 wd_382 wd_7 mp_16 (by decide),
    gs_icmp_ge (off := 76) (by decide +kernel) (by decide),
    gs_aload_n (k := 0) (by decide +kernel) rfl,
    gs_get (T := TX6) (N := 10) (Cn := RX6) (by decide +kernel) rfl (by decide) inW6 rfl wd_149,
    gs_iload_n (k := 1) (by decide +kernel) rfl,
    gs_callV (by decide +kernel) rfl rfl wd_508 wd_387 wd_385 wd_386 wd_7 mp_18 (by decide),
    gs_istore_n (k := 2) (by decide +kernel) rfl,
    gs_aload_n (k := 0) (by decide +kernel) rfl,
    gs_get (T := TX6) (N := 10) (Cn := RX6) (by decide +kernel) rfl (by decide) inW6 rfl wd_149,
    gs_iload_n (k := 1) (by decide +kernel) rfl,
    gs_callV (by decide +kernel) rfl rfl wd_509 wd_395 wd_393 wd_394 wd_7 mp_19 (by decide),
    gs_istore_n (k := 3) (by decide +kernel) rfl,
    gs_aload_n (k := 0) (by decide +kernel) rfl,
    gs_get (T := TX6) (N := 10) (Cn := RX6) (by decide +kernel) rfl (by decide) inW6 rfl wd_147,
    gs_getN (T := TX3) (N := 2) (Cn := RX3) (by decide +kernel) rfl (by decide) inW3 rfl wn_120,
    gs_iload_n (k := 3) (by decide +kernel) rfl,
    gs_callV (by decide +kernel) rfl rfl wd_502 wd_360 wd_358 wd_359 wd_4 mp_1 (by decide),
    gs_if_eq (off := 38) (by decide +kernel) (by decide),
    gs_aload_n (k := 0) (by decide +kernel) rfl,
    gs_get (T := TX6) (N := 10) (Cn := RX6) (by decide +kernel) rfl (by decide) inW6 rfl wd_152,
    gs_aload_n (k := 0) (by decide +kernel) rfl,
    gs_get (T := TX6) (N := 10) (Cn := RX6) (by decide +kernel) rfl (by decide) inW6 rfl wd_156,
    gs_iload_n (k := 2) (by decide +kernel) rfl,
    gs_iastore (by decide +kernel),
    gs_aload_n (k := 0) (by decide +kernel) rfl,
    gs_get (T := TX6) (N := 10) (Cn := RX6) (by decide +kernel) rfl (by decide) inW6 rfl wd_153,
    gs_aload_n (k := 0) (by decide +kernel) rfl,
    gs_get (T := TX6) (N := 10) (Cn := RX6) (by decide +kernel) rfl (by decide) inW6 rfl wd_156,
    gs_aload_n (k := 0) (by decide +kernel) rfl,
    gs_iload_n (k := 2) (by decide +kernel) rfl,
    gs_iload_n (k := 3) (by decide +kernel) rfl,
    gs_callV (by decide +kernel) rfl rfl wd_510 wd_513 wd_512 ws_7 wd_2 mp_25 (by decide),
    gs_iastore (by decide +kernel),
    gs_aload_n (k := 0) (by decide +kernel) rfl,
    gs_dup (by decide +kernel),
    gs_get (T := TX6) (N := 10) (Cn := RX6) (by decide +kernel) rfl (by decide) inW6 rfl wd_156,
    gs_iconst (n := 1) (by decide +kernel) (by decide),
    gs_iadd (by decide +kernel),
    gs_put (T := TX6) (N := 10) (Cn := RX6) (by decide +kernel) rfl (by decide) inW6 tyX6_ok nmX6 rfl wd_156,
    gs_iinc (n := 1) (by decide +kernel) (by decide),
    gs_goto (off := -81) (by decide +kernel) (by decide),
    gs_vret (by decide +kernel),
    fun _ h => absurd h List.not_mem_nil⟩
def pX6_worthOf : gProg := [(0, sLdA 0 1),
  (1, sGet 6 0),
  (4, sGet 3 1),
  (7, sLdI 2 1),
  (8, sAald),
  (9, sGet 1 3),
  (12, sLdI 1 1),
  (13, sCallS 110 2),
  (16, sPush (.int 1) 1),
  (17, sCmpne 24),
  (20, sPush (.int 1) 1),
  (21, sGoto 25),
  (24, sPush (.int 0) 1),
  (25, sStI 3 1),
  (26, sLdI 3 1),
  (27, sIfeq 44),
  (30, sLdA 0 1),
  (31, sGet 6 0),
  (34, sGet 3 0),
  (37, sLdI 2 1),
  (38, sCallV 4 0 1),
  (41, sGoto 46),
  (44, sPush (.int (-5)) 2),
  (46, sRetI)]
theorem kX6_worthOf : ∀ q ∈ pX6_worthOf, gSnd RX6 cX6_worthOf 4 none q.1 q.2 := by
  simp only [pX6_worthOf, List.forall_mem_cons]
  exact ⟨gs_aload_n (k := 0) (by decide +kernel) rfl,
    gs_get (T := TX6) (N := 10) (Cn := RX6) (by decide +kernel) rfl (by decide) inW6 rfl wd_147,
    gs_getN (T := TX3) (N := 2) (Cn := RX3) (by decide +kernel) rfl (by decide) inW3 rfl wn_123,
    gs_iload_n (k := 2) (by decide +kernel) rfl,
    gs_aaload (by decide +kernel),
    gs_getN (T := TX1) (N := 4) (Cn := RX1) (by decide +kernel) rfl (by decide) inW1 rfl wn_106,
    gs_iload_n (k := 1) (by decide +kernel) rfl,
    gs_callSN (by decide +kernel) rfl wn_514 wd_458 wd_457 wd_1 mp_110 (by decide),
    gs_iconst (n := 1) (by decide +kernel) (by decide),
    gs_icmp_ne (off := 7) (by decide +kernel) (by decide),
    gs_iconst (n := 1) (by decide +kernel) (by decide),
    gs_goto (off := 4) (by decide +kernel) (by decide),
    gs_iconst (n := 0) (by decide +kernel) (by decide),
    gs_istore_n (k := 3) (by decide +kernel) rfl,
    gs_iload_n (k := 3) (by decide +kernel) rfl,
    gs_if_eq (off := 17) (by decide +kernel) (by decide),
    gs_aload_n (k := 0) (by decide +kernel) rfl,
    gs_get (T := TX6) (N := 10) (Cn := RX6) (by decide +kernel) rfl (by decide) inW6 rfl wd_147,
    gs_getN (T := TX3) (N := 2) (Cn := RX3) (by decide +kernel) rfl (by decide) inW3 rfl wn_120,
    gs_iload_n (k := 2) (by decide +kernel) rfl,
    gs_callV (by decide +kernel) rfl rfl wd_515 wd_375 wd_373 wd_374 wd_4 mp_4 (by decide),
    gs_goto (off := 5) (by decide +kernel) (by decide),
    gs_bipush (n := -5) (by decide +kernel) (by decide),
    gs_iret (by decide +kernel),
    fun _ h => absurd h List.not_mem_nil⟩
def pX6_behind : gProg := [(0, sLdI 2 1),
  (1, sPush (.int 10) 2),
  (3, sLdA 0 1),
  (4, sGet 6 2),
  (7, sLdI 1 1),
  (8, sIald),
  (9, sImul),
  (10, sIsub),
  (11, sCallS 27 1),
  (14, sStI 4 2),
  (16, sPush (.int 0) 1),
  (17, sStI 5 2),
  (19, sPush (.int 0) 1),
  (20, sStI 6 2),
  (22, sLdI 6 2),
  (24, sLdA 0 1),
  (25, sGet 6 6),
  (28, sCmpge 66),
  (31, sLdA 0 1),
  (32, sGet 6 3),
  (35, sLdI 6 2),
  (37, sIald),
  (38, sLdI 1 1),
  (39, sCmpne 60),
  (42, sLdI 4 2),
  (44, sLdA 0 1),
  (45, sGet 6 4),
  (48, sLdI 6 2),
  (50, sIald),
  (51, sIadd),
  (52, sCallS 27 1),
  (55, sStI 4 2),
  (57, sPush (.int 1) 1),
  (58, sStI 5 2),
  (60, sInc 6 1),
  (63, sGoto 22),
  (66, sLdI 3 1),
  (67, sIfeq 78),
  (70, sLdI 4 2),
  (72, sLdI 3 1),
  (73, sIadd),
  (74, sCallS 27 1),
  (77, sRetI),
  (78, sLdI 5 2),
  (80, sIfeq 88),
  (83, sLdI 4 2),
  (85, sGoto 95),
  (88, sLdI 4 2),
  (90, sPush (.int 2) 1),
  (91, sIsub),
  (92, sCallS 27 1),
  (95, sRetI)]
theorem kX6_behind : ∀ q ∈ pX6_behind, gSnd RX6 cX6_behind 7 none q.1 q.2 := by
  simp only [pX6_behind, List.forall_mem_cons]
  exact ⟨gs_iload_n (k := 2) (by decide +kernel) rfl,
    gs_bipush (n := 10) (by decide +kernel) (by decide),
    gs_aload_n (k := 0) (by decide +kernel) rfl,
    gs_get (T := TX6) (N := 10) (Cn := RX6) (by decide +kernel) rfl (by decide) inW6 rfl wd_151,
    gs_iload_n (k := 1) (by decide +kernel) rfl,
    gs_iaload (by decide +kernel),
    gs_imul (by decide +kernel),
    gs_isub (by decide +kernel),
    gs_callS (by decide +kernel) rfl wd_520 wd_522 wd_521 wd_2 mp_27 (by decide),
    gs_istore (by decide +kernel),
    gs_iconst (n := 0) (by decide +kernel) (by decide),
    gs_istore (by decide +kernel),
    gs_iconst (n := 0) (by decide +kernel) (by decide),
    gs_istore (by decide +kernel),
    gs_iload (by decide +kernel),
    gs_aload_n (k := 0) (by decide +kernel) rfl,
    gs_get (T := TX6) (N := 10) (Cn := RX6) (by decide +kernel) rfl (by decide) inW6 rfl wd_156,
    gs_icmp_ge (off := 38) (by decide +kernel) (by decide),
    gs_aload_n (k := 0) (by decide +kernel) rfl,
    gs_get (T := TX6) (N := 10) (Cn := RX6) (by decide +kernel) rfl (by decide) inW6 rfl wd_152,
    gs_iload (by decide +kernel),
    gs_iaload (by decide +kernel),
    gs_iload_n (k := 1) (by decide +kernel) rfl,
    gs_icmp_ne (off := 21) (by decide +kernel) (by decide),
    gs_iload (by decide +kernel),
    gs_aload_n (k := 0) (by decide +kernel) rfl,
    gs_get (T := TX6) (N := 10) (Cn := RX6) (by decide +kernel) rfl (by decide) inW6 rfl wd_153,
    gs_iload (by decide +kernel),
    gs_iaload (by decide +kernel),
    gs_iadd (by decide +kernel),
    gs_callS (by decide +kernel) rfl wd_520 wd_522 wd_521 wd_2 mp_27 (by decide),
    gs_istore (by decide +kernel),
    gs_iconst (n := 1) (by decide +kernel) (by decide),
    gs_istore (by decide +kernel),
    gs_iinc (n := 1) (by decide +kernel) (by decide),
    gs_goto (off := -41) (by decide +kernel) (by decide),
    gs_iload_n (k := 3) (by decide +kernel) rfl,
    gs_if_eq (off := 11) (by decide +kernel) (by decide),
    gs_iload (by decide +kernel),
    gs_iload_n (k := 3) (by decide +kernel) rfl,
    gs_iadd (by decide +kernel),
    gs_callS (by decide +kernel) rfl wd_520 wd_522 wd_521 wd_2 mp_27 (by decide),
    gs_iret (by decide +kernel),
    gs_iload (by decide +kernel),
    gs_if_eq (off := 8) (by decide +kernel) (by decide),
    gs_iload (by decide +kernel),
    gs_goto (off := 10) (by decide +kernel) (by decide),
    gs_iload (by decide +kernel),
    gs_iconst (n := 2) (by decide +kernel) (by decide),
    gs_isub (by decide +kernel),
    gs_callS (by decide +kernel) rfl wd_520 wd_522 wd_521 wd_2 mp_27 (by decide),
    gs_iret (by decide +kernel),
    fun _ h => absurd h List.not_mem_nil⟩
def pX6_bounded : gProg := [(0, sPush (.int 0) 1),
  (1, sPush (.int 100) 2),
  (3, sLdI 0 1),
  (4, sMmin),
  (7, sMmax),
  (10, sRetI)]
theorem kX6_bounded : ∀ q ∈ pX6_bounded, gSnd RX6 cX6_bounded 1 none q.1 q.2 := by
  simp only [pX6_bounded, List.forall_mem_cons]
  exact ⟨gs_iconst (n := 0) (by decide +kernel) (by decide),
    gs_bipush (n := 100) (by decide +kernel) (by decide),
    gs_iload_n (k := 0) (by decide +kernel) rfl,
    gs_mmin (by decide +kernel) wd_523 wd_524 wd_14 wd_525,
    gs_mmax (by decide +kernel) wd_526 wd_527 wd_14 wd_528,
    gs_iret (by decide +kernel),
    fun _ h => absurd h List.not_mem_nil⟩
def pX7_add : gProg := [(0, sLdA 0 1),
  (1, sGet 7 3),
  (4, sPush (.int 8) 2),
  (6, sCmplt 12),
  (9, sPush (.int (-4)) 2),
  (11, sRetI),
  (12, sLdA 0 1),
  (13, sGet 7 0),
  (16, sLdA 0 1),
  (17, sGet 7 3),
  (20, sLdI 1 1),
  (21, sIast),
  (22, sLdA 0 1),
  (23, sGet 7 1),
  (26, sLdA 0 1),
  (27, sGet 7 3),
  (30, sLdI 2 1),
  (31, sIast),
  (32, sLdA 0 1),
  (33, sGet 7 2),
  (36, sLdA 0 1),
  (37, sGet 7 3),
  (40, sLdI 3 1),
  (41, sIast),
  (42, sLdA 0 1),
  (43, sDup),
  (44, sGet 7 3),
  (47, sPush (.int 1) 1),
  (48, sIadd),
  (49, sPut 7 3),
  (52, sLdA 0 1),
  (53, sGet 7 3),
  (56, sRetI)]
theorem kX7_add : ∀ q ∈ pX7_add, gSnd RX7 cX7_add 4 none q.1 q.2 := by
  simp only [pX7_add, List.forall_mem_cons]
  exact ⟨gs_aload_n (k := 0) (by decide +kernel) rfl,
    gs_get (T := TX7) (N := 4) (Cn := RX7) (by decide +kernel) rfl (by decide) inW7 rfl wd_221,
    gs_bipush (n := 8) (by decide +kernel) (by decide),
    gs_icmp_lt (off := 6) (by decide +kernel) (by decide),
    gs_bipush (n := -4) (by decide +kernel) (by decide),
    gs_iret (by decide +kernel),
    gs_aload_n (k := 0) (by decide +kernel) rfl,
    gs_get (T := TX7) (N := 4) (Cn := RX7) (by decide +kernel) rfl (by decide) inW7 rfl wd_218,
    gs_aload_n (k := 0) (by decide +kernel) rfl,
    gs_get (T := TX7) (N := 4) (Cn := RX7) (by decide +kernel) rfl (by decide) inW7 rfl wd_221,
    gs_iload_n (k := 1) (by decide +kernel) rfl,
    gs_iastore (by decide +kernel),
    gs_aload_n (k := 0) (by decide +kernel) rfl,
    gs_get (T := TX7) (N := 4) (Cn := RX7) (by decide +kernel) rfl (by decide) inW7 rfl wd_219,
    gs_aload_n (k := 0) (by decide +kernel) rfl,
    gs_get (T := TX7) (N := 4) (Cn := RX7) (by decide +kernel) rfl (by decide) inW7 rfl wd_221,
    gs_iload_n (k := 2) (by decide +kernel) rfl,
    gs_iastore (by decide +kernel),
    gs_aload_n (k := 0) (by decide +kernel) rfl,
    gs_get (T := TX7) (N := 4) (Cn := RX7) (by decide +kernel) rfl (by decide) inW7 rfl wd_220,
    gs_aload_n (k := 0) (by decide +kernel) rfl,
    gs_get (T := TX7) (N := 4) (Cn := RX7) (by decide +kernel) rfl (by decide) inW7 rfl wd_221,
    gs_iload_n (k := 3) (by decide +kernel) rfl,
    gs_iastore (by decide +kernel),
    gs_aload_n (k := 0) (by decide +kernel) rfl,
    gs_dup (by decide +kernel),
    gs_get (T := TX7) (N := 4) (Cn := RX7) (by decide +kernel) rfl (by decide) inW7 rfl wd_221,
    gs_iconst (n := 1) (by decide +kernel) (by decide),
    gs_iadd (by decide +kernel),
    gs_put (T := TX7) (N := 4) (Cn := RX7) (by decide +kernel) rfl (by decide) inW7 tyX7_ok nmX7 rfl wd_221,
    gs_aload_n (k := 0) (by decide +kernel) rfl,
    gs_get (T := TX7) (N := 4) (Cn := RX7) (by decide +kernel) rfl (by decide) inW7 rfl wd_221,
    gs_iret (by decide +kernel),
    fun _ h => absurd h List.not_mem_nil⟩
def pX7_clear : gProg := [(0, sLdA 0 1),
  (1, sGet 7 3),
  (4, sStI 1 1),
  (5, sLdA 0 1),
  (6, sPush (.int 0) 1),
  (7, sPut 7 3),
  (10, sLdI 1 1),
  (11, sRetI)]
theorem kX7_clear : ∀ q ∈ pX7_clear, gSnd RX7 cX7_clear 2 none q.1 q.2 := by
  simp only [pX7_clear, List.forall_mem_cons]
  exact ⟨gs_aload_n (k := 0) (by decide +kernel) rfl,
    gs_get (T := TX7) (N := 4) (Cn := RX7) (by decide +kernel) rfl (by decide) inW7 rfl wd_221,
    gs_istore_n (k := 1) (by decide +kernel) rfl,
    gs_aload_n (k := 0) (by decide +kernel) rfl,
    gs_iconst (n := 0) (by decide +kernel) (by decide),
    gs_put (T := TX7) (N := 4) (Cn := RX7) (by decide +kernel) rfl (by decide) inW7 tyX7_ok nmX7 rfl wd_221,
    gs_iload_n (k := 1) (by decide +kernel) rfl,
    gs_iret (by decide +kernel),
    fun _ h => absurd h List.not_mem_nil⟩
def pX7_comeOut : gProg := [(0, sPush (.int 0) 1),
  (1, sStI 2 1),
  (2, sLdI 2 1),
  (3, sLdA 0 1),
  (4, sGet 7 3),
  (7, sCmpge 60),
  (10, sLdA 0 1),
  (11, sGet 7 1),
  (14, sLdI 2 1),
  (15, sIald),
  (16, sStI 3 1),
  (17, sLdA 1 1),
  (18, sGet 3 0),
  (21, sLdI 3 1),
  (22, sCallV 1 0 1),
  (25, sIfeq 52),
  (28, sLdA 1 1),
  (29, sGet 3 1),
  (32, sLdI 3 1),
  (33, sAald),
  (34, sLdA 0 1),
  (35, sGet 7 0),
  (38, sLdI 2 1),
  (39, sIald),
  (40, sCallV 7 1 1),
  (43, sLdA 0 1),
  (44, sGet 7 2),
  (47, sLdI 2 1),
  (48, sIald),
  (49, sCmpeq 54),
  (52, sPush (.int 0) 1),
  (53, sRetI),
  (54, sInc 2 1),
  (57, sGoto 2),
  (60, sPush (.int 1) 1),
  (61, sRetI)]
theorem kX7_comeOut : ∀ q ∈ pX7_comeOut, gSnd RX7 cX7_comeOut 4 none q.1 q.2 := by
  simp only [pX7_comeOut, List.forall_mem_cons]
  exact ⟨gs_iconst (n := 0) (by decide +kernel) (by decide),
    gs_istore_n (k := 2) (by decide +kernel) rfl,
    gs_iload_n (k := 2) (by decide +kernel) rfl,
    gs_aload_n (k := 0) (by decide +kernel) rfl,
    gs_get (T := TX7) (N := 4) (Cn := RX7) (by decide +kernel) rfl (by decide) inW7 rfl wd_221,
    gs_icmp_ge (off := 53) (by decide +kernel) (by decide),
    gs_aload_n (k := 0) (by decide +kernel) rfl,
    gs_get (T := TX7) (N := 4) (Cn := RX7) (by decide +kernel) rfl (by decide) inW7 rfl wd_219,
    gs_iload_n (k := 2) (by decide +kernel) rfl,
    gs_iaload (by decide +kernel),
    gs_istore_n (k := 3) (by decide +kernel) rfl,
    gs_aload_n (k := 1) (by decide +kernel) rfl,
    gs_getN (T := TX3) (N := 2) (Cn := RX3) (by decide +kernel) rfl (by decide) inW3 rfl wn_119,
    gs_iload_n (k := 3) (by decide +kernel) rfl,
    gs_callV (by decide +kernel) rfl rfl wd_626 wd_360 wd_358 wd_359 wd_4 mp_1 (by decide),
    gs_if_eq (off := 27) (by decide +kernel) (by decide),
    gs_aload_n (k := 1) (by decide +kernel) rfl,
    gs_getN (T := TX3) (N := 2) (Cn := RX3) (by decide +kernel) rfl (by decide) inW3 rfl wn_122,
    gs_iload_n (k := 3) (by decide +kernel) rfl,
    gs_aaload (by decide +kernel),
    gs_aload_n (k := 0) (by decide +kernel) rfl,
    gs_get (T := TX7) (N := 4) (Cn := RX7) (by decide +kernel) rfl (by decide) inW7 rfl wd_218,
    gs_iload_n (k := 2) (by decide +kernel) rfl,
    gs_iaload (by decide +kernel),
    gs_callV (by decide +kernel) rfl rfl wd_627 wd_475 wd_473 wd_474 wd_6 mp_7 (by decide),
    gs_aload_n (k := 0) (by decide +kernel) rfl,
    gs_get (T := TX7) (N := 4) (Cn := RX7) (by decide +kernel) rfl (by decide) inW7 rfl wd_220,
    gs_iload_n (k := 2) (by decide +kernel) rfl,
    gs_iaload (by decide +kernel),
    gs_icmp_eq (off := 5) (by decide +kernel) (by decide),
    gs_iconst (n := 0) (by decide +kernel) (by decide),
    gs_iret (by decide +kernel),
    gs_iinc (n := 1) (by decide +kernel) (by decide),
    gs_goto (off := -55) (by decide +kernel) (by decide),
    gs_iconst (n := 1) (by decide +kernel) (by decide),
    gs_iret (by decide +kernel),
    fun _ h => absurd h List.not_mem_nil⟩
def pX8_isLost : gProg := [(0, sLdA 0 1),
  (1, sGet 8 1),
  (4, sPush (.int (-1)) 1),
  (5, sCmpne 12),
  (8, sPush (.int 1) 1),
  (9, sGoto 13),
  (12, sPush (.int 0) 1),
  (13, sRetI)]
theorem kX8_isLost : ∀ q ∈ pX8_isLost, gSnd RX8 cX8_isLost 1 none q.1 q.2 := by
  simp only [pX8_isLost, List.forall_mem_cons]
  exact ⟨gs_aload_n (k := 0) (by decide +kernel) rfl,
    gs_get (T := TX8) (N := 3) (Cn := RX8) (by decide +kernel) rfl (by decide) inW8 rfl wd_252,
    gs_iconst (n := -1) (by decide +kernel) (by decide),
    gs_icmp_ne (off := 7) (by decide +kernel) (by decide),
    gs_iconst (n := 1) (by decide +kernel) (by decide),
    gs_goto (off := 4) (by decide +kernel) (by decide),
    gs_iconst (n := 0) (by decide +kernel) (by decide),
    gs_iret (by decide +kernel),
    fun _ h => absurd h List.not_mem_nil⟩
def pX8_renew : gProg := [(0, sLdA 0 1),
  (1, sLdI 1 1),
  (2, sPut 8 1),
  (5, sLdA 0 1),
  (6, sLdI 2 1),
  (7, sPut 8 2),
  (10, sLdA 0 1),
  (11, sGet 8 0),
  (14, sPush (.int 0) 1),
  (15, sCallS 203 2),
  (18, sRetV)]
theorem kX8_renew : ∀ q ∈ pX8_renew, gSnd RX8 cX8_renew 3 none q.1 q.2 := by
  simp only [pX8_renew, List.forall_mem_cons]
  exact ⟨gs_aload_n (k := 0) (by decide +kernel) rfl,
    gs_iload_n (k := 1) (by decide +kernel) rfl,
    gs_put (T := TX8) (N := 3) (Cn := RX8) (by decide +kernel) rfl (by decide) inW8 tyX8_ok nmX8 rfl wd_252,
    gs_aload_n (k := 0) (by decide +kernel) rfl,
    gs_iload_n (k := 2) (by decide +kernel) rfl,
    gs_put (T := TX8) (N := 3) (Cn := RX8) (by decide +kernel) rfl (by decide) inW8 tyX8_ok nmX8 rfl wd_254,
    gs_aload_n (k := 0) (by decide +kernel) rfl,
    gs_get (T := TX8) (N := 3) (Cn := RX8) (by decide +kernel) rfl (by decide) inW8 rfl wd_250,
    gs_iconst (n := 0) (by decide +kernel) (by decide),
    gs_callS (by decide +kernel) rfl wd_706 wd_455 wd_454 wd_13 mp_203 (by decide),
    gs_vret (by decide +kernel),
    fun _ h => absurd h List.not_mem_nil⟩
def pX8_discard : gProg := [(0, sLdA 0 1),
  (1, sGet 8 2),
  (4, sStI 1 1),
  (5, sLdA 0 1),
  (6, sPush (.int (-1)) 1),
  (7, sPut 8 1),
  (10, sLdA 0 1),
  (11, sPush (.int 0) 1),
  (12, sPut 8 2),
  (15, sLdI 1 1),
  (16, sRetI)]
theorem kX8_discard : ∀ q ∈ pX8_discard, gSnd RX8 cX8_discard 2 none q.1 q.2 := by
  simp only [pX8_discard, List.forall_mem_cons]
  exact ⟨gs_aload_n (k := 0) (by decide +kernel) rfl,
    gs_get (T := TX8) (N := 3) (Cn := RX8) (by decide +kernel) rfl (by decide) inW8 rfl wd_254,
    gs_istore_n (k := 1) (by decide +kernel) rfl,
    gs_aload_n (k := 0) (by decide +kernel) rfl,
    gs_iconst (n := -1) (by decide +kernel) (by decide),
    gs_put (T := TX8) (N := 3) (Cn := RX8) (by decide +kernel) rfl (by decide) inW8 tyX8_ok nmX8 rfl wd_252,
    gs_aload_n (k := 0) (by decide +kernel) rfl,
    gs_iconst (n := 0) (by decide +kernel) (by decide),
    gs_put (T := TX8) (N := 3) (Cn := RX8) (by decide +kernel) rfl (by decide) inW8 tyX8_ok nmX8 rfl wd_254,
    gs_iload_n (k := 1) (by decide +kernel) rfl,
    gs_iret (by decide +kernel),
    fun _ h => absurd h List.not_mem_nil⟩
def pX8_hasItems : gProg := [(0, sLdI 1 1),
  (1, sIflt 30),
  (4, sLdI 2 1),
  (5, sIflt 30),
  (8, sLdI 1 1),
  (9, sLdA 0 1),
  (10, sGet 8 2),
  (13, sCmpgt 30),
  (16, sLdI 2 1),
  (17, sLdA 0 1),
  (18, sGet 8 2),
  (21, sLdI 1 1),
  (22, sIsub),
  (23, sCmpgt 30),
  (26, sPush (.int 1) 1),
  (27, sGoto 31),
  (30, sPush (.int 0) 1),
  (31, sRetI)]
theorem kX8_hasItems : ∀ q ∈ pX8_hasItems, gSnd RX8 cX8_hasItems 3 none q.1 q.2 := by
  simp only [pX8_hasItems, List.forall_mem_cons]
  exact ⟨gs_iload_n (k := 1) (by decide +kernel) rfl,
    gs_if_lt (off := 29) (by decide +kernel) (by decide),
    gs_iload_n (k := 2) (by decide +kernel) rfl,
    gs_if_lt (off := 25) (by decide +kernel) (by decide),
    gs_iload_n (k := 1) (by decide +kernel) rfl,
    gs_aload_n (k := 0) (by decide +kernel) rfl,
    gs_get (T := TX8) (N := 3) (Cn := RX8) (by decide +kernel) rfl (by decide) inW8 rfl wd_254,
    gs_icmp_gt (off := 17) (by decide +kernel) (by decide),
    gs_iload_n (k := 2) (by decide +kernel) rfl,
    gs_aload_n (k := 0) (by decide +kernel) rfl,
    gs_get (T := TX8) (N := 3) (Cn := RX8) (by decide +kernel) rfl (by decide) inW8 rfl wd_254,
    gs_iload_n (k := 1) (by decide +kernel) rfl,
    gs_isub (by decide +kernel),
    gs_icmp_gt (off := 7) (by decide +kernel) (by decide),
    gs_iconst (n := 1) (by decide +kernel) (by decide),
    gs_goto (off := 4) (by decide +kernel) (by decide),
    gs_iconst (n := 0) (by decide +kernel) (by decide),
    gs_iret (by decide +kernel),
    fun _ h => absurd h List.not_mem_nil⟩
def pX8_item : gProg := [(0, sLdA 0 1),
  (1, sLdI 1 1),
  (2, sPush (.int 1) 1),
  (3, sCallV 34 8 2),
  (6, sIfeq 18),
  (9, sLdA 0 1),
  (10, sGet 8 0),
  (13, sLdI 1 1),
  (14, sIald),
  (15, sGoto 19),
  (18, sPush (.int 0) 1),
  (19, sRetI)]
theorem kX8_item : ∀ q ∈ pX8_item, gSnd RX8 cX8_item 2 none q.1 q.2 := by
  simp only [pX8_item, List.forall_mem_cons]
  exact ⟨gs_aload_n (k := 0) (by decide +kernel) rfl,
    gs_iload_n (k := 1) (by decide +kernel) rfl,
    gs_iconst (n := 1) (by decide +kernel) (by decide),
    gs_callV (by decide +kernel) rfl rfl wd_441 wd_444 wd_442 wd_443 wd_11 mp_34 (by decide),
    gs_if_eq (off := 12) (by decide +kernel) (by decide),
    gs_aload_n (k := 0) (by decide +kernel) rfl,
    gs_get (T := TX8) (N := 3) (Cn := RX8) (by decide +kernel) rfl (by decide) inW8 rfl wd_250,
    gs_iload_n (k := 1) (by decide +kernel) rfl,
    gs_iaload (by decide +kernel),
    gs_goto (off := 4) (by decide +kernel) (by decide),
    gs_iconst (n := 0) (by decide +kernel) (by decide),
    gs_iret (by decide +kernel),
    fun _ h => absurd h List.not_mem_nil⟩
def pX8_put : gProg := [(0, sLdA 0 1),
  (1, sLdI 1 1),
  (2, sPush (.int 1) 1),
  (3, sCallV 34 8 2),
  (6, sIfeq 20),
  (9, sLdA 0 1),
  (10, sGet 8 0),
  (13, sLdI 1 1),
  (14, sLdA 0 1),
  (15, sLdI 2 1),
  (16, sCallV 37 8 1),
  (19, sIast),
  (20, sRetV)]
theorem kX8_put : ∀ q ∈ pX8_put, gSnd RX8 cX8_put 3 none q.1 q.2 := by
  simp only [pX8_put, List.forall_mem_cons]
  exact ⟨gs_aload_n (k := 0) (by decide +kernel) rfl,
    gs_iload_n (k := 1) (by decide +kernel) rfl,
    gs_iconst (n := 1) (by decide +kernel) (by decide),
    gs_callV (by decide +kernel) rfl rfl wd_441 wd_444 wd_442 wd_443 wd_11 mp_34 (by decide),
    gs_if_eq (off := 14) (by decide +kernel) (by decide),
    gs_aload_n (k := 0) (by decide +kernel) rfl,
    gs_get (T := TX8) (N := 3) (Cn := RX8) (by decide +kernel) rfl (by decide) inW8 rfl wd_250,
    gs_iload_n (k := 1) (by decide +kernel) rfl,
    gs_aload_n (k := 0) (by decide +kernel) rfl,
    gs_iload_n (k := 2) (by decide +kernel) rfl,
    gs_callV (by decide +kernel) rfl rfl wd_727 wd_730 wd_729 ws_21 wd_11 mp_37 (by decide),
    gs_iastore (by decide +kernel),
    gs_vret (by decide +kernel),
    fun _ h => absurd h List.not_mem_nil⟩
def pX8_narrowed : gProg := [(0, sLdA 0 1),
  (1, sGet 8 1),
  (4, sIfne 10),
  (7, sLdI 1 1),
  (8, sI2b),
  (9, sRetI),
  (10, sLdA 0 1),
  (11, sGet 8 1),
  (14, sPush (.int 1) 1),
  (15, sCmpne 23),
  (18, sLdI 1 1),
  (19, sI2s),
  (20, sGoto 24),
  (23, sLdI 1 1),
  (24, sRetI)]
theorem kX8_narrowed : ∀ q ∈ pX8_narrowed, gSnd RX8 cX8_narrowed 2 none q.1 q.2 := by
  simp only [pX8_narrowed, List.forall_mem_cons]
  exact ⟨gs_aload_n (k := 0) (by decide +kernel) rfl,
    gs_get (T := TX8) (N := 3) (Cn := RX8) (by decide +kernel) rfl (by decide) inW8 rfl wd_252,
    gs_if_ne (off := 6) (by decide +kernel) (by decide),
    gs_iload_n (k := 1) (by decide +kernel) rfl,
    gs_i2b (by decide +kernel),
    gs_iret (by decide +kernel),
    gs_aload_n (k := 0) (by decide +kernel) rfl,
    gs_get (T := TX8) (N := 3) (Cn := RX8) (by decide +kernel) rfl (by decide) inW8 rfl wd_252,
    gs_iconst (n := 1) (by decide +kernel) (by decide),
    gs_icmp_ne (off := 8) (by decide +kernel) (by decide),
    gs_iload_n (k := 1) (by decide +kernel) rfl,
    gs_i2s (by decide +kernel),
    gs_goto (off := 4) (by decide +kernel) (by decide),
    gs_iload_n (k := 1) (by decide +kernel) rfl,
    gs_iret (by decide +kernel),
    fun _ h => absurd h List.not_mem_nil⟩
end
section
def pX9_put : gProg := [(0, sLdA 0 1),
  (1, sGet 9 5),
  (4, sLdA 0 1),
  (5, sGet 9 0),
  (8, sAlen),
  (9, sCmplt 15),
  (12, sPush (.int (-4)) 2),
  (14, sRetI),
  (15, sLdA 0 1),
  (16, sGet 9 0),
  (19, sLdA 0 1),
  (20, sGet 9 5),
  (23, sLdI 1 1),
  (24, sIast),
  (25, sLdA 0 1),
  (26, sDup),
  (27, sGet 9 5),
  (30, sPush (.int 1) 1),
  (31, sIadd),
  (32, sPut 9 5),
  (35, sLdA 0 1),
  (36, sCallV 41 9 0),
  (39, sLdA 0 1),
  (40, sGet 9 5),
  (43, sRetI)]
theorem kX9_put : ∀ q ∈ pX9_put, gSnd RX9 cX9_put 2 none q.1 q.2 := by
  simp only [pX9_put, List.forall_mem_cons]
  exact ⟨gs_aload_n (k := 0) (by decide +kernel) rfl,
    gs_get (T := TX9) (N := 8) (Cn := RX9) (by decide +kernel) rfl (by decide) inW9 rfl wd_60,
    gs_aload_n (k := 0) (by decide +kernel) rfl,
    gs_get (T := TX9) (N := 8) (Cn := RX9) (by decide +kernel) rfl (by decide) inW9 rfl wd_53,
    gs_alen (by decide +kernel),
    gs_icmp_lt (off := 6) (by decide +kernel) (by decide),
    gs_bipush (n := -4) (by decide +kernel) (by decide),
    gs_iret (by decide +kernel),
    gs_aload_n (k := 0) (by decide +kernel) rfl,
    gs_get (T := TX9) (N := 8) (Cn := RX9) (by decide +kernel) rfl (by decide) inW9 rfl wd_53,
    gs_aload_n (k := 0) (by decide +kernel) rfl,
    gs_get (T := TX9) (N := 8) (Cn := RX9) (by decide +kernel) rfl (by decide) inW9 rfl wd_60,
    gs_iload_n (k := 1) (by decide +kernel) rfl,
    gs_iastore (by decide +kernel),
    gs_aload_n (k := 0) (by decide +kernel) rfl,
    gs_dup (by decide +kernel),
    gs_get (T := TX9) (N := 8) (Cn := RX9) (by decide +kernel) rfl (by decide) inW9 rfl wd_60,
    gs_iconst (n := 1) (by decide +kernel) (by decide),
    gs_iadd (by decide +kernel),
    gs_put (T := TX9) (N := 8) (Cn := RX9) (by decide +kernel) rfl (by decide) inW9 tyX9_ok nmX9 rfl wd_60,
    gs_aload_n (k := 0) (by decide +kernel) rfl,
    gs_callV (by decide +kernel) rfl rfl wd_321 wd_324 wd_323 ws_1 wd_5 mp_41 (by decide),
    gs_aload_n (k := 0) (by decide +kernel) rfl,
    gs_get (T := TX9) (N := 8) (Cn := RX9) (by decide +kernel) rfl (by decide) inW9 rfl wd_60,
    gs_iret (by decide +kernel),
    fun _ h => absurd h List.not_mem_nil⟩
def pX9_clear : gProg := [(0, sLdA 0 1),
  (1, sGet 9 5),
  (4, sStI 1 1),
  (5, sLdA 0 1),
  (6, sPush (.int 0) 1),
  (7, sPut 9 5),
  (10, sLdA 0 1),
  (11, sCallV 41 9 0),
  (14, sLdI 1 1),
  (15, sRetI)]
theorem kX9_clear : ∀ q ∈ pX9_clear, gSnd RX9 cX9_clear 2 none q.1 q.2 := by
  simp only [pX9_clear, List.forall_mem_cons]
  exact ⟨gs_aload_n (k := 0) (by decide +kernel) rfl,
    gs_get (T := TX9) (N := 8) (Cn := RX9) (by decide +kernel) rfl (by decide) inW9 rfl wd_60,
    gs_istore_n (k := 1) (by decide +kernel) rfl,
    gs_aload_n (k := 0) (by decide +kernel) rfl,
    gs_iconst (n := 0) (by decide +kernel) (by decide),
    gs_put (T := TX9) (N := 8) (Cn := RX9) (by decide +kernel) rfl (by decide) inW9 tyX9_ok nmX9 rfl wd_60,
    gs_aload_n (k := 0) (by decide +kernel) rfl,
    gs_callV (by decide +kernel) rfl rfl wd_321 wd_324 wd_323 ws_1 wd_5 mp_41 (by decide),
    gs_iload_n (k := 1) (by decide +kernel) rfl,
    gs_iret (by decide +kernel),
    fun _ h => absurd h List.not_mem_nil⟩
def pX9_drop : gProg := [(0, sLdA 0 1),
  (1, sGet 9 5),
  (4, sIfne 10),
  (7, sPush (.int (-3)) 2),
  (9, sRetI),
  (10, sLdA 0 1),
  (11, sDup),
  (12, sGet 9 5),
  (15, sPush (.int 1) 1),
  (16, sIsub),
  (17, sPut 9 5),
  (20, sLdA 0 1),
  (21, sCallV 41 9 0),
  (24, sLdA 0 1),
  (25, sGet 9 5),
  (28, sRetI)]
theorem kX9_drop : ∀ q ∈ pX9_drop, gSnd RX9 cX9_drop 1 none q.1 q.2 := by
  simp only [pX9_drop, List.forall_mem_cons]
  exact ⟨gs_aload_n (k := 0) (by decide +kernel) rfl,
    gs_get (T := TX9) (N := 8) (Cn := RX9) (by decide +kernel) rfl (by decide) inW9 rfl wd_60,
    gs_if_ne (off := 6) (by decide +kernel) (by decide),
    gs_bipush (n := -3) (by decide +kernel) (by decide),
    gs_iret (by decide +kernel),
    gs_aload_n (k := 0) (by decide +kernel) rfl,
    gs_dup (by decide +kernel),
    gs_get (T := TX9) (N := 8) (Cn := RX9) (by decide +kernel) rfl (by decide) inW9 rfl wd_60,
    gs_iconst (n := 1) (by decide +kernel) (by decide),
    gs_isub (by decide +kernel),
    gs_put (T := TX9) (N := 8) (Cn := RX9) (by decide +kernel) rfl (by decide) inW9 tyX9_ok nmX9 rfl wd_60,
    gs_aload_n (k := 0) (by decide +kernel) rfl,
    gs_callV (by decide +kernel) rfl rfl wd_321 wd_324 wd_323 ws_1 wd_5 mp_41 (by decide),
    gs_aload_n (k := 0) (by decide +kernel) rfl,
    gs_get (T := TX9) (N := 8) (Cn := RX9) (by decide +kernel) rfl (by decide) inW9 rfl wd_60,
    gs_iret (by decide +kernel),
    fun _ h => absurd h List.not_mem_nil⟩
def pX9_parse : gProg := [(0, sLdA 0 1),
  (1, sLdA 0 1),
  (2, sCallV 42 9 0),
  (5, sPut 9 6),
  (8, sLdA 0 1),
  (9, sLdA 0 1),
  (10, sGet 9 6),
  (13, sPush (.int (-1)) 1),
  (14, sCmpne 31),
  (17, sLdA 0 1),
  (18, sGet 9 5),
  (21, sPush (.int 1) 1),
  (22, sIadd),
  (23, sLdA 0 1),
  (24, sGet 9 4),
  (27, sIdiv),
  (28, sGoto 32),
  (31, sPush (.int 0) 1),
  (32, sPut 9 7),
  (35, sRetV)]
theorem kX9_parse : ∀ q ∈ pX9_parse, gSnd RX9 cX9_parse 1 none q.1 q.2 := by
  simp only [pX9_parse, List.forall_mem_cons]
  exact ⟨gs_aload_n (k := 0) (by decide +kernel) rfl,
    gs_aload_n (k := 0) (by decide +kernel) rfl,
    gs_callV (by decide +kernel) rfl rfl wd_325 wd_328 wd_327 ws_2 wd_5 mp_42 (by decide),
    gs_put (T := TX9) (N := 8) (Cn := RX9) (by decide +kernel) rfl (by decide) inW9 tyX9_ok nmX9 rfl wd_62,
    gs_aload_n (k := 0) (by decide +kernel) rfl,
    gs_aload_n (k := 0) (by decide +kernel) rfl,
    gs_get (T := TX9) (N := 8) (Cn := RX9) (by decide +kernel) rfl (by decide) inW9 rfl wd_62,
    gs_iconst (n := -1) (by decide +kernel) (by decide),
    gs_icmp_ne (off := 17) (by decide +kernel) (by decide),
    gs_aload_n (k := 0) (by decide +kernel) rfl,
    gs_get (T := TX9) (N := 8) (Cn := RX9) (by decide +kernel) rfl (by decide) inW9 rfl wd_60,
    gs_iconst (n := 1) (by decide +kernel) (by decide),
    gs_iadd (by decide +kernel),
    gs_aload_n (k := 0) (by decide +kernel) rfl,
    gs_get (T := TX9) (N := 8) (Cn := RX9) (by decide +kernel) rfl (by decide) inW9 rfl wd_59,
    gs_idiv (by decide +kernel),
    gs_goto (off := 4) (by decide +kernel) (by decide),
    gs_iconst (n := 0) (by decide +kernel) (by decide),
    gs_put (T := TX9) (N := 8) (Cn := RX9) (by decide +kernel) rfl (by decide) inW9 tyX9_ok nmX9 rfl wd_64,
    gs_vret (by decide +kernel),
    fun _ h => absurd h List.not_mem_nil⟩
def pX9_firstFault : gProg := [(0, sPush (.int 0) 1),
  (1, sStI 1 1),
  (2, sLdI 1 1),
  (3, sLdA 0 1),
  (4, sGet 9 5),
  (7, sCmpge 43),
  (10, sLdA 0 1),
  (11, sLdA 0 1),
  (12, sGet 9 0),
  (15, sLdI 1 1),
  (16, sIald),
  (17, sLdI 1 1),
  (18, sLdA 0 1),
  (19, sGet 9 4),
  (22, sIdiv),
  (23, sLdI 1 1),
  (24, sLdA 0 1),
  (25, sGet 9 4),
  (28, sIrem),
  (29, sCallV 43 9 3),
  (32, sIfne 37),
  (35, sLdI 1 1),
  (36, sRetI),
  (37, sInc 1 1),
  (40, sGoto 2),
  (43, sLdA 0 1),
  (44, sGet 9 5),
  (47, sIfeq 68),
  (50, sLdA 0 1),
  (51, sGet 9 5),
  (54, sLdA 0 1),
  (55, sGet 9 4),
  (58, sIrem),
  (59, sLdA 0 1),
  (60, sGet 9 4),
  (63, sPush (.int 1) 1),
  (64, sIsub),
  (65, sCmpne 72),
  (68, sPush (.int 1) 1),
  (69, sGoto 73),
  (72, sPush (.int 0) 1),
  (73, sStI 1 1),
  (74, sLdI 1 1),
  (75, sIfeq 82),
  (78, sPush (.int (-1)) 1),
  (79, sGoto 86),
  (82, sLdA 0 1),
  (83, sGet 9 5),
  (86, sRetI)]
theorem kX9_firstFault : ∀ q ∈ pX9_firstFault, gSnd RX9 cX9_firstFault 2 none q.1 q.2 := by
  simp only [pX9_firstFault, List.forall_mem_cons]
  exact ⟨gs_iconst (n := 0) (by decide +kernel) (by decide),
    gs_istore_n (k := 1) (by decide +kernel) rfl,
    gs_iload_n (k := 1) (by decide +kernel) rfl,
    gs_aload_n (k := 0) (by decide +kernel) rfl,
    gs_get (T := TX9) (N := 8) (Cn := RX9) (by decide +kernel) rfl (by decide) inW9 rfl wd_60,
    gs_icmp_ge (off := 36) (by decide +kernel) (by decide),
    gs_aload_n (k := 0) (by decide +kernel) rfl,
    gs_aload_n (k := 0) (by decide +kernel) rfl,
    gs_get (T := TX9) (N := 8) (Cn := RX9) (by decide +kernel) rfl (by decide) inW9 rfl wd_53,
    gs_iload_n (k := 1) (by decide +kernel) rfl,
    gs_iaload (by decide +kernel),
    gs_iload_n (k := 1) (by decide +kernel) rfl,
    gs_aload_n (k := 0) (by decide +kernel) rfl,
    gs_get (T := TX9) (N := 8) (Cn := RX9) (by decide +kernel) rfl (by decide) inW9 rfl wd_59,
    gs_idiv (by decide +kernel),
    gs_iload_n (k := 1) (by decide +kernel) rfl,
    gs_aload_n (k := 0) (by decide +kernel) rfl,
    gs_get (T := TX9) (N := 8) (Cn := RX9) (by decide +kernel) rfl (by decide) inW9 rfl wd_59,
    gs_irem (by decide +kernel),
    gs_callV (by decide +kernel) rfl rfl wd_329 wd_332 wd_331 ws_3 wd_5 mp_43 (by decide),
    gs_if_ne (off := 5) (by decide +kernel) (by decide),
    gs_iload_n (k := 1) (by decide +kernel) rfl,
    gs_iret (by decide +kernel),
    gs_iinc (n := 1) (by decide +kernel) (by decide),
    gs_goto (off := -38) (by decide +kernel) (by decide),
    gs_aload_n (k := 0) (by decide +kernel) rfl,
    gs_get (T := TX9) (N := 8) (Cn := RX9) (by decide +kernel) rfl (by decide) inW9 rfl wd_60,
    gs_if_eq (off := 21) (by decide +kernel) (by decide),
    gs_aload_n (k := 0) (by decide +kernel) rfl,
    gs_get (T := TX9) (N := 8) (Cn := RX9) (by decide +kernel) rfl (by decide) inW9 rfl wd_60,
    gs_aload_n (k := 0) (by decide +kernel) rfl,
    gs_get (T := TX9) (N := 8) (Cn := RX9) (by decide +kernel) rfl (by decide) inW9 rfl wd_59,
    gs_irem (by decide +kernel),
    gs_aload_n (k := 0) (by decide +kernel) rfl,
    gs_get (T := TX9) (N := 8) (Cn := RX9) (by decide +kernel) rfl (by decide) inW9 rfl wd_59,
    gs_iconst (n := 1) (by decide +kernel) (by decide),
    gs_isub (by decide +kernel),
    gs_icmp_ne (off := 7) (by decide +kernel) (by decide),
    gs_iconst (n := 1) (by decide +kernel) (by decide),
    gs_goto (off := 4) (by decide +kernel) (by decide),
    gs_iconst (n := 0) (by decide +kernel) (by decide),
    gs_istore_n (k := 1) (by decide +kernel) rfl,
    gs_iload_n (k := 1) (by decide +kernel) rfl,
    gs_if_eq (off := 7) (by decide +kernel) (by decide),
    gs_iconst (n := -1) (by decide +kernel) (by decide),
    gs_goto (off := 7) (by decide +kernel) (by decide),
    gs_aload_n (k := 0) (by decide +kernel) rfl,
    gs_get (T := TX9) (N := 8) (Cn := RX9) (by decide +kernel) rfl (by decide) inW9 rfl wd_60,
    gs_iret (by decide +kernel),
    fun _ h => absurd h List.not_mem_nil⟩
def pX9_mayStand : gProg := [(0, sLdI 3 1),
  (1, sLdA 0 1),
  (2, sGet 9 1),
  (5, sAlen),
  (6, sCmpne 21),
  (9, sLdI 1 1),
  (10, sPush (.int 59) 2),
  (12, sCmpne 19),
  (15, sPush (.int 1) 1),
  (16, sGoto 20),
  (19, sPush (.int 0) 1),
  (20, sRetI),
  (21, sLdI 2 1),
  (22, sLdA 0 1),
  (23, sGet 9 3),
  (26, sCmpge 53),
  (29, sLdI 1 1),
  (30, sLdA 0 1),
  (31, sGet 9 1),
  (34, sLdI 3 1),
  (35, sIald),
  (36, sCmplt 53),
  (39, sLdI 1 1),
  (40, sLdA 0 1),
  (41, sGet 9 2),
  (44, sLdI 3 1),
  (45, sIald),
  (46, sCmpgt 53),
  (49, sPush (.int 1) 1),
  (50, sGoto 54),
  (53, sPush (.int 0) 1),
  (54, sRetI)]
theorem kX9_mayStand : ∀ q ∈ pX9_mayStand, gSnd RX9 cX9_mayStand 4 none q.1 q.2 := by
  simp only [pX9_mayStand, List.forall_mem_cons]
  exact ⟨gs_iload_n (k := 3) (by decide +kernel) rfl,
    gs_aload_n (k := 0) (by decide +kernel) rfl,
    gs_get (T := TX9) (N := 8) (Cn := RX9) (by decide +kernel) rfl (by decide) inW9 rfl wd_56,
    gs_alen (by decide +kernel),
    gs_icmp_ne (off := 15) (by decide +kernel) (by decide),
    gs_iload_n (k := 1) (by decide +kernel) rfl,
    gs_bipush (n := 59) (by decide +kernel) (by decide),
    gs_icmp_ne (off := 7) (by decide +kernel) (by decide),
    gs_iconst (n := 1) (by decide +kernel) (by decide),
    gs_goto (off := 4) (by decide +kernel) (by decide),
    gs_iconst (n := 0) (by decide +kernel) (by decide),
    gs_iret (by decide +kernel),
    gs_iload_n (k := 2) (by decide +kernel) rfl,
    gs_aload_n (k := 0) (by decide +kernel) rfl,
    gs_get (T := TX9) (N := 8) (Cn := RX9) (by decide +kernel) rfl (by decide) inW9 rfl wd_58,
    gs_icmp_ge (off := 27) (by decide +kernel) (by decide),
    gs_iload_n (k := 1) (by decide +kernel) rfl,
    gs_aload_n (k := 0) (by decide +kernel) rfl,
    gs_get (T := TX9) (N := 8) (Cn := RX9) (by decide +kernel) rfl (by decide) inW9 rfl wd_56,
    gs_iload_n (k := 3) (by decide +kernel) rfl,
    gs_iaload (by decide +kernel),
    gs_icmp_lt (off := 17) (by decide +kernel) (by decide),
    gs_iload_n (k := 1) (by decide +kernel) rfl,
    gs_aload_n (k := 0) (by decide +kernel) rfl,
    gs_get (T := TX9) (N := 8) (Cn := RX9) (by decide +kernel) rfl (by decide) inW9 rfl wd_57,
    gs_iload_n (k := 3) (by decide +kernel) rfl,
    gs_iaload (by decide +kernel),
    gs_icmp_gt (off := 7) (by decide +kernel) (by decide),
    gs_iconst (n := 1) (by decide +kernel) (by decide),
    gs_goto (off := 4) (by decide +kernel) (by decide),
    gs_iconst (n := 0) (by decide +kernel) (by decide),
    gs_iret (by decide +kernel),
    fun _ h => absurd h List.not_mem_nil⟩
def pX10_type : gProg := [(0, sLdI 1 1),
  (1, sCallS 104 1),
  (4, sIfeq 18),
  (7, sLdI 2 1),
  (8, sPush (.int 0) 1),
  (9, sPush (.int 255) 3),
  (12, sCallS 109 3),
  (15, sIfne 21),
  (18, sPush (.int (-2)) 2),
  (20, sRetI),
  (21, sLdA 0 1),
  (22, sLdI 1 1),
  (23, sCallV 103 10 1),
  (26, sLdI 2 1),
  (27, sCallV 38 9 1),
  (30, sRetI)]
theorem kX10_type : ∀ q ∈ pX10_type, gSnd RX10 cX10_type 3 none q.1 q.2 := by
  simp only [pX10_type, List.forall_mem_cons]
  exact ⟨gs_iload_n (k := 1) (by decide +kernel) rfl,
    gs_callS (by decide +kernel) rfl wd_307 wd_309 wd_308 wd_1 mp_104 (by decide),
    gs_if_eq (off := 14) (by decide +kernel) (by decide),
    gs_iload_n (k := 2) (by decide +kernel) rfl,
    gs_iconst (n := 0) (by decide +kernel) (by decide),
    gs_sipush (n := 255) (by decide +kernel) (by decide),
    gs_callS (by decide +kernel) rfl wd_310 wd_312 wd_311 wd_1 mp_109 (by decide),
    gs_if_ne (off := 6) (by decide +kernel) (by decide),
    gs_bipush (n := -2) (by decide +kernel) (by decide),
    gs_iret (by decide +kernel),
    gs_aload_n (k := 0) (by decide +kernel) rfl,
    gs_iload_n (k := 1) (by decide +kernel) rfl,
    gs_callV (by decide +kernel) rfl rfl wd_313 wd_316 wd_315 ws_0 wd_1 mp_103 (by decide),
    gs_iload_n (k := 2) (by decide +kernel) rfl,
    gs_callV (by decide +kernel) rfl rfl wd_317 wd_320 wd_318 wd_319 wd_5 mp_38 (by decide),
    gs_iret (by decide +kernel),
    fun _ h => absurd h List.not_mem_nil⟩
def pX10_wipe : gProg := [(0, sLdI 1 1),
  (1, sCallS 104 1),
  (4, sIfeq 18),
  (7, sLdA 0 1),
  (8, sLdI 1 1),
  (9, sCallV 103 10 1),
  (12, sCallV 39 9 0),
  (15, sGoto 20),
  (18, sPush (.int (-2)) 2),
  (20, sRetI)]
theorem kX10_wipe : ∀ q ∈ pX10_wipe, gSnd RX10 cX10_wipe 2 none q.1 q.2 := by
  simp only [pX10_wipe, List.forall_mem_cons]
  exact ⟨gs_iload_n (k := 1) (by decide +kernel) rfl,
    gs_callS (by decide +kernel) rfl wd_307 wd_309 wd_308 wd_1 mp_104 (by decide),
    gs_if_eq (off := 14) (by decide +kernel) (by decide),
    gs_aload_n (k := 0) (by decide +kernel) rfl,
    gs_iload_n (k := 1) (by decide +kernel) rfl,
    gs_callV (by decide +kernel) rfl rfl wd_313 wd_316 wd_315 ws_0 wd_1 mp_103 (by decide),
    gs_callV (by decide +kernel) rfl rfl wd_337 wd_340 wd_338 wd_339 wd_5 mp_39 (by decide),
    gs_goto (off := 5) (by decide +kernel) (by decide),
    gs_bipush (n := -2) (by decide +kernel) (by decide),
    gs_iret (by decide +kernel),
    fun _ h => absurd h List.not_mem_nil⟩
def pX10_undo : gProg := [(0, sLdI 1 1),
  (1, sCallS 104 1),
  (4, sIfeq 18),
  (7, sLdA 0 1),
  (8, sLdI 1 1),
  (9, sCallV 103 10 1),
  (12, sCallV 40 9 0),
  (15, sGoto 20),
  (18, sPush (.int (-2)) 2),
  (20, sRetI)]
theorem kX10_undo : ∀ q ∈ pX10_undo, gSnd RX10 cX10_undo 2 none q.1 q.2 := by
  simp only [pX10_undo, List.forall_mem_cons]
  exact ⟨gs_iload_n (k := 1) (by decide +kernel) rfl,
    gs_callS (by decide +kernel) rfl wd_307 wd_309 wd_308 wd_1 mp_104 (by decide),
    gs_if_eq (off := 14) (by decide +kernel) (by decide),
    gs_aload_n (k := 0) (by decide +kernel) rfl,
    gs_iload_n (k := 1) (by decide +kernel) rfl,
    gs_callV (by decide +kernel) rfl rfl wd_313 wd_316 wd_315 ws_0 wd_1 mp_103 (by decide),
    gs_callV (by decide +kernel) rfl rfl wd_345 wd_348 wd_346 wd_347 wd_5 mp_40 (by decide),
    gs_goto (off := 5) (by decide +kernel) (by decide),
    gs_bipush (n := -2) (by decide +kernel) (by decide),
    gs_iret (by decide +kernel),
    fun _ h => absurd h List.not_mem_nil⟩
def pX10_fault : gProg := [(0, sLdI 1 1),
  (1, sCallS 104 1),
  (4, sIfeq 18),
  (7, sLdA 0 1),
  (8, sLdI 1 1),
  (9, sCallV 103 10 1),
  (12, sGet 9 6),
  (15, sGoto 20),
  (18, sPush (.int (-2)) 2),
  (20, sRetI)]
theorem kX10_fault : ∀ q ∈ pX10_fault, gSnd RX10 cX10_fault 2 none q.1 q.2 := by
  simp only [pX10_fault, List.forall_mem_cons]
  exact ⟨gs_iload_n (k := 1) (by decide +kernel) rfl,
    gs_callS (by decide +kernel) rfl wd_307 wd_309 wd_308 wd_1 mp_104 (by decide),
    gs_if_eq (off := 14) (by decide +kernel) (by decide),
    gs_aload_n (k := 0) (by decide +kernel) rfl,
    gs_iload_n (k := 1) (by decide +kernel) rfl,
    gs_callV (by decide +kernel) rfl rfl wd_313 wd_316 wd_315 ws_0 wd_1 mp_103 (by decide),
    gs_getN (T := TX9) (N := 8) (Cn := RX9) (by decide +kernel) rfl (by decide) inW9 rfl wn_63,
    gs_goto (off := 5) (by decide +kernel) (by decide),
    gs_bipush (n := -2) (by decide +kernel) (by decide),
    gs_iret (by decide +kernel),
    fun _ h => absurd h List.not_mem_nil⟩
def pX10_bush : gProg := [(0, sLdA 0 1),
  (1, sGet 10 2),
  (4, sLdI 1 1),
  (5, sCallV 1 0 1),
  (8, sIfne 14),
  (11, sPush (.int (-2)) 2),
  (13, sRetI),
  (14, sLdI 2 1),
  (15, sSw 0 [40, 49, 58] 67),
  (40, sLdA 0 1),
  (41, sGet 10 2),
  (44, sLdI 1 1),
  (45, sCallV 2 0 1),
  (48, sRetI),
  (49, sLdA 0 1),
  (50, sGet 10 2),
  (53, sLdI 1 1),
  (54, sCallV 3 0 1),
  (57, sRetI),
  (58, sLdA 0 1),
  (59, sGet 10 2),
  (62, sLdI 1 1),
  (63, sCallV 4 0 1),
  (66, sRetI),
  (67, sPush (.int (-2)) 2),
  (69, sRetI)]
theorem kX10_bush : ∀ q ∈ pX10_bush, gSnd RX10 cX10_bush 3 none q.1 q.2 := by
  simp only [pX10_bush, List.forall_mem_cons]
  exact ⟨gs_aload_n (k := 0) (by decide +kernel) rfl,
    gs_get (T := TX10) (N := 13) (Cn := RX10) (by decide +kernel) rfl (by decide) inW10 rfl wd_265,
    gs_iload_n (k := 1) (by decide +kernel) rfl,
    gs_callV (by decide +kernel) rfl rfl wd_357 wd_360 wd_358 wd_359 wd_4 mp_1 (by decide),
    gs_if_ne (off := 6) (by decide +kernel) (by decide),
    gs_bipush (n := -2) (by decide +kernel) (by decide),
    gs_iret (by decide +kernel),
    gs_iload_n (k := 2) (by decide +kernel) rfl,
    gs_table (dflt := 52) (lo := 0) (hi := 2) (offs := #[25, 34, 43]) (len := 25) (by decide +kernel) (by decide) (by decide) (by decide),
    gs_aload_n (k := 0) (by decide +kernel) rfl,
    gs_get (T := TX10) (N := 13) (Cn := RX10) (by decide +kernel) rfl (by decide) inW10 rfl wd_265,
    gs_iload_n (k := 1) (by decide +kernel) rfl,
    gs_callV (by decide +kernel) rfl rfl wd_361 wd_364 wd_362 wd_363 wd_4 mp_2 (by decide),
    gs_iret (by decide +kernel),
    gs_aload_n (k := 0) (by decide +kernel) rfl,
    gs_get (T := TX10) (N := 13) (Cn := RX10) (by decide +kernel) rfl (by decide) inW10 rfl wd_265,
    gs_iload_n (k := 1) (by decide +kernel) rfl,
    gs_callV (by decide +kernel) rfl rfl wd_368 wd_371 wd_369 wd_370 wd_4 mp_3 (by decide),
    gs_iret (by decide +kernel),
    gs_aload_n (k := 0) (by decide +kernel) rfl,
    gs_get (T := TX10) (N := 13) (Cn := RX10) (by decide +kernel) rfl (by decide) inW10 rfl wd_265,
    gs_iload_n (k := 1) (by decide +kernel) rfl,
    gs_callV (by decide +kernel) rfl rfl wd_372 wd_375 wd_373 wd_374 wd_4 mp_4 (by decide),
    gs_iret (by decide +kernel),
    gs_bipush (n := -2) (by decide +kernel) (by decide),
    gs_iret (by decide +kernel),
    fun _ h => absurd h List.not_mem_nil⟩
def pX10_look : gProg := [(0, sLdI 1 1),
  (1, sPush (.int 0) 1),
  (2, sPush (.int 11) 2),
  (4, sCallS 109 3),
  (7, sIfeq 19),
  (10, sLdI 2 1),
  (11, sPush (.int 0) 1),
  (12, sPush (.int 1) 1),
  (13, sCallS 109 3),
  (16, sIfne 22),
  (19, sPush (.int (-2)) 2),
  (21, sRetI),
  (22, sLdI 1 1),
  (23, sLdA 0 1),
  (24, sGet 10 3),
  (27, sCallV 16 4 0),
  (30, sCmplt 35),
  (33, sPush (.int (-1)) 1),
  (34, sRetI),
  (35, sLdI 2 1),
  (36, sIfne 50),
  (39, sLdA 0 1),
  (40, sGet 10 3),
  (43, sLdI 1 1),
  (44, sCallV 18 4 1),
  (47, sGoto 58),
  (50, sLdA 0 1),
  (51, sGet 10 3),
  (54, sLdI 1 1),
  (55, sCallV 19 4 1),
  (58, sRetI)]
theorem kX10_look : ∀ q ∈ pX10_look, gSnd RX10 cX10_look 3 none q.1 q.2 := by
  simp only [pX10_look, List.forall_mem_cons]
  exact ⟨gs_iload_n (k := 1) (by decide +kernel) rfl,
    gs_iconst (n := 0) (by decide +kernel) (by decide),
    gs_bipush (n := 11) (by decide +kernel) (by decide),
    gs_callS (by decide +kernel) rfl wd_310 wd_312 wd_311 wd_1 mp_109 (by decide),
    gs_if_eq (off := 12) (by decide +kernel) (by decide),
    gs_iload_n (k := 2) (by decide +kernel) rfl,
    gs_iconst (n := 0) (by decide +kernel) (by decide),
    gs_iconst (n := 1) (by decide +kernel) (by decide),
    gs_callS (by decide +kernel) rfl wd_310 wd_312 wd_311 wd_1 mp_109 (by decide),
    gs_if_ne (off := 6) (by decide +kernel) (by decide),
    gs_bipush (n := -2) (by decide +kernel) (by decide),
    gs_iret (by decide +kernel),
    gs_iload_n (k := 1) (by decide +kernel) rfl,
    gs_aload_n (k := 0) (by decide +kernel) rfl,
    gs_get (T := TX10) (N := 13) (Cn := RX10) (by decide +kernel) rfl (by decide) inW10 rfl wd_266,
    gs_callV (by decide +kernel) rfl rfl wd_380 wd_383 wd_381 wd_382 wd_7 mp_16 (by decide),
    gs_icmp_lt (off := 5) (by decide +kernel) (by decide),
    gs_iconst (n := -1) (by decide +kernel) (by decide),
    gs_iret (by decide +kernel),
    gs_iload_n (k := 2) (by decide +kernel) rfl,
    gs_if_ne (off := 14) (by decide +kernel) (by decide),
    gs_aload_n (k := 0) (by decide +kernel) rfl,
    gs_get (T := TX10) (N := 13) (Cn := RX10) (by decide +kernel) rfl (by decide) inW10 rfl wd_266,
    gs_iload_n (k := 1) (by decide +kernel) rfl,
    gs_callV (by decide +kernel) rfl rfl wd_384 wd_387 wd_385 wd_386 wd_7 mp_18 (by decide),
    gs_goto (off := 11) (by decide +kernel) (by decide),
    gs_aload_n (k := 0) (by decide +kernel) rfl,
    gs_get (T := TX10) (N := 13) (Cn := RX10) (by decide +kernel) rfl (by decide) inW10 rfl wd_266,
    gs_iload_n (k := 1) (by decide +kernel) rfl,
    gs_callV (by decide +kernel) rfl rfl wd_392 wd_395 wd_393 wd_394 wd_7 mp_19 (by decide),
    gs_iret (by decide +kernel),
    fun _ h => absurd h List.not_mem_nil⟩
def pX10_set : gProg := [(0, sLdI 1 1),
  (1, sIfne 32),
  (4, sLdI 2 1),
  (5, sPush (.int 0) 1),
  (6, sPush (.int 100) 2),
  (8, sCallS 109 3),
  (11, sIfeq 32),
  (14, sLdA 0 1),
  (15, sGet 10 0),
  (18, sGet 6 8),
  (21, sStI 3 1),
  (22, sLdA 0 1),
  (23, sGet 10 0),
  (26, sLdI 2 1),
  (27, sPut 6 8),
  (30, sLdI 3 1),
  (31, sRetI),
  (32, sLdI 1 1),
  (33, sPush (.int 1) 1),
  (34, sCmpne 65),
  (37, sLdI 2 1),
  (38, sPush (.int 0) 1),
  (39, sPush (.int 50) 2),
  (41, sCallS 109 3),
  (44, sIfeq 65),
  (47, sLdA 0 1),
  (48, sGet 10 0),
  (51, sGet 6 9),
  (54, sStI 3 1),
  (55, sLdA 0 1),
  (56, sGet 10 0),
  (59, sLdI 2 1),
  (60, sPut 6 9),
  (63, sLdI 3 1),
  (64, sRetI),
  (65, sPush (.int (-2)) 2),
  (67, sRetI)]
theorem kX10_set : ∀ q ∈ pX10_set, gSnd RX10 cX10_set 4 none q.1 q.2 := by
  simp only [pX10_set, List.forall_mem_cons]
  exact ⟨gs_iload_n (k := 1) (by decide +kernel) rfl,
    gs_if_ne (off := 31) (by decide +kernel) (by decide),
    gs_iload_n (k := 2) (by decide +kernel) rfl,
    gs_iconst (n := 0) (by decide +kernel) (by decide),
    gs_bipush (n := 100) (by decide +kernel) (by decide),
    gs_callS (by decide +kernel) rfl wd_310 wd_312 wd_311 wd_1 mp_109 (by decide),
    gs_if_eq (off := 21) (by decide +kernel) (by decide),
    gs_aload_n (k := 0) (by decide +kernel) rfl,
    gs_get (T := TX10) (N := 13) (Cn := RX10) (by decide +kernel) rfl (by decide) inW10 rfl wd_263,
    gs_getN (T := TX6) (N := 10) (Cn := RX6) (by decide +kernel) rfl (by decide) inW6 rfl wn_160,
    gs_istore_n (k := 3) (by decide +kernel) rfl,
    gs_aload_n (k := 0) (by decide +kernel) rfl,
    gs_get (T := TX10) (N := 13) (Cn := RX10) (by decide +kernel) rfl (by decide) inW10 rfl wd_263,
    gs_iload_n (k := 2) (by decide +kernel) rfl,
    gs_putN (T := TX6) (N := 10) (Cn := RX6) (by decide +kernel) rfl (by decide) inW6 tyX6_ok nmX6 rfl wn_160,
    gs_iload_n (k := 3) (by decide +kernel) rfl,
    gs_iret (by decide +kernel),
    gs_iload_n (k := 1) (by decide +kernel) rfl,
    gs_iconst (n := 1) (by decide +kernel) (by decide),
    gs_icmp_ne (off := 31) (by decide +kernel) (by decide),
    gs_iload_n (k := 2) (by decide +kernel) rfl,
    gs_iconst (n := 0) (by decide +kernel) (by decide),
    gs_bipush (n := 50) (by decide +kernel) (by decide),
    gs_callS (by decide +kernel) rfl wd_310 wd_312 wd_311 wd_1 mp_109 (by decide),
    gs_if_eq (off := 21) (by decide +kernel) (by decide),
    gs_aload_n (k := 0) (by decide +kernel) rfl,
    gs_get (T := TX10) (N := 13) (Cn := RX10) (by decide +kernel) rfl (by decide) inW10 rfl wd_263,
    gs_getN (T := TX6) (N := 10) (Cn := RX6) (by decide +kernel) rfl (by decide) inW6 rfl wn_162,
    gs_istore_n (k := 3) (by decide +kernel) rfl,
    gs_aload_n (k := 0) (by decide +kernel) rfl,
    gs_get (T := TX10) (N := 13) (Cn := RX10) (by decide +kernel) rfl (by decide) inW10 rfl wd_263,
    gs_iload_n (k := 2) (by decide +kernel) rfl,
    gs_putN (T := TX6) (N := 10) (Cn := RX6) (by decide +kernel) rfl (by decide) inW6 tyX6_ok nmX6 rfl wn_162,
    gs_iload_n (k := 3) (by decide +kernel) rfl,
    gs_iret (by decide +kernel),
    gs_bipush (n := -2) (by decide +kernel) (by decide),
    gs_iret (by decide +kernel),
    fun _ h => absurd h List.not_mem_nil⟩
def pX10_event : gProg := [(0, sLdI 1 1),
  (1, sLdI 2 1),
  (2, sLdI 3 1),
  (3, sCallS 108 3),
  (6, sIfeq 22),
  (9, sLdA 0 1),
  (10, sGet 10 4),
  (13, sLdI 1 1),
  (14, sLdI 2 1),
  (15, sLdI 3 1),
  (16, sCallV 8 2 3),
  (19, sGoto 24),
  (22, sPush (.int (-2)) 2),
  (24, sRetI)]
theorem kX10_event : ∀ q ∈ pX10_event, gSnd RX10 cX10_event 4 none q.1 q.2 := by
  simp only [pX10_event, List.forall_mem_cons]
  exact ⟨gs_iload_n (k := 1) (by decide +kernel) rfl,
    gs_iload_n (k := 2) (by decide +kernel) rfl,
    gs_iload_n (k := 3) (by decide +kernel) rfl,
    gs_callS (by decide +kernel) rfl wd_404 wd_406 wd_405 wd_1 mp_108 (by decide),
    gs_if_eq (off := 16) (by decide +kernel) (by decide),
    gs_aload_n (k := 0) (by decide +kernel) rfl,
    gs_get (T := TX10) (N := 13) (Cn := RX10) (by decide +kernel) rfl (by decide) inW10 rfl wd_267,
    gs_iload_n (k := 1) (by decide +kernel) rfl,
    gs_iload_n (k := 2) (by decide +kernel) rfl,
    gs_iload_n (k := 3) (by decide +kernel) rfl,
    gs_callV (by decide +kernel) rfl rfl wd_410 wd_413 wd_411 wd_412 wd_8 mp_8 (by decide),
    gs_goto (off := 5) (by decide +kernel) (by decide),
    gs_bipush (n := -2) (by decide +kernel) (by decide),
    gs_iret (by decide +kernel),
    fun _ h => absurd h List.not_mem_nil⟩
def pX10_back : gProg := [(0, sLdA 0 1),
  (1, sGet 10 4),
  (4, sCallV 9 2 0),
  (7, sRetI)]
theorem kX10_back : ∀ q ∈ pX10_back, gSnd RX10 cX10_back 1 none q.1 q.2 := by
  simp only [pX10_back, List.forall_mem_cons]
  exact ⟨gs_aload_n (k := 0) (by decide +kernel) rfl,
    gs_get (T := TX10) (N := 13) (Cn := RX10) (by decide +kernel) rfl (by decide) inW10 rfl wd_267,
    gs_callV (by decide +kernel) rfl rfl wd_418 wd_421 wd_419 wd_420 wd_8 mp_9 (by decide),
    gs_iret (by decide +kernel),
    fun _ h => absurd h List.not_mem_nil⟩
def pX10_read : gProg := [(0, sLdI 1 1),
  (1, sCallS 106 1),
  (4, sIfne 10),
  (7, sPush (.int (-2)) 2),
  (9, sRetI),
  (10, sLdA 0 1),
  (11, sGet 10 9),
  (14, sLdI 1 1),
  (15, sAald),
  (16, sStA 2 1),
  (17, sLdA 2 1),
  (18, sCallV 31 8 0),
  (21, sIfeq 30),
  (24, sLdA 0 1),
  (25, sPush (.int 1) 1),
  (26, sCallV 101 10 1),
  (29, sRetI),
  (30, sLdA 0 1),
  (31, sGet 10 4),
  (34, sGet 2 3),
  (37, sStI 3 1),
  (38, sPush (.int 0) 1),
  (39, sStI 4 2),
  (41, sLdI 4 2),
  (43, sPush (.int 2) 1),
  (44, sIadd),
  (45, sLdA 2 1),
  (46, sGet 8 2),
  (49, sCmpge 127),
  (52, sLdA 0 1),
  (53, sGet 10 4),
  (56, sGet 2 3),
  (59, sPush (.int 8) 2),
  (61, sCmpge 127),
  (64, sLdA 2 1),
  (65, sLdI 4 2),
  (67, sCallV 35 8 1),
  (70, sStI 5 2),
  (72, sLdA 2 1),
  (73, sLdI 4 2),
  (75, sPush (.int 1) 1),
  (76, sIadd),
  (77, sCallV 35 8 1),
  (80, sStI 6 2),
  (82, sLdA 2 1),
  (83, sLdI 4 2),
  (85, sPush (.int 2) 1),
  (86, sIadd),
  (87, sCallV 35 8 1),
  (90, sStI 7 2),
  (92, sLdI 5 2),
  (94, sLdI 6 2),
  (96, sLdI 7 2),
  (98, sCallS 108 3),
  (101, sIfne 107),
  (104, sGoto 127),
  (107, sLdA 0 1),
  (108, sGet 10 4),
  (111, sLdI 5 2),
  (113, sLdI 6 2),
  (115, sLdI 7 2),
  (117, sCallV 8 2 3),
  (120, sPop),
  (121, sInc 4 3),
  (124, sGoto 41),
  (127, sLdA 0 1),
  (128, sGet 10 4),
  (131, sGet 2 3),
  (134, sLdI 3 1),
  (135, sIsub),
  (136, sRetI)]
theorem kX10_read : ∀ q ∈ pX10_read, gSnd RX10 cX10_read 8 none q.1 q.2 := by
  simp only [pX10_read, List.forall_mem_cons]
  exact ⟨gs_iload_n (k := 1) (by decide +kernel) rfl,
    gs_callS (by decide +kernel) rfl wd_426 wd_428 wd_427 wd_1 mp_106 (by decide),
    gs_if_ne (off := 6) (by decide +kernel) (by decide),
    gs_bipush (n := -2) (by decide +kernel) (by decide),
    gs_iret (by decide +kernel),
    gs_aload_n (k := 0) (by decide +kernel) rfl,
    gs_get (T := TX10) (N := 13) (Cn := RX10) (by decide +kernel) rfl (by decide) inW10 rfl wd_272,
    gs_iload_n (k := 1) (by decide +kernel) rfl,
    gs_aaload (by decide +kernel),
    gs_astore_n (k := 2) (by decide +kernel) rfl,
    gs_aload_n (k := 2) (by decide +kernel) rfl,
    gs_callV (by decide +kernel) rfl rfl wd_429 wd_432 wd_430 wd_431 wd_11 mp_31 (by decide),
    gs_if_eq (off := 9) (by decide +kernel) (by decide),
    gs_aload_n (k := 0) (by decide +kernel) rfl,
    gs_iconst (n := 1) (by decide +kernel) (by decide),
    gs_callV (by decide +kernel) rfl rfl wd_433 wd_436 wd_435 ws_4 wd_1 mp_101 (by decide),
    gs_iret (by decide +kernel),
    gs_aload_n (k := 0) (by decide +kernel) rfl,
    gs_get (T := TX10) (N := 13) (Cn := RX10) (by decide +kernel) rfl (by decide) inW10 rfl wd_267,
    gs_getN (T := TX2) (N := 4) (Cn := RX2) (by decide +kernel) rfl (by decide) inW2 rfl wn_200,
    gs_istore_n (k := 3) (by decide +kernel) rfl,
    gs_iconst (n := 0) (by decide +kernel) (by decide),
    gs_istore (by decide +kernel),
    gs_iload (by decide +kernel),
    gs_iconst (n := 2) (by decide +kernel) (by decide),
    gs_iadd (by decide +kernel),
    gs_aload_n (k := 2) (by decide +kernel) rfl,
    gs_getN (T := TX8) (N := 3) (Cn := RX8) (by decide +kernel) rfl (by decide) inW8 rfl wn_255,
    gs_icmp_ge (off := 78) (by decide +kernel) (by decide),
    gs_aload_n (k := 0) (by decide +kernel) rfl,
    gs_get (T := TX10) (N := 13) (Cn := RX10) (by decide +kernel) rfl (by decide) inW10 rfl wd_267,
    gs_getN (T := TX2) (N := 4) (Cn := RX2) (by decide +kernel) rfl (by decide) inW2 rfl wn_200,
    gs_bipush (n := 8) (by decide +kernel) (by decide),
    gs_icmp_ge (off := 66) (by decide +kernel) (by decide),
    gs_aload_n (k := 2) (by decide +kernel) rfl,
    gs_iload (by decide +kernel),
    gs_callV (by decide +kernel) rfl rfl wd_437 wd_440 wd_438 wd_439 wd_11 mp_35 (by decide),
    gs_istore (by decide +kernel),
    gs_aload_n (k := 2) (by decide +kernel) rfl,
    gs_iload (by decide +kernel),
    gs_iconst (n := 1) (by decide +kernel) (by decide),
    gs_iadd (by decide +kernel),
    gs_callV (by decide +kernel) rfl rfl wd_437 wd_440 wd_438 wd_439 wd_11 mp_35 (by decide),
    gs_istore (by decide +kernel),
    gs_aload_n (k := 2) (by decide +kernel) rfl,
    gs_iload (by decide +kernel),
    gs_iconst (n := 2) (by decide +kernel) (by decide),
    gs_iadd (by decide +kernel),
    gs_callV (by decide +kernel) rfl rfl wd_437 wd_440 wd_438 wd_439 wd_11 mp_35 (by decide),
    gs_istore (by decide +kernel),
    gs_iload (by decide +kernel),
    gs_iload (by decide +kernel),
    gs_iload (by decide +kernel),
    gs_callS (by decide +kernel) rfl wd_404 wd_406 wd_405 wd_1 mp_108 (by decide),
    gs_if_ne (off := 6) (by decide +kernel) (by decide),
    gs_goto (off := 23) (by decide +kernel) (by decide),
    gs_aload_n (k := 0) (by decide +kernel) rfl,
    gs_get (T := TX10) (N := 13) (Cn := RX10) (by decide +kernel) rfl (by decide) inW10 rfl wd_267,
    gs_iload (by decide +kernel),
    gs_iload (by decide +kernel),
    gs_iload (by decide +kernel),
    gs_callV (by decide +kernel) rfl rfl wd_410 wd_413 wd_411 wd_412 wd_8 mp_8 (by decide),
    gs_pop (by decide +kernel),
    gs_iinc (n := 3) (by decide +kernel) (by decide),
    gs_goto (off := -83) (by decide +kernel) (by decide),
    gs_aload_n (k := 0) (by decide +kernel) rfl,
    gs_get (T := TX10) (N := 13) (Cn := RX10) (by decide +kernel) rfl (by decide) inW10 rfl wd_267,
    gs_getN (T := TX2) (N := 4) (Cn := RX2) (by decide +kernel) rfl (by decide) inW2 rfl wn_200,
    gs_iload_n (k := 3) (by decide +kernel) rfl,
    gs_isub (by decide +kernel),
    gs_iret (by decide +kernel),
    fun _ h => absurd h List.not_mem_nil⟩
def pX10_at : gProg := [(0, sLdI 1 1),
  (1, sCallS 105 1),
  (4, sIfeq 27),
  (7, sLdA 0 1),
  (8, sGet 10 2),
  (11, sLdI 2 1),
  (12, sCallV 1 0 1),
  (15, sIfeq 27),
  (18, sLdI 3 1),
  (19, sPush (.int 0) 1),
  (20, sPush (.int 2) 1),
  (21, sCallS 109 3),
  (24, sIfne 30),
  (27, sPush (.int (-2)) 2),
  (29, sRetI),
  (30, sLdA 0 1),
  (31, sGet 10 6),
  (34, sLdA 0 1),
  (35, sGet 10 4),
  (38, sPush (.int 0) 1),
  (39, sLdI 2 1),
  (40, sLdA 0 1),
  (41, sGet 10 2),
  (44, sLdI 2 1),
  (45, sCallV 2 0 1),
  (48, sLdA 0 1),
  (49, sGet 10 2),
  (52, sLdI 2 1),
  (53, sCallV 3 0 1),
  (56, sCallV 5 1 5),
  (59, sLdI 3 1),
  (60, sIfne 72),
  (63, sLdA 0 1),
  (64, sGet 10 6),
  (67, sLdI 1 1),
  (68, sCallV 7 1 1),
  (71, sRetI),
  (72, sLdI 3 1),
  (73, sPush (.int 1) 1),
  (74, sCmpne 87),
  (77, sLdA 0 1),
  (78, sGet 10 6),
  (81, sGet 1 3),
  (84, sGoto 96),
  (87, sLdA 0 1),
  (88, sGet 10 6),
  (91, sGet 1 0),
  (94, sPush (.int 3) 1),
  (95, sIald),
  (96, sLdI 1 1),
  (97, sCallS 110 2),
  (100, sRetI)]
theorem kX10_at : ∀ q ∈ pX10_at, gSnd RX10 cX10_at 4 none q.1 q.2 := by
  simp only [pX10_at, List.forall_mem_cons]
  exact ⟨gs_iload_n (k := 1) (by decide +kernel) rfl,
    gs_callS (by decide +kernel) rfl wd_407 wd_409 wd_408 wd_1 mp_105 (by decide),
    gs_if_eq (off := 23) (by decide +kernel) (by decide),
    gs_aload_n (k := 0) (by decide +kernel) rfl,
    gs_get (T := TX10) (N := 13) (Cn := RX10) (by decide +kernel) rfl (by decide) inW10 rfl wd_265,
    gs_iload_n (k := 2) (by decide +kernel) rfl,
    gs_callV (by decide +kernel) rfl rfl wd_357 wd_360 wd_358 wd_359 wd_4 mp_1 (by decide),
    gs_if_eq (off := 12) (by decide +kernel) (by decide),
    gs_iload_n (k := 3) (by decide +kernel) rfl,
    gs_iconst (n := 0) (by decide +kernel) (by decide),
    gs_iconst (n := 2) (by decide +kernel) (by decide),
    gs_callS (by decide +kernel) rfl wd_310 wd_312 wd_311 wd_1 mp_109 (by decide),
    gs_if_ne (off := 6) (by decide +kernel) (by decide),
    gs_bipush (n := -2) (by decide +kernel) (by decide),
    gs_iret (by decide +kernel),
    gs_aload_n (k := 0) (by decide +kernel) rfl,
    gs_get (T := TX10) (N := 13) (Cn := RX10) (by decide +kernel) rfl (by decide) inW10 rfl wd_269,
    gs_aload_n (k := 0) (by decide +kernel) rfl,
    gs_get (T := TX10) (N := 13) (Cn := RX10) (by decide +kernel) rfl (by decide) inW10 rfl wd_267,
    gs_iconst (n := 0) (by decide +kernel) (by decide),
    gs_iload_n (k := 2) (by decide +kernel) rfl,
    gs_aload_n (k := 0) (by decide +kernel) rfl,
    gs_get (T := TX10) (N := 13) (Cn := RX10) (by decide +kernel) rfl (by decide) inW10 rfl wd_265,
    gs_iload_n (k := 2) (by decide +kernel) rfl,
    gs_callV (by decide +kernel) rfl rfl wd_361 wd_364 wd_362 wd_363 wd_4 mp_2 (by decide),
    gs_aload_n (k := 0) (by decide +kernel) rfl,
    gs_get (T := TX10) (N := 13) (Cn := RX10) (by decide +kernel) rfl (by decide) inW10 rfl wd_265,
    gs_iload_n (k := 2) (by decide +kernel) rfl,
    gs_callV (by decide +kernel) rfl rfl wd_368 wd_371 wd_369 wd_370 wd_4 mp_3 (by decide),
    gs_callV (by decide +kernel) rfl rfl wd_449 wd_452 wd_450 wd_451 wd_6 mp_5 (by decide),
    gs_iload_n (k := 3) (by decide +kernel) rfl,
    gs_if_ne (off := 12) (by decide +kernel) (by decide),
    gs_aload_n (k := 0) (by decide +kernel) rfl,
    gs_get (T := TX10) (N := 13) (Cn := RX10) (by decide +kernel) rfl (by decide) inW10 rfl wd_269,
    gs_iload_n (k := 1) (by decide +kernel) rfl,
    gs_callV (by decide +kernel) rfl rfl wd_472 wd_475 wd_473 wd_474 wd_6 mp_7 (by decide),
    gs_iret (by decide +kernel),
    gs_iload_n (k := 3) (by decide +kernel) rfl,
    gs_iconst (n := 1) (by decide +kernel) (by decide),
    gs_icmp_ne (off := 13) (by decide +kernel) (by decide),
    gs_aload_n (k := 0) (by decide +kernel) rfl,
    gs_get (T := TX10) (N := 13) (Cn := RX10) (by decide +kernel) rfl (by decide) inW10 rfl wd_269,
    gs_getN (T := TX1) (N := 4) (Cn := RX1) (by decide +kernel) rfl (by decide) inW1 rfl wn_107,
    gs_goto (off := 12) (by decide +kernel) (by decide),
    gs_aload_n (k := 0) (by decide +kernel) rfl,
    gs_get (T := TX10) (N := 13) (Cn := RX10) (by decide +kernel) rfl (by decide) inW10 rfl wd_269,
    gs_getN (T := TX1) (N := 4) (Cn := RX1) (by decide +kernel) rfl (by decide) inW1 rfl wn_98,
    gs_iconst (n := 3) (by decide +kernel) (by decide),
    gs_iaload (by decide +kernel),
    gs_iload_n (k := 1) (by decide +kernel) rfl,
    gs_callS (by decide +kernel) rfl wd_476 wd_458 wd_457 wd_1 mp_110 (by decide),
    gs_iret (by decide +kernel),
    fun _ h => absurd h List.not_mem_nil⟩
def pX10_hill : gProg := [(0, sLdI 1 1),
  (1, sCallS 105 1),
  (4, sIfeq 16),
  (7, sLdI 2 1),
  (8, sPush (.int 0) 1),
  (9, sPush (.int 2) 1),
  (10, sCallS 109 3),
  (13, sIfne 19),
  (16, sPush (.int (-2)) 2),
  (18, sRetI),
  (19, sLdI 2 1),
  (20, sPush (.int 1) 1),
  (21, sCmpne 45),
  (24, sLdA 0 1),
  (25, sGet 10 0),
  (28, sLdA 0 1),
  (29, sGet 10 4),
  (32, sCallV 21 6 1),
  (35, sLdA 0 1),
  (36, sGet 10 0),
  (39, sGet 6 5),
  (42, sLdI 1 1),
  (43, sIald),
  (44, sRetI),
  (45, sLdA 0 1),
  (46, sGet 10 1),
  (49, sLdA 0 1),
  (50, sGet 10 4),
  (53, sPush (.int 0) 1),
  (54, sCallV 13 3 2),
  (57, sPop),
  (58, sLdI 2 1),
  (59, sIfne 73),
  (62, sLdA 0 1),
  (63, sGet 10 1),
  (66, sLdI 1 1),
  (67, sCallV 14 3 1),
  (70, sGoto 81),
  (73, sLdA 0 1),
  (74, sGet 10 1),
  (77, sLdI 1 1),
  (78, sCallV 15 3 1),
  (81, sRetI)]
theorem kX10_hill : ∀ q ∈ pX10_hill, gSnd RX10 cX10_hill 3 none q.1 q.2 := by
  simp only [pX10_hill, List.forall_mem_cons]
  exact ⟨gs_iload_n (k := 1) (by decide +kernel) rfl,
    gs_callS (by decide +kernel) rfl wd_407 wd_409 wd_408 wd_1 mp_105 (by decide),
    gs_if_eq (off := 12) (by decide +kernel) (by decide),
    gs_iload_n (k := 2) (by decide +kernel) rfl,
    gs_iconst (n := 0) (by decide +kernel) (by decide),
    gs_iconst (n := 2) (by decide +kernel) (by decide),
    gs_callS (by decide +kernel) rfl wd_310 wd_312 wd_311 wd_1 mp_109 (by decide),
    gs_if_ne (off := 6) (by decide +kernel) (by decide),
    gs_bipush (n := -2) (by decide +kernel) (by decide),
    gs_iret (by decide +kernel),
    gs_iload_n (k := 2) (by decide +kernel) rfl,
    gs_iconst (n := 1) (by decide +kernel) (by decide),
    gs_icmp_ne (off := 24) (by decide +kernel) (by decide),
    gs_aload_n (k := 0) (by decide +kernel) rfl,
    gs_get (T := TX10) (N := 13) (Cn := RX10) (by decide +kernel) rfl (by decide) inW10 rfl wd_263,
    gs_aload_n (k := 0) (by decide +kernel) rfl,
    gs_get (T := TX10) (N := 13) (Cn := RX10) (by decide +kernel) rfl (by decide) inW10 rfl wd_267,
    gs_callV (by decide +kernel) rfl rfl wd_481 wd_484 wd_482 wd_483 wd_2 mp_21 (by decide),
    gs_aload_n (k := 0) (by decide +kernel) rfl,
    gs_get (T := TX10) (N := 13) (Cn := RX10) (by decide +kernel) rfl (by decide) inW10 rfl wd_263,
    gs_getN (T := TX6) (N := 10) (Cn := RX6) (by decide +kernel) rfl (by decide) inW6 rfl wn_155,
    gs_iload_n (k := 1) (by decide +kernel) rfl,
    gs_iaload (by decide +kernel),
    gs_iret (by decide +kernel),
    gs_aload_n (k := 0) (by decide +kernel) rfl,
    gs_get (T := TX10) (N := 13) (Cn := RX10) (by decide +kernel) rfl (by decide) inW10 rfl wd_264,
    gs_aload_n (k := 0) (by decide +kernel) rfl,
    gs_get (T := TX10) (N := 13) (Cn := RX10) (by decide +kernel) rfl (by decide) inW10 rfl wd_267,
    gs_iconst (n := 0) (by decide +kernel) (by decide),
    gs_callV (by decide +kernel) rfl rfl wd_529 wd_488 wd_486 wd_487 wd_3 mp_13 (by decide),
    gs_pop (by decide +kernel),
    gs_iload_n (k := 2) (by decide +kernel) rfl,
    gs_if_ne (off := 14) (by decide +kernel) (by decide),
    gs_aload_n (k := 0) (by decide +kernel) rfl,
    gs_get (T := TX10) (N := 13) (Cn := RX10) (by decide +kernel) rfl (by decide) inW10 rfl wd_264,
    gs_iload_n (k := 1) (by decide +kernel) rfl,
    gs_callV (by decide +kernel) rfl rfl wd_530 wd_533 wd_531 wd_532 wd_3 mp_14 (by decide),
    gs_goto (off := 11) (by decide +kernel) (by decide),
    gs_aload_n (k := 0) (by decide +kernel) rfl,
    gs_get (T := TX10) (N := 13) (Cn := RX10) (by decide +kernel) rfl (by decide) inW10 rfl wd_264,
    gs_iload_n (k := 1) (by decide +kernel) rfl,
    gs_callV (by decide +kernel) rfl rfl wd_536 wd_539 wd_537 wd_538 wd_3 mp_15 (by decide),
    gs_iret (by decide +kernel),
    fun _ h => absurd h List.not_mem_nil⟩
def pX10_bare : gProg := [(0, sLdA 0 1),
  (1, sGet 10 1),
  (4, sLdA 0 1),
  (5, sGet 10 4),
  (8, sPush (.int 0) 1),
  (9, sCallV 13 3 2),
  (12, sRetI)]
theorem kX10_bare : ∀ q ∈ pX10_bare, gSnd RX10 cX10_bare 1 none q.1 q.2 := by
  simp only [pX10_bare, List.forall_mem_cons]
  exact ⟨gs_aload_n (k := 0) (by decide +kernel) rfl,
    gs_get (T := TX10) (N := 13) (Cn := RX10) (by decide +kernel) rfl (by decide) inW10 rfl wd_264,
    gs_aload_n (k := 0) (by decide +kernel) rfl,
    gs_get (T := TX10) (N := 13) (Cn := RX10) (by decide +kernel) rfl (by decide) inW10 rfl wd_267,
    gs_iconst (n := 0) (by decide +kernel) (by decide),
    gs_callV (by decide +kernel) rfl rfl wd_529 wd_488 wd_486 wd_487 wd_3 mp_13 (by decide),
    gs_iret (by decide +kernel),
    fun _ h => absurd h List.not_mem_nil⟩
def pX10_run : gProg := [(0, sLdA 0 1),
  (1, sGet 10 0),
  (4, sLdA 0 1),
  (5, sGet 10 4),
  (8, sCallV 21 6 1),
  (11, sLdA 0 1),
  (12, sGet 10 0),
  (15, sGet 6 7),
  (18, sRetI)]
theorem kX10_run : ∀ q ∈ pX10_run, gSnd RX10 cX10_run 1 none q.1 q.2 := by
  simp only [pX10_run, List.forall_mem_cons]
  exact ⟨gs_aload_n (k := 0) (by decide +kernel) rfl,
    gs_get (T := TX10) (N := 13) (Cn := RX10) (by decide +kernel) rfl (by decide) inW10 rfl wd_263,
    gs_aload_n (k := 0) (by decide +kernel) rfl,
    gs_get (T := TX10) (N := 13) (Cn := RX10) (by decide +kernel) rfl (by decide) inW10 rfl wd_267,
    gs_callV (by decide +kernel) rfl rfl wd_481 wd_484 wd_482 wd_483 wd_2 mp_21 (by decide),
    gs_aload_n (k := 0) (by decide +kernel) rfl,
    gs_get (T := TX10) (N := 13) (Cn := RX10) (by decide +kernel) rfl (by decide) inW10 rfl wd_263,
    gs_getN (T := TX6) (N := 10) (Cn := RX6) (by decide +kernel) rfl (by decide) inW6 rfl wn_158,
    gs_iret (by decide +kernel),
    fun _ h => absurd h List.not_mem_nil⟩
def pX10_fake : gProg := [(0, sLdA 0 1),
  (1, sGet 10 1),
  (4, sLdA 0 1),
  (5, sGet 10 4),
  (8, sPush (.int 0) 1),
  (9, sCallV 13 3 2),
  (12, sPop),
  (13, sPush (.int 0) 1),
  (14, sStI 1 1),
  (15, sPush (.int 0) 1),
  (16, sStI 2 1),
  (17, sLdI 2 1),
  (18, sLdA 0 1),
  (19, sGet 10 3),
  (22, sCallV 16 4 0),
  (25, sCmpge 94),
  (28, sLdA 0 1),
  (29, sGet 10 3),
  (32, sLdI 2 1),
  (33, sCallV 19 4 1),
  (36, sStI 3 1),
  (37, sLdA 0 1),
  (38, sGet 10 2),
  (41, sLdI 3 1),
  (42, sCallV 1 0 1),
  (45, sIfeq 88),
  (48, sLdA 0 1),
  (49, sGet 10 1),
  (52, sGet 3 1),
  (55, sLdI 3 1),
  (56, sAald),
  (57, sStA 4 2),
  (59, sLdI 1 1),
  (60, sLdA 4 2),
  (62, sGet 1 3),
  (65, sLdA 4 2),
  (67, sGet 1 2),
  (70, sPush (.int (-1)) 1),
  (71, sIxor),
  (72, sIand),
  (73, sLdA 0 1),
  (74, sGet 10 3),
  (77, sLdI 2 1),
  (78, sCallV 18 4 1),
  (81, sCallS 110 2),
  (84, sLdI 2 1),
  (85, sIshl),
  (86, sIor),
  (87, sStI 1 1),
  (88, sInc 2 1),
  (91, sGoto 17),
  (94, sLdI 1 1),
  (95, sRetI)]
theorem kX10_fake : ∀ q ∈ pX10_fake, gSnd RX10 cX10_fake 5 none q.1 q.2 := by
  simp only [pX10_fake, List.forall_mem_cons]
  exact ⟨gs_aload_n (k := 0) (by decide +kernel) rfl,
    gs_get (T := TX10) (N := 13) (Cn := RX10) (by decide +kernel) rfl (by decide) inW10 rfl wd_264,
    gs_aload_n (k := 0) (by decide +kernel) rfl,
    gs_get (T := TX10) (N := 13) (Cn := RX10) (by decide +kernel) rfl (by decide) inW10 rfl wd_267,
    gs_iconst (n := 0) (by decide +kernel) (by decide),
    gs_callV (by decide +kernel) rfl rfl wd_529 wd_488 wd_486 wd_487 wd_3 mp_13 (by decide),
    gs_pop (by decide +kernel),
    gs_iconst (n := 0) (by decide +kernel) (by decide),
    gs_istore_n (k := 1) (by decide +kernel) rfl,
    gs_iconst (n := 0) (by decide +kernel) (by decide),
    gs_istore_n (k := 2) (by decide +kernel) rfl,
    gs_iload_n (k := 2) (by decide +kernel) rfl,
    gs_aload_n (k := 0) (by decide +kernel) rfl,
    gs_get (T := TX10) (N := 13) (Cn := RX10) (by decide +kernel) rfl (by decide) inW10 rfl wd_266,
    gs_callV (by decide +kernel) rfl rfl wd_380 wd_383 wd_381 wd_382 wd_7 mp_16 (by decide),
    gs_icmp_ge (off := 69) (by decide +kernel) (by decide),
    gs_aload_n (k := 0) (by decide +kernel) rfl,
    gs_get (T := TX10) (N := 13) (Cn := RX10) (by decide +kernel) rfl (by decide) inW10 rfl wd_266,
    gs_iload_n (k := 2) (by decide +kernel) rfl,
    gs_callV (by decide +kernel) rfl rfl wd_392 wd_395 wd_393 wd_394 wd_7 mp_19 (by decide),
    gs_istore_n (k := 3) (by decide +kernel) rfl,
    gs_aload_n (k := 0) (by decide +kernel) rfl,
    gs_get (T := TX10) (N := 13) (Cn := RX10) (by decide +kernel) rfl (by decide) inW10 rfl wd_265,
    gs_iload_n (k := 3) (by decide +kernel) rfl,
    gs_callV (by decide +kernel) rfl rfl wd_357 wd_360 wd_358 wd_359 wd_4 mp_1 (by decide),
    gs_if_eq (off := 43) (by decide +kernel) (by decide),
    gs_aload_n (k := 0) (by decide +kernel) rfl,
    gs_get (T := TX10) (N := 13) (Cn := RX10) (by decide +kernel) rfl (by decide) inW10 rfl wd_264,
    gs_getN (T := TX3) (N := 2) (Cn := RX3) (by decide +kernel) rfl (by decide) inW3 rfl wn_124,
    gs_iload_n (k := 3) (by decide +kernel) rfl,
    gs_aaload (by decide +kernel),
    gs_astore (by decide +kernel),
    gs_iload_n (k := 1) (by decide +kernel) rfl,
    gs_aload (by decide +kernel),
    gs_getN (T := TX1) (N := 4) (Cn := RX1) (by decide +kernel) rfl (by decide) inW1 rfl wn_107,
    gs_aload (by decide +kernel),
    gs_getN (T := TX1) (N := 4) (Cn := RX1) (by decide +kernel) rfl (by decide) inW1 rfl wn_103,
    gs_iconst (n := -1) (by decide +kernel) (by decide),
    gs_ixor (by decide +kernel),
    gs_iand (by decide +kernel),
    gs_aload_n (k := 0) (by decide +kernel) rfl,
    gs_get (T := TX10) (N := 13) (Cn := RX10) (by decide +kernel) rfl (by decide) inW10 rfl wd_266,
    gs_iload_n (k := 2) (by decide +kernel) rfl,
    gs_callV (by decide +kernel) rfl rfl wd_384 wd_387 wd_385 wd_386 wd_7 mp_18 (by decide),
    gs_callS (by decide +kernel) rfl wd_476 wd_458 wd_457 wd_1 mp_110 (by decide),
    gs_iload_n (k := 2) (by decide +kernel) rfl,
    gs_ishl (by decide +kernel),
    gs_ior (by decide +kernel),
    gs_istore_n (k := 1) (by decide +kernel) rfl,
    gs_iinc (n := 1) (by decide +kernel) (by decide),
    gs_goto (off := -74) (by decide +kernel) (by decide),
    gs_iload_n (k := 1) (by decide +kernel) rfl,
    gs_iret (by decide +kernel),
    fun _ h => absurd h List.not_mem_nil⟩
def pX10_last : gProg := [(0, sLdI 1 1),
  (1, sPush (.int 0) 1),
  (2, sPush (.int 1) 1),
  (3, sCallS 109 3),
  (6, sIfne 12),
  (9, sPush (.int (-2)) 2),
  (11, sRetI),
  (12, sLdA 0 1),
  (13, sGet 10 1),
  (16, sLdA 0 1),
  (17, sGet 10 4),
  (20, sPush (.int 0) 1),
  (21, sCallV 13 3 2),
  (24, sPop),
  (25, sPush (.int (-1)) 1),
  (26, sStI 2 1),
  (27, sPush (.int (-1)) 1),
  (28, sStI 3 1),
  (29, sPush (.int 0) 1),
  (30, sStI 4 2),
  (32, sLdI 4 2),
  (34, sLdA 0 1),
  (35, sGet 10 2),
  (38, sCallV 0 0 0),
  (41, sCmpge 80),
  (44, sLdA 0 1),
  (45, sGet 10 1),
  (48, sGet 3 1),
  (51, sLdI 4 2),
  (53, sAald),
  (54, sGet 1 2),
  (57, sCallS 202 1),
  (60, sStI 5 2),
  (62, sLdI 5 2),
  (64, sLdI 3 1),
  (65, sCmple 74),
  (68, sLdI 4 2),
  (70, sStI 2 1),
  (71, sLdI 5 2),
  (73, sStI 3 1),
  (74, sInc 4 1),
  (77, sGoto 32),
  (80, sLdI 1 1),
  (81, sIfne 88),
  (84, sLdI 2 1),
  (85, sGoto 89),
  (88, sLdI 3 1),
  (89, sRetI)]
theorem kX10_last : ∀ q ∈ pX10_last, gSnd RX10 cX10_last 6 none q.1 q.2 := by
  simp only [pX10_last, List.forall_mem_cons]
  exact ⟨gs_iload_n (k := 1) (by decide +kernel) rfl,
    gs_iconst (n := 0) (by decide +kernel) (by decide),
    gs_iconst (n := 1) (by decide +kernel) (by decide),
    gs_callS (by decide +kernel) rfl wd_310 wd_312 wd_311 wd_1 mp_109 (by decide),
    gs_if_ne (off := 6) (by decide +kernel) (by decide),
    gs_bipush (n := -2) (by decide +kernel) (by decide),
    gs_iret (by decide +kernel),
    gs_aload_n (k := 0) (by decide +kernel) rfl,
    gs_get (T := TX10) (N := 13) (Cn := RX10) (by decide +kernel) rfl (by decide) inW10 rfl wd_264,
    gs_aload_n (k := 0) (by decide +kernel) rfl,
    gs_get (T := TX10) (N := 13) (Cn := RX10) (by decide +kernel) rfl (by decide) inW10 rfl wd_267,
    gs_iconst (n := 0) (by decide +kernel) (by decide),
    gs_callV (by decide +kernel) rfl rfl wd_529 wd_488 wd_486 wd_487 wd_3 mp_13 (by decide),
    gs_pop (by decide +kernel),
    gs_iconst (n := -1) (by decide +kernel) (by decide),
    gs_istore_n (k := 2) (by decide +kernel) rfl,
    gs_iconst (n := -1) (by decide +kernel) (by decide),
    gs_istore_n (k := 3) (by decide +kernel) rfl,
    gs_iconst (n := 0) (by decide +kernel) (by decide),
    gs_istore (by decide +kernel),
    gs_iload (by decide +kernel),
    gs_aload_n (k := 0) (by decide +kernel) rfl,
    gs_get (T := TX10) (N := 13) (Cn := RX10) (by decide +kernel) rfl (by decide) inW10 rfl wd_265,
    gs_callV (by decide +kernel) rfl rfl wd_556 wd_492 wd_490 wd_491 wd_4 mp_0 (by decide),
    gs_icmp_ge (off := 39) (by decide +kernel) (by decide),
    gs_aload_n (k := 0) (by decide +kernel) rfl,
    gs_get (T := TX10) (N := 13) (Cn := RX10) (by decide +kernel) rfl (by decide) inW10 rfl wd_264,
    gs_getN (T := TX3) (N := 2) (Cn := RX3) (by decide +kernel) rfl (by decide) inW3 rfl wn_124,
    gs_iload (by decide +kernel),
    gs_aaload (by decide +kernel),
    gs_getN (T := TX1) (N := 4) (Cn := RX1) (by decide +kernel) rfl (by decide) inW1 rfl wn_103,
    gs_callS (by decide +kernel) rfl wd_557 wd_559 wd_558 wd_15 mp_202 (by decide),
    gs_istore (by decide +kernel),
    gs_iload (by decide +kernel),
    gs_iload_n (k := 3) (by decide +kernel) rfl,
    gs_icmp_le (off := 9) (by decide +kernel) (by decide),
    gs_iload (by decide +kernel),
    gs_istore_n (k := 2) (by decide +kernel) rfl,
    gs_iload (by decide +kernel),
    gs_istore_n (k := 3) (by decide +kernel) rfl,
    gs_iinc (n := 1) (by decide +kernel) (by decide),
    gs_goto (off := -45) (by decide +kernel) (by decide),
    gs_iload_n (k := 1) (by decide +kernel) rfl,
    gs_if_ne (off := 7) (by decide +kernel) (by decide),
    gs_iload_n (k := 2) (by decide +kernel) rfl,
    gs_goto (off := 4) (by decide +kernel) (by decide),
    gs_iload_n (k := 3) (by decide +kernel) rfl,
    gs_iret (by decide +kernel),
    fun _ h => absurd h List.not_mem_nil⟩
def pX10_plant : gProg := [(0, sLdI 1 1),
  (1, sPush (.int 0) 1),
  (2, sPush (.int 2) 1),
  (3, sCallS 109 3),
  (6, sIfne 12),
  (9, sPush (.int (-2)) 2),
  (11, sRetI),
  (12, sLdA 0 1),
  (13, sGet 10 1),
  (16, sLdA 0 1),
  (17, sGet 10 4),
  (20, sPush (.int 0) 1),
  (21, sCallV 13 3 2),
  (24, sStI 2 1),
  (25, sPush (.int 0) 1),
  (26, sStI 3 1),
  (27, sPush (.int 25) 2),
  (29, sStI 4 2),
  (31, sPush (.int 0) 1),
  (32, sStI 5 2),
  (34, sLdI 5 2),
  (36, sPush (.int 36) 2),
  (38, sCmpge 78),
  (41, sLdA 0 1),
  (42, sLdI 2 1),
  (43, sLdI 5 2),
  (45, sPush (.int 12) 2),
  (47, sIdiv),
  (48, sLdI 5 2),
  (50, sPush (.int 12) 2),
  (52, sIrem),
  (53, sCallV 88 10 3),
  (56, sStI 6 2),
  (58, sLdI 6 2),
  (60, sLdI 4 2),
  (62, sCmpge 72),
  (65, sLdI 5 2),
  (67, sStI 3 1),
  (68, sLdI 6 2),
  (70, sStI 4 2),
  (72, sInc 5 1),
  (75, sGoto 34),
  (78, sLdI 1 1),
  (79, sPush (.int 2) 1),
  (80, sCmpne 86),
  (83, sLdI 4 2),
  (85, sRetI),
  (86, sLdI 1 1),
  (87, sIfne 97),
  (90, sLdI 3 1),
  (91, sPush (.int 12) 2),
  (93, sIdiv),
  (94, sGoto 101),
  (97, sLdI 3 1),
  (98, sPush (.int 12) 2),
  (100, sIrem),
  (101, sRetI)]
theorem kX10_plant : ∀ q ∈ pX10_plant, gSnd RX10 cX10_plant 7 none q.1 q.2 := by
  simp only [pX10_plant, List.forall_mem_cons]
  exact ⟨gs_iload_n (k := 1) (by decide +kernel) rfl,
    gs_iconst (n := 0) (by decide +kernel) (by decide),
    gs_iconst (n := 2) (by decide +kernel) (by decide),
    gs_callS (by decide +kernel) rfl wd_310 wd_312 wd_311 wd_1 mp_109 (by decide),
    gs_if_ne (off := 6) (by decide +kernel) (by decide),
    gs_bipush (n := -2) (by decide +kernel) (by decide),
    gs_iret (by decide +kernel),
    gs_aload_n (k := 0) (by decide +kernel) rfl,
    gs_get (T := TX10) (N := 13) (Cn := RX10) (by decide +kernel) rfl (by decide) inW10 rfl wd_264,
    gs_aload_n (k := 0) (by decide +kernel) rfl,
    gs_get (T := TX10) (N := 13) (Cn := RX10) (by decide +kernel) rfl (by decide) inW10 rfl wd_267,
    gs_iconst (n := 0) (by decide +kernel) (by decide),
    gs_callV (by decide +kernel) rfl rfl wd_529 wd_488 wd_486 wd_487 wd_3 mp_13 (by decide),
    gs_istore_n (k := 2) (by decide +kernel) rfl,
    gs_iconst (n := 0) (by decide +kernel) (by decide),
    gs_istore_n (k := 3) (by decide +kernel) rfl,
    gs_bipush (n := 25) (by decide +kernel) (by decide),
    gs_istore (by decide +kernel),
    gs_iconst (n := 0) (by decide +kernel) (by decide),
    gs_istore (by decide +kernel),
    gs_iload (by decide +kernel),
    gs_bipush (n := 36) (by decide +kernel) (by decide),
    gs_icmp_ge (off := 40) (by decide +kernel) (by decide),
    gs_aload_n (k := 0) (by decide +kernel) rfl,
    gs_iload_n (k := 2) (by decide +kernel) rfl,
    gs_iload (by decide +kernel),
    gs_bipush (n := 12) (by decide +kernel) (by decide),
    gs_idiv (by decide +kernel),
    gs_iload (by decide +kernel),
    gs_bipush (n := 12) (by decide +kernel) (by decide),
    gs_irem (by decide +kernel),
    gs_callV (by decide +kernel) rfl rfl wd_567 wd_570 wd_569 ws_9 wd_1 mp_88 (by decide),
    gs_istore (by decide +kernel),
    gs_iload (by decide +kernel),
    gs_iload (by decide +kernel),
    gs_icmp_ge (off := 10) (by decide +kernel) (by decide),
    gs_iload (by decide +kernel),
    gs_istore_n (k := 3) (by decide +kernel) rfl,
    gs_iload (by decide +kernel),
    gs_istore (by decide +kernel),
    gs_iinc (n := 1) (by decide +kernel) (by decide),
    gs_goto (off := -41) (by decide +kernel) (by decide),
    gs_iload_n (k := 1) (by decide +kernel) rfl,
    gs_iconst (n := 2) (by decide +kernel) (by decide),
    gs_icmp_ne (off := 6) (by decide +kernel) (by decide),
    gs_iload (by decide +kernel),
    gs_iret (by decide +kernel),
    gs_iload_n (k := 1) (by decide +kernel) rfl,
    gs_if_ne (off := 10) (by decide +kernel) (by decide),
    gs_iload_n (k := 3) (by decide +kernel) rfl,
    gs_bipush (n := 12) (by decide +kernel) (by decide),
    gs_idiv (by decide +kernel),
    gs_goto (off := 7) (by decide +kernel) (by decide),
    gs_iload_n (k := 3) (by decide +kernel) rfl,
    gs_bipush (n := 12) (by decide +kernel) (by decide),
    gs_irem (by decide +kernel),
    gs_iret (by decide +kernel),
    fun _ h => absurd h List.not_mem_nil⟩
def pX10_send : gProg := [(0, sLdI 1 1),
  (1, sPush (.int 0) 1),
  (2, sPush (.int 2) 1),
  (3, sCallS 109 3),
  (6, sIfne 12),
  (9, sPush (.int (-2)) 2),
  (11, sRetI),
  (12, sLdA 0 1),
  (13, sGet 10 2),
  (16, sCallV 0 0 0),
  (19, sIfne 24),
  (22, sPush (.int (-1)) 1),
  (23, sRetI),
  (24, sLdA 0 1),
  (25, sGet 10 0),
  (28, sLdA 0 1),
  (29, sGet 10 4),
  (32, sCallV 21 6 1),
  (35, sLdA 0 1),
  (36, sCallV 89 10 0),
  (39, sStI 2 1),
  (40, sLdI 2 1),
  (41, sPush (.int 10) 2),
  (43, sIdiv),
  (44, sStI 3 1),
  (45, sLdI 2 1),
  (46, sPush (.int 10) 2),
  (48, sIrem),
  (49, sStI 4 2),
  (51, sLdI 1 1),
  (52, sPush (.int 2) 1),
  (53, sCmpne 67),
  (56, sLdA 0 1),
  (57, sGet 10 0),
  (60, sLdI 3 1),
  (61, sLdI 4 2),
  (63, sCallV 22 6 2),
  (66, sRetI),
  (67, sLdI 1 1),
  (68, sIfne 75),
  (71, sLdI 3 1),
  (72, sGoto 77),
  (75, sLdI 4 2),
  (77, sRetI)]
theorem kX10_send : ∀ q ∈ pX10_send, gSnd RX10 cX10_send 5 none q.1 q.2 := by
  simp only [pX10_send, List.forall_mem_cons]
  exact ⟨gs_iload_n (k := 1) (by decide +kernel) rfl,
    gs_iconst (n := 0) (by decide +kernel) (by decide),
    gs_iconst (n := 2) (by decide +kernel) (by decide),
    gs_callS (by decide +kernel) rfl wd_310 wd_312 wd_311 wd_1 mp_109 (by decide),
    gs_if_ne (off := 6) (by decide +kernel) (by decide),
    gs_bipush (n := -2) (by decide +kernel) (by decide),
    gs_iret (by decide +kernel),
    gs_aload_n (k := 0) (by decide +kernel) rfl,
    gs_get (T := TX10) (N := 13) (Cn := RX10) (by decide +kernel) rfl (by decide) inW10 rfl wd_265,
    gs_callV (by decide +kernel) rfl rfl wd_556 wd_492 wd_490 wd_491 wd_4 mp_0 (by decide),
    gs_if_ne (off := 5) (by decide +kernel) (by decide),
    gs_iconst (n := -1) (by decide +kernel) (by decide),
    gs_iret (by decide +kernel),
    gs_aload_n (k := 0) (by decide +kernel) rfl,
    gs_get (T := TX10) (N := 13) (Cn := RX10) (by decide +kernel) rfl (by decide) inW10 rfl wd_263,
    gs_aload_n (k := 0) (by decide +kernel) rfl,
    gs_get (T := TX10) (N := 13) (Cn := RX10) (by decide +kernel) rfl (by decide) inW10 rfl wd_267,
    gs_callV (by decide +kernel) rfl rfl wd_481 wd_484 wd_482 wd_483 wd_2 mp_21 (by decide),
    gs_aload_n (k := 0) (by decide +kernel) rfl,
    gs_callV (by decide +kernel) rfl rfl wd_575 wd_578 wd_577 ws_10 wd_1 mp_89 (by decide),
    gs_istore_n (k := 2) (by decide +kernel) rfl,
    gs_iload_n (k := 2) (by decide +kernel) rfl,
    gs_bipush (n := 10) (by decide +kernel) (by decide),
    gs_idiv (by decide +kernel),
    gs_istore_n (k := 3) (by decide +kernel) rfl,
    gs_iload_n (k := 2) (by decide +kernel) rfl,
    gs_bipush (n := 10) (by decide +kernel) (by decide),
    gs_irem (by decide +kernel),
    gs_istore (by decide +kernel),
    gs_iload_n (k := 1) (by decide +kernel) rfl,
    gs_iconst (n := 2) (by decide +kernel) (by decide),
    gs_icmp_ne (off := 14) (by decide +kernel) (by decide),
    gs_aload_n (k := 0) (by decide +kernel) rfl,
    gs_get (T := TX10) (N := 13) (Cn := RX10) (by decide +kernel) rfl (by decide) inW10 rfl wd_263,
    gs_iload_n (k := 3) (by decide +kernel) rfl,
    gs_iload (by decide +kernel),
    gs_callV (by decide +kernel) rfl rfl wd_579 wd_582 wd_580 wd_581 wd_2 mp_22 (by decide),
    gs_iret (by decide +kernel),
    gs_iload_n (k := 1) (by decide +kernel) rfl,
    gs_if_ne (off := 7) (by decide +kernel) (by decide),
    gs_iload_n (k := 3) (by decide +kernel) rfl,
    gs_goto (off := 5) (by decide +kernel) (by decide),
    gs_iload (by decide +kernel),
    gs_iret (by decide +kernel),
    fun _ h => absurd h List.not_mem_nil⟩
def pX10_save : gProg := [(0, sLdI 1 1),
  (1, sPush (.int (-1)) 1),
  (2, sPush (.int 1) 1),
  (3, sCallS 109 3),
  (6, sIfne 12),
  (9, sPush (.int (-2)) 2),
  (11, sRetI),
  (12, sLdA 0 1),
  (13, sCallV 91 10 0),
  (16, sStI 2 1),
  (17, sLdI 2 1),
  (18, sPush (.int (-1)) 1),
  (19, sCmpne 24),
  (22, sPush (.int (-1)) 1),
  (23, sRetI),
  (24, sLdI 1 1),
  (25, sPush (.int (-1)) 1),
  (26, sCmpne 34),
  (29, sLdI 2 1),
  (30, sCallS 202 1),
  (33, sRetI),
  (34, sLdI 2 1),
  (35, sLdI 1 1),
  (36, sCallS 92 2),
  (39, sRetI)]
theorem kX10_save : ∀ q ∈ pX10_save, gSnd RX10 cX10_save 3 none q.1 q.2 := by
  simp only [pX10_save, List.forall_mem_cons]
  exact ⟨gs_iload_n (k := 1) (by decide +kernel) rfl,
    gs_iconst (n := -1) (by decide +kernel) (by decide),
    gs_iconst (n := 1) (by decide +kernel) (by decide),
    gs_callS (by decide +kernel) rfl wd_310 wd_312 wd_311 wd_1 mp_109 (by decide),
    gs_if_ne (off := 6) (by decide +kernel) (by decide),
    gs_bipush (n := -2) (by decide +kernel) (by decide),
    gs_iret (by decide +kernel),
    gs_aload_n (k := 0) (by decide +kernel) rfl,
    gs_callV (by decide +kernel) rfl rfl wd_587 wd_590 wd_589 ws_11 wd_1 mp_91 (by decide),
    gs_istore_n (k := 2) (by decide +kernel) rfl,
    gs_iload_n (k := 2) (by decide +kernel) rfl,
    gs_iconst (n := -1) (by decide +kernel) (by decide),
    gs_icmp_ne (off := 5) (by decide +kernel) (by decide),
    gs_iconst (n := -1) (by decide +kernel) (by decide),
    gs_iret (by decide +kernel),
    gs_iload_n (k := 1) (by decide +kernel) rfl,
    gs_iconst (n := -1) (by decide +kernel) (by decide),
    gs_icmp_ne (off := 8) (by decide +kernel) (by decide),
    gs_iload_n (k := 2) (by decide +kernel) rfl,
    gs_callS (by decide +kernel) rfl wd_557 wd_559 wd_558 wd_15 mp_202 (by decide),
    gs_iret (by decide +kernel),
    gs_iload_n (k := 2) (by decide +kernel) rfl,
    gs_iload_n (k := 1) (by decide +kernel) rfl,
    gs_callS (by decide +kernel) rfl wd_591 wd_593 wd_592 wd_1 mp_92 (by decide),
    gs_iret (by decide +kernel),
    fun _ h => absurd h List.not_mem_nil⟩
def pX10_deal : gProg := [(0, sLdI 1 1),
  (1, sPush (.int 0) 1),
  (2, sPush (.int 2) 1),
  (3, sCallS 109 3),
  (6, sIfne 12),
  (9, sPush (.int (-2)) 2),
  (11, sRetI),
  (12, sLdA 0 1),
  (13, sGet 10 0),
  (16, sLdA 0 1),
  (17, sGet 10 4),
  (20, sCallV 21 6 1),
  (23, sLdA 0 1),
  (24, sCallV 90 10 0),
  (27, sStI 2 1),
  (28, sLdI 2 1),
  (29, sPush (.int 24) 2),
  (31, sIdiv),
  (32, sStI 3 1),
  (33, sLdI 2 1),
  (34, sPush (.int 24) 2),
  (36, sIrem),
  (37, sStI 4 2),
  (39, sLdI 1 1),
  (40, sPush (.int 2) 1),
  (41, sCmpne 65),
  (44, sLdA 0 1),
  (45, sGet 10 0),
  (48, sGet 6 5),
  (51, sLdI 4 2),
  (53, sIald),
  (54, sLdA 0 1),
  (55, sGet 10 0),
  (58, sGet 6 5),
  (61, sLdI 3 1),
  (62, sIald),
  (63, sIsub),
  (64, sRetI),
  (65, sLdI 1 1),
  (66, sIfne 73),
  (69, sLdI 3 1),
  (70, sGoto 75),
  (73, sLdI 4 2),
  (75, sRetI)]
theorem kX10_deal : ∀ q ∈ pX10_deal, gSnd RX10 cX10_deal 5 none q.1 q.2 := by
  simp only [pX10_deal, List.forall_mem_cons]
  exact ⟨gs_iload_n (k := 1) (by decide +kernel) rfl,
    gs_iconst (n := 0) (by decide +kernel) (by decide),
    gs_iconst (n := 2) (by decide +kernel) (by decide),
    gs_callS (by decide +kernel) rfl wd_310 wd_312 wd_311 wd_1 mp_109 (by decide),
    gs_if_ne (off := 6) (by decide +kernel) (by decide),
    gs_bipush (n := -2) (by decide +kernel) (by decide),
    gs_iret (by decide +kernel),
    gs_aload_n (k := 0) (by decide +kernel) rfl,
    gs_get (T := TX10) (N := 13) (Cn := RX10) (by decide +kernel) rfl (by decide) inW10 rfl wd_263,
    gs_aload_n (k := 0) (by decide +kernel) rfl,
    gs_get (T := TX10) (N := 13) (Cn := RX10) (by decide +kernel) rfl (by decide) inW10 rfl wd_267,
    gs_callV (by decide +kernel) rfl rfl wd_481 wd_484 wd_482 wd_483 wd_2 mp_21 (by decide),
    gs_aload_n (k := 0) (by decide +kernel) rfl,
    gs_callV (by decide +kernel) rfl rfl wd_598 wd_601 wd_600 ws_12 wd_1 mp_90 (by decide),
    gs_istore_n (k := 2) (by decide +kernel) rfl,
    gs_iload_n (k := 2) (by decide +kernel) rfl,
    gs_bipush (n := 24) (by decide +kernel) (by decide),
    gs_idiv (by decide +kernel),
    gs_istore_n (k := 3) (by decide +kernel) rfl,
    gs_iload_n (k := 2) (by decide +kernel) rfl,
    gs_bipush (n := 24) (by decide +kernel) (by decide),
    gs_irem (by decide +kernel),
    gs_istore (by decide +kernel),
    gs_iload_n (k := 1) (by decide +kernel) rfl,
    gs_iconst (n := 2) (by decide +kernel) (by decide),
    gs_icmp_ne (off := 24) (by decide +kernel) (by decide),
    gs_aload_n (k := 0) (by decide +kernel) rfl,
    gs_get (T := TX10) (N := 13) (Cn := RX10) (by decide +kernel) rfl (by decide) inW10 rfl wd_263,
    gs_getN (T := TX6) (N := 10) (Cn := RX6) (by decide +kernel) rfl (by decide) inW6 rfl wn_155,
    gs_iload (by decide +kernel),
    gs_iaload (by decide +kernel),
    gs_aload_n (k := 0) (by decide +kernel) rfl,
    gs_get (T := TX10) (N := 13) (Cn := RX10) (by decide +kernel) rfl (by decide) inW10 rfl wd_263,
    gs_getN (T := TX6) (N := 10) (Cn := RX6) (by decide +kernel) rfl (by decide) inW6 rfl wn_155,
    gs_iload_n (k := 3) (by decide +kernel) rfl,
    gs_iaload (by decide +kernel),
    gs_isub (by decide +kernel),
    gs_iret (by decide +kernel),
    gs_iload_n (k := 1) (by decide +kernel) rfl,
    gs_if_ne (off := 7) (by decide +kernel) (by decide),
    gs_iload_n (k := 3) (by decide +kernel) rfl,
    gs_goto (off := 5) (by decide +kernel) (by decide),
    gs_iload (by decide +kernel),
    gs_iret (by decide +kernel),
    fun _ h => absurd h List.not_mem_nil⟩
def pX10_seen : gProg := [(0, sLdI 1 1),
  (1, sCallS 105 1),
  (4, sIfeq 26),
  (7, sLdI 2 1),
  (8, sPush (.int 0) 1),
  (9, sPush (.int 9) 2),
  (11, sCallS 109 3),
  (14, sIfeq 26),
  (17, sLdI 3 1),
  (18, sPush (.int 0) 1),
  (19, sPush (.int 4) 1),
  (20, sCallS 109 3),
  (23, sIfne 29),
  (26, sPush (.int (-2)) 2),
  (28, sRetI),
  (29, sLdA 0 1),
  (30, sGet 10 7),
  (33, sLdI 1 1),
  (34, sLdI 2 1),
  (35, sLdI 3 1),
  (36, sCallV 28 7 3),
  (39, sRetI)]
theorem kX10_seen : ∀ q ∈ pX10_seen, gSnd RX10 cX10_seen 4 none q.1 q.2 := by
  simp only [pX10_seen, List.forall_mem_cons]
  exact ⟨gs_iload_n (k := 1) (by decide +kernel) rfl,
    gs_callS (by decide +kernel) rfl wd_407 wd_409 wd_408 wd_1 mp_105 (by decide),
    gs_if_eq (off := 22) (by decide +kernel) (by decide),
    gs_iload_n (k := 2) (by decide +kernel) rfl,
    gs_iconst (n := 0) (by decide +kernel) (by decide),
    gs_bipush (n := 9) (by decide +kernel) (by decide),
    gs_callS (by decide +kernel) rfl wd_310 wd_312 wd_311 wd_1 mp_109 (by decide),
    gs_if_eq (off := 12) (by decide +kernel) (by decide),
    gs_iload_n (k := 3) (by decide +kernel) rfl,
    gs_iconst (n := 0) (by decide +kernel) (by decide),
    gs_iconst (n := 4) (by decide +kernel) (by decide),
    gs_callS (by decide +kernel) rfl wd_310 wd_312 wd_311 wd_1 mp_109 (by decide),
    gs_if_ne (off := 6) (by decide +kernel) (by decide),
    gs_bipush (n := -2) (by decide +kernel) (by decide),
    gs_iret (by decide +kernel),
    gs_aload_n (k := 0) (by decide +kernel) rfl,
    gs_get (T := TX10) (N := 13) (Cn := RX10) (by decide +kernel) rfl (by decide) inW10 rfl wd_270,
    gs_iload_n (k := 1) (by decide +kernel) rfl,
    gs_iload_n (k := 2) (by decide +kernel) rfl,
    gs_iload_n (k := 3) (by decide +kernel) rfl,
    gs_callV (by decide +kernel) rfl rfl wd_606 wd_609 wd_607 wd_608 wd_9 mp_28 (by decide),
    gs_iret (by decide +kernel),
    fun _ h => absurd h List.not_mem_nil⟩
def pX10_forget : gProg := [(0, sLdA 0 1),
  (1, sGet 10 7),
  (4, sCallV 29 7 0),
  (7, sRetI)]
theorem kX10_forget : ∀ q ∈ pX10_forget, gSnd RX10 cX10_forget 1 none q.1 q.2 := by
  simp only [pX10_forget, List.forall_mem_cons]
  exact ⟨gs_aload_n (k := 0) (by decide +kernel) rfl,
    gs_get (T := TX10) (N := 13) (Cn := RX10) (by decide +kernel) rfl (by decide) inW10 rfl wd_270,
    gs_callV (by decide +kernel) rfl rfl wd_614 wd_617 wd_615 wd_616 wd_9 mp_29 (by decide),
    gs_iret (by decide +kernel),
    fun _ h => absurd h List.not_mem_nil⟩
def pX10_never : gProg := [(0, sPush (.int 0) 1),
  (1, sStI 1 1),
  (2, sPush (.int 0) 1),
  (3, sStI 2 1),
  (4, sLdI 2 1),
  (5, sLdA 0 1),
  (6, sGet 10 4),
  (9, sGet 2 3),
  (12, sCmpge 56),
  (15, sLdA 0 1),
  (16, sGet 10 1),
  (19, sLdA 0 1),
  (20, sGet 10 4),
  (23, sPush (.int 1) 1),
  (24, sLdI 2 1),
  (25, sIshl),
  (26, sCallV 13 3 2),
  (29, sPop),
  (30, sLdA 0 1),
  (31, sGet 10 7),
  (34, sLdA 0 1),
  (35, sGet 10 1),
  (38, sCallV 30 7 1),
  (41, sIfeq 50),
  (44, sLdI 1 1),
  (45, sPush (.int 1) 1),
  (46, sLdI 2 1),
  (47, sIshl),
  (48, sIor),
  (49, sStI 1 1),
  (50, sInc 2 1),
  (53, sGoto 4),
  (56, sLdI 1 1),
  (57, sRetI)]
theorem kX10_never : ∀ q ∈ pX10_never, gSnd RX10 cX10_never 3 none q.1 q.2 := by
  simp only [pX10_never, List.forall_mem_cons]
  exact ⟨gs_iconst (n := 0) (by decide +kernel) (by decide),
    gs_istore_n (k := 1) (by decide +kernel) rfl,
    gs_iconst (n := 0) (by decide +kernel) (by decide),
    gs_istore_n (k := 2) (by decide +kernel) rfl,
    gs_iload_n (k := 2) (by decide +kernel) rfl,
    gs_aload_n (k := 0) (by decide +kernel) rfl,
    gs_get (T := TX10) (N := 13) (Cn := RX10) (by decide +kernel) rfl (by decide) inW10 rfl wd_267,
    gs_getN (T := TX2) (N := 4) (Cn := RX2) (by decide +kernel) rfl (by decide) inW2 rfl wn_200,
    gs_icmp_ge (off := 44) (by decide +kernel) (by decide),
    gs_aload_n (k := 0) (by decide +kernel) rfl,
    gs_get (T := TX10) (N := 13) (Cn := RX10) (by decide +kernel) rfl (by decide) inW10 rfl wd_264,
    gs_aload_n (k := 0) (by decide +kernel) rfl,
    gs_get (T := TX10) (N := 13) (Cn := RX10) (by decide +kernel) rfl (by decide) inW10 rfl wd_267,
    gs_iconst (n := 1) (by decide +kernel) (by decide),
    gs_iload_n (k := 2) (by decide +kernel) rfl,
    gs_ishl (by decide +kernel),
    gs_callV (by decide +kernel) rfl rfl wd_529 wd_488 wd_486 wd_487 wd_3 mp_13 (by decide),
    gs_pop (by decide +kernel),
    gs_aload_n (k := 0) (by decide +kernel) rfl,
    gs_get (T := TX10) (N := 13) (Cn := RX10) (by decide +kernel) rfl (by decide) inW10 rfl wd_270,
    gs_aload_n (k := 0) (by decide +kernel) rfl,
    gs_get (T := TX10) (N := 13) (Cn := RX10) (by decide +kernel) rfl (by decide) inW10 rfl wd_264,
    gs_callV (by decide +kernel) rfl rfl wd_622 wd_625 wd_623 wd_624 wd_9 mp_30 (by decide),
    gs_if_eq (off := 9) (by decide +kernel) (by decide),
    gs_iload_n (k := 1) (by decide +kernel) rfl,
    gs_iconst (n := 1) (by decide +kernel) (by decide),
    gs_iload_n (k := 2) (by decide +kernel) rfl,
    gs_ishl (by decide +kernel),
    gs_ior (by decide +kernel),
    gs_istore_n (k := 1) (by decide +kernel) rfl,
    gs_iinc (n := 1) (by decide +kernel) (by decide),
    gs_goto (off := -49) (by decide +kernel) (by decide),
    gs_iload_n (k := 1) (by decide +kernel) rfl,
    gs_iret (by decide +kernel),
    fun _ h => absurd h List.not_mem_nil⟩
def pX10_was : gProg := [(0, sLdA 0 1),
  (1, sGet 10 2),
  (4, sLdI 1 1),
  (5, sCallV 1 0 1),
  (8, sIfeq 20),
  (11, sLdI 2 1),
  (12, sPush (.int 0) 1),
  (13, sPush (.int 1) 1),
  (14, sCallS 109 3),
  (17, sIfne 23),
  (20, sPush (.int (-2)) 2),
  (22, sRetI),
  (23, sLdA 0 1),
  (24, sGet 10 1),
  (27, sLdA 0 1),
  (28, sGet 10 4),
  (31, sPush (.int 0) 1),
  (32, sCallV 13 3 2),
  (35, sPop),
  (36, sLdI 2 1),
  (37, sIfne 48),
  (40, sLdA 0 1),
  (41, sLdI 1 1),
  (42, sCallV 93 10 1),
  (45, sGoto 53),
  (48, sLdA 0 1),
  (49, sLdI 1 1),
  (50, sCallV 94 10 1),
  (53, sRetI)]
theorem kX10_was : ∀ q ∈ pX10_was, gSnd RX10 cX10_was 3 none q.1 q.2 := by
  simp only [pX10_was, List.forall_mem_cons]
  exact ⟨gs_aload_n (k := 0) (by decide +kernel) rfl,
    gs_get (T := TX10) (N := 13) (Cn := RX10) (by decide +kernel) rfl (by decide) inW10 rfl wd_265,
    gs_iload_n (k := 1) (by decide +kernel) rfl,
    gs_callV (by decide +kernel) rfl rfl wd_357 wd_360 wd_358 wd_359 wd_4 mp_1 (by decide),
    gs_if_eq (off := 12) (by decide +kernel) (by decide),
    gs_iload_n (k := 2) (by decide +kernel) rfl,
    gs_iconst (n := 0) (by decide +kernel) (by decide),
    gs_iconst (n := 1) (by decide +kernel) (by decide),
    gs_callS (by decide +kernel) rfl wd_310 wd_312 wd_311 wd_1 mp_109 (by decide),
    gs_if_ne (off := 6) (by decide +kernel) (by decide),
    gs_bipush (n := -2) (by decide +kernel) (by decide),
    gs_iret (by decide +kernel),
    gs_aload_n (k := 0) (by decide +kernel) rfl,
    gs_get (T := TX10) (N := 13) (Cn := RX10) (by decide +kernel) rfl (by decide) inW10 rfl wd_264,
    gs_aload_n (k := 0) (by decide +kernel) rfl,
    gs_get (T := TX10) (N := 13) (Cn := RX10) (by decide +kernel) rfl (by decide) inW10 rfl wd_267,
    gs_iconst (n := 0) (by decide +kernel) (by decide),
    gs_callV (by decide +kernel) rfl rfl wd_529 wd_488 wd_486 wd_487 wd_3 mp_13 (by decide),
    gs_pop (by decide +kernel),
    gs_iload_n (k := 2) (by decide +kernel) rfl,
    gs_if_ne (off := 11) (by decide +kernel) (by decide),
    gs_aload_n (k := 0) (by decide +kernel) rfl,
    gs_iload_n (k := 1) (by decide +kernel) rfl,
    gs_callV (by decide +kernel) rfl rfl wd_632 wd_635 wd_634 ws_13 wd_1 mp_93 (by decide),
    gs_goto (off := 8) (by decide +kernel) (by decide),
    gs_aload_n (k := 0) (by decide +kernel) rfl,
    gs_iload_n (k := 1) (by decide +kernel) rfl,
    gs_callV (by decide +kernel) rfl rfl wd_637 wd_640 wd_639 ws_14 wd_1 mp_94 (by decide),
    gs_iret (by decide +kernel),
    fun _ h => absurd h List.not_mem_nil⟩
def pX10_ask : gProg := [(0, sLdA 0 1),
  (1, sGet 10 2),
  (4, sLdI 1 1),
  (5, sCallV 1 0 1),
  (8, sIfne 14),
  (11, sPush (.int (-2)) 2),
  (13, sRetI),
  (14, sLdA 0 1),
  (15, sGet 10 1),
  (18, sLdA 0 1),
  (19, sGet 10 4),
  (22, sPush (.int 0) 1),
  (23, sCallV 13 3 2),
  (26, sPop),
  (27, sLdA 0 1),
  (28, sLdI 1 1),
  (29, sCallV 93 10 1),
  (32, sStI 2 1),
  (33, sPush (.int 0) 1),
  (34, sStI 3 1),
  (35, sPush (.int 13) 2),
  (37, sStI 4 2),
  (39, sPush (.int 0) 1),
  (40, sStI 5 2),
  (42, sLdI 5 2),
  (44, sPush (.int 24) 2),
  (46, sCmpge 79),
  (49, sLdA 0 1),
  (50, sLdI 1 1),
  (51, sLdI 2 1),
  (52, sLdI 5 2),
  (54, sCallV 95 10 3),
  (57, sStI 6 2),
  (59, sLdI 6 2),
  (61, sLdI 4 2),
  (63, sCmpge 73),
  (66, sLdI 5 2),
  (68, sStI 3 1),
  (69, sLdI 6 2),
  (71, sStI 4 2),
  (73, sInc 5 1),
  (76, sGoto 42),
  (79, sLdI 3 1),
  (80, sRetI)]
theorem kX10_ask : ∀ q ∈ pX10_ask, gSnd RX10 cX10_ask 7 none q.1 q.2 := by
  simp only [pX10_ask, List.forall_mem_cons]
  exact ⟨gs_aload_n (k := 0) (by decide +kernel) rfl,
    gs_get (T := TX10) (N := 13) (Cn := RX10) (by decide +kernel) rfl (by decide) inW10 rfl wd_265,
    gs_iload_n (k := 1) (by decide +kernel) rfl,
    gs_callV (by decide +kernel) rfl rfl wd_357 wd_360 wd_358 wd_359 wd_4 mp_1 (by decide),
    gs_if_ne (off := 6) (by decide +kernel) (by decide),
    gs_bipush (n := -2) (by decide +kernel) (by decide),
    gs_iret (by decide +kernel),
    gs_aload_n (k := 0) (by decide +kernel) rfl,
    gs_get (T := TX10) (N := 13) (Cn := RX10) (by decide +kernel) rfl (by decide) inW10 rfl wd_264,
    gs_aload_n (k := 0) (by decide +kernel) rfl,
    gs_get (T := TX10) (N := 13) (Cn := RX10) (by decide +kernel) rfl (by decide) inW10 rfl wd_267,
    gs_iconst (n := 0) (by decide +kernel) (by decide),
    gs_callV (by decide +kernel) rfl rfl wd_529 wd_488 wd_486 wd_487 wd_3 mp_13 (by decide),
    gs_pop (by decide +kernel),
    gs_aload_n (k := 0) (by decide +kernel) rfl,
    gs_iload_n (k := 1) (by decide +kernel) rfl,
    gs_callV (by decide +kernel) rfl rfl wd_632 wd_635 wd_634 ws_13 wd_1 mp_93 (by decide),
    gs_istore_n (k := 2) (by decide +kernel) rfl,
    gs_iconst (n := 0) (by decide +kernel) (by decide),
    gs_istore_n (k := 3) (by decide +kernel) rfl,
    gs_bipush (n := 13) (by decide +kernel) (by decide),
    gs_istore (by decide +kernel),
    gs_iconst (n := 0) (by decide +kernel) (by decide),
    gs_istore (by decide +kernel),
    gs_iload (by decide +kernel),
    gs_bipush (n := 24) (by decide +kernel) (by decide),
    gs_icmp_ge (off := 33) (by decide +kernel) (by decide),
    gs_aload_n (k := 0) (by decide +kernel) rfl,
    gs_iload_n (k := 1) (by decide +kernel) rfl,
    gs_iload_n (k := 2) (by decide +kernel) rfl,
    gs_iload (by decide +kernel),
    gs_callV (by decide +kernel) rfl rfl wd_645 wd_648 wd_647 ws_15 wd_1 mp_95 (by decide),
    gs_istore (by decide +kernel),
    gs_iload (by decide +kernel),
    gs_iload (by decide +kernel),
    gs_icmp_ge (off := 10) (by decide +kernel) (by decide),
    gs_iload (by decide +kernel),
    gs_istore_n (k := 3) (by decide +kernel) rfl,
    gs_iload (by decide +kernel),
    gs_istore (by decide +kernel),
    gs_iinc (n := 1) (by decide +kernel) (by decide),
    gs_goto (off := -34) (by decide +kernel) (by decide),
    gs_iload_n (k := 3) (by decide +kernel) rfl,
    gs_iret (by decide +kernel),
    fun _ h => absurd h List.not_mem_nil⟩
def pX10_luck : gProg := [(0, sLdI 1 1),
  (1, sPush (.int 0) 1),
  (2, sPush (.int 16) 2),
  (4, sCallS 109 3),
  (7, sIfeq 26),
  (10, sLdI 2 1),
  (11, sCallS 105 1),
  (14, sIfeq 26),
  (17, sLdI 3 1),
  (18, sPush (.int 0) 1),
  (19, sPush (.int 1) 1),
  (20, sCallS 109 3),
  (23, sIfne 30),
  (26, sPush (.long (-9223372036854775806)) 3),
  (29, sRetL),
  (30, sLdA 0 1),
  (31, sGet 10 1),
  (34, sLdA 0 1),
  (35, sGet 10 4),
  (38, sPush (.int 0) 1),
  (39, sCallV 13 3 2),
  (42, sPop),
  (43, sLdA 0 1),
  (44, sLdI 1 1),
  (45, sLdI 2 1),
  (46, sCallV 96 10 2),
  (49, sStL 4 2),
  (51, sLdL 4 2),
  (53, sPush (.long 0) 1),
  (54, sLcmp),
  (55, sIfne 61),
  (58, sLdI 3 1),
  (59, sI2L),
  (60, sRetL),
  (61, sPush (.long 1) 1),
  (62, sPush (.int 4) 1),
  (63, sLdA 0 1),
  (64, sGet 10 4),
  (67, sGet 2 3),
  (70, sImul),
  (71, sLshl),
  (72, sStL 6 2),
  (74, sPush (.int 0) 1),
  (75, sStI 8 2),
  (77, sLdI 8 2),
  (79, sPush (.int 32) 2),
  (81, sCmpge 114),
  (84, sLdL 4 2),
  (86, sLdL 6 2),
  (88, sLor),
  (89, sPush (.long 1) 1),
  (90, sLand),
  (91, sPush (.long 0) 1),
  (92, sLcmp),
  (93, sIfne 114),
  (96, sLdL 4 2),
  (98, sPush (.int 1) 1),
  (99, sLshr),
  (100, sStL 4 2),
  (102, sLdL 6 2),
  (104, sPush (.int 1) 1),
  (105, sLshr),
  (106, sStL 6 2),
  (108, sInc 8 1),
  (111, sGoto 77),
  (114, sLdI 3 1),
  (115, sIfne 123),
  (118, sLdL 4 2),
  (120, sGoto 125),
  (123, sLdL 6 2),
  (125, sRetL)]
theorem kX10_luck : ∀ q ∈ pX10_luck, gSnd RX10 cX10_luck 9 none q.1 q.2 := by
  simp only [pX10_luck, List.forall_mem_cons]
  exact ⟨gs_iload_n (k := 1) (by decide +kernel) rfl,
    gs_iconst (n := 0) (by decide +kernel) (by decide),
    gs_bipush (n := 16) (by decide +kernel) (by decide),
    gs_callS (by decide +kernel) rfl wd_310 wd_312 wd_311 wd_1 mp_109 (by decide),
    gs_if_eq (off := 19) (by decide +kernel) (by decide),
    gs_iload_n (k := 2) (by decide +kernel) rfl,
    gs_callS (by decide +kernel) rfl wd_407 wd_409 wd_408 wd_1 mp_105 (by decide),
    gs_if_eq (off := 12) (by decide +kernel) (by decide),
    gs_iload_n (k := 3) (by decide +kernel) rfl,
    gs_iconst (n := 0) (by decide +kernel) (by decide),
    gs_iconst (n := 1) (by decide +kernel) (by decide),
    gs_callS (by decide +kernel) rfl wd_310 wd_312 wd_311 wd_1 mp_109 (by decide),
    gs_if_ne (off := 7) (by decide +kernel) (by decide),
    gs_ldc2 (by decide +kernel) wd_655,
    gs_lret (by decide +kernel),
    gs_aload_n (k := 0) (by decide +kernel) rfl,
    gs_get (T := TX10) (N := 13) (Cn := RX10) (by decide +kernel) rfl (by decide) inW10 rfl wd_264,
    gs_aload_n (k := 0) (by decide +kernel) rfl,
    gs_get (T := TX10) (N := 13) (Cn := RX10) (by decide +kernel) rfl (by decide) inW10 rfl wd_267,
    gs_iconst (n := 0) (by decide +kernel) (by decide),
    gs_callV (by decide +kernel) rfl rfl wd_529 wd_488 wd_486 wd_487 wd_3 mp_13 (by decide),
    gs_pop (by decide +kernel),
    gs_aload_n (k := 0) (by decide +kernel) rfl,
    gs_iload_n (k := 1) (by decide +kernel) rfl,
    gs_iload_n (k := 2) (by decide +kernel) rfl,
    gs_callV (by decide +kernel) rfl rfl wd_656 wd_659 wd_658 ws_16 wd_1 mp_96 (by decide),
    gs_lstore (by decide +kernel),
    gs_lload (by decide +kernel),
    gs_lconst (n := 0) (by decide +kernel) (by decide),
    gs_lcmp (by decide +kernel),
    gs_if_ne (off := 6) (by decide +kernel) (by decide),
    gs_iload_n (k := 3) (by decide +kernel) rfl,
    gs_i2l (by decide +kernel),
    gs_lret (by decide +kernel),
    gs_lconst (n := 1) (by decide +kernel) (by decide),
    gs_iconst (n := 4) (by decide +kernel) (by decide),
    gs_aload_n (k := 0) (by decide +kernel) rfl,
    gs_get (T := TX10) (N := 13) (Cn := RX10) (by decide +kernel) rfl (by decide) inW10 rfl wd_267,
    gs_getN (T := TX2) (N := 4) (Cn := RX2) (by decide +kernel) rfl (by decide) inW2 rfl wn_200,
    gs_imul (by decide +kernel),
    gs_lshl (by decide +kernel),
    gs_lstore (by decide +kernel),
    gs_iconst (n := 0) (by decide +kernel) (by decide),
    gs_istore (by decide +kernel),
    gs_iload (by decide +kernel),
    gs_bipush (n := 32) (by decide +kernel) (by decide),
    gs_icmp_ge (off := 33) (by decide +kernel) (by decide),
    gs_lload (by decide +kernel),
    gs_lload (by decide +kernel),
    gs_lor (by decide +kernel),
    gs_lconst (n := 1) (by decide +kernel) (by decide),
    gs_land (by decide +kernel),
    gs_lconst (n := 0) (by decide +kernel) (by decide),
    gs_lcmp (by decide +kernel),
    gs_if_ne (off := 21) (by decide +kernel) (by decide),
    gs_lload (by decide +kernel),
    gs_iconst (n := 1) (by decide +kernel) (by decide),
    gs_lshr (by decide +kernel),
    gs_lstore (by decide +kernel),
    gs_lload (by decide +kernel),
    gs_iconst (n := 1) (by decide +kernel) (by decide),
    gs_lshr (by decide +kernel),
    gs_lstore (by decide +kernel),
    gs_iinc (n := 1) (by decide +kernel) (by decide),
    gs_goto (off := -34) (by decide +kernel) (by decide),
    gs_iload_n (k := 3) (by decide +kernel) rfl,
    gs_if_ne (off := 8) (by decide +kernel) (by decide),
    gs_lload (by decide +kernel),
    gs_goto (off := 5) (by decide +kernel) (by decide),
    gs_lload (by decide +kernel),
    gs_lret (by decide +kernel),
    fun _ h => absurd h List.not_mem_nil⟩
end
section
def pX10_century : gProg := [(0, sLdI 2 1),
  (1, sPush (.int 0) 1),
  (2, sPush (.int 8) 2),
  (4, sCallS 109 3),
  (7, sIfeq 19),
  (10, sLdI 3 1),
  (11, sPush (.int 0) 1),
  (12, sPush (.int 1) 1),
  (13, sCallS 109 3),
  (16, sIfne 22),
  (19, sPush (.int (-2)) 2),
  (21, sRetI),
  (22, sLdA 0 1),
  (23, sLdI 1 1),
  (24, sLdI 2 1),
  (25, sCallV 100 10 2),
  (28, sLdI 3 1),
  (29, sIfne 48),
  (32, sLdA 0 1),
  (33, sGet 10 1),
  (36, sLdA 0 1),
  (37, sGet 10 5),
  (40, sPush (.int 0) 1),
  (41, sCallV 13 3 2),
  (44, sCallS 202 1),
  (47, sRetI),
  (48, sLdA 0 1),
  (49, sGet 10 0),
  (52, sLdA 0 1),
  (53, sGet 10 5),
  (56, sCallV 21 6 1),
  (59, sLdA 0 1),
  (60, sGet 10 0),
  (63, sGet 6 7),
  (66, sRetI)]
theorem kX10_century : ∀ q ∈ pX10_century, gSnd RX10 cX10_century 4 none q.1 q.2 := by
  simp only [pX10_century, List.forall_mem_cons]
  exact ⟨gs_iload_n (k := 2) (by decide +kernel) rfl,
    gs_iconst (n := 0) (by decide +kernel) (by decide),
    gs_bipush (n := 8) (by decide +kernel) (by decide),
    gs_callS (by decide +kernel) rfl wd_310 wd_312 wd_311 wd_1 mp_109 (by decide),
    gs_if_eq (off := 12) (by decide +kernel) (by decide),
    gs_iload_n (k := 3) (by decide +kernel) rfl,
    gs_iconst (n := 0) (by decide +kernel) (by decide),
    gs_iconst (n := 1) (by decide +kernel) (by decide),
    gs_callS (by decide +kernel) rfl wd_310 wd_312 wd_311 wd_1 mp_109 (by decide),
    gs_if_ne (off := 6) (by decide +kernel) (by decide),
    gs_bipush (n := -2) (by decide +kernel) (by decide),
    gs_iret (by decide +kernel),
    gs_aload_n (k := 0) (by decide +kernel) rfl,
    gs_iload_n (k := 1) (by decide +kernel) rfl,
    gs_iload_n (k := 2) (by decide +kernel) rfl,
    gs_callV (by decide +kernel) rfl rfl wd_682 wd_685 wd_684 ws_20 wd_1 mp_100 (by decide),
    gs_iload_n (k := 3) (by decide +kernel) rfl,
    gs_if_ne (off := 19) (by decide +kernel) (by decide),
    gs_aload_n (k := 0) (by decide +kernel) rfl,
    gs_get (T := TX10) (N := 13) (Cn := RX10) (by decide +kernel) rfl (by decide) inW10 rfl wd_264,
    gs_aload_n (k := 0) (by decide +kernel) rfl,
    gs_get (T := TX10) (N := 13) (Cn := RX10) (by decide +kernel) rfl (by decide) inW10 rfl wd_268,
    gs_iconst (n := 0) (by decide +kernel) (by decide),
    gs_callV (by decide +kernel) rfl rfl wd_529 wd_488 wd_486 wd_487 wd_3 mp_13 (by decide),
    gs_callS (by decide +kernel) rfl wd_557 wd_559 wd_558 wd_15 mp_202 (by decide),
    gs_iret (by decide +kernel),
    gs_aload_n (k := 0) (by decide +kernel) rfl,
    gs_get (T := TX10) (N := 13) (Cn := RX10) (by decide +kernel) rfl (by decide) inW10 rfl wd_263,
    gs_aload_n (k := 0) (by decide +kernel) rfl,
    gs_get (T := TX10) (N := 13) (Cn := RX10) (by decide +kernel) rfl (by decide) inW10 rfl wd_268,
    gs_callV (by decide +kernel) rfl rfl wd_481 wd_484 wd_482 wd_483 wd_2 mp_21 (by decide),
    gs_aload_n (k := 0) (by decide +kernel) rfl,
    gs_get (T := TX10) (N := 13) (Cn := RX10) (by decide +kernel) rfl (by decide) inW10 rfl wd_263,
    gs_getN (T := TX6) (N := 10) (Cn := RX6) (by decide +kernel) rfl (by decide) inW6 rfl wn_158,
    gs_iret (by decide +kernel),
    fun _ h => absurd h List.not_mem_nil⟩
def pX10_sheet : gProg := [(0, sLdI 1 1),
  (1, sCallS 106 1),
  (4, sIfeq 20),
  (7, sLdI 2 1),
  (8, sCallS 107 1),
  (11, sIfeq 20),
  (14, sLdI 3 1),
  (15, sPush (.int 60) 2),
  (17, sCmple 23),
  (20, sPush (.int (-2)) 2),
  (22, sRetI),
  (23, sLdI 3 1),
  (24, sIfge 33),
  (27, sLdA 0 1),
  (28, sPush (.int 5) 1),
  (29, sCallV 101 10 1),
  (32, sRetI),
  (33, sLdA 0 1),
  (34, sGet 10 9),
  (37, sLdI 1 1),
  (38, sAald),
  (39, sLdI 2 1),
  (40, sLdI 3 1),
  (41, sCallV 32 8 2),
  (44, sLdI 3 1),
  (45, sRetI)]
theorem kX10_sheet : ∀ q ∈ pX10_sheet, gSnd RX10 cX10_sheet 4 none q.1 q.2 := by
  simp only [pX10_sheet, List.forall_mem_cons]
  exact ⟨gs_iload_n (k := 1) (by decide +kernel) rfl,
    gs_callS (by decide +kernel) rfl wd_426 wd_428 wd_427 wd_1 mp_106 (by decide),
    gs_if_eq (off := 16) (by decide +kernel) (by decide),
    gs_iload_n (k := 2) (by decide +kernel) rfl,
    gs_callS (by decide +kernel) rfl wd_699 wd_701 wd_700 wd_1 mp_107 (by decide),
    gs_if_eq (off := 9) (by decide +kernel) (by decide),
    gs_iload_n (k := 3) (by decide +kernel) rfl,
    gs_bipush (n := 60) (by decide +kernel) (by decide),
    gs_icmp_le (off := 6) (by decide +kernel) (by decide),
    gs_bipush (n := -2) (by decide +kernel) (by decide),
    gs_iret (by decide +kernel),
    gs_iload_n (k := 3) (by decide +kernel) rfl,
    gs_if_ge (off := 9) (by decide +kernel) (by decide),
    gs_aload_n (k := 0) (by decide +kernel) rfl,
    gs_iconst (n := 5) (by decide +kernel) (by decide),
    gs_callV (by decide +kernel) rfl rfl wd_433 wd_436 wd_435 ws_4 wd_1 mp_101 (by decide),
    gs_iret (by decide +kernel),
    gs_aload_n (k := 0) (by decide +kernel) rfl,
    gs_get (T := TX10) (N := 13) (Cn := RX10) (by decide +kernel) rfl (by decide) inW10 rfl wd_272,
    gs_iload_n (k := 1) (by decide +kernel) rfl,
    gs_aaload (by decide +kernel),
    gs_iload_n (k := 2) (by decide +kernel) rfl,
    gs_iload_n (k := 3) (by decide +kernel) rfl,
    gs_callV (by decide +kernel) rfl rfl wd_702 wd_705 wd_703 wd_704 wd_11 mp_32 (by decide),
    gs_iload_n (k := 3) (by decide +kernel) rfl,
    gs_iret (by decide +kernel),
    fun _ h => absurd h List.not_mem_nil⟩
def pX10_lose : gProg := [(0, sLdI 1 1),
  (1, sCallS 106 1),
  (4, sIfne 10),
  (7, sPush (.int (-2)) 2),
  (9, sRetI),
  (10, sLdA 0 1),
  (11, sGet 10 9),
  (14, sLdI 1 1),
  (15, sAald),
  (16, sCallV 31 8 0),
  (19, sIfeq 28),
  (22, sLdA 0 1),
  (23, sPush (.int 1) 1),
  (24, sCallV 101 10 1),
  (27, sRetI),
  (28, sLdA 0 1),
  (29, sGet 10 9),
  (32, sLdI 1 1),
  (33, sAald),
  (34, sCallV 33 8 0),
  (37, sRetI)]
theorem kX10_lose : ∀ q ∈ pX10_lose, gSnd RX10 cX10_lose 2 none q.1 q.2 := by
  simp only [pX10_lose, List.forall_mem_cons]
  exact ⟨gs_iload_n (k := 1) (by decide +kernel) rfl,
    gs_callS (by decide +kernel) rfl wd_426 wd_428 wd_427 wd_1 mp_106 (by decide),
    gs_if_ne (off := 6) (by decide +kernel) (by decide),
    gs_bipush (n := -2) (by decide +kernel) (by decide),
    gs_iret (by decide +kernel),
    gs_aload_n (k := 0) (by decide +kernel) rfl,
    gs_get (T := TX10) (N := 13) (Cn := RX10) (by decide +kernel) rfl (by decide) inW10 rfl wd_272,
    gs_iload_n (k := 1) (by decide +kernel) rfl,
    gs_aaload (by decide +kernel),
    gs_callV (by decide +kernel) rfl rfl wd_429 wd_432 wd_430 wd_431 wd_11 mp_31 (by decide),
    gs_if_eq (off := 9) (by decide +kernel) (by decide),
    gs_aload_n (k := 0) (by decide +kernel) rfl,
    gs_iconst (n := 1) (by decide +kernel) (by decide),
    gs_callV (by decide +kernel) rfl rfl wd_433 wd_436 wd_435 ws_4 wd_1 mp_101 (by decide),
    gs_iret (by decide +kernel),
    gs_aload_n (k := 0) (by decide +kernel) rfl,
    gs_get (T := TX10) (N := 13) (Cn := RX10) (by decide +kernel) rfl (by decide) inW10 rfl wd_272,
    gs_iload_n (k := 1) (by decide +kernel) rfl,
    gs_aaload (by decide +kernel),
    gs_callV (by decide +kernel) rfl rfl wd_711 wd_714 wd_712 wd_713 wd_11 mp_33 (by decide),
    gs_iret (by decide +kernel),
    fun _ h => absurd h List.not_mem_nil⟩
def pX10_lay : gProg := [(0, sLdI 1 1),
  (1, sCallS 106 1),
  (4, sIfeq 14),
  (7, sLdI 2 1),
  (8, sCallS 107 1),
  (11, sIfne 17),
  (14, sPush (.int (-2)) 2),
  (16, sRetI),
  (17, sLdA 0 1),
  (18, sGet 10 9),
  (21, sLdI 1 1),
  (22, sAald),
  (23, sLdI 2 1),
  (24, sLdI 3 1),
  (25, sCallS 102 3),
  (28, sStI 5 2),
  (30, sLdI 5 2),
  (32, sIfeq 42),
  (35, sLdA 0 1),
  (36, sLdI 5 2),
  (38, sCallV 101 10 1),
  (41, sRetI),
  (42, sLdA 0 1),
  (43, sGet 10 9),
  (46, sLdI 1 1),
  (47, sAald),
  (48, sLdI 3 1),
  (49, sLdI 4 2),
  (51, sCallV 36 8 2),
  (54, sPush (.int 1) 1),
  (55, sRetI)]
theorem kX10_lay : ∀ q ∈ pX10_lay, gSnd RX10 cX10_lay 6 none q.1 q.2 := by
  simp only [pX10_lay, List.forall_mem_cons]
  exact ⟨gs_iload_n (k := 1) (by decide +kernel) rfl,
    gs_callS (by decide +kernel) rfl wd_426 wd_428 wd_427 wd_1 mp_106 (by decide),
    gs_if_eq (off := 10) (by decide +kernel) (by decide),
    gs_iload_n (k := 2) (by decide +kernel) rfl,
    gs_callS (by decide +kernel) rfl wd_699 wd_701 wd_700 wd_1 mp_107 (by decide),
    gs_if_ne (off := 6) (by decide +kernel) (by decide),
    gs_bipush (n := -2) (by decide +kernel) (by decide),
    gs_iret (by decide +kernel),
    gs_aload_n (k := 0) (by decide +kernel) rfl,
    gs_get (T := TX10) (N := 13) (Cn := RX10) (by decide +kernel) rfl (by decide) inW10 rfl wd_272,
    gs_iload_n (k := 1) (by decide +kernel) rfl,
    gs_aaload (by decide +kernel),
    gs_iload_n (k := 2) (by decide +kernel) rfl,
    gs_iload_n (k := 3) (by decide +kernel) rfl,
    gs_callS (by decide +kernel) rfl wd_719 wd_721 wd_720 wd_1 mp_102 (by decide),
    gs_istore (by decide +kernel),
    gs_iload (by decide +kernel),
    gs_if_eq (off := 10) (by decide +kernel) (by decide),
    gs_aload_n (k := 0) (by decide +kernel) rfl,
    gs_iload (by decide +kernel),
    gs_callV (by decide +kernel) rfl rfl wd_433 wd_436 wd_435 ws_4 wd_1 mp_101 (by decide),
    gs_iret (by decide +kernel),
    gs_aload_n (k := 0) (by decide +kernel) rfl,
    gs_get (T := TX10) (N := 13) (Cn := RX10) (by decide +kernel) rfl (by decide) inW10 rfl wd_272,
    gs_iload_n (k := 1) (by decide +kernel) rfl,
    gs_aaload (by decide +kernel),
    gs_iload_n (k := 3) (by decide +kernel) rfl,
    gs_iload (by decide +kernel),
    gs_callV (by decide +kernel) rfl rfl wd_723 wd_726 wd_724 wd_725 wd_11 mp_36 (by decide),
    gs_iconst (n := 1) (by decide +kernel) (by decide),
    gs_iret (by decide +kernel),
    fun _ h => absurd h List.not_mem_nil⟩
def pX10_get : gProg := [(0, sLdI 1 1),
  (1, sCallS 106 1),
  (4, sIfeq 14),
  (7, sLdI 2 1),
  (8, sCallS 107 1),
  (11, sIfne 18),
  (14, sPush (.int (-2147483648)) 3),
  (17, sRetI),
  (18, sLdA 0 1),
  (19, sGet 10 9),
  (22, sLdI 1 1),
  (23, sAald),
  (24, sLdI 2 1),
  (25, sLdI 3 1),
  (26, sCallS 102 3),
  (29, sStI 4 2),
  (31, sLdI 4 2),
  (33, sIfeq 46),
  (36, sLdA 0 1),
  (37, sLdI 4 2),
  (39, sPut 10 12),
  (42, sPush (.int (-2147483648)) 3),
  (45, sRetI),
  (46, sLdA 0 1),
  (47, sGet 10 9),
  (50, sLdI 1 1),
  (51, sAald),
  (52, sLdI 3 1),
  (53, sCallV 35 8 1),
  (56, sRetI)]
theorem kX10_get : ∀ q ∈ pX10_get, gSnd RX10 cX10_get 5 none q.1 q.2 := by
  simp only [pX10_get, List.forall_mem_cons]
  exact ⟨gs_iload_n (k := 1) (by decide +kernel) rfl,
    gs_callS (by decide +kernel) rfl wd_426 wd_428 wd_427 wd_1 mp_106 (by decide),
    gs_if_eq (off := 10) (by decide +kernel) (by decide),
    gs_iload_n (k := 2) (by decide +kernel) rfl,
    gs_callS (by decide +kernel) rfl wd_699 wd_701 wd_700 wd_1 mp_107 (by decide),
    gs_if_ne (off := 7) (by decide +kernel) (by decide),
    gs_ldcw (by decide +kernel) wd_735,
    gs_iret (by decide +kernel),
    gs_aload_n (k := 0) (by decide +kernel) rfl,
    gs_get (T := TX10) (N := 13) (Cn := RX10) (by decide +kernel) rfl (by decide) inW10 rfl wd_272,
    gs_iload_n (k := 1) (by decide +kernel) rfl,
    gs_aaload (by decide +kernel),
    gs_iload_n (k := 2) (by decide +kernel) rfl,
    gs_iload_n (k := 3) (by decide +kernel) rfl,
    gs_callS (by decide +kernel) rfl wd_719 wd_721 wd_720 wd_1 mp_102 (by decide),
    gs_istore (by decide +kernel),
    gs_iload (by decide +kernel),
    gs_if_eq (off := 13) (by decide +kernel) (by decide),
    gs_aload_n (k := 0) (by decide +kernel) rfl,
    gs_iload (by decide +kernel),
    gs_put (T := TX10) (N := 13) (Cn := RX10) (by decide +kernel) rfl (by decide) inW10 tyX10_ok nmX10 rfl wd_275,
    gs_ldcw (by decide +kernel) wd_735,
    gs_iret (by decide +kernel),
    gs_aload_n (k := 0) (by decide +kernel) rfl,
    gs_get (T := TX10) (N := 13) (Cn := RX10) (by decide +kernel) rfl (by decide) inW10 rfl wd_272,
    gs_iload_n (k := 1) (by decide +kernel) rfl,
    gs_aaload (by decide +kernel),
    gs_iload_n (k := 3) (by decide +kernel) rfl,
    gs_callV (by decide +kernel) rfl rfl wd_437 wd_440 wd_438 wd_439 wd_11 mp_35 (by decide),
    gs_iret (by decide +kernel),
    fun _ h => absurd h List.not_mem_nil⟩
def pX10_copy : gProg := [(0, sLdI 1 1),
  (1, sCallS 106 1),
  (4, sIfeq 14),
  (7, sLdI 3 1),
  (8, sCallS 106 1),
  (11, sIfne 17),
  (14, sPush (.int (-2)) 2),
  (16, sRetI),
  (17, sLdA 0 1),
  (18, sGet 10 9),
  (21, sLdI 1 1),
  (22, sAald),
  (23, sStA 6 2),
  (25, sLdA 0 1),
  (26, sGet 10 9),
  (29, sLdI 3 1),
  (30, sAald),
  (31, sStA 7 2),
  (33, sLdA 6 2),
  (35, sCallV 31 8 0),
  (38, sIfne 49),
  (41, sLdA 7 2),
  (43, sCallV 31 8 0),
  (46, sIfeq 55),
  (49, sLdA 0 1),
  (50, sPush (.int 1) 1),
  (51, sCallV 101 10 1),
  (54, sRetI),
  (55, sLdA 6 2),
  (57, sGet 8 1),
  (60, sLdA 7 2),
  (62, sGet 8 1),
  (65, sCmpeq 74),
  (68, sLdA 0 1),
  (69, sPush (.int 4) 1),
  (70, sCallV 101 10 1),
  (73, sRetI),
  (74, sLdA 6 2),
  (76, sLdI 2 1),
  (77, sLdI 5 2),
  (79, sCallV 34 8 2),
  (82, sIfeq 97),
  (85, sLdA 7 2),
  (87, sLdI 4 2),
  (89, sLdI 5 2),
  (91, sCallV 34 8 2),
  (94, sIfne 103),
  (97, sLdA 0 1),
  (98, sPush (.int 2) 1),
  (99, sCallV 101 10 1),
  (102, sRetI),
  (103, sLdA 6 2),
  (105, sGet 8 0),
  (108, sLdI 2 1),
  (109, sLdA 7 2),
  (111, sGet 8 0),
  (114, sLdI 4 2),
  (116, sLdI 5 2),
  (118, sCopy),
  (121, sPush (.int 1) 1),
  (122, sRetI)]
theorem kX10_copy : ∀ q ∈ pX10_copy, gSnd RX10 cX10_copy 8 none q.1 q.2 := by
  simp only [pX10_copy, List.forall_mem_cons]
  exact ⟨gs_iload_n (k := 1) (by decide +kernel) rfl,
    gs_callS (by decide +kernel) rfl wd_426 wd_428 wd_427 wd_1 mp_106 (by decide),
    gs_if_eq (off := 10) (by decide +kernel) (by decide),
    gs_iload_n (k := 3) (by decide +kernel) rfl,
    gs_callS (by decide +kernel) rfl wd_426 wd_428 wd_427 wd_1 mp_106 (by decide),
    gs_if_ne (off := 6) (by decide +kernel) (by decide),
    gs_bipush (n := -2) (by decide +kernel) (by decide),
    gs_iret (by decide +kernel),
    gs_aload_n (k := 0) (by decide +kernel) rfl,
    gs_get (T := TX10) (N := 13) (Cn := RX10) (by decide +kernel) rfl (by decide) inW10 rfl wd_272,
    gs_iload_n (k := 1) (by decide +kernel) rfl,
    gs_aaload (by decide +kernel),
    gs_astore (by decide +kernel),
    gs_aload_n (k := 0) (by decide +kernel) rfl,
    gs_get (T := TX10) (N := 13) (Cn := RX10) (by decide +kernel) rfl (by decide) inW10 rfl wd_272,
    gs_iload_n (k := 3) (by decide +kernel) rfl,
    gs_aaload (by decide +kernel),
    gs_astore (by decide +kernel),
    gs_aload (by decide +kernel),
    gs_callV (by decide +kernel) rfl rfl wd_429 wd_432 wd_430 wd_431 wd_11 mp_31 (by decide),
    gs_if_ne (off := 11) (by decide +kernel) (by decide),
    gs_aload (by decide +kernel),
    gs_callV (by decide +kernel) rfl rfl wd_429 wd_432 wd_430 wd_431 wd_11 mp_31 (by decide),
    gs_if_eq (off := 9) (by decide +kernel) (by decide),
    gs_aload_n (k := 0) (by decide +kernel) rfl,
    gs_iconst (n := 1) (by decide +kernel) (by decide),
    gs_callV (by decide +kernel) rfl rfl wd_433 wd_436 wd_435 ws_4 wd_1 mp_101 (by decide),
    gs_iret (by decide +kernel),
    gs_aload (by decide +kernel),
    gs_getN (T := TX8) (N := 3) (Cn := RX8) (by decide +kernel) rfl (by decide) inW8 rfl wn_253,
    gs_aload (by decide +kernel),
    gs_getN (T := TX8) (N := 3) (Cn := RX8) (by decide +kernel) rfl (by decide) inW8 rfl wn_253,
    gs_icmp_eq (off := 9) (by decide +kernel) (by decide),
    gs_aload_n (k := 0) (by decide +kernel) rfl,
    gs_iconst (n := 4) (by decide +kernel) (by decide),
    gs_callV (by decide +kernel) rfl rfl wd_433 wd_436 wd_435 ws_4 wd_1 mp_101 (by decide),
    gs_iret (by decide +kernel),
    gs_aload (by decide +kernel),
    gs_iload_n (k := 2) (by decide +kernel) rfl,
    gs_iload (by decide +kernel),
    gs_callV (by decide +kernel) rfl rfl wd_722 wd_444 wd_442 wd_443 wd_11 mp_34 (by decide),
    gs_if_eq (off := 15) (by decide +kernel) (by decide),
    gs_aload (by decide +kernel),
    gs_iload (by decide +kernel),
    gs_iload (by decide +kernel),
    gs_callV (by decide +kernel) rfl rfl wd_722 wd_444 wd_442 wd_443 wd_11 mp_34 (by decide),
    gs_if_ne (off := 9) (by decide +kernel) (by decide),
    gs_aload_n (k := 0) (by decide +kernel) rfl,
    gs_iconst (n := 2) (by decide +kernel) (by decide),
    gs_callV (by decide +kernel) rfl rfl wd_433 wd_436 wd_435 ws_4 wd_1 mp_101 (by decide),
    gs_iret (by decide +kernel),
    gs_aload (by decide +kernel),
    gs_getN (T := TX8) (N := 3) (Cn := RX8) (by decide +kernel) rfl (by decide) inW8 rfl wn_251,
    gs_iload_n (k := 2) (by decide +kernel) rfl,
    gs_aload (by decide +kernel),
    gs_getN (T := TX8) (N := 3) (Cn := RX8) (by decide +kernel) rfl (by decide) inW8 rfl wn_251,
    gs_iload (by decide +kernel),
    gs_iload (by decide +kernel),
    gs_copy (by decide +kernel) wd_740 wd_742 wd_741 wd_16,
    gs_iconst (n := 1) (by decide +kernel) (by decide),
    gs_iret (by decide +kernel),
    fun _ h => absurd h List.not_mem_nil⟩
def pX10_write : gProg := [(0, sLdI 1 1),
  (1, sCallS 106 1),
  (4, sIfne 10),
  (7, sPush (.int (-2)) 2),
  (9, sRetI),
  (10, sLdA 0 1),
  (11, sGet 10 9),
  (14, sLdI 1 1),
  (15, sAald),
  (16, sStA 2 1),
  (17, sLdA 2 1),
  (18, sCallV 31 8 0),
  (21, sIfeq 30),
  (24, sLdA 0 1),
  (25, sPush (.int 1) 1),
  (26, sCallV 101 10 1),
  (29, sRetI),
  (30, sLdA 0 1),
  (31, sGet 10 0),
  (34, sLdA 0 1),
  (35, sGet 10 4),
  (38, sCallV 21 6 1),
  (41, sLdA 2 1),
  (42, sGet 8 2),
  (45, sPush (.int 24) 2),
  (47, sMmin),
  (50, sStI 3 1),
  (51, sPush (.int 0) 1),
  (52, sStI 4 2),
  (54, sLdI 4 2),
  (56, sLdI 3 1),
  (57, sCmpge 82),
  (60, sLdA 2 1),
  (61, sLdI 4 2),
  (63, sLdA 0 1),
  (64, sGet 10 0),
  (67, sGet 6 5),
  (70, sLdI 4 2),
  (72, sIald),
  (73, sCallV 36 8 2),
  (76, sInc 4 1),
  (79, sGoto 54),
  (82, sLdI 3 1),
  (83, sRetI)]
theorem kX10_write : ∀ q ∈ pX10_write, gSnd RX10 cX10_write 5 none q.1 q.2 := by
  simp only [pX10_write, List.forall_mem_cons]
  exact ⟨gs_iload_n (k := 1) (by decide +kernel) rfl,
    gs_callS (by decide +kernel) rfl wd_426 wd_428 wd_427 wd_1 mp_106 (by decide),
    gs_if_ne (off := 6) (by decide +kernel) (by decide),
    gs_bipush (n := -2) (by decide +kernel) (by decide),
    gs_iret (by decide +kernel),
    gs_aload_n (k := 0) (by decide +kernel) rfl,
    gs_get (T := TX10) (N := 13) (Cn := RX10) (by decide +kernel) rfl (by decide) inW10 rfl wd_272,
    gs_iload_n (k := 1) (by decide +kernel) rfl,
    gs_aaload (by decide +kernel),
    gs_astore_n (k := 2) (by decide +kernel) rfl,
    gs_aload_n (k := 2) (by decide +kernel) rfl,
    gs_callV (by decide +kernel) rfl rfl wd_429 wd_432 wd_430 wd_431 wd_11 mp_31 (by decide),
    gs_if_eq (off := 9) (by decide +kernel) (by decide),
    gs_aload_n (k := 0) (by decide +kernel) rfl,
    gs_iconst (n := 1) (by decide +kernel) (by decide),
    gs_callV (by decide +kernel) rfl rfl wd_433 wd_436 wd_435 ws_4 wd_1 mp_101 (by decide),
    gs_iret (by decide +kernel),
    gs_aload_n (k := 0) (by decide +kernel) rfl,
    gs_get (T := TX10) (N := 13) (Cn := RX10) (by decide +kernel) rfl (by decide) inW10 rfl wd_263,
    gs_aload_n (k := 0) (by decide +kernel) rfl,
    gs_get (T := TX10) (N := 13) (Cn := RX10) (by decide +kernel) rfl (by decide) inW10 rfl wd_267,
    gs_callV (by decide +kernel) rfl rfl wd_481 wd_484 wd_482 wd_483 wd_2 mp_21 (by decide),
    gs_aload_n (k := 2) (by decide +kernel) rfl,
    gs_getN (T := TX8) (N := 3) (Cn := RX8) (by decide +kernel) rfl (by decide) inW8 rfl wn_255,
    gs_bipush (n := 24) (by decide +kernel) (by decide),
    gs_mmin (by decide +kernel) wd_747 wd_524 wd_14 wd_525,
    gs_istore_n (k := 3) (by decide +kernel) rfl,
    gs_iconst (n := 0) (by decide +kernel) (by decide),
    gs_istore (by decide +kernel),
    gs_iload (by decide +kernel),
    gs_iload_n (k := 3) (by decide +kernel) rfl,
    gs_icmp_ge (off := 25) (by decide +kernel) (by decide),
    gs_aload_n (k := 2) (by decide +kernel) rfl,
    gs_iload (by decide +kernel),
    gs_aload_n (k := 0) (by decide +kernel) rfl,
    gs_get (T := TX10) (N := 13) (Cn := RX10) (by decide +kernel) rfl (by decide) inW10 rfl wd_263,
    gs_getN (T := TX6) (N := 10) (Cn := RX6) (by decide +kernel) rfl (by decide) inW6 rfl wn_155,
    gs_iload (by decide +kernel),
    gs_iaload (by decide +kernel),
    gs_callV (by decide +kernel) rfl rfl wd_723 wd_726 wd_724 wd_725 wd_11 mp_36 (by decide),
    gs_iinc (n := 1) (by decide +kernel) (by decide),
    gs_goto (off := -25) (by decide +kernel) (by decide),
    gs_iload_n (k := 3) (by decide +kernel) rfl,
    gs_iret (by decide +kernel),
    fun _ h => absurd h List.not_mem_nil⟩
def pX10_count : gProg := [(0, sLdI 1 1),
  (1, sSw 0 [52, 60, 68, 79, 90, 98, 106, 111, 119] 124),
  (52, sLdA 0 1),
  (53, sGet 10 2),
  (56, sCallV 0 0 0),
  (59, sRetI),
  (60, sLdA 0 1),
  (61, sGet 10 3),
  (64, sCallV 16 4 0),
  (67, sRetI),
  (68, sLdA 0 1),
  (69, sGet 10 2),
  (72, sGet 0 0),
  (75, sGet 9 5),
  (78, sRetI),
  (79, sLdA 0 1),
  (80, sGet 10 3),
  (83, sGet 4 0),
  (86, sGet 9 5),
  (89, sRetI),
  (90, sLdA 0 1),
  (91, sGet 10 4),
  (94, sGet 2 3),
  (97, sRetI),
  (98, sLdA 0 1),
  (99, sCallV 56 10 0),
  (102, sCallS 202 1),
  (105, sRetI),
  (106, sLdA 0 1),
  (107, sCallV 87 10 0),
  (110, sRetI),
  (111, sLdA 0 1),
  (112, sGet 10 7),
  (115, sGet 7 3),
  (118, sRetI),
  (119, sLdA 0 1),
  (120, sGet 10 12),
  (123, sRetI),
  (124, sPush (.int (-2)) 2),
  (126, sRetI)]
theorem kX10_count : ∀ q ∈ pX10_count, gSnd RX10 cX10_count 2 none q.1 q.2 := by
  simp only [pX10_count, List.forall_mem_cons]
  exact ⟨gs_iload_n (k := 1) (by decide +kernel) rfl,
    gs_table (dflt := 123) (lo := 0) (hi := 8) (offs := #[51, 59, 67, 78, 89, 97, 105, 110, 118]) (len := 51) (by decide +kernel) (by decide) (by decide) (by decide),
    gs_aload_n (k := 0) (by decide +kernel) rfl,
    gs_get (T := TX10) (N := 13) (Cn := RX10) (by decide +kernel) rfl (by decide) inW10 rfl wd_265,
    gs_callV (by decide +kernel) rfl rfl wd_556 wd_492 wd_490 wd_491 wd_4 mp_0 (by decide),
    gs_iret (by decide +kernel),
    gs_aload_n (k := 0) (by decide +kernel) rfl,
    gs_get (T := TX10) (N := 13) (Cn := RX10) (by decide +kernel) rfl (by decide) inW10 rfl wd_266,
    gs_callV (by decide +kernel) rfl rfl wd_380 wd_383 wd_381 wd_382 wd_7 mp_16 (by decide),
    gs_iret (by decide +kernel),
    gs_aload_n (k := 0) (by decide +kernel) rfl,
    gs_get (T := TX10) (N := 13) (Cn := RX10) (by decide +kernel) rfl (by decide) inW10 rfl wd_265,
    gs_getN (T := TX0) (N := 1) (Cn := RX0) (by decide +kernel) rfl (by decide) inW0 rfl wn_86,
    gs_getN (T := TX9) (N := 8) (Cn := RX9) (by decide +kernel) rfl (by decide) inW9 rfl wn_61,
    gs_iret (by decide +kernel),
    gs_aload_n (k := 0) (by decide +kernel) rfl,
    gs_get (T := TX10) (N := 13) (Cn := RX10) (by decide +kernel) rfl (by decide) inW10 rfl wd_266,
    gs_getN (T := TX4) (N := 1) (Cn := RX4) (by decide +kernel) rfl (by decide) inW4 rfl wn_143,
    gs_getN (T := TX9) (N := 8) (Cn := RX9) (by decide +kernel) rfl (by decide) inW9 rfl wn_61,
    gs_iret (by decide +kernel),
    gs_aload_n (k := 0) (by decide +kernel) rfl,
    gs_get (T := TX10) (N := 13) (Cn := RX10) (by decide +kernel) rfl (by decide) inW10 rfl wd_267,
    gs_getN (T := TX2) (N := 4) (Cn := RX2) (by decide +kernel) rfl (by decide) inW2 rfl wn_200,
    gs_iret (by decide +kernel),
    gs_aload_n (k := 0) (by decide +kernel) rfl,
    gs_callV (by decide +kernel) rfl rfl wd_752 wd_543 wd_541 wd_542 wd_1 mp_56 (by decide),
    gs_callS (by decide +kernel) rfl wd_557 wd_559 wd_558 wd_15 mp_202 (by decide),
    gs_iret (by decide +kernel),
    gs_aload_n (k := 0) (by decide +kernel) rfl,
    gs_callV (by decide +kernel) rfl rfl wd_753 wd_756 wd_755 ws_22 wd_1 mp_87 (by decide),
    gs_iret (by decide +kernel),
    gs_aload_n (k := 0) (by decide +kernel) rfl,
    gs_get (T := TX10) (N := 13) (Cn := RX10) (by decide +kernel) rfl (by decide) inW10 rfl wd_270,
    gs_getN (T := TX7) (N := 4) (Cn := RX7) (by decide +kernel) rfl (by decide) inW7 rfl wn_222,
    gs_iret (by decide +kernel),
    gs_aload_n (k := 0) (by decide +kernel) rfl,
    gs_get (T := TX10) (N := 13) (Cn := RX10) (by decide +kernel) rfl (by decide) inW10 rfl wd_275,
    gs_iret (by decide +kernel),
    gs_bipush (n := -2) (by decide +kernel) (by decide),
    gs_iret (by decide +kernel),
    fun _ h => absurd h List.not_mem_nil⟩
def pX10_digest : gProg := [(0, sLdA 0 1),
  (1, sPush (.long 17) 3),
  (4, sCallV 79 10 1),
  (7, sStL 1 1),
  (8, sLdA 0 1),
  (9, sLdL 1 1),
  (10, sCallV 80 10 1),
  (13, sStL 1 1),
  (14, sLdA 0 1),
  (15, sLdL 1 1),
  (16, sCallV 81 10 1),
  (19, sStL 1 1),
  (20, sPush (.int 0) 1),
  (21, sStI 3 1),
  (22, sLdI 3 1),
  (23, sLdA 0 1),
  (24, sGet 10 2),
  (27, sCallV 0 0 0),
  (30, sCmpge 46),
  (33, sLdA 0 1),
  (34, sLdL 1 1),
  (35, sLdI 3 1),
  (36, sCallV 82 10 2),
  (39, sStL 1 1),
  (40, sInc 3 1),
  (43, sGoto 22),
  (46, sLdA 0 1),
  (47, sLdL 1 1),
  (48, sCallV 84 10 1),
  (51, sStL 1 1),
  (52, sLdA 0 1),
  (53, sLdL 1 1),
  (54, sCallV 85 10 1),
  (57, sStL 1 1),
  (58, sLdA 0 1),
  (59, sLdL 1 1),
  (60, sCallV 86 10 1),
  (63, sRetL)]
theorem kX10_digest : ∀ q ∈ pX10_digest, gSnd RX10 cX10_digest 4 none q.1 q.2 := by
  simp only [pX10_digest, List.forall_mem_cons]
  exact ⟨gs_aload_n (k := 0) (by decide +kernel) rfl,
    gs_ldc2 (by decide +kernel) wd_761,
    gs_callV (by decide +kernel) rfl rfl wd_762 wd_765 wd_764 ws_23 wd_1 mp_79 (by decide),
    gs_lstore_n (k := 1) (by decide +kernel) rfl,
    gs_aload_n (k := 0) (by decide +kernel) rfl,
    gs_lload_n (k := 1) (by decide +kernel) rfl,
    gs_callV (by decide +kernel) rfl rfl wd_769 wd_772 wd_771 ws_24 wd_1 mp_80 (by decide),
    gs_lstore_n (k := 1) (by decide +kernel) rfl,
    gs_aload_n (k := 0) (by decide +kernel) rfl,
    gs_lload_n (k := 1) (by decide +kernel) rfl,
    gs_callV (by decide +kernel) rfl rfl wd_774 wd_777 wd_776 ws_25 wd_1 mp_81 (by decide),
    gs_lstore_n (k := 1) (by decide +kernel) rfl,
    gs_iconst (n := 0) (by decide +kernel) (by decide),
    gs_istore_n (k := 3) (by decide +kernel) rfl,
    gs_iload_n (k := 3) (by decide +kernel) rfl,
    gs_aload_n (k := 0) (by decide +kernel) rfl,
    gs_get (T := TX10) (N := 13) (Cn := RX10) (by decide +kernel) rfl (by decide) inW10 rfl wd_265,
    gs_callV (by decide +kernel) rfl rfl wd_556 wd_492 wd_490 wd_491 wd_4 mp_0 (by decide),
    gs_icmp_ge (off := 16) (by decide +kernel) (by decide),
    gs_aload_n (k := 0) (by decide +kernel) rfl,
    gs_lload_n (k := 1) (by decide +kernel) rfl,
    gs_iload_n (k := 3) (by decide +kernel) rfl,
    gs_callV (by decide +kernel) rfl rfl wd_779 wd_782 wd_781 ws_26 wd_1 mp_82 (by decide),
    gs_lstore_n (k := 1) (by decide +kernel) rfl,
    gs_iinc (n := 1) (by decide +kernel) (by decide),
    gs_goto (off := -21) (by decide +kernel) (by decide),
    gs_aload_n (k := 0) (by decide +kernel) rfl,
    gs_lload_n (k := 1) (by decide +kernel) rfl,
    gs_callV (by decide +kernel) rfl rfl wd_791 wd_794 wd_793 ws_28 wd_1 mp_84 (by decide),
    gs_lstore_n (k := 1) (by decide +kernel) rfl,
    gs_aload_n (k := 0) (by decide +kernel) rfl,
    gs_lload_n (k := 1) (by decide +kernel) rfl,
    gs_callV (by decide +kernel) rfl rfl wd_798 wd_801 wd_800 ws_29 wd_1 mp_85 (by decide),
    gs_lstore_n (k := 1) (by decide +kernel) rfl,
    gs_aload_n (k := 0) (by decide +kernel) rfl,
    gs_lload_n (k := 1) (by decide +kernel) rfl,
    gs_callV (by decide +kernel) rfl rfl wd_806 wd_809 wd_808 ws_30 wd_1 mp_86 (by decide),
    gs_lret (by decide +kernel),
    fun _ h => absurd h List.not_mem_nil⟩
def pX10_digestOfCounts : gProg := [(0, sPush (.int 0) 1),
  (1, sStI 3 1),
  (2, sLdI 3 1),
  (3, sPush (.int 7) 2),
  (5, sCmpgt 27),
  (8, sPush (.long 31) 3),
  (11, sLdL 1 1),
  (12, sLmul),
  (13, sLdA 0 1),
  (14, sLdI 3 1),
  (15, sCallV 77 10 1),
  (18, sI2L),
  (19, sLadd),
  (20, sStL 1 1),
  (21, sInc 3 1),
  (24, sGoto 2),
  (27, sPush (.long 31) 3),
  (30, sLdL 1 1),
  (31, sLmul),
  (32, sLdA 0 1),
  (33, sPush (.int 0) 1),
  (34, sCallV 47 10 1),
  (37, sI2L),
  (38, sLadd),
  (39, sStL 1 1),
  (40, sPush (.long 31) 3),
  (43, sLdL 1 1),
  (44, sLmul),
  (45, sLdA 0 1),
  (46, sPush (.int 1) 1),
  (47, sCallV 47 10 1),
  (50, sI2L),
  (51, sLadd),
  (52, sRetL)]
theorem kX10_digestOfCounts : ∀ q ∈ pX10_digestOfCounts, gSnd RX10 cX10_digestOfCounts 4 none q.1 q.2 := by
  simp only [pX10_digestOfCounts, List.forall_mem_cons]
  exact ⟨gs_iconst (n := 0) (by decide +kernel) (by decide),
    gs_istore_n (k := 3) (by decide +kernel) rfl,
    gs_iload_n (k := 3) (by decide +kernel) rfl,
    gs_bipush (n := 7) (by decide +kernel) (by decide),
    gs_icmp_gt (off := 22) (by decide +kernel) (by decide),
    gs_ldc2 (by decide +kernel) wd_766,
    gs_lload_n (k := 1) (by decide +kernel) rfl,
    gs_lmul (by decide +kernel),
    gs_aload_n (k := 0) (by decide +kernel) rfl,
    gs_iload_n (k := 3) (by decide +kernel) rfl,
    gs_callV (by decide +kernel) rfl rfl wd_767 wd_751 wd_749 wd_750 wd_1 mp_77 (by decide),
    gs_i2l (by decide +kernel),
    gs_ladd (by decide +kernel),
    gs_lstore_n (k := 1) (by decide +kernel) rfl,
    gs_iinc (n := 1) (by decide +kernel) (by decide),
    gs_goto (off := -22) (by decide +kernel) (by decide),
    gs_ldc2 (by decide +kernel) wd_766,
    gs_lload_n (k := 1) (by decide +kernel) rfl,
    gs_lmul (by decide +kernel),
    gs_aload_n (k := 0) (by decide +kernel) rfl,
    gs_iconst (n := 0) (by decide +kernel) (by decide),
    gs_callV (by decide +kernel) rfl rfl wd_768 wd_352 wd_350 wd_351 wd_1 mp_47 (by decide),
    gs_i2l (by decide +kernel),
    gs_ladd (by decide +kernel),
    gs_lstore_n (k := 1) (by decide +kernel) rfl,
    gs_ldc2 (by decide +kernel) wd_766,
    gs_lload_n (k := 1) (by decide +kernel) rfl,
    gs_lmul (by decide +kernel),
    gs_aload_n (k := 0) (by decide +kernel) rfl,
    gs_iconst (n := 1) (by decide +kernel) (by decide),
    gs_callV (by decide +kernel) rfl rfl wd_768 wd_352 wd_350 wd_351 wd_1 mp_47 (by decide),
    gs_i2l (by decide +kernel),
    gs_ladd (by decide +kernel),
    gs_lret (by decide +kernel),
    fun _ h => absurd h List.not_mem_nil⟩
def pX10_digestOfMonths : gProg := [(0, sPush (.int 0) 1),
  (1, sStI 3 1),
  (2, sLdI 3 1),
  (3, sPush (.int 24) 2),
  (5, sCmpge 44),
  (8, sPush (.int 0) 1),
  (9, sStI 4 2),
  (11, sLdI 4 2),
  (13, sPush (.int 2) 1),
  (14, sCmpgt 38),
  (17, sPush (.long 31) 3),
  (20, sLdL 1 1),
  (21, sLmul),
  (22, sLdA 0 1),
  (23, sLdI 3 1),
  (24, sLdI 4 2),
  (26, sCallV 55 10 2),
  (29, sI2L),
  (30, sLadd),
  (31, sStL 1 1),
  (32, sInc 4 1),
  (35, sGoto 11),
  (38, sInc 3 1),
  (41, sGoto 2),
  (44, sLdL 1 1),
  (45, sRetL)]
theorem kX10_digestOfMonths : ∀ q ∈ pX10_digestOfMonths, gSnd RX10 cX10_digestOfMonths 5 none q.1 q.2 := by
  simp only [pX10_digestOfMonths, List.forall_mem_cons]
  exact ⟨gs_iconst (n := 0) (by decide +kernel) (by decide),
    gs_istore_n (k := 3) (by decide +kernel) rfl,
    gs_iload_n (k := 3) (by decide +kernel) rfl,
    gs_bipush (n := 24) (by decide +kernel) (by decide),
    gs_icmp_ge (off := 39) (by decide +kernel) (by decide),
    gs_iconst (n := 0) (by decide +kernel) (by decide),
    gs_istore (by decide +kernel),
    gs_iload (by decide +kernel),
    gs_iconst (n := 2) (by decide +kernel) (by decide),
    gs_icmp_gt (off := 24) (by decide +kernel) (by decide),
    gs_ldc2 (by decide +kernel) wd_766,
    gs_lload_n (k := 1) (by decide +kernel) rfl,
    gs_lmul (by decide +kernel),
    gs_aload_n (k := 0) (by decide +kernel) rfl,
    gs_iload_n (k := 3) (by decide +kernel) rfl,
    gs_iload (by decide +kernel),
    gs_callV (by decide +kernel) rfl rfl wd_773 wd_480 wd_478 wd_479 wd_1 mp_55 (by decide),
    gs_i2l (by decide +kernel),
    gs_ladd (by decide +kernel),
    gs_lstore_n (k := 1) (by decide +kernel) rfl,
    gs_iinc (n := 1) (by decide +kernel) (by decide),
    gs_goto (off := -24) (by decide +kernel) (by decide),
    gs_iinc (n := 1) (by decide +kernel) (by decide),
    gs_goto (off := -39) (by decide +kernel) (by decide),
    gs_lload_n (k := 1) (by decide +kernel) rfl,
    gs_lret (by decide +kernel),
    fun _ h => absurd h List.not_mem_nil⟩
def pX10_digestOfLooks : gProg := [(0, sPush (.int 0) 1),
  (1, sStI 3 1),
  (2, sLdI 3 1),
  (3, sPush (.int 12) 2),
  (5, sCmpge 42),
  (8, sPush (.long 31) 3),
  (11, sLdL 1 1),
  (12, sLmul),
  (13, sLdA 0 1),
  (14, sLdI 3 1),
  (15, sPush (.int 0) 1),
  (16, sCallV 49 10 2),
  (19, sI2L),
  (20, sLadd),
  (21, sStL 1 1),
  (22, sPush (.long 31) 3),
  (25, sLdL 1 1),
  (26, sLmul),
  (27, sLdA 0 1),
  (28, sLdI 3 1),
  (29, sPush (.int 1) 1),
  (30, sCallV 49 10 2),
  (33, sI2L),
  (34, sLadd),
  (35, sStL 1 1),
  (36, sInc 3 1),
  (39, sGoto 2),
  (42, sLdL 1 1),
  (43, sRetL)]
theorem kX10_digestOfLooks : ∀ q ∈ pX10_digestOfLooks, gSnd RX10 cX10_digestOfLooks 4 none q.1 q.2 := by
  simp only [pX10_digestOfLooks, List.forall_mem_cons]
  exact ⟨gs_iconst (n := 0) (by decide +kernel) (by decide),
    gs_istore_n (k := 3) (by decide +kernel) rfl,
    gs_iload_n (k := 3) (by decide +kernel) rfl,
    gs_bipush (n := 12) (by decide +kernel) (by decide),
    gs_icmp_ge (off := 37) (by decide +kernel) (by decide),
    gs_ldc2 (by decide +kernel) wd_766,
    gs_lload_n (k := 1) (by decide +kernel) rfl,
    gs_lmul (by decide +kernel),
    gs_aload_n (k := 0) (by decide +kernel) rfl,
    gs_iload_n (k := 3) (by decide +kernel) rfl,
    gs_iconst (n := 0) (by decide +kernel) (by decide),
    gs_callV (by decide +kernel) rfl rfl wd_778 wd_379 wd_377 wd_378 wd_1 mp_49 (by decide),
    gs_i2l (by decide +kernel),
    gs_ladd (by decide +kernel),
    gs_lstore_n (k := 1) (by decide +kernel) rfl,
    gs_ldc2 (by decide +kernel) wd_766,
    gs_lload_n (k := 1) (by decide +kernel) rfl,
    gs_lmul (by decide +kernel),
    gs_aload_n (k := 0) (by decide +kernel) rfl,
    gs_iload_n (k := 3) (by decide +kernel) rfl,
    gs_iconst (n := 1) (by decide +kernel) (by decide),
    gs_callV (by decide +kernel) rfl rfl wd_778 wd_379 wd_377 wd_378 wd_1 mp_49 (by decide),
    gs_i2l (by decide +kernel),
    gs_ladd (by decide +kernel),
    gs_lstore_n (k := 1) (by decide +kernel) rfl,
    gs_iinc (n := 1) (by decide +kernel) (by decide),
    gs_goto (off := -37) (by decide +kernel) (by decide),
    gs_lload_n (k := 1) (by decide +kernel) rfl,
    gs_lret (by decide +kernel),
    fun _ h => absurd h List.not_mem_nil⟩
def pX10_digestOfBush : gProg := [(0, sPush (.int 0) 1),
  (1, sStI 4 2),
  (3, sLdI 4 2),
  (5, sPush (.int 2) 1),
  (6, sCmpgt 30),
  (9, sPush (.long 31) 3),
  (12, sLdL 1 1),
  (13, sLmul),
  (14, sLdA 0 1),
  (15, sLdI 3 1),
  (16, sLdI 4 2),
  (18, sCallV 48 10 2),
  (21, sI2L),
  (22, sLadd),
  (23, sStL 1 1),
  (24, sInc 4 1),
  (27, sGoto 3),
  (30, sLdA 0 1),
  (31, sLdL 1 1),
  (32, sLdI 3 1),
  (33, sPush (.int 0) 1),
  (34, sCallV 83 10 3),
  (37, sStL 1 1),
  (38, sLdA 0 1),
  (39, sLdL 1 1),
  (40, sLdI 3 1),
  (41, sPush (.int 6) 2),
  (43, sCallV 83 10 3),
  (46, sStL 1 1),
  (47, sLdA 0 1),
  (48, sLdL 1 1),
  (49, sLdI 3 1),
  (50, sPush (.int 13) 2),
  (52, sCallV 83 10 3),
  (55, sStL 1 1),
  (56, sLdA 0 1),
  (57, sLdL 1 1),
  (58, sLdI 3 1),
  (59, sPush (.int 23) 2),
  (61, sCallV 83 10 3),
  (64, sStL 1 1),
  (65, sPush (.long 31) 3),
  (68, sLdL 1 1),
  (69, sLmul),
  (70, sLdA 0 1),
  (71, sLdI 3 1),
  (72, sPush (.int 0) 1),
  (73, sCallV 67 10 2),
  (76, sI2L),
  (77, sLadd),
  (78, sStL 1 1),
  (79, sPush (.long 31) 3),
  (82, sLdL 1 1),
  (83, sLmul),
  (84, sLdA 0 1),
  (85, sLdI 3 1),
  (86, sPush (.int 1) 1),
  (87, sCallV 67 10 2),
  (90, sI2L),
  (91, sLadd),
  (92, sStL 1 1),
  (93, sPush (.long 31) 3),
  (96, sLdL 1 1),
  (97, sLmul),
  (98, sLdA 0 1),
  (99, sLdI 3 1),
  (100, sCallV 68 10 1),
  (103, sI2L),
  (104, sLadd),
  (105, sRetL)]
theorem kX10_digestOfBush : ∀ q ∈ pX10_digestOfBush, gSnd RX10 cX10_digestOfBush 5 none q.1 q.2 := by
  simp only [pX10_digestOfBush, List.forall_mem_cons]
  exact ⟨gs_iconst (n := 0) (by decide +kernel) (by decide),
    gs_istore (by decide +kernel),
    gs_iload (by decide +kernel),
    gs_iconst (n := 2) (by decide +kernel) (by decide),
    gs_icmp_gt (off := 24) (by decide +kernel) (by decide),
    gs_ldc2 (by decide +kernel) wd_766,
    gs_lload_n (k := 1) (by decide +kernel) rfl,
    gs_lmul (by decide +kernel),
    gs_aload_n (k := 0) (by decide +kernel) rfl,
    gs_iload_n (k := 3) (by decide +kernel) rfl,
    gs_iload (by decide +kernel),
    gs_callV (by decide +kernel) rfl rfl wd_783 wd_356 wd_354 wd_355 wd_1 mp_48 (by decide),
    gs_i2l (by decide +kernel),
    gs_ladd (by decide +kernel),
    gs_lstore_n (k := 1) (by decide +kernel) rfl,
    gs_iinc (n := 1) (by decide +kernel) (by decide),
    gs_goto (off := -24) (by decide +kernel) (by decide),
    gs_aload_n (k := 0) (by decide +kernel) rfl,
    gs_lload_n (k := 1) (by decide +kernel) rfl,
    gs_iload_n (k := 3) (by decide +kernel) rfl,
    gs_iconst (n := 0) (by decide +kernel) (by decide),
    gs_callV (by decide +kernel) rfl rfl wd_784 wd_787 wd_786 ws_27 wd_1 mp_83 (by decide),
    gs_lstore_n (k := 1) (by decide +kernel) rfl,
    gs_aload_n (k := 0) (by decide +kernel) rfl,
    gs_lload_n (k := 1) (by decide +kernel) rfl,
    gs_iload_n (k := 3) (by decide +kernel) rfl,
    gs_bipush (n := 6) (by decide +kernel) (by decide),
    gs_callV (by decide +kernel) rfl rfl wd_784 wd_787 wd_786 ws_27 wd_1 mp_83 (by decide),
    gs_lstore_n (k := 1) (by decide +kernel) rfl,
    gs_aload_n (k := 0) (by decide +kernel) rfl,
    gs_lload_n (k := 1) (by decide +kernel) rfl,
    gs_iload_n (k := 3) (by decide +kernel) rfl,
    gs_bipush (n := 13) (by decide +kernel) (by decide),
    gs_callV (by decide +kernel) rfl rfl wd_784 wd_787 wd_786 ws_27 wd_1 mp_83 (by decide),
    gs_lstore_n (k := 1) (by decide +kernel) rfl,
    gs_aload_n (k := 0) (by decide +kernel) rfl,
    gs_lload_n (k := 1) (by decide +kernel) rfl,
    gs_iload_n (k := 3) (by decide +kernel) rfl,
    gs_bipush (n := 23) (by decide +kernel) (by decide),
    gs_callV (by decide +kernel) rfl rfl wd_784 wd_787 wd_786 ws_27 wd_1 mp_83 (by decide),
    gs_lstore_n (k := 1) (by decide +kernel) rfl,
    gs_ldc2 (by decide +kernel) wd_766,
    gs_lload_n (k := 1) (by decide +kernel) rfl,
    gs_lmul (by decide +kernel),
    gs_aload_n (k := 0) (by decide +kernel) rfl,
    gs_iload_n (k := 3) (by decide +kernel) rfl,
    gs_iconst (n := 0) (by decide +kernel) (by decide),
    gs_callV (by decide +kernel) rfl rfl wd_789 wd_631 wd_629 wd_630 wd_1 mp_67 (by decide),
    gs_i2l (by decide +kernel),
    gs_ladd (by decide +kernel),
    gs_lstore_n (k := 1) (by decide +kernel) rfl,
    gs_ldc2 (by decide +kernel) wd_766,
    gs_lload_n (k := 1) (by decide +kernel) rfl,
    gs_lmul (by decide +kernel),
    gs_aload_n (k := 0) (by decide +kernel) rfl,
    gs_iload_n (k := 3) (by decide +kernel) rfl,
    gs_iconst (n := 1) (by decide +kernel) (by decide),
    gs_callV (by decide +kernel) rfl rfl wd_789 wd_631 wd_629 wd_630 wd_1 mp_67 (by decide),
    gs_i2l (by decide +kernel),
    gs_ladd (by decide +kernel),
    gs_lstore_n (k := 1) (by decide +kernel) rfl,
    gs_ldc2 (by decide +kernel) wd_766,
    gs_lload_n (k := 1) (by decide +kernel) rfl,
    gs_lmul (by decide +kernel),
    gs_aload_n (k := 0) (by decide +kernel) rfl,
    gs_iload_n (k := 3) (by decide +kernel) rfl,
    gs_callV (by decide +kernel) rfl rfl wd_790 wd_644 wd_642 wd_643 wd_1 mp_68 (by decide),
    gs_i2l (by decide +kernel),
    gs_ladd (by decide +kernel),
    gs_lret (by decide +kernel),
    fun _ h => absurd h List.not_mem_nil⟩
def pX10_digestOfBushIn : gProg := [(0, sPush (.int 0) 1),
  (1, sStI 5 2),
  (3, sLdI 5 2),
  (5, sPush (.int 2) 1),
  (6, sCmpgt 32),
  (9, sPush (.long 31) 3),
  (12, sLdL 1 1),
  (13, sLmul),
  (14, sLdA 0 1),
  (15, sLdI 4 2),
  (17, sLdI 3 1),
  (18, sLdI 5 2),
  (20, sCallV 54 10 3),
  (23, sI2L),
  (24, sLadd),
  (25, sStL 1 1),
  (26, sInc 5 1),
  (29, sGoto 3),
  (32, sLdL 1 1),
  (33, sRetL)]
theorem kX10_digestOfBushIn : ∀ q ∈ pX10_digestOfBushIn, gSnd RX10 cX10_digestOfBushIn 6 none q.1 q.2 := by
  simp only [pX10_digestOfBushIn, List.forall_mem_cons]
  exact ⟨gs_iconst (n := 0) (by decide +kernel) (by decide),
    gs_istore (by decide +kernel),
    gs_iload (by decide +kernel),
    gs_iconst (n := 2) (by decide +kernel) (by decide),
    gs_icmp_gt (off := 26) (by decide +kernel) (by decide),
    gs_ldc2 (by decide +kernel) wd_766,
    gs_lload_n (k := 1) (by decide +kernel) rfl,
    gs_lmul (by decide +kernel),
    gs_aload_n (k := 0) (by decide +kernel) rfl,
    gs_iload (by decide +kernel),
    gs_iload_n (k := 3) (by decide +kernel) rfl,
    gs_iload (by decide +kernel),
    gs_callV (by decide +kernel) rfl rfl wd_788 wd_448 wd_446 wd_447 wd_1 mp_54 (by decide),
    gs_i2l (by decide +kernel),
    gs_ladd (by decide +kernel),
    gs_lstore_n (k := 1) (by decide +kernel) rfl,
    gs_iinc (n := 1) (by decide +kernel) (by decide),
    gs_goto (off := -26) (by decide +kernel) (by decide),
    gs_lload_n (k := 1) (by decide +kernel) rfl,
    gs_lret (by decide +kernel),
    fun _ h => absurd h List.not_mem_nil⟩
def pX10_digestOfHill : gProg := [(0, sPush (.long 31) 3),
  (3, sLdL 1 1),
  (4, sLmul),
  (5, sLdA 0 1),
  (6, sCallV 56 10 0),
  (9, sI2L),
  (10, sLadd),
  (11, sStL 1 1),
  (12, sPush (.long 31) 3),
  (15, sLdL 1 1),
  (16, sLmul),
  (17, sLdA 0 1),
  (18, sCallV 57 10 0),
  (21, sI2L),
  (22, sLadd),
  (23, sStL 1 1),
  (24, sPush (.long 31) 3),
  (27, sLdL 1 1),
  (28, sLmul),
  (29, sLdA 0 1),
  (30, sCallV 58 10 0),
  (33, sI2L),
  (34, sLadd),
  (35, sStL 1 1),
  (36, sPush (.long 31) 3),
  (39, sLdL 1 1),
  (40, sLmul),
  (41, sLdA 0 1),
  (42, sPush (.int 0) 1),
  (43, sCallV 59 10 1),
  (46, sI2L),
  (47, sLadd),
  (48, sStL 1 1),
  (49, sPush (.long 31) 3),
  (52, sLdL 1 1),
  (53, sLmul),
  (54, sLdA 0 1),
  (55, sPush (.int 1) 1),
  (56, sCallV 59 10 1),
  (59, sI2L),
  (60, sLadd),
  (61, sRetL)]
theorem kX10_digestOfHill : ∀ q ∈ pX10_digestOfHill, gSnd RX10 cX10_digestOfHill 3 none q.1 q.2 := by
  simp only [pX10_digestOfHill, List.forall_mem_cons]
  exact ⟨gs_ldc2 (by decide +kernel) wd_766,
    gs_lload_n (k := 1) (by decide +kernel) rfl,
    gs_lmul (by decide +kernel),
    gs_aload_n (k := 0) (by decide +kernel) rfl,
    gs_callV (by decide +kernel) rfl rfl wd_752 wd_543 wd_541 wd_542 wd_1 mp_56 (by decide),
    gs_i2l (by decide +kernel),
    gs_ladd (by decide +kernel),
    gs_lstore_n (k := 1) (by decide +kernel) rfl,
    gs_ldc2 (by decide +kernel) wd_766,
    gs_lload_n (k := 1) (by decide +kernel) rfl,
    gs_lmul (by decide +kernel),
    gs_aload_n (k := 0) (by decide +kernel) rfl,
    gs_callV (by decide +kernel) rfl rfl wd_795 wd_547 wd_545 wd_546 wd_1 mp_57 (by decide),
    gs_i2l (by decide +kernel),
    gs_ladd (by decide +kernel),
    gs_lstore_n (k := 1) (by decide +kernel) rfl,
    gs_ldc2 (by decide +kernel) wd_766,
    gs_lload_n (k := 1) (by decide +kernel) rfl,
    gs_lmul (by decide +kernel),
    gs_aload_n (k := 0) (by decide +kernel) rfl,
    gs_callV (by decide +kernel) rfl rfl wd_796 wd_551 wd_549 wd_550 wd_1 mp_58 (by decide),
    gs_i2l (by decide +kernel),
    gs_ladd (by decide +kernel),
    gs_lstore_n (k := 1) (by decide +kernel) rfl,
    gs_ldc2 (by decide +kernel) wd_766,
    gs_lload_n (k := 1) (by decide +kernel) rfl,
    gs_lmul (by decide +kernel),
    gs_aload_n (k := 0) (by decide +kernel) rfl,
    gs_iconst (n := 0) (by decide +kernel) (by decide),
    gs_callV (by decide +kernel) rfl rfl wd_797 wd_555 wd_553 wd_554 wd_1 mp_59 (by decide),
    gs_i2l (by decide +kernel),
    gs_ladd (by decide +kernel),
    gs_lstore_n (k := 1) (by decide +kernel) rfl,
    gs_ldc2 (by decide +kernel) wd_766,
    gs_lload_n (k := 1) (by decide +kernel) rfl,
    gs_lmul (by decide +kernel),
    gs_aload_n (k := 0) (by decide +kernel) rfl,
    gs_iconst (n := 1) (by decide +kernel) (by decide),
    gs_callV (by decide +kernel) rfl rfl wd_797 wd_555 wd_553 wd_554 wd_1 mp_59 (by decide),
    gs_i2l (by decide +kernel),
    gs_ladd (by decide +kernel),
    gs_lret (by decide +kernel),
    fun _ h => absurd h List.not_mem_nil⟩
def pX10_digestOfPlans : gProg := [(0, sPush (.int 0) 1),
  (1, sStI 3 1),
  (2, sLdI 3 1),
  (3, sPush (.int 2) 1),
  (4, sCmpgt 26),
  (7, sPush (.long 31) 3),
  (10, sLdL 1 1),
  (11, sLmul),
  (12, sLdA 0 1),
  (13, sLdI 3 1),
  (14, sCallV 60 10 1),
  (17, sI2L),
  (18, sLadd),
  (19, sStL 1 1),
  (20, sInc 3 1),
  (23, sGoto 2),
  (26, sPush (.int 0) 1),
  (27, sStI 3 1),
  (28, sLdI 3 1),
  (29, sPush (.int 2) 1),
  (30, sCmpgt 52),
  (33, sPush (.long 31) 3),
  (36, sLdL 1 1),
  (37, sLmul),
  (38, sLdA 0 1),
  (39, sLdI 3 1),
  (40, sCallV 61 10 1),
  (43, sI2L),
  (44, sLadd),
  (45, sStL 1 1),
  (46, sInc 3 1),
  (49, sGoto 28),
  (52, sPush (.long 31) 3),
  (55, sLdL 1 1),
  (56, sLmul),
  (57, sLdA 0 1),
  (58, sPush (.int (-1)) 1),
  (59, sCallV 62 10 1),
  (62, sI2L),
  (63, sLadd),
  (64, sStL 1 1),
  (65, sPush (.long 31) 3),
  (68, sLdL 1 1),
  (69, sLmul),
  (70, sLdA 0 1),
  (71, sPush (.int 0) 1),
  (72, sCallV 62 10 1),
  (75, sI2L),
  (76, sLadd),
  (77, sStL 1 1),
  (78, sPush (.int 0) 1),
  (79, sStI 3 1),
  (80, sLdI 3 1),
  (81, sPush (.int 2) 1),
  (82, sCmpgt 104),
  (85, sPush (.long 31) 3),
  (88, sLdL 1 1),
  (89, sLmul),
  (90, sLdA 0 1),
  (91, sLdI 3 1),
  (92, sCallV 63 10 1),
  (95, sI2L),
  (96, sLadd),
  (97, sStL 1 1),
  (98, sInc 3 1),
  (101, sGoto 80),
  (104, sLdL 1 1),
  (105, sRetL)]
theorem kX10_digestOfPlans : ∀ q ∈ pX10_digestOfPlans, gSnd RX10 cX10_digestOfPlans 4 none q.1 q.2 := by
  simp only [pX10_digestOfPlans, List.forall_mem_cons]
  exact ⟨gs_iconst (n := 0) (by decide +kernel) (by decide),
    gs_istore_n (k := 3) (by decide +kernel) rfl,
    gs_iload_n (k := 3) (by decide +kernel) rfl,
    gs_iconst (n := 2) (by decide +kernel) (by decide),
    gs_icmp_gt (off := 22) (by decide +kernel) (by decide),
    gs_ldc2 (by decide +kernel) wd_766,
    gs_lload_n (k := 1) (by decide +kernel) rfl,
    gs_lmul (by decide +kernel),
    gs_aload_n (k := 0) (by decide +kernel) rfl,
    gs_iload_n (k := 3) (by decide +kernel) rfl,
    gs_callV (by decide +kernel) rfl rfl wd_802 wd_566 wd_564 wd_565 wd_1 mp_60 (by decide),
    gs_i2l (by decide +kernel),
    gs_ladd (by decide +kernel),
    gs_lstore_n (k := 1) (by decide +kernel) rfl,
    gs_iinc (n := 1) (by decide +kernel) (by decide),
    gs_goto (off := -21) (by decide +kernel) (by decide),
    gs_iconst (n := 0) (by decide +kernel) (by decide),
    gs_istore_n (k := 3) (by decide +kernel) rfl,
    gs_iload_n (k := 3) (by decide +kernel) rfl,
    gs_iconst (n := 2) (by decide +kernel) (by decide),
    gs_icmp_gt (off := 22) (by decide +kernel) (by decide),
    gs_ldc2 (by decide +kernel) wd_766,
    gs_lload_n (k := 1) (by decide +kernel) rfl,
    gs_lmul (by decide +kernel),
    gs_aload_n (k := 0) (by decide +kernel) rfl,
    gs_iload_n (k := 3) (by decide +kernel) rfl,
    gs_callV (by decide +kernel) rfl rfl wd_803 wd_574 wd_572 wd_573 wd_1 mp_61 (by decide),
    gs_i2l (by decide +kernel),
    gs_ladd (by decide +kernel),
    gs_lstore_n (k := 1) (by decide +kernel) rfl,
    gs_iinc (n := 1) (by decide +kernel) (by decide),
    gs_goto (off := -21) (by decide +kernel) (by decide),
    gs_ldc2 (by decide +kernel) wd_766,
    gs_lload_n (k := 1) (by decide +kernel) rfl,
    gs_lmul (by decide +kernel),
    gs_aload_n (k := 0) (by decide +kernel) rfl,
    gs_iconst (n := -1) (by decide +kernel) (by decide),
    gs_callV (by decide +kernel) rfl rfl wd_804 wd_586 wd_584 wd_585 wd_1 mp_62 (by decide),
    gs_i2l (by decide +kernel),
    gs_ladd (by decide +kernel),
    gs_lstore_n (k := 1) (by decide +kernel) rfl,
    gs_ldc2 (by decide +kernel) wd_766,
    gs_lload_n (k := 1) (by decide +kernel) rfl,
    gs_lmul (by decide +kernel),
    gs_aload_n (k := 0) (by decide +kernel) rfl,
    gs_iconst (n := 0) (by decide +kernel) (by decide),
    gs_callV (by decide +kernel) rfl rfl wd_804 wd_586 wd_584 wd_585 wd_1 mp_62 (by decide),
    gs_i2l (by decide +kernel),
    gs_ladd (by decide +kernel),
    gs_lstore_n (k := 1) (by decide +kernel) rfl,
    gs_iconst (n := 0) (by decide +kernel) (by decide),
    gs_istore_n (k := 3) (by decide +kernel) rfl,
    gs_iload_n (k := 3) (by decide +kernel) rfl,
    gs_iconst (n := 2) (by decide +kernel) (by decide),
    gs_icmp_gt (off := 22) (by decide +kernel) (by decide),
    gs_ldc2 (by decide +kernel) wd_766,
    gs_lload_n (k := 1) (by decide +kernel) rfl,
    gs_lmul (by decide +kernel),
    gs_aload_n (k := 0) (by decide +kernel) rfl,
    gs_iload_n (k := 3) (by decide +kernel) rfl,
    gs_callV (by decide +kernel) rfl rfl wd_805 wd_597 wd_595 wd_596 wd_1 mp_63 (by decide),
    gs_i2l (by decide +kernel),
    gs_ladd (by decide +kernel),
    gs_lstore_n (k := 1) (by decide +kernel) rfl,
    gs_iinc (n := 1) (by decide +kernel) (by decide),
    gs_goto (off := -21) (by decide +kernel) (by decide),
    gs_lload_n (k := 1) (by decide +kernel) rfl,
    gs_lret (by decide +kernel),
    fun _ h => absurd h List.not_mem_nil⟩
def pX10_digestOfLuck : gProg := [(0, sPush (.long 31) 3),
  (3, sLdL 1 1),
  (4, sLmul),
  (5, sLdA 0 1),
  (6, sCallV 66 10 0),
  (9, sI2L),
  (10, sLadd),
  (11, sStL 1 1),
  (12, sPush (.long 31) 3),
  (15, sLdL 1 1),
  (16, sLmul),
  (17, sLdA 0 1),
  (18, sPush (.int 5) 1),
  (19, sPush (.int 6) 2),
  (21, sPush (.int 0) 1),
  (22, sCallV 69 10 3),
  (25, sLadd),
  (26, sStL 1 1),
  (27, sPush (.long 31) 3),
  (30, sLdL 1 1),
  (31, sLmul),
  (32, sLdA 0 1),
  (33, sPush (.int 5) 1),
  (34, sPush (.int 6) 2),
  (36, sPush (.int 1) 1),
  (37, sCallV 69 10 3),
  (40, sLadd),
  (41, sStL 1 1),
  (42, sPush (.long 31) 3),
  (45, sLdL 1 1),
  (46, sLmul),
  (47, sLdA 0 1),
  (48, sPush (.int 5) 1),
  (49, sPush (.int 13) 2),
  (51, sPush (.int 0) 1),
  (52, sCallV 69 10 3),
  (55, sLadd),
  (56, sStL 1 1),
  (57, sPush (.long 31) 3),
  (60, sLdL 1 1),
  (61, sLmul),
  (62, sLdA 0 1),
  (63, sPush (.int 5) 1),
  (64, sPush (.int 13) 2),
  (66, sPush (.int 1) 1),
  (67, sCallV 69 10 3),
  (70, sLadd),
  (71, sStL 1 1),
  (72, sPush (.long 31) 3),
  (75, sLdL 1 1),
  (76, sLmul),
  (77, sLdA 0 1),
  (78, sPush (.int 7) 2),
  (80, sPush (.int 6) 2),
  (82, sPush (.int 0) 1),
  (83, sCallV 70 10 3),
  (86, sI2L),
  (87, sLadd),
  (88, sStL 1 1),
  (89, sPush (.long 31) 3),
  (92, sLdL 1 1),
  (93, sLmul),
  (94, sLdA 0 1),
  (95, sPush (.int 7) 2),
  (97, sPush (.int 6) 2),
  (99, sPush (.int 1) 1),
  (100, sCallV 70 10 3),
  (103, sI2L),
  (104, sLadd),
  (105, sRetL)]
theorem kX10_digestOfLuck : ∀ q ∈ pX10_digestOfLuck, gSnd RX10 cX10_digestOfLuck 3 none q.1 q.2 := by
  simp only [pX10_digestOfLuck, List.forall_mem_cons]
  exact ⟨gs_ldc2 (by decide +kernel) wd_766,
    gs_lload_n (k := 1) (by decide +kernel) rfl,
    gs_lmul (by decide +kernel),
    gs_aload_n (k := 0) (by decide +kernel) rfl,
    gs_callV (by decide +kernel) rfl rfl wd_810 wd_621 wd_619 wd_620 wd_1 mp_66 (by decide),
    gs_i2l (by decide +kernel),
    gs_ladd (by decide +kernel),
    gs_lstore_n (k := 1) (by decide +kernel) rfl,
    gs_ldc2 (by decide +kernel) wd_766,
    gs_lload_n (k := 1) (by decide +kernel) rfl,
    gs_lmul (by decide +kernel),
    gs_aload_n (k := 0) (by decide +kernel) rfl,
    gs_iconst (n := 5) (by decide +kernel) (by decide),
    gs_bipush (n := 6) (by decide +kernel) (by decide),
    gs_iconst (n := 0) (by decide +kernel) (by decide),
    gs_callV (by decide +kernel) rfl rfl wd_811 wd_654 wd_652 wd_653 wd_1 mp_69 (by decide),
    gs_ladd (by decide +kernel),
    gs_lstore_n (k := 1) (by decide +kernel) rfl,
    gs_ldc2 (by decide +kernel) wd_766,
    gs_lload_n (k := 1) (by decide +kernel) rfl,
    gs_lmul (by decide +kernel),
    gs_aload_n (k := 0) (by decide +kernel) rfl,
    gs_iconst (n := 5) (by decide +kernel) (by decide),
    gs_bipush (n := 6) (by decide +kernel) (by decide),
    gs_iconst (n := 1) (by decide +kernel) (by decide),
    gs_callV (by decide +kernel) rfl rfl wd_811 wd_654 wd_652 wd_653 wd_1 mp_69 (by decide),
    gs_ladd (by decide +kernel),
    gs_lstore_n (k := 1) (by decide +kernel) rfl,
    gs_ldc2 (by decide +kernel) wd_766,
    gs_lload_n (k := 1) (by decide +kernel) rfl,
    gs_lmul (by decide +kernel),
    gs_aload_n (k := 0) (by decide +kernel) rfl,
    gs_iconst (n := 5) (by decide +kernel) (by decide),
    gs_bipush (n := 13) (by decide +kernel) (by decide),
    gs_iconst (n := 0) (by decide +kernel) (by decide),
    gs_callV (by decide +kernel) rfl rfl wd_811 wd_654 wd_652 wd_653 wd_1 mp_69 (by decide),
    gs_ladd (by decide +kernel),
    gs_lstore_n (k := 1) (by decide +kernel) rfl,
    gs_ldc2 (by decide +kernel) wd_766,
    gs_lload_n (k := 1) (by decide +kernel) rfl,
    gs_lmul (by decide +kernel),
    gs_aload_n (k := 0) (by decide +kernel) rfl,
    gs_iconst (n := 5) (by decide +kernel) (by decide),
    gs_bipush (n := 13) (by decide +kernel) (by decide),
    gs_iconst (n := 1) (by decide +kernel) (by decide),
    gs_callV (by decide +kernel) rfl rfl wd_811 wd_654 wd_652 wd_653 wd_1 mp_69 (by decide),
    gs_ladd (by decide +kernel),
    gs_lstore_n (k := 1) (by decide +kernel) rfl,
    gs_ldc2 (by decide +kernel) wd_766,
    gs_lload_n (k := 1) (by decide +kernel) rfl,
    gs_lmul (by decide +kernel),
    gs_aload_n (k := 0) (by decide +kernel) rfl,
    gs_bipush (n := 7) (by decide +kernel) (by decide),
    gs_bipush (n := 6) (by decide +kernel) (by decide),
    gs_iconst (n := 0) (by decide +kernel) (by decide),
    gs_callV (by decide +kernel) rfl rfl wd_812 wd_681 wd_679 wd_680 wd_1 mp_70 (by decide),
    gs_i2l (by decide +kernel),
    gs_ladd (by decide +kernel),
    gs_lstore_n (k := 1) (by decide +kernel) rfl,
    gs_ldc2 (by decide +kernel) wd_766,
    gs_lload_n (k := 1) (by decide +kernel) rfl,
    gs_lmul (by decide +kernel),
    gs_aload_n (k := 0) (by decide +kernel) rfl,
    gs_bipush (n := 7) (by decide +kernel) (by decide),
    gs_bipush (n := 6) (by decide +kernel) (by decide),
    gs_iconst (n := 1) (by decide +kernel) (by decide),
    gs_callV (by decide +kernel) rfl rfl wd_812 wd_681 wd_679 wd_680 wd_1 mp_70 (by decide),
    gs_i2l (by decide +kernel),
    gs_ladd (by decide +kernel),
    gs_lret (by decide +kernel),
    fun _ h => absurd h List.not_mem_nil⟩
def pX10_allYellow : gProg := [(0, sLdA 0 1),
  (1, sGet 10 1),
  (4, sLdA 0 1),
  (5, sGet 10 4),
  (8, sPush (.int 0) 1),
  (9, sCallV 13 3 2),
  (12, sPop),
  (13, sPush (.int 0) 1),
  (14, sStI 1 1),
  (15, sPush (.int 0) 1),
  (16, sStI 2 1),
  (17, sLdI 2 1),
  (18, sPush (.int 24) 2),
  (20, sCmpge 40),
  (23, sLdI 1 1),
  (24, sLdA 0 1),
  (25, sGet 10 1),
  (28, sLdI 2 1),
  (29, sCallV 14 3 1),
  (32, sIadd),
  (33, sStI 1 1),
  (34, sInc 2 1),
  (37, sGoto 17),
  (40, sLdI 1 1),
  (41, sRetI)]
theorem kX10_allYellow : ∀ q ∈ pX10_allYellow, gSnd RX10 cX10_allYellow 3 none q.1 q.2 := by
  simp only [pX10_allYellow, List.forall_mem_cons]
  exact ⟨gs_aload_n (k := 0) (by decide +kernel) rfl,
    gs_get (T := TX10) (N := 13) (Cn := RX10) (by decide +kernel) rfl (by decide) inW10 rfl wd_264,
    gs_aload_n (k := 0) (by decide +kernel) rfl,
    gs_get (T := TX10) (N := 13) (Cn := RX10) (by decide +kernel) rfl (by decide) inW10 rfl wd_267,
    gs_iconst (n := 0) (by decide +kernel) (by decide),
    gs_callV (by decide +kernel) rfl rfl wd_529 wd_488 wd_486 wd_487 wd_3 mp_13 (by decide),
    gs_pop (by decide +kernel),
    gs_iconst (n := 0) (by decide +kernel) (by decide),
    gs_istore_n (k := 1) (by decide +kernel) rfl,
    gs_iconst (n := 0) (by decide +kernel) (by decide),
    gs_istore_n (k := 2) (by decide +kernel) rfl,
    gs_iload_n (k := 2) (by decide +kernel) rfl,
    gs_bipush (n := 24) (by decide +kernel) (by decide),
    gs_icmp_ge (off := 20) (by decide +kernel) (by decide),
    gs_iload_n (k := 1) (by decide +kernel) rfl,
    gs_aload_n (k := 0) (by decide +kernel) rfl,
    gs_get (T := TX10) (N := 13) (Cn := RX10) (by decide +kernel) rfl (by decide) inW10 rfl wd_264,
    gs_iload_n (k := 2) (by decide +kernel) rfl,
    gs_callV (by decide +kernel) rfl rfl wd_530 wd_533 wd_531 wd_532 wd_3 mp_14 (by decide),
    gs_iadd (by decide +kernel),
    gs_istore_n (k := 1) (by decide +kernel) rfl,
    gs_iinc (n := 1) (by decide +kernel) (by decide),
    gs_goto (off := -20) (by decide +kernel) (by decide),
    gs_iload_n (k := 1) (by decide +kernel) rfl,
    gs_iret (by decide +kernel),
    fun _ h => absurd h List.not_mem_nil⟩
def pX10_bareIfPlanted : gProg := [(0, sLdA 0 1),
  (1, sGet 10 6),
  (4, sLdA 0 1),
  (5, sGet 10 4),
  (8, sPush (.int 0) 1),
  (9, sPush (.int (-1)) 1),
  (10, sLdI 2 1),
  (11, sLdI 3 1),
  (12, sCallV 5 1 5),
  (15, sLdI 1 1),
  (16, sLdA 0 1),
  (17, sGet 10 6),
  (20, sGet 1 2),
  (23, sPush (.int (-1)) 1),
  (24, sIxor),
  (25, sIand),
  (26, sCallS 202 1),
  (29, sRetI)]
theorem kX10_bareIfPlanted : ∀ q ∈ pX10_bareIfPlanted, gSnd RX10 cX10_bareIfPlanted 4 none q.1 q.2 := by
  simp only [pX10_bareIfPlanted, List.forall_mem_cons]
  exact ⟨gs_aload_n (k := 0) (by decide +kernel) rfl,
    gs_get (T := TX10) (N := 13) (Cn := RX10) (by decide +kernel) rfl (by decide) inW10 rfl wd_269,
    gs_aload_n (k := 0) (by decide +kernel) rfl,
    gs_get (T := TX10) (N := 13) (Cn := RX10) (by decide +kernel) rfl (by decide) inW10 rfl wd_267,
    gs_iconst (n := 0) (by decide +kernel) (by decide),
    gs_iconst (n := -1) (by decide +kernel) (by decide),
    gs_iload_n (k := 2) (by decide +kernel) rfl,
    gs_iload_n (k := 3) (by decide +kernel) rfl,
    gs_callV (by decide +kernel) rfl rfl wd_449 wd_452 wd_450 wd_451 wd_6 mp_5 (by decide),
    gs_iload_n (k := 1) (by decide +kernel) rfl,
    gs_aload_n (k := 0) (by decide +kernel) rfl,
    gs_get (T := TX10) (N := 13) (Cn := RX10) (by decide +kernel) rfl (by decide) inW10 rfl wd_269,
    gs_getN (T := TX1) (N := 4) (Cn := RX1) (by decide +kernel) rfl (by decide) inW1 rfl wn_103,
    gs_iconst (n := -1) (by decide +kernel) (by decide),
    gs_ixor (by decide +kernel),
    gs_iand (by decide +kernel),
    gs_callS (by decide +kernel) rfl wd_557 wd_559 wd_558 wd_15 mp_202 (by decide),
    gs_iret (by decide +kernel),
    fun _ h => absurd h List.not_mem_nil⟩
def pX10_bestSend : gProg := [(0, sPush (.int 0) 1),
  (1, sStI 1 1),
  (2, sPush (.int (-1)) 1),
  (3, sStI 2 1),
  (4, sPush (.int 0) 1),
  (5, sStI 3 1),
  (6, sLdI 3 1),
  (7, sPush (.int 24) 2),
  (9, sCmpge 82),
  (12, sPush (.int 0) 1),
  (13, sStI 4 2),
  (15, sLdI 4 2),
  (17, sLdA 0 1),
  (18, sGet 10 2),
  (21, sCallV 0 0 0),
  (24, sCmpge 76),
  (27, sLdA 0 1),
  (28, sGet 10 0),
  (31, sLdI 3 1),
  (32, sLdI 4 2),
  (34, sCallV 22 6 2),
  (37, sStI 5 2),
  (39, sLdI 5 2),
  (41, sPush (.int (-1)) 1),
  (42, sCmpne 53),
  (45, sLdI 3 1),
  (46, sPush (.int 10) 2),
  (48, sImul),
  (49, sLdI 4 2),
  (51, sIadd),
  (52, sRetI),
  (53, sLdI 5 2),
  (55, sLdI 2 1),
  (56, sCmple 70),
  (59, sLdI 3 1),
  (60, sPush (.int 10) 2),
  (62, sImul),
  (63, sLdI 4 2),
  (65, sIadd),
  (66, sStI 1 1),
  (67, sLdI 5 2),
  (69, sStI 2 1),
  (70, sInc 4 1),
  (73, sGoto 15),
  (76, sInc 3 1),
  (79, sGoto 6),
  (82, sLdI 1 1),
  (83, sRetI)]
theorem kX10_bestSend : ∀ q ∈ pX10_bestSend, gSnd RX10 cX10_bestSend 6 none q.1 q.2 := by
  simp only [pX10_bestSend, List.forall_mem_cons]
  exact ⟨gs_iconst (n := 0) (by decide +kernel) (by decide),
    gs_istore_n (k := 1) (by decide +kernel) rfl,
    gs_iconst (n := -1) (by decide +kernel) (by decide),
    gs_istore_n (k := 2) (by decide +kernel) rfl,
    gs_iconst (n := 0) (by decide +kernel) (by decide),
    gs_istore_n (k := 3) (by decide +kernel) rfl,
    gs_iload_n (k := 3) (by decide +kernel) rfl,
    gs_bipush (n := 24) (by decide +kernel) (by decide),
    gs_icmp_ge (off := 73) (by decide +kernel) (by decide),
    gs_iconst (n := 0) (by decide +kernel) (by decide),
    gs_istore (by decide +kernel),
    gs_iload (by decide +kernel),
    gs_aload_n (k := 0) (by decide +kernel) rfl,
    gs_get (T := TX10) (N := 13) (Cn := RX10) (by decide +kernel) rfl (by decide) inW10 rfl wd_265,
    gs_callV (by decide +kernel) rfl rfl wd_556 wd_492 wd_490 wd_491 wd_4 mp_0 (by decide),
    gs_icmp_ge (off := 52) (by decide +kernel) (by decide),
    gs_aload_n (k := 0) (by decide +kernel) rfl,
    gs_get (T := TX10) (N := 13) (Cn := RX10) (by decide +kernel) rfl (by decide) inW10 rfl wd_263,
    gs_iload_n (k := 3) (by decide +kernel) rfl,
    gs_iload (by decide +kernel),
    gs_callV (by decide +kernel) rfl rfl wd_579 wd_582 wd_580 wd_581 wd_2 mp_22 (by decide),
    gs_istore (by decide +kernel),
    gs_iload (by decide +kernel),
    gs_iconst (n := -1) (by decide +kernel) (by decide),
    gs_icmp_ne (off := 11) (by decide +kernel) (by decide),
    gs_iload_n (k := 3) (by decide +kernel) rfl,
    gs_bipush (n := 10) (by decide +kernel) (by decide),
    gs_imul (by decide +kernel),
    gs_iload (by decide +kernel),
    gs_iadd (by decide +kernel),
    gs_iret (by decide +kernel),
    gs_iload (by decide +kernel),
    gs_iload_n (k := 2) (by decide +kernel) rfl,
    gs_icmp_le (off := 14) (by decide +kernel) (by decide),
    gs_iload_n (k := 3) (by decide +kernel) rfl,
    gs_bipush (n := 10) (by decide +kernel) (by decide),
    gs_imul (by decide +kernel),
    gs_iload (by decide +kernel),
    gs_iadd (by decide +kernel),
    gs_istore_n (k := 1) (by decide +kernel) rfl,
    gs_iload (by decide +kernel),
    gs_istore_n (k := 2) (by decide +kernel) rfl,
    gs_iinc (n := 1) (by decide +kernel) (by decide),
    gs_goto (off := -58) (by decide +kernel) (by decide),
    gs_iinc (n := 1) (by decide +kernel) (by decide),
    gs_goto (off := -73) (by decide +kernel) (by decide),
    gs_iload_n (k := 1) (by decide +kernel) rfl,
    gs_iret (by decide +kernel),
    fun _ h => absurd h List.not_mem_nil⟩
def pX10_bestDeal : gProg := [(0, sPush (.int 0) 1),
  (1, sStI 1 1),
  (2, sPush (.int 0) 1),
  (3, sStI 2 1),
  (4, sPush (.int 0) 1),
  (5, sStI 3 1),
  (6, sLdI 3 1),
  (7, sPush (.int 24) 2),
  (9, sCmpge 73),
  (12, sLdI 3 1),
  (13, sStI 4 2),
  (15, sLdI 4 2),
  (17, sPush (.int 24) 2),
  (19, sCmpge 67),
  (22, sLdA 0 1),
  (23, sGet 10 0),
  (26, sGet 6 5),
  (29, sLdI 4 2),
  (31, sIald),
  (32, sLdA 0 1),
  (33, sGet 10 0),
  (36, sGet 6 5),
  (39, sLdI 3 1),
  (40, sIald),
  (41, sIsub),
  (42, sStI 5 2),
  (44, sLdI 5 2),
  (46, sLdI 2 1),
  (47, sCmple 61),
  (50, sLdI 3 1),
  (51, sPush (.int 24) 2),
  (53, sImul),
  (54, sLdI 4 2),
  (56, sIadd),
  (57, sStI 1 1),
  (58, sLdI 5 2),
  (60, sStI 2 1),
  (61, sInc 4 1),
  (64, sGoto 15),
  (67, sInc 3 1),
  (70, sGoto 6),
  (73, sLdI 1 1),
  (74, sRetI)]
theorem kX10_bestDeal : ∀ q ∈ pX10_bestDeal, gSnd RX10 cX10_bestDeal 6 none q.1 q.2 := by
  simp only [pX10_bestDeal, List.forall_mem_cons]
  exact ⟨gs_iconst (n := 0) (by decide +kernel) (by decide),
    gs_istore_n (k := 1) (by decide +kernel) rfl,
    gs_iconst (n := 0) (by decide +kernel) (by decide),
    gs_istore_n (k := 2) (by decide +kernel) rfl,
    gs_iconst (n := 0) (by decide +kernel) (by decide),
    gs_istore_n (k := 3) (by decide +kernel) rfl,
    gs_iload_n (k := 3) (by decide +kernel) rfl,
    gs_bipush (n := 24) (by decide +kernel) (by decide),
    gs_icmp_ge (off := 64) (by decide +kernel) (by decide),
    gs_iload_n (k := 3) (by decide +kernel) rfl,
    gs_istore (by decide +kernel),
    gs_iload (by decide +kernel),
    gs_bipush (n := 24) (by decide +kernel) (by decide),
    gs_icmp_ge (off := 48) (by decide +kernel) (by decide),
    gs_aload_n (k := 0) (by decide +kernel) rfl,
    gs_get (T := TX10) (N := 13) (Cn := RX10) (by decide +kernel) rfl (by decide) inW10 rfl wd_263,
    gs_getN (T := TX6) (N := 10) (Cn := RX6) (by decide +kernel) rfl (by decide) inW6 rfl wn_155,
    gs_iload (by decide +kernel),
    gs_iaload (by decide +kernel),
    gs_aload_n (k := 0) (by decide +kernel) rfl,
    gs_get (T := TX10) (N := 13) (Cn := RX10) (by decide +kernel) rfl (by decide) inW10 rfl wd_263,
    gs_getN (T := TX6) (N := 10) (Cn := RX6) (by decide +kernel) rfl (by decide) inW6 rfl wn_155,
    gs_iload_n (k := 3) (by decide +kernel) rfl,
    gs_iaload (by decide +kernel),
    gs_isub (by decide +kernel),
    gs_istore (by decide +kernel),
    gs_iload (by decide +kernel),
    gs_iload_n (k := 2) (by decide +kernel) rfl,
    gs_icmp_le (off := 14) (by decide +kernel) (by decide),
    gs_iload_n (k := 3) (by decide +kernel) rfl,
    gs_bipush (n := 24) (by decide +kernel) (by decide),
    gs_imul (by decide +kernel),
    gs_iload (by decide +kernel),
    gs_iadd (by decide +kernel),
    gs_istore_n (k := 1) (by decide +kernel) rfl,
    gs_iload (by decide +kernel),
    gs_istore_n (k := 2) (by decide +kernel) rfl,
    gs_iinc (n := 1) (by decide +kernel) (by decide),
    gs_goto (off := -49) (by decide +kernel) (by decide),
    gs_iinc (n := 1) (by decide +kernel) (by decide),
    gs_goto (off := -64) (by decide +kernel) (by decide),
    gs_iload_n (k := 1) (by decide +kernel) rfl,
    gs_iret (by decide +kernel),
    fun _ h => absurd h List.not_mem_nil⟩
def pX10_fewestToLose : gProg := [(0, sLdA 0 1),
  (1, sGet 10 1),
  (4, sLdA 0 1),
  (5, sGet 10 4),
  (8, sPush (.int 0) 1),
  (9, sCallV 13 3 2),
  (12, sIfne 17),
  (15, sPush (.int 0) 1),
  (16, sRetI),
  (17, sPush (.int 0) 1),
  (18, sStI 1 1),
  (19, sLdI 1 1),
  (20, sLdA 0 1),
  (21, sGet 10 4),
  (24, sGet 2 3),
  (27, sCmpge 57),
  (30, sLdA 0 1),
  (31, sGet 10 1),
  (34, sLdA 0 1),
  (35, sGet 10 4),
  (38, sPush (.int 1) 1),
  (39, sLdI 1 1),
  (40, sIshl),
  (41, sCallV 13 3 2),
  (44, sIfne 51),
  (47, sPush (.int 1) 1),
  (48, sLdI 1 1),
  (49, sIshl),
  (50, sRetI),
  (51, sInc 1 1),
  (54, sGoto 19),
  (57, sPush (.int 0) 1),
  (58, sStI 1 1),
  (59, sLdI 1 1),
  (60, sLdA 0 1),
  (61, sGet 10 4),
  (64, sGet 2 3),
  (67, sCmpge 126),
  (70, sLdI 1 1),
  (71, sPush (.int 1) 1),
  (72, sIadd),
  (73, sStI 2 1),
  (74, sLdI 2 1),
  (75, sLdA 0 1),
  (76, sGet 10 4),
  (79, sGet 2 3),
  (82, sCmpge 120),
  (85, sLdA 0 1),
  (86, sGet 10 1),
  (89, sLdA 0 1),
  (90, sGet 10 4),
  (93, sPush (.int 1) 1),
  (94, sLdI 1 1),
  (95, sIshl),
  (96, sPush (.int 1) 1),
  (97, sLdI 2 1),
  (98, sIshl),
  (99, sIor),
  (100, sCallV 13 3 2),
  (103, sIfne 114),
  (106, sPush (.int 1) 1),
  (107, sLdI 1 1),
  (108, sIshl),
  (109, sPush (.int 1) 1),
  (110, sLdI 2 1),
  (111, sIshl),
  (112, sIor),
  (113, sRetI),
  (114, sInc 2 1),
  (117, sGoto 74),
  (120, sInc 1 1),
  (123, sGoto 59),
  (126, sPush (.int (-1)) 1),
  (127, sRetI)]
theorem kX10_fewestToLose : ∀ q ∈ pX10_fewestToLose, gSnd RX10 cX10_fewestToLose 3 none q.1 q.2 := by
  simp only [pX10_fewestToLose, List.forall_mem_cons]
  exact ⟨gs_aload_n (k := 0) (by decide +kernel) rfl,
    gs_get (T := TX10) (N := 13) (Cn := RX10) (by decide +kernel) rfl (by decide) inW10 rfl wd_264,
    gs_aload_n (k := 0) (by decide +kernel) rfl,
    gs_get (T := TX10) (N := 13) (Cn := RX10) (by decide +kernel) rfl (by decide) inW10 rfl wd_267,
    gs_iconst (n := 0) (by decide +kernel) (by decide),
    gs_callV (by decide +kernel) rfl rfl wd_529 wd_488 wd_486 wd_487 wd_3 mp_13 (by decide),
    gs_if_ne (off := 5) (by decide +kernel) (by decide),
    gs_iconst (n := 0) (by decide +kernel) (by decide),
    gs_iret (by decide +kernel),
    gs_iconst (n := 0) (by decide +kernel) (by decide),
    gs_istore_n (k := 1) (by decide +kernel) rfl,
    gs_iload_n (k := 1) (by decide +kernel) rfl,
    gs_aload_n (k := 0) (by decide +kernel) rfl,
    gs_get (T := TX10) (N := 13) (Cn := RX10) (by decide +kernel) rfl (by decide) inW10 rfl wd_267,
    gs_getN (T := TX2) (N := 4) (Cn := RX2) (by decide +kernel) rfl (by decide) inW2 rfl wn_200,
    gs_icmp_ge (off := 30) (by decide +kernel) (by decide),
    gs_aload_n (k := 0) (by decide +kernel) rfl,
    gs_get (T := TX10) (N := 13) (Cn := RX10) (by decide +kernel) rfl (by decide) inW10 rfl wd_264,
    gs_aload_n (k := 0) (by decide +kernel) rfl,
    gs_get (T := TX10) (N := 13) (Cn := RX10) (by decide +kernel) rfl (by decide) inW10 rfl wd_267,
    gs_iconst (n := 1) (by decide +kernel) (by decide),
    gs_iload_n (k := 1) (by decide +kernel) rfl,
    gs_ishl (by decide +kernel),
    gs_callV (by decide +kernel) rfl rfl wd_529 wd_488 wd_486 wd_487 wd_3 mp_13 (by decide),
    gs_if_ne (off := 7) (by decide +kernel) (by decide),
    gs_iconst (n := 1) (by decide +kernel) (by decide),
    gs_iload_n (k := 1) (by decide +kernel) rfl,
    gs_ishl (by decide +kernel),
    gs_iret (by decide +kernel),
    gs_iinc (n := 1) (by decide +kernel) (by decide),
    gs_goto (off := -35) (by decide +kernel) (by decide),
    gs_iconst (n := 0) (by decide +kernel) (by decide),
    gs_istore_n (k := 1) (by decide +kernel) rfl,
    gs_iload_n (k := 1) (by decide +kernel) rfl,
    gs_aload_n (k := 0) (by decide +kernel) rfl,
    gs_get (T := TX10) (N := 13) (Cn := RX10) (by decide +kernel) rfl (by decide) inW10 rfl wd_267,
    gs_getN (T := TX2) (N := 4) (Cn := RX2) (by decide +kernel) rfl (by decide) inW2 rfl wn_200,
    gs_icmp_ge (off := 59) (by decide +kernel) (by decide),
    gs_iload_n (k := 1) (by decide +kernel) rfl,
    gs_iconst (n := 1) (by decide +kernel) (by decide),
    gs_iadd (by decide +kernel),
    gs_istore_n (k := 2) (by decide +kernel) rfl,
    gs_iload_n (k := 2) (by decide +kernel) rfl,
    gs_aload_n (k := 0) (by decide +kernel) rfl,
    gs_get (T := TX10) (N := 13) (Cn := RX10) (by decide +kernel) rfl (by decide) inW10 rfl wd_267,
    gs_getN (T := TX2) (N := 4) (Cn := RX2) (by decide +kernel) rfl (by decide) inW2 rfl wn_200,
    gs_icmp_ge (off := 38) (by decide +kernel) (by decide),
    gs_aload_n (k := 0) (by decide +kernel) rfl,
    gs_get (T := TX10) (N := 13) (Cn := RX10) (by decide +kernel) rfl (by decide) inW10 rfl wd_264,
    gs_aload_n (k := 0) (by decide +kernel) rfl,
    gs_get (T := TX10) (N := 13) (Cn := RX10) (by decide +kernel) rfl (by decide) inW10 rfl wd_267,
    gs_iconst (n := 1) (by decide +kernel) (by decide),
    gs_iload_n (k := 1) (by decide +kernel) rfl,
    gs_ishl (by decide +kernel),
    gs_iconst (n := 1) (by decide +kernel) (by decide),
    gs_iload_n (k := 2) (by decide +kernel) rfl,
    gs_ishl (by decide +kernel),
    gs_ior (by decide +kernel),
    gs_callV (by decide +kernel) rfl rfl wd_529 wd_488 wd_486 wd_487 wd_3 mp_13 (by decide),
    gs_if_ne (off := 11) (by decide +kernel) (by decide),
    gs_iconst (n := 1) (by decide +kernel) (by decide),
    gs_iload_n (k := 1) (by decide +kernel) rfl,
    gs_ishl (by decide +kernel),
    gs_iconst (n := 1) (by decide +kernel) (by decide),
    gs_iload_n (k := 2) (by decide +kernel) rfl,
    gs_ishl (by decide +kernel),
    gs_ior (by decide +kernel),
    gs_iret (by decide +kernel),
    gs_iinc (n := 1) (by decide +kernel) (by decide),
    gs_goto (off := -43) (by decide +kernel) (by decide),
    gs_iinc (n := 1) (by decide +kernel) (by decide),
    gs_goto (off := -64) (by decide +kernel) (by decide),
    gs_iconst (n := -1) (by decide +kernel) (by decide),
    gs_iret (by decide +kernel),
    fun _ h => absurd h List.not_mem_nil⟩
def pX10_placeOfBit : gProg := [(0, sLdI 1 1),
  (1, sStI 2 1),
  (2, sPush (.int 0) 1),
  (3, sStI 3 1),
  (4, sLdI 3 1),
  (5, sPush (.int 8) 2),
  (7, sCmpge 34),
  (10, sLdI 0 1),
  (11, sLdI 3 1),
  (12, sCallS 110 2),
  (15, sPush (.int 1) 1),
  (16, sCmpne 28),
  (19, sLdI 2 1),
  (20, sIfne 25),
  (23, sLdI 3 1),
  (24, sRetI),
  (25, sInc 2 (-1)),
  (28, sInc 3 1),
  (31, sGoto 4),
  (34, sPush (.int (-1)) 1),
  (35, sRetI)]
theorem kX10_placeOfBit : ∀ q ∈ pX10_placeOfBit, gSnd RX10 cX10_placeOfBit 4 none q.1 q.2 := by
  simp only [pX10_placeOfBit, List.forall_mem_cons]
  exact ⟨gs_iload_n (k := 1) (by decide +kernel) rfl,
    gs_istore_n (k := 2) (by decide +kernel) rfl,
    gs_iconst (n := 0) (by decide +kernel) (by decide),
    gs_istore_n (k := 3) (by decide +kernel) rfl,
    gs_iload_n (k := 3) (by decide +kernel) rfl,
    gs_bipush (n := 8) (by decide +kernel) (by decide),
    gs_icmp_ge (off := 27) (by decide +kernel) (by decide),
    gs_iload_n (k := 0) (by decide +kernel) rfl,
    gs_iload_n (k := 3) (by decide +kernel) rfl,
    gs_callS (by decide +kernel) rfl wd_476 wd_458 wd_457 wd_1 mp_110 (by decide),
    gs_iconst (n := 1) (by decide +kernel) (by decide),
    gs_icmp_ne (off := 12) (by decide +kernel) (by decide),
    gs_iload_n (k := 2) (by decide +kernel) rfl,
    gs_if_ne (off := 5) (by decide +kernel) (by decide),
    gs_iload_n (k := 3) (by decide +kernel) rfl,
    gs_iret (by decide +kernel),
    gs_iinc (n := -1) (by decide +kernel) (by decide),
    gs_iinc (n := 1) (by decide +kernel) (by decide),
    gs_goto (off := -27) (by decide +kernel) (by decide),
    gs_iconst (n := -1) (by decide +kernel) (by decide),
    gs_iret (by decide +kernel),
    fun _ h => absurd h List.not_mem_nil⟩
end
section
def pX10_beginsThatFit : gProg := [(0, sLdA 0 1),
  (1, sGet 10 2),
  (4, sLdI 1 1),
  (5, sCallV 2 0 1),
  (8, sStI 2 1),
  (9, sLdA 0 1),
  (10, sGet 10 1),
  (13, sGet 3 1),
  (16, sLdI 1 1),
  (17, sAald),
  (18, sStA 3 1),
  (19, sPush (.int 0) 1),
  (20, sStI 4 2),
  (22, sPush (.int 0) 1),
  (23, sStI 5 2),
  (25, sLdI 5 2),
  (27, sPush (.int 12) 2),
  (29, sCmpge 68),
  (32, sLdA 3 1),
  (33, sLdI 5 2),
  (35, sLdI 2 1),
  (36, sCallV 6 1 2),
  (39, sLdA 0 1),
  (40, sGet 10 7),
  (43, sLdA 0 1),
  (44, sGet 10 1),
  (47, sCallV 30 7 1),
  (50, sIfeq 62),
  (53, sLdI 4 2),
  (55, sPush (.int 1) 1),
  (56, sLdI 5 2),
  (58, sIshl),
  (59, sIor),
  (60, sStI 4 2),
  (62, sInc 5 1),
  (65, sGoto 25),
  (68, sLdA 3 1),
  (69, sLdA 0 1),
  (70, sGet 10 2),
  (73, sLdI 1 1),
  (74, sCallV 3 0 1),
  (77, sLdI 2 1),
  (78, sCallV 6 1 2),
  (81, sLdI 4 2),
  (83, sRetI)]
theorem kX10_beginsThatFit : ∀ q ∈ pX10_beginsThatFit, gSnd RX10 cX10_beginsThatFit 6 none q.1 q.2 := by
  simp only [pX10_beginsThatFit, List.forall_mem_cons]
  exact ⟨gs_aload_n (k := 0) (by decide +kernel) rfl,
    gs_get (T := TX10) (N := 13) (Cn := RX10) (by decide +kernel) rfl (by decide) inW10 rfl wd_265,
    gs_iload_n (k := 1) (by decide +kernel) rfl,
    gs_callV (by decide +kernel) rfl rfl wd_361 wd_364 wd_362 wd_363 wd_4 mp_2 (by decide),
    gs_istore_n (k := 2) (by decide +kernel) rfl,
    gs_aload_n (k := 0) (by decide +kernel) rfl,
    gs_get (T := TX10) (N := 13) (Cn := RX10) (by decide +kernel) rfl (by decide) inW10 rfl wd_264,
    gs_getN (T := TX3) (N := 2) (Cn := RX3) (by decide +kernel) rfl (by decide) inW3 rfl wn_124,
    gs_iload_n (k := 1) (by decide +kernel) rfl,
    gs_aaload (by decide +kernel),
    gs_astore_n (k := 3) (by decide +kernel) rfl,
    gs_iconst (n := 0) (by decide +kernel) (by decide),
    gs_istore (by decide +kernel),
    gs_iconst (n := 0) (by decide +kernel) (by decide),
    gs_istore (by decide +kernel),
    gs_iload (by decide +kernel),
    gs_bipush (n := 12) (by decide +kernel) (by decide),
    gs_icmp_ge (off := 39) (by decide +kernel) (by decide),
    gs_aload_n (k := 3) (by decide +kernel) rfl,
    gs_iload (by decide +kernel),
    gs_iload_n (k := 2) (by decide +kernel) rfl,
    gs_callV (by decide +kernel) rfl rfl wd_636 wd_469 wd_467 wd_468 wd_6 mp_6 (by decide),
    gs_aload_n (k := 0) (by decide +kernel) rfl,
    gs_get (T := TX10) (N := 13) (Cn := RX10) (by decide +kernel) rfl (by decide) inW10 rfl wd_270,
    gs_aload_n (k := 0) (by decide +kernel) rfl,
    gs_get (T := TX10) (N := 13) (Cn := RX10) (by decide +kernel) rfl (by decide) inW10 rfl wd_264,
    gs_callV (by decide +kernel) rfl rfl wd_622 wd_625 wd_623 wd_624 wd_9 mp_30 (by decide),
    gs_if_eq (off := 12) (by decide +kernel) (by decide),
    gs_iload (by decide +kernel),
    gs_iconst (n := 1) (by decide +kernel) (by decide),
    gs_iload (by decide +kernel),
    gs_ishl (by decide +kernel),
    gs_ior (by decide +kernel),
    gs_istore (by decide +kernel),
    gs_iinc (n := 1) (by decide +kernel) (by decide),
    gs_goto (off := -40) (by decide +kernel) (by decide),
    gs_aload_n (k := 3) (by decide +kernel) rfl,
    gs_aload_n (k := 0) (by decide +kernel) rfl,
    gs_get (T := TX10) (N := 13) (Cn := RX10) (by decide +kernel) rfl (by decide) inW10 rfl wd_265,
    gs_iload_n (k := 1) (by decide +kernel) rfl,
    gs_callV (by decide +kernel) rfl rfl wd_368 wd_371 wd_369 wd_370 wd_4 mp_3 (by decide),
    gs_iload_n (k := 2) (by decide +kernel) rfl,
    gs_callV (by decide +kernel) rfl rfl wd_636 wd_469 wd_467 wd_468 wd_6 mp_6 (by decide),
    gs_iload (by decide +kernel),
    gs_iret (by decide +kernel),
    fun _ h => absurd h List.not_mem_nil⟩
def pX10_kindsThatFit : gProg := [(0, sLdA 0 1),
  (1, sGet 10 2),
  (4, sLdI 1 1),
  (5, sCallV 3 0 1),
  (8, sStI 2 1),
  (9, sPush (.int 0) 1),
  (10, sStI 3 1),
  (11, sPush (.int 0) 1),
  (12, sStI 4 2),
  (14, sLdI 4 2),
  (16, sPush (.int 3) 1),
  (17, sCmpge 68),
  (20, sLdA 0 1),
  (21, sGet 10 1),
  (24, sGet 3 1),
  (27, sLdI 1 1),
  (28, sAald),
  (29, sLdA 0 1),
  (30, sGet 10 4),
  (33, sPush (.int 0) 1),
  (34, sLdI 1 1),
  (35, sLdI 4 2),
  (37, sLdI 2 1),
  (38, sCallV 5 1 5),
  (41, sLdA 0 1),
  (42, sGet 10 7),
  (45, sLdA 0 1),
  (46, sGet 10 1),
  (49, sCallV 30 7 1),
  (52, sIfeq 62),
  (55, sLdI 3 1),
  (56, sPush (.int 1) 1),
  (57, sLdI 4 2),
  (59, sIshl),
  (60, sIor),
  (61, sStI 3 1),
  (62, sInc 4 1),
  (65, sGoto 14),
  (68, sLdI 3 1),
  (69, sRetI)]
theorem kX10_kindsThatFit : ∀ q ∈ pX10_kindsThatFit, gSnd RX10 cX10_kindsThatFit 5 none q.1 q.2 := by
  simp only [pX10_kindsThatFit, List.forall_mem_cons]
  exact ⟨gs_aload_n (k := 0) (by decide +kernel) rfl,
    gs_get (T := TX10) (N := 13) (Cn := RX10) (by decide +kernel) rfl (by decide) inW10 rfl wd_265,
    gs_iload_n (k := 1) (by decide +kernel) rfl,
    gs_callV (by decide +kernel) rfl rfl wd_368 wd_371 wd_369 wd_370 wd_4 mp_3 (by decide),
    gs_istore_n (k := 2) (by decide +kernel) rfl,
    gs_iconst (n := 0) (by decide +kernel) (by decide),
    gs_istore_n (k := 3) (by decide +kernel) rfl,
    gs_iconst (n := 0) (by decide +kernel) (by decide),
    gs_istore (by decide +kernel),
    gs_iload (by decide +kernel),
    gs_iconst (n := 3) (by decide +kernel) (by decide),
    gs_icmp_ge (off := 51) (by decide +kernel) (by decide),
    gs_aload_n (k := 0) (by decide +kernel) rfl,
    gs_get (T := TX10) (N := 13) (Cn := RX10) (by decide +kernel) rfl (by decide) inW10 rfl wd_264,
    gs_getN (T := TX3) (N := 2) (Cn := RX3) (by decide +kernel) rfl (by decide) inW3 rfl wn_124,
    gs_iload_n (k := 1) (by decide +kernel) rfl,
    gs_aaload (by decide +kernel),
    gs_aload_n (k := 0) (by decide +kernel) rfl,
    gs_get (T := TX10) (N := 13) (Cn := RX10) (by decide +kernel) rfl (by decide) inW10 rfl wd_267,
    gs_iconst (n := 0) (by decide +kernel) (by decide),
    gs_iload_n (k := 1) (by decide +kernel) rfl,
    gs_iload (by decide +kernel),
    gs_iload_n (k := 2) (by decide +kernel) rfl,
    gs_callV (by decide +kernel) rfl rfl wd_449 wd_452 wd_450 wd_451 wd_6 mp_5 (by decide),
    gs_aload_n (k := 0) (by decide +kernel) rfl,
    gs_get (T := TX10) (N := 13) (Cn := RX10) (by decide +kernel) rfl (by decide) inW10 rfl wd_270,
    gs_aload_n (k := 0) (by decide +kernel) rfl,
    gs_get (T := TX10) (N := 13) (Cn := RX10) (by decide +kernel) rfl (by decide) inW10 rfl wd_264,
    gs_callV (by decide +kernel) rfl rfl wd_622 wd_625 wd_623 wd_624 wd_9 mp_30 (by decide),
    gs_if_eq (off := 10) (by decide +kernel) (by decide),
    gs_iload_n (k := 3) (by decide +kernel) rfl,
    gs_iconst (n := 1) (by decide +kernel) (by decide),
    gs_iload (by decide +kernel),
    gs_ishl (by decide +kernel),
    gs_ior (by decide +kernel),
    gs_istore_n (k := 3) (by decide +kernel) rfl,
    gs_iinc (n := 1) (by decide +kernel) (by decide),
    gs_goto (off := -51) (by decide +kernel) (by decide),
    gs_iload_n (k := 3) (by decide +kernel) rfl,
    gs_iret (by decide +kernel),
    fun _ h => absurd h List.not_mem_nil⟩
def pX10_greatestAlike : gProg := [(0, sLdA 0 1),
  (1, sGet 10 2),
  (4, sLdI 1 1),
  (5, sCallV 2 0 1),
  (8, sStI 4 2),
  (10, sLdA 0 1),
  (11, sGet 10 1),
  (14, sGet 3 1),
  (17, sLdI 1 1),
  (18, sAald),
  (19, sStA 5 2),
  (21, sLdA 0 1),
  (22, sGet 10 11),
  (25, sPush (.int 0) 1),
  (26, sCallS 203 2),
  (29, sPush (.int 0) 1),
  (30, sStI 6 2),
  (32, sPush (.int 0) 1),
  (33, sStI 7 2),
  (35, sLdI 7 2),
  (37, sPush (.int 12) 2),
  (39, sCmpge 100),
  (42, sLdI 2 1),
  (43, sLdI 7 2),
  (45, sCallS 110 2),
  (48, sPush (.int 1) 1),
  (49, sCmpne 94),
  (52, sLdA 5 2),
  (54, sLdI 7 2),
  (56, sLdI 4 2),
  (58, sCallV 6 1 2),
  (61, sLdA 5 2),
  (63, sLdI 3 1),
  (64, sCallV 7 1 1),
  (67, sStI 8 2),
  (69, sLdA 0 1),
  (70, sGet 10 11),
  (73, sLdI 8 2),
  (75, sDup2),
  (76, sIald),
  (77, sPush (.int 1) 1),
  (78, sIadd),
  (79, sIast),
  (80, sLdI 6 2),
  (82, sLdA 0 1),
  (83, sGet 10 11),
  (86, sLdI 8 2),
  (88, sIald),
  (89, sMmax),
  (92, sStI 6 2),
  (94, sInc 7 1),
  (97, sGoto 35),
  (100, sLdI 6 2),
  (102, sRetI)]
theorem kX10_greatestAlike : ∀ q ∈ pX10_greatestAlike, gSnd RX10 cX10_greatestAlike 9 none q.1 q.2 := by
  simp only [pX10_greatestAlike, List.forall_mem_cons]
  exact ⟨gs_aload_n (k := 0) (by decide +kernel) rfl,
    gs_get (T := TX10) (N := 13) (Cn := RX10) (by decide +kernel) rfl (by decide) inW10 rfl wd_265,
    gs_iload_n (k := 1) (by decide +kernel) rfl,
    gs_callV (by decide +kernel) rfl rfl wd_361 wd_364 wd_362 wd_363 wd_4 mp_2 (by decide),
    gs_istore (by decide +kernel),
    gs_aload_n (k := 0) (by decide +kernel) rfl,
    gs_get (T := TX10) (N := 13) (Cn := RX10) (by decide +kernel) rfl (by decide) inW10 rfl wd_264,
    gs_getN (T := TX3) (N := 2) (Cn := RX3) (by decide +kernel) rfl (by decide) inW3 rfl wn_124,
    gs_iload_n (k := 1) (by decide +kernel) rfl,
    gs_aaload (by decide +kernel),
    gs_astore (by decide +kernel),
    gs_aload_n (k := 0) (by decide +kernel) rfl,
    gs_get (T := TX10) (N := 13) (Cn := RX10) (by decide +kernel) rfl (by decide) inW10 rfl wd_274,
    gs_iconst (n := 0) (by decide +kernel) (by decide),
    gs_callS (by decide +kernel) rfl wd_649 wd_455 wd_454 wd_13 mp_203 (by decide),
    gs_iconst (n := 0) (by decide +kernel) (by decide),
    gs_istore (by decide +kernel),
    gs_iconst (n := 0) (by decide +kernel) (by decide),
    gs_istore (by decide +kernel),
    gs_iload (by decide +kernel),
    gs_bipush (n := 12) (by decide +kernel) (by decide),
    gs_icmp_ge (off := 61) (by decide +kernel) (by decide),
    gs_iload_n (k := 2) (by decide +kernel) rfl,
    gs_iload (by decide +kernel),
    gs_callS (by decide +kernel) rfl wd_476 wd_458 wd_457 wd_1 mp_110 (by decide),
    gs_iconst (n := 1) (by decide +kernel) (by decide),
    gs_icmp_ne (off := 45) (by decide +kernel) (by decide),
    gs_aload (by decide +kernel),
    gs_iload (by decide +kernel),
    gs_iload (by decide +kernel),
    gs_callV (by decide +kernel) rfl rfl wd_636 wd_469 wd_467 wd_468 wd_6 mp_6 (by decide),
    gs_aload (by decide +kernel),
    gs_iload_n (k := 3) (by decide +kernel) rfl,
    gs_callV (by decide +kernel) rfl rfl wd_472 wd_475 wd_473 wd_474 wd_6 mp_7 (by decide),
    gs_istore (by decide +kernel),
    gs_aload_n (k := 0) (by decide +kernel) rfl,
    gs_get (T := TX10) (N := 13) (Cn := RX10) (by decide +kernel) rfl (by decide) inW10 rfl wd_274,
    gs_iload (by decide +kernel),
    gs_dup2 (by decide +kernel),
    gs_iaload (by decide +kernel),
    gs_iconst (n := 1) (by decide +kernel) (by decide),
    gs_iadd (by decide +kernel),
    gs_iastore (by decide +kernel),
    gs_iload (by decide +kernel),
    gs_aload_n (k := 0) (by decide +kernel) rfl,
    gs_get (T := TX10) (N := 13) (Cn := RX10) (by decide +kernel) rfl (by decide) inW10 rfl wd_274,
    gs_iload (by decide +kernel),
    gs_iaload (by decide +kernel),
    gs_mmax (by decide +kernel) wd_650 wd_527 wd_14 wd_528,
    gs_istore (by decide +kernel),
    gs_iinc (n := 1) (by decide +kernel) (by decide),
    gs_goto (off := -62) (by decide +kernel) (by decide),
    gs_iload (by decide +kernel),
    gs_iret (by decide +kernel),
    fun _ h => absurd h List.not_mem_nil⟩
def pX10_bareShares : gProg := [(0, sLdA 0 1),
  (1, sLdI 2 1),
  (2, sCallV 97 10 1),
  (5, sStI 3 1),
  (6, sPush (.long 0) 1),
  (7, sStL 4 2),
  (9, sPush (.int 0) 1),
  (10, sStI 6 2),
  (12, sLdI 6 2),
  (14, sPush (.int 1) 1),
  (15, sLdA 0 1),
  (16, sGet 10 4),
  (19, sGet 2 3),
  (22, sIshl),
  (23, sCmpge 57),
  (26, sLdA 0 1),
  (27, sLdI 6 2),
  (29, sLdI 3 1),
  (30, sCallV 98 10 2),
  (33, sIfeq 51),
  (36, sLdL 4 2),
  (38, sLdA 0 1),
  (39, sLdI 1 1),
  (40, sLdI 6 2),
  (42, sCallS 202 1),
  (45, sCallV 99 10 2),
  (48, sLadd),
  (49, sStL 4 2),
  (51, sInc 6 1),
  (54, sGoto 12),
  (57, sLdL 4 2),
  (59, sRetL)]
theorem kX10_bareShares : ∀ q ∈ pX10_bareShares, gSnd RX10 cX10_bareShares 7 none q.1 q.2 := by
  simp only [pX10_bareShares, List.forall_mem_cons]
  exact ⟨gs_aload_n (k := 0) (by decide +kernel) rfl,
    gs_iload_n (k := 2) (by decide +kernel) rfl,
    gs_callV (by decide +kernel) rfl rfl wd_660 wd_663 wd_662 ws_17 wd_1 mp_97 (by decide),
    gs_istore_n (k := 3) (by decide +kernel) rfl,
    gs_lconst (n := 0) (by decide +kernel) (by decide),
    gs_lstore (by decide +kernel),
    gs_iconst (n := 0) (by decide +kernel) (by decide),
    gs_istore (by decide +kernel),
    gs_iload (by decide +kernel),
    gs_iconst (n := 1) (by decide +kernel) (by decide),
    gs_aload_n (k := 0) (by decide +kernel) rfl,
    gs_get (T := TX10) (N := 13) (Cn := RX10) (by decide +kernel) rfl (by decide) inW10 rfl wd_267,
    gs_getN (T := TX2) (N := 4) (Cn := RX2) (by decide +kernel) rfl (by decide) inW2 rfl wn_200,
    gs_ishl (by decide +kernel),
    gs_icmp_ge (off := 34) (by decide +kernel) (by decide),
    gs_aload_n (k := 0) (by decide +kernel) rfl,
    gs_iload (by decide +kernel),
    gs_iload_n (k := 3) (by decide +kernel) rfl,
    gs_callV (by decide +kernel) rfl rfl wd_670 wd_673 wd_672 ws_18 wd_1 mp_98 (by decide),
    gs_if_eq (off := 18) (by decide +kernel) (by decide),
    gs_lload (by decide +kernel),
    gs_aload_n (k := 0) (by decide +kernel) rfl,
    gs_iload_n (k := 1) (by decide +kernel) rfl,
    gs_iload (by decide +kernel),
    gs_callS (by decide +kernel) rfl wd_557 wd_559 wd_558 wd_15 mp_202 (by decide),
    gs_callV (by decide +kernel) rfl rfl wd_674 wd_677 wd_676 ws_19 wd_1 mp_99 (by decide),
    gs_ladd (by decide +kernel),
    gs_lstore (by decide +kernel),
    gs_iinc (n := 1) (by decide +kernel) (by decide),
    gs_goto (off := -42) (by decide +kernel) (by decide),
    gs_lload (by decide +kernel),
    gs_lret (by decide +kernel),
    fun _ h => absurd h List.not_mem_nil⟩
def pX10_gatherHinderers : gProg := [(0, sPush (.int 0) 1),
  (1, sStI 2 1),
  (2, sPush (.int 0) 1),
  (3, sStI 3 1),
  (4, sLdI 3 1),
  (5, sLdA 0 1),
  (6, sGet 10 2),
  (9, sCallV 0 0 0),
  (12, sCmpge 67),
  (15, sLdA 0 1),
  (16, sGet 10 1),
  (19, sGet 3 1),
  (22, sLdI 3 1),
  (23, sAald),
  (24, sGet 1 1),
  (27, sLdI 1 1),
  (28, sCallS 110 2),
  (31, sPush (.int 1) 1),
  (32, sCmpne 61),
  (35, sLdA 0 1),
  (36, sGet 10 10),
  (39, sLdI 2 1),
  (40, sLdA 0 1),
  (41, sGet 10 4),
  (44, sLdI 3 1),
  (45, sLdA 0 1),
  (46, sGet 10 2),
  (49, sLdI 3 1),
  (50, sCallV 2 0 1),
  (53, sLdI 1 1),
  (54, sCallV 12 2 3),
  (57, sIast),
  (58, sInc 2 1),
  (61, sInc 3 1),
  (64, sGoto 4),
  (67, sLdI 2 1),
  (68, sRetI)]
theorem kX10_gatherHinderers : ∀ q ∈ pX10_gatherHinderers, gSnd RX10 cX10_gatherHinderers 4 none q.1 q.2 := by
  simp only [pX10_gatherHinderers, List.forall_mem_cons]
  exact ⟨gs_iconst (n := 0) (by decide +kernel) (by decide),
    gs_istore_n (k := 2) (by decide +kernel) rfl,
    gs_iconst (n := 0) (by decide +kernel) (by decide),
    gs_istore_n (k := 3) (by decide +kernel) rfl,
    gs_iload_n (k := 3) (by decide +kernel) rfl,
    gs_aload_n (k := 0) (by decide +kernel) rfl,
    gs_get (T := TX10) (N := 13) (Cn := RX10) (by decide +kernel) rfl (by decide) inW10 rfl wd_265,
    gs_callV (by decide +kernel) rfl rfl wd_556 wd_492 wd_490 wd_491 wd_4 mp_0 (by decide),
    gs_icmp_ge (off := 55) (by decide +kernel) (by decide),
    gs_aload_n (k := 0) (by decide +kernel) rfl,
    gs_get (T := TX10) (N := 13) (Cn := RX10) (by decide +kernel) rfl (by decide) inW10 rfl wd_264,
    gs_getN (T := TX3) (N := 2) (Cn := RX3) (by decide +kernel) rfl (by decide) inW3 rfl wn_124,
    gs_iload_n (k := 3) (by decide +kernel) rfl,
    gs_aaload (by decide +kernel),
    gs_getN (T := TX1) (N := 4) (Cn := RX1) (by decide +kernel) rfl (by decide) inW1 rfl wn_100,
    gs_iload_n (k := 1) (by decide +kernel) rfl,
    gs_callS (by decide +kernel) rfl wd_476 wd_458 wd_457 wd_1 mp_110 (by decide),
    gs_iconst (n := 1) (by decide +kernel) (by decide),
    gs_icmp_ne (off := 29) (by decide +kernel) (by decide),
    gs_aload_n (k := 0) (by decide +kernel) rfl,
    gs_get (T := TX10) (N := 13) (Cn := RX10) (by decide +kernel) rfl (by decide) inW10 rfl wd_273,
    gs_iload_n (k := 2) (by decide +kernel) rfl,
    gs_aload_n (k := 0) (by decide +kernel) rfl,
    gs_get (T := TX10) (N := 13) (Cn := RX10) (by decide +kernel) rfl (by decide) inW10 rfl wd_267,
    gs_iload_n (k := 3) (by decide +kernel) rfl,
    gs_aload_n (k := 0) (by decide +kernel) rfl,
    gs_get (T := TX10) (N := 13) (Cn := RX10) (by decide +kernel) rfl (by decide) inW10 rfl wd_265,
    gs_iload_n (k := 3) (by decide +kernel) rfl,
    gs_callV (by decide +kernel) rfl rfl wd_361 wd_364 wd_362 wd_363 wd_4 mp_2 (by decide),
    gs_iload_n (k := 1) (by decide +kernel) rfl,
    gs_callV (by decide +kernel) rfl rfl wd_664 wd_667 wd_665 wd_666 wd_8 mp_12 (by decide),
    gs_iastore (by decide +kernel),
    gs_iinc (n := 1) (by decide +kernel) (by decide),
    gs_iinc (n := 1) (by decide +kernel) (by decide),
    gs_goto (off := -60) (by decide +kernel) (by decide),
    gs_iload_n (k := 2) (by decide +kernel) rfl,
    gs_iret (by decide +kernel),
    fun _ h => absurd h List.not_mem_nil⟩
def pX10_hindersAll : gProg := [(0, sPush (.int 0) 1),
  (1, sStI 3 1),
  (2, sLdI 3 1),
  (3, sLdI 2 1),
  (4, sCmpge 26),
  (7, sLdA 0 1),
  (8, sGet 10 10),
  (11, sLdI 3 1),
  (12, sIald),
  (13, sLdI 1 1),
  (14, sIand),
  (15, sIfne 20),
  (18, sPush (.int 0) 1),
  (19, sRetI),
  (20, sInc 3 1),
  (23, sGoto 2),
  (26, sPush (.int 1) 1),
  (27, sRetI)]
theorem kX10_hindersAll : ∀ q ∈ pX10_hindersAll, gSnd RX10 cX10_hindersAll 4 none q.1 q.2 := by
  simp only [pX10_hindersAll, List.forall_mem_cons]
  exact ⟨gs_iconst (n := 0) (by decide +kernel) (by decide),
    gs_istore_n (k := 3) (by decide +kernel) rfl,
    gs_iload_n (k := 3) (by decide +kernel) rfl,
    gs_iload_n (k := 2) (by decide +kernel) rfl,
    gs_icmp_ge (off := 22) (by decide +kernel) (by decide),
    gs_aload_n (k := 0) (by decide +kernel) rfl,
    gs_get (T := TX10) (N := 13) (Cn := RX10) (by decide +kernel) rfl (by decide) inW10 rfl wd_273,
    gs_iload_n (k := 3) (by decide +kernel) rfl,
    gs_iaload (by decide +kernel),
    gs_iload_n (k := 1) (by decide +kernel) rfl,
    gs_iand (by decide +kernel),
    gs_if_ne (off := 5) (by decide +kernel) (by decide),
    gs_iconst (n := 0) (by decide +kernel) (by decide),
    gs_iret (by decide +kernel),
    gs_iinc (n := 1) (by decide +kernel) (by decide),
    gs_goto (off := -21) (by decide +kernel) (by decide),
    gs_iconst (n := 1) (by decide +kernel) (by decide),
    gs_iret (by decide +kernel),
    fun _ h => absurd h List.not_mem_nil⟩
def pX10_shareOf : gProg := [(0, sPush (.long 1) 1),
  (1, sStL 3 1),
  (2, sPush (.int 0) 1),
  (3, sStI 5 2),
  (5, sLdI 5 2),
  (7, sLdA 0 1),
  (8, sGet 10 4),
  (11, sGet 2 3),
  (14, sCmpge 42),
  (17, sLdL 3 1),
  (18, sLdI 5 2),
  (20, sLdI 2 1),
  (21, sCmpge 29),
  (24, sLdI 1 1),
  (25, sI2L),
  (26, sGoto 34),
  (29, sPush (.int 16) 2),
  (31, sLdI 1 1),
  (32, sIsub),
  (33, sI2L),
  (34, sLmul),
  (35, sStL 3 1),
  (36, sInc 5 1),
  (39, sGoto 5),
  (42, sLdL 3 1),
  (43, sRetL)]
theorem kX10_shareOf : ∀ q ∈ pX10_shareOf, gSnd RX10 cX10_shareOf 6 none q.1 q.2 := by
  simp only [pX10_shareOf, List.forall_mem_cons]
  exact ⟨gs_lconst (n := 1) (by decide +kernel) (by decide),
    gs_lstore_n (k := 3) (by decide +kernel) rfl,
    gs_iconst (n := 0) (by decide +kernel) (by decide),
    gs_istore (by decide +kernel),
    gs_iload (by decide +kernel),
    gs_aload_n (k := 0) (by decide +kernel) rfl,
    gs_get (T := TX10) (N := 13) (Cn := RX10) (by decide +kernel) rfl (by decide) inW10 rfl wd_267,
    gs_getN (T := TX2) (N := 4) (Cn := RX2) (by decide +kernel) rfl (by decide) inW2 rfl wn_200,
    gs_icmp_ge (off := 28) (by decide +kernel) (by decide),
    gs_lload_n (k := 3) (by decide +kernel) rfl,
    gs_iload (by decide +kernel),
    gs_iload_n (k := 2) (by decide +kernel) rfl,
    gs_icmp_ge (off := 8) (by decide +kernel) (by decide),
    gs_iload_n (k := 1) (by decide +kernel) rfl,
    gs_i2l (by decide +kernel),
    gs_goto (off := 8) (by decide +kernel) (by decide),
    gs_bipush (n := 16) (by decide +kernel) (by decide),
    gs_iload_n (k := 1) (by decide +kernel) rfl,
    gs_isub (by decide +kernel),
    gs_i2l (by decide +kernel),
    gs_lmul (by decide +kernel),
    gs_lstore_n (k := 3) (by decide +kernel) rfl,
    gs_iinc (n := 1) (by decide +kernel) (by decide),
    gs_goto (off := -34) (by decide +kernel) (by decide),
    gs_lload_n (k := 3) (by decide +kernel) rfl,
    gs_lret (by decide +kernel),
    fun _ h => absurd h List.not_mem_nil⟩
def pX10_drawEvents : gProg := [(0, sLdA 0 1),
  (1, sGet 10 5),
  (4, sCallV 10 2 0),
  (7, sLdA 0 1),
  (8, sGet 10 8),
  (11, sLdI 1 1),
  (12, sPut 5 0),
  (15, sLdA 0 1),
  (16, sGet 10 2),
  (19, sCallV 0 0 0),
  (22, sStI 3 1),
  (23, sLdI 3 1),
  (24, sIfne 28),
  (27, sRetV),
  (28, sPush (.int 0) 1),
  (29, sStI 4 2),
  (31, sLdI 4 2),
  (33, sLdI 2 1),
  (34, sCmpge 84),
  (37, sLdA 0 1),
  (38, sGet 10 8),
  (41, sPush (.int 4) 1),
  (42, sCallV 20 5 1),
  (45, sStI 5 2),
  (47, sLdA 0 1),
  (48, sGet 10 8),
  (51, sPush (.int 24) 2),
  (53, sCallV 20 5 1),
  (56, sStI 6 2),
  (58, sLdA 0 1),
  (59, sGet 10 5),
  (62, sLdI 5 2),
  (64, sLdI 6 2),
  (66, sLdA 0 1),
  (67, sGet 10 8),
  (70, sLdI 3 1),
  (71, sCallV 20 5 1),
  (74, sCallV 8 2 3),
  (77, sPop),
  (78, sInc 4 1),
  (81, sGoto 31),
  (84, sRetV)]
theorem kX10_drawEvents : ∀ q ∈ pX10_drawEvents, gSnd RX10 cX10_drawEvents 7 none q.1 q.2 := by
  simp only [pX10_drawEvents, List.forall_mem_cons]
  exact ⟨gs_aload_n (k := 0) (by decide +kernel) rfl,
    gs_get (T := TX10) (N := 13) (Cn := RX10) (by decide +kernel) rfl (by decide) inW10 rfl wd_268,
    gs_callV (by decide +kernel) rfl rfl wd_686 wd_689 wd_687 wd_688 wd_8 mp_10 (by decide),
    gs_aload_n (k := 0) (by decide +kernel) rfl,
    gs_get (T := TX10) (N := 13) (Cn := RX10) (by decide +kernel) rfl (by decide) inW10 rfl wd_271,
    gs_iload_n (k := 1) (by decide +kernel) rfl,
    gs_putN (T := TX5) (N := 1) (Cn := RX5) (by decide +kernel) rfl (by decide) inW5 tyX5_ok nmX5 rfl wn_239,
    gs_aload_n (k := 0) (by decide +kernel) rfl,
    gs_get (T := TX10) (N := 13) (Cn := RX10) (by decide +kernel) rfl (by decide) inW10 rfl wd_265,
    gs_callV (by decide +kernel) rfl rfl wd_556 wd_492 wd_490 wd_491 wd_4 mp_0 (by decide),
    gs_istore_n (k := 3) (by decide +kernel) rfl,
    gs_iload_n (k := 3) (by decide +kernel) rfl,
    gs_if_ne (off := 4) (by decide +kernel) (by decide),
    gs_vret (by decide +kernel),
    gs_iconst (n := 0) (by decide +kernel) (by decide),
    gs_istore (by decide +kernel),
    gs_iload (by decide +kernel),
    gs_iload_n (k := 2) (by decide +kernel) rfl,
    gs_icmp_ge (off := 50) (by decide +kernel) (by decide),
    gs_aload_n (k := 0) (by decide +kernel) rfl,
    gs_get (T := TX10) (N := 13) (Cn := RX10) (by decide +kernel) rfl (by decide) inW10 rfl wd_271,
    gs_iconst (n := 4) (by decide +kernel) (by decide),
    gs_callV (by decide +kernel) rfl rfl wd_690 wd_693 wd_691 wd_692 wd_10 mp_20 (by decide),
    gs_istore (by decide +kernel),
    gs_aload_n (k := 0) (by decide +kernel) rfl,
    gs_get (T := TX10) (N := 13) (Cn := RX10) (by decide +kernel) rfl (by decide) inW10 rfl wd_271,
    gs_bipush (n := 24) (by decide +kernel) (by decide),
    gs_callV (by decide +kernel) rfl rfl wd_690 wd_693 wd_691 wd_692 wd_10 mp_20 (by decide),
    gs_istore (by decide +kernel),
    gs_aload_n (k := 0) (by decide +kernel) rfl,
    gs_get (T := TX10) (N := 13) (Cn := RX10) (by decide +kernel) rfl (by decide) inW10 rfl wd_268,
    gs_iload (by decide +kernel),
    gs_iload (by decide +kernel),
    gs_aload_n (k := 0) (by decide +kernel) rfl,
    gs_get (T := TX10) (N := 13) (Cn := RX10) (by decide +kernel) rfl (by decide) inW10 rfl wd_271,
    gs_iload_n (k := 3) (by decide +kernel) rfl,
    gs_callV (by decide +kernel) rfl rfl wd_690 wd_693 wd_691 wd_692 wd_10 mp_20 (by decide),
    gs_callV (by decide +kernel) rfl rfl wd_410 wd_413 wd_411 wd_412 wd_8 mp_8 (by decide),
    gs_pop (by decide +kernel),
    gs_iinc (n := 1) (by decide +kernel) (by decide),
    gs_goto (off := -50) (by decide +kernel) (by decide),
    gs_vret (by decide +kernel),
    fun _ h => absurd h List.not_mem_nil⟩
def pX10_finding : gProg := [(0, sLdA 0 1),
  (1, sLdI 1 1),
  (2, sPut 10 12),
  (5, sPush (.int (-10)) 2),
  (7, sLdI 1 1),
  (8, sIsub),
  (9, sRetI)]
theorem kX10_finding : ∀ q ∈ pX10_finding, gSnd RX10 cX10_finding 2 none q.1 q.2 := by
  simp only [pX10_finding, List.forall_mem_cons]
  exact ⟨gs_aload_n (k := 0) (by decide +kernel) rfl,
    gs_iload_n (k := 1) (by decide +kernel) rfl,
    gs_put (T := TX10) (N := 13) (Cn := RX10) (by decide +kernel) rfl (by decide) inW10 tyX10_ok nmX10 rfl wd_275,
    gs_bipush (n := -10) (by decide +kernel) (by decide),
    gs_iload_n (k := 1) (by decide +kernel) rfl,
    gs_isub (by decide +kernel),
    gs_iret (by decide +kernel),
    fun _ h => absurd h List.not_mem_nil⟩
def pX10_findingOfItem : gProg := [(0, sLdA 0 1),
  (1, sCallV 31 8 0),
  (4, sIfeq 9),
  (7, sPush (.int 1) 1),
  (8, sRetI),
  (9, sLdA 0 1),
  (10, sGet 8 1),
  (13, sLdI 1 1),
  (14, sCmpeq 19),
  (17, sPush (.int 3) 1),
  (18, sRetI),
  (19, sLdA 0 1),
  (20, sLdI 2 1),
  (21, sPush (.int 1) 1),
  (22, sCallV 34 8 2),
  (25, sIfeq 32),
  (28, sPush (.int 0) 1),
  (29, sGoto 33),
  (32, sPush (.int 2) 1),
  (33, sRetI)]
theorem kX10_findingOfItem : ∀ q ∈ pX10_findingOfItem, gSnd RX10 cX10_findingOfItem 3 none q.1 q.2 := by
  simp only [pX10_findingOfItem, List.forall_mem_cons]
  exact ⟨gs_aload_n (k := 0) (by decide +kernel) rfl,
    gs_callV (by decide +kernel) rfl rfl wd_429 wd_432 wd_430 wd_431 wd_11 mp_31 (by decide),
    gs_if_eq (off := 5) (by decide +kernel) (by decide),
    gs_iconst (n := 1) (by decide +kernel) (by decide),
    gs_iret (by decide +kernel),
    gs_aload_n (k := 0) (by decide +kernel) rfl,
    gs_getN (T := TX8) (N := 3) (Cn := RX8) (by decide +kernel) rfl (by decide) inW8 rfl wn_253,
    gs_iload_n (k := 1) (by decide +kernel) rfl,
    gs_icmp_eq (off := 5) (by decide +kernel) (by decide),
    gs_iconst (n := 3) (by decide +kernel) (by decide),
    gs_iret (by decide +kernel),
    gs_aload_n (k := 0) (by decide +kernel) rfl,
    gs_iload_n (k := 2) (by decide +kernel) rfl,
    gs_iconst (n := 1) (by decide +kernel) (by decide),
    gs_callV (by decide +kernel) rfl rfl wd_722 wd_444 wd_442 wd_443 wd_11 mp_34 (by decide),
    gs_if_eq (off := 7) (by decide +kernel) (by decide),
    gs_iconst (n := 0) (by decide +kernel) (by decide),
    gs_goto (off := 4) (by decide +kernel) (by decide),
    gs_iconst (n := 2) (by decide +kernel) (by decide),
    gs_iret (by decide +kernel),
    fun _ h => absurd h List.not_mem_nil⟩
def pX10_textOf : gProg := [(0, sLdI 1 1),
  (1, sIfne 14),
  (4, sLdA 0 1),
  (5, sGet 10 2),
  (8, sGet 0 0),
  (11, sGoto 21),
  (14, sLdA 0 1),
  (15, sGet 10 3),
  (18, sGet 4 0),
  (21, sRetA)]
theorem kX10_textOf : ∀ q ∈ pX10_textOf, gSnd RX10 cX10_textOf 2 none q.1 q.2 := by
  simp only [pX10_textOf, List.forall_mem_cons]
  exact ⟨gs_iload_n (k := 1) (by decide +kernel) rfl,
    gs_if_ne (off := 13) (by decide +kernel) (by decide),
    gs_aload_n (k := 0) (by decide +kernel) rfl,
    gs_get (T := TX10) (N := 13) (Cn := RX10) (by decide +kernel) rfl (by decide) inW10 rfl wd_265,
    gs_getN (T := TX0) (N := 1) (Cn := RX0) (by decide +kernel) rfl (by decide) inW0 rfl wn_86,
    gs_goto (off := 10) (by decide +kernel) (by decide),
    gs_aload_n (k := 0) (by decide +kernel) rfl,
    gs_get (T := TX10) (N := 13) (Cn := RX10) (by decide +kernel) rfl (by decide) inW10 rfl wd_266,
    gs_getN (T := TX4) (N := 1) (Cn := RX4) (by decide +kernel) rfl (by decide) inW4 rfl wn_143,
    gs_aret (by decide +kernel),
    fun _ h => absurd h List.not_mem_nil⟩
def pX10_isText : gProg := [(0, sLdI 0 1),
  (1, sPush (.int 0) 1),
  (2, sPush (.int 1) 1),
  (3, sCallS 109 3),
  (6, sRetI)]
theorem kX10_isText : ∀ q ∈ pX10_isText, gSnd RX10 cX10_isText 1 none q.1 q.2 := by
  simp only [pX10_isText, List.forall_mem_cons]
  exact ⟨gs_iload_n (k := 0) (by decide +kernel) rfl,
    gs_iconst (n := 0) (by decide +kernel) (by decide),
    gs_iconst (n := 1) (by decide +kernel) (by decide),
    gs_callS (by decide +kernel) rfl wd_310 wd_312 wd_311 wd_1 mp_109 (by decide),
    gs_iret (by decide +kernel),
    fun _ h => absurd h List.not_mem_nil⟩
def pX10_isMonth : gProg := [(0, sLdI 0 1),
  (1, sPush (.int 0) 1),
  (2, sPush (.int 23) 2),
  (4, sCallS 109 3),
  (7, sRetI)]
theorem kX10_isMonth : ∀ q ∈ pX10_isMonth, gSnd RX10 cX10_isMonth 1 none q.1 q.2 := by
  simp only [pX10_isMonth, List.forall_mem_cons]
  exact ⟨gs_iload_n (k := 0) (by decide +kernel) rfl,
    gs_iconst (n := 0) (by decide +kernel) (by decide),
    gs_bipush (n := 23) (by decide +kernel) (by decide),
    gs_callS (by decide +kernel) rfl wd_310 wd_312 wd_311 wd_1 mp_109 (by decide),
    gs_iret (by decide +kernel),
    fun _ h => absurd h List.not_mem_nil⟩
def pX10_isSheet : gProg := [(0, sLdI 0 1),
  (1, sPush (.int 0) 1),
  (2, sPush (.int 3) 1),
  (3, sCallS 109 3),
  (6, sRetI)]
theorem kX10_isSheet : ∀ q ∈ pX10_isSheet, gSnd RX10 cX10_isSheet 1 none q.1 q.2 := by
  simp only [pX10_isSheet, List.forall_mem_cons]
  exact ⟨gs_iload_n (k := 0) (by decide +kernel) rfl,
    gs_iconst (n := 0) (by decide +kernel) (by decide),
    gs_iconst (n := 3) (by decide +kernel) (by decide),
    gs_callS (by decide +kernel) rfl wd_310 wd_312 wd_311 wd_1 mp_109 (by decide),
    gs_iret (by decide +kernel),
    fun _ h => absurd h List.not_mem_nil⟩
def pX10_isForm : gProg := [(0, sLdI 0 1),
  (1, sPush (.int 0) 1),
  (2, sPush (.int 2) 1),
  (3, sCallS 109 3),
  (6, sRetI)]
theorem kX10_isForm : ∀ q ∈ pX10_isForm, gSnd RX10 cX10_isForm 1 none q.1 q.2 := by
  simp only [pX10_isForm, List.forall_mem_cons]
  exact ⟨gs_iload_n (k := 0) (by decide +kernel) rfl,
    gs_iconst (n := 0) (by decide +kernel) (by decide),
    gs_iconst (n := 2) (by decide +kernel) (by decide),
    gs_callS (by decide +kernel) rfl wd_310 wd_312 wd_311 wd_1 mp_109 (by decide),
    gs_iret (by decide +kernel),
    fun _ h => absurd h List.not_mem_nil⟩
def pX10_mayBeEvent : gProg := [(0, sLdI 0 1),
  (1, sPush (.int 0) 1),
  (2, sPush (.int 3) 1),
  (3, sCallS 109 3),
  (6, sIfeq 30),
  (9, sLdI 1 1),
  (10, sCallS 105 1),
  (13, sIfeq 30),
  (16, sLdI 2 1),
  (17, sPush (.int 0) 1),
  (18, sPush (.int 9) 2),
  (20, sCallS 109 3),
  (23, sIfeq 30),
  (26, sPush (.int 1) 1),
  (27, sGoto 31),
  (30, sPush (.int 0) 1),
  (31, sRetI)]
theorem kX10_mayBeEvent : ∀ q ∈ pX10_mayBeEvent, gSnd RX10 cX10_mayBeEvent 3 none q.1 q.2 := by
  simp only [pX10_mayBeEvent, List.forall_mem_cons]
  exact ⟨gs_iload_n (k := 0) (by decide +kernel) rfl,
    gs_iconst (n := 0) (by decide +kernel) (by decide),
    gs_iconst (n := 3) (by decide +kernel) (by decide),
    gs_callS (by decide +kernel) rfl wd_310 wd_312 wd_311 wd_1 mp_109 (by decide),
    gs_if_eq (off := 24) (by decide +kernel) (by decide),
    gs_iload_n (k := 1) (by decide +kernel) rfl,
    gs_callS (by decide +kernel) rfl wd_407 wd_409 wd_408 wd_1 mp_105 (by decide),
    gs_if_eq (off := 17) (by decide +kernel) (by decide),
    gs_iload_n (k := 2) (by decide +kernel) rfl,
    gs_iconst (n := 0) (by decide +kernel) (by decide),
    gs_bipush (n := 9) (by decide +kernel) (by decide),
    gs_callS (by decide +kernel) rfl wd_310 wd_312 wd_311 wd_1 mp_109 (by decide),
    gs_if_eq (off := 7) (by decide +kernel) (by decide),
    gs_iconst (n := 1) (by decide +kernel) (by decide),
    gs_goto (off := 4) (by decide +kernel) (by decide),
    gs_iconst (n := 0) (by decide +kernel) (by decide),
    gs_iret (by decide +kernel),
    fun _ h => absurd h List.not_mem_nil⟩
def pX10_within : gProg := [(0, sLdI 0 1),
  (1, sLdI 1 1),
  (2, sCmplt 14),
  (5, sLdI 0 1),
  (6, sLdI 2 1),
  (7, sCmpgt 14),
  (10, sPush (.int 1) 1),
  (11, sGoto 15),
  (14, sPush (.int 0) 1),
  (15, sRetI)]
theorem kX10_within : ∀ q ∈ pX10_within, gSnd RX10 cX10_within 3 none q.1 q.2 := by
  simp only [pX10_within, List.forall_mem_cons]
  exact ⟨gs_iload_n (k := 0) (by decide +kernel) rfl,
    gs_iload_n (k := 1) (by decide +kernel) rfl,
    gs_icmp_lt (off := 12) (by decide +kernel) (by decide),
    gs_iload_n (k := 0) (by decide +kernel) rfl,
    gs_iload_n (k := 2) (by decide +kernel) rfl,
    gs_icmp_gt (off := 7) (by decide +kernel) (by decide),
    gs_iconst (n := 1) (by decide +kernel) (by decide),
    gs_goto (off := 4) (by decide +kernel) (by decide),
    gs_iconst (n := 0) (by decide +kernel) (by decide),
    gs_iret (by decide +kernel),
    fun _ h => absurd h List.not_mem_nil⟩
def pX10_bit : gProg := [(0, sLdI 0 1),
  (1, sLdI 1 1),
  (2, sIshr),
  (3, sPush (.int 1) 1),
  (4, sIand),
  (5, sRetI)]
theorem kX10_bit : ∀ q ∈ pX10_bit, gSnd RX10 cX10_bit 2 none q.1 q.2 := by
  simp only [pX10_bit, List.forall_mem_cons]
  exact ⟨gs_iload_n (k := 0) (by decide +kernel) rfl,
    gs_iload_n (k := 1) (by decide +kernel) rfl,
    gs_ishr (by decide +kernel),
    gs_iconst (n := 1) (by decide +kernel) (by decide),
    gs_iand (by decide +kernel),
    gs_iret (by decide +kernel),
    fun _ h => absurd h List.not_mem_nil⟩
def pX11_in : gProg := [(0, sLdL 0 1),
  (1, sLdL 2 1),
  (2, sLcmp),
  (3, sIflt 17),
  (6, sLdL 0 1),
  (7, sLdL 4 2),
  (9, sLcmp),
  (10, sIfgt 17),
  (13, sPush (.int 1) 1),
  (14, sGoto 18),
  (17, sPush (.int 0) 1),
  (18, sRetI)]
theorem kX11_in : ∀ q ∈ pX11_in, gSnd RX11 cX11_in 6 none q.1 q.2 := by
  simp only [pX11_in, List.forall_mem_cons]
  exact ⟨gs_lload_n (k := 0) (by decide +kernel) rfl,
    gs_lload_n (k := 2) (by decide +kernel) rfl,
    gs_lcmp (by decide +kernel),
    gs_if_lt (off := 14) (by decide +kernel) (by decide),
    gs_lload_n (k := 0) (by decide +kernel) rfl,
    gs_lload (by decide +kernel),
    gs_lcmp (by decide +kernel),
    gs_if_gt (off := 7) (by decide +kernel) (by decide),
    gs_iconst (n := 1) (by decide +kernel) (by decide),
    gs_goto (off := 4) (by decide +kernel) (by decide),
    gs_iconst (n := 0) (by decide +kernel) (by decide),
    gs_iret (by decide +kernel),
    fun _ h => absurd h List.not_mem_nil⟩
def pX11_no : gProg := [(0, sPush (.long (-9223372036854775808)) 3),
  (3, sLdI 0 1),
  (4, sI2L),
  (5, sLsub),
  (6, sRetL)]
theorem kX11_no : ∀ q ∈ pX11_no, gSnd RX11 cX11_no 1 none q.1 q.2 := by
  simp only [pX11_no, List.forall_mem_cons]
  exact ⟨gs_ldc2 (by decide +kernel) wd_1239,
    gs_iload_n (k := 0) (by decide +kernel) rfl,
    gs_i2l (by decide +kernel),
    gs_lsub (by decide +kernel),
    gs_lret (by decide +kernel),
    fun _ h => absurd h List.not_mem_nil⟩
def pX11_isTwo : gProg := [(0, sLdI 0 1),
  (1, sI2L),
  (2, sPush (.long 0) 1),
  (3, sPush (.long 1) 1),
  (4, sCallS 111 3),
  (7, sRetI)]
theorem kX11_isTwo : ∀ q ∈ pX11_isTwo, gSnd RX11 cX11_isTwo 1 none q.1 q.2 := by
  simp only [pX11_isTwo, List.forall_mem_cons]
  exact ⟨gs_iload_n (k := 0) (by decide +kernel) rfl,
    gs_i2l (by decide +kernel),
    gs_lconst (n := 0) (by decide +kernel) (by decide),
    gs_lconst (n := 1) (by decide +kernel) (by decide),
    gs_callS (by decide +kernel) rfl wd_916 wd_918 wd_917 wd_12 mp_111 (by decide),
    gs_iret (by decide +kernel),
    fun _ h => absurd h List.not_mem_nil⟩
def pX11_isIn : gProg := [(0, sLdI 0 1),
  (1, sLdI 1 1),
  (2, sIshr),
  (3, sPush (.int 1) 1),
  (4, sIand),
  (5, sPush (.int 1) 1),
  (6, sCmpne 13),
  (9, sPush (.int 1) 1),
  (10, sGoto 14),
  (13, sPush (.int 0) 1),
  (14, sRetI)]
theorem kX11_isIn : ∀ q ∈ pX11_isIn, gSnd RX11 cX11_isIn 2 none q.1 q.2 := by
  simp only [pX11_isIn, List.forall_mem_cons]
  exact ⟨gs_iload_n (k := 0) (by decide +kernel) rfl,
    gs_iload_n (k := 1) (by decide +kernel) rfl,
    gs_ishr (by decide +kernel),
    gs_iconst (n := 1) (by decide +kernel) (by decide),
    gs_iand (by decide +kernel),
    gs_iconst (n := 1) (by decide +kernel) (by decide),
    gs_icmp_ne (off := 7) (by decide +kernel) (by decide),
    gs_iconst (n := 1) (by decide +kernel) (by decide),
    gs_goto (off := 4) (by decide +kernel) (by decide),
    gs_iconst (n := 0) (by decide +kernel) (by decide),
    gs_iret (by decide +kernel),
    fun _ h => absurd h List.not_mem_nil⟩
def pX11_ones : gProg := [(0, sPush (.int 0) 1),
  (1, sStI 1 1),
  (2, sLdI 0 1),
  (3, sStI 2 1),
  (4, sLdI 2 1),
  (5, sIfeq 20),
  (8, sInc 1 1),
  (11, sLdI 2 1),
  (12, sLdI 2 1),
  (13, sPush (.int 1) 1),
  (14, sIsub),
  (15, sIand),
  (16, sStI 2 1),
  (17, sGoto 4),
  (20, sLdI 1 1),
  (21, sRetI)]
theorem kX11_ones : ∀ q ∈ pX11_ones, gSnd RX11 cX11_ones 3 none q.1 q.2 := by
  simp only [pX11_ones, List.forall_mem_cons]
  exact ⟨gs_iconst (n := 0) (by decide +kernel) (by decide),
    gs_istore_n (k := 1) (by decide +kernel) rfl,
    gs_iload_n (k := 0) (by decide +kernel) rfl,
    gs_istore_n (k := 2) (by decide +kernel) rfl,
    gs_iload_n (k := 2) (by decide +kernel) rfl,
    gs_if_eq (off := 15) (by decide +kernel) (by decide),
    gs_iinc (n := 1) (by decide +kernel) (by decide),
    gs_iload_n (k := 2) (by decide +kernel) rfl,
    gs_iload_n (k := 2) (by decide +kernel) rfl,
    gs_iconst (n := 1) (by decide +kernel) (by decide),
    gs_isub (by decide +kernel),
    gs_iand (by decide +kernel),
    gs_istore_n (k := 2) (by decide +kernel) rfl,
    gs_goto (off := -13) (by decide +kernel) (by decide),
    gs_iload_n (k := 1) (by decide +kernel) rfl,
    gs_iret (by decide +kernel),
    fun _ h => absurd h List.not_mem_nil⟩
def pX11_lesser : gProg := [(0, sLdI 0 1),
  (1, sLdI 1 1),
  (2, sCmpge 9),
  (5, sLdI 0 1),
  (6, sGoto 10),
  (9, sLdI 1 1),
  (10, sRetI)]
theorem kX11_lesser : ∀ q ∈ pX11_lesser, gSnd RX11 cX11_lesser 2 none q.1 q.2 := by
  simp only [pX11_lesser, List.forall_mem_cons]
  exact ⟨gs_iload_n (k := 0) (by decide +kernel) rfl,
    gs_iload_n (k := 1) (by decide +kernel) rfl,
    gs_icmp_ge (off := 7) (by decide +kernel) (by decide),
    gs_iload_n (k := 0) (by decide +kernel) rfl,
    gs_goto (off := 4) (by decide +kernel) (by decide),
    gs_iload_n (k := 1) (by decide +kernel) rfl,
    gs_iret (by decide +kernel),
    fun _ h => absurd h List.not_mem_nil⟩
def pX11_greater : gProg := [(0, sLdI 0 1),
  (1, sLdI 1 1),
  (2, sCmple 9),
  (5, sLdI 0 1),
  (6, sGoto 10),
  (9, sLdI 1 1),
  (10, sRetI)]
theorem kX11_greater : ∀ q ∈ pX11_greater, gSnd RX11 cX11_greater 2 none q.1 q.2 := by
  simp only [pX11_greater, List.forall_mem_cons]
  exact ⟨gs_iload_n (k := 0) (by decide +kernel) rfl,
    gs_iload_n (k := 1) (by decide +kernel) rfl,
    gs_icmp_le (off := 7) (by decide +kernel) (by decide),
    gs_iload_n (k := 0) (by decide +kernel) rfl,
    gs_goto (off := 4) (by decide +kernel) (by decide),
    gs_iload_n (k := 1) (by decide +kernel) rfl,
    gs_iret (by decide +kernel),
    fun _ h => absurd h List.not_mem_nil⟩
def pX11_part : gProg := [(0, sLdL 0 1),
  (1, sStL 5 2),
  (3, sLdL 2 1),
  (4, sStL 7 2),
  (6, sLdL 7 2),
  (8, sPush (.long 0) 1),
  (9, sLcmp),
  (10, sIfeq 31),
  (13, sLdL 5 2),
  (15, sLdL 7 2),
  (17, sLrem),
  (18, sStL 9 2),
  (20, sLdL 7 2),
  (22, sStL 5 2),
  (24, sLdL 9 2),
  (26, sStL 7 2),
  (28, sGoto 6),
  (31, sLdI 4 2),
  (33, sIfne 40),
  (36, sLdL 0 1),
  (37, sGoto 41),
  (40, sLdL 2 1),
  (41, sLdL 5 2),
  (43, sLdiv),
  (44, sRetL)]
theorem kX11_part : ∀ q ∈ pX11_part, gSnd RX11 cX11_part 11 none q.1 q.2 := by
  simp only [pX11_part, List.forall_mem_cons]
  exact ⟨gs_lload_n (k := 0) (by decide +kernel) rfl,
    gs_lstore (by decide +kernel),
    gs_lload_n (k := 2) (by decide +kernel) rfl,
    gs_lstore (by decide +kernel),
    gs_lload (by decide +kernel),
    gs_lconst (n := 0) (by decide +kernel) (by decide),
    gs_lcmp (by decide +kernel),
    gs_if_eq (off := 21) (by decide +kernel) (by decide),
    gs_lload (by decide +kernel),
    gs_lload (by decide +kernel),
    gs_lrem (by decide +kernel),
    gs_lstore (by decide +kernel),
    gs_lload (by decide +kernel),
    gs_lstore (by decide +kernel),
    gs_lload (by decide +kernel),
    gs_lstore (by decide +kernel),
    gs_goto (off := -22) (by decide +kernel) (by decide),
    gs_iload (by decide +kernel),
    gs_if_ne (off := 7) (by decide +kernel) (by decide),
    gs_lload_n (k := 0) (by decide +kernel) rfl,
    gs_goto (off := 4) (by decide +kernel) (by decide),
    gs_lload_n (k := 2) (by decide +kernel) rfl,
    gs_lload (by decide +kernel),
    gs_ldiv (by decide +kernel),
    gs_lret (by decide +kernel),
    fun _ h => absurd h List.not_mem_nil⟩
def pX11_finds : gProg := [(0, sLdA 0 1),
  (1, sLdI 1 1),
  (2, sPut 11 4),
  (5, sPush (.int (-10)) 2),
  (7, sLdI 1 1),
  (8, sIsub),
  (9, sRetI)]
theorem kX11_finds : ∀ q ∈ pX11_finds, gSnd RX11 cX11_finds 2 none q.1 q.2 := by
  simp only [pX11_finds, List.forall_mem_cons]
  exact ⟨gs_aload_n (k := 0) (by decide +kernel) rfl,
    gs_iload_n (k := 1) (by decide +kernel) rfl,
    gs_put (T := TX11) (N := 29) (Cn := RX11) (by decide +kernel) rfl (by decide) inW11 tyX11_ok nmX11 rfl wd_823,
    gs_bipush (n := -10) (by decide +kernel) (by decide),
    gs_iload_n (k := 1) (by decide +kernel) rfl,
    gs_isub (by decide +kernel),
    gs_iret (by decide +kernel),
    fun _ h => absurd h List.not_mem_nil⟩
def pX11_isSheet : gProg := [(0, sLdI 0 1),
  (1, sI2L),
  (2, sPush (.long 0) 1),
  (3, sPush (.long 3) 3),
  (6, sCallS 111 3),
  (9, sRetI)]
theorem kX11_isSheet : ∀ q ∈ pX11_isSheet, gSnd RX11 cX11_isSheet 1 none q.1 q.2 := by
  simp only [pX11_isSheet, List.forall_mem_cons]
  exact ⟨gs_iload_n (k := 0) (by decide +kernel) rfl,
    gs_i2l (by decide +kernel),
    gs_lconst (n := 0) (by decide +kernel) (by decide),
    gs_ldc2 (by decide +kernel) wd_915,
    gs_callS (by decide +kernel) rfl wd_916 wd_918 wd_917 wd_12 mp_111 (by decide),
    gs_iret (by decide +kernel),
    fun _ h => absurd h List.not_mem_nil⟩
def pX11_sheet : gProg := [(0, sLdI 1 1),
  (1, sCallS 120 1),
  (4, sIfeq 25),
  (7, sLdI 2 1),
  (8, sI2L),
  (9, sPush (.long 0) 1),
  (10, sPush (.long 2) 3),
  (13, sCallS 111 3),
  (16, sIfeq 25),
  (19, sLdI 3 1),
  (20, sPush (.int 60) 2),
  (22, sCmple 28),
  (25, sPush (.int (-2)) 2),
  (27, sRetI),
  (28, sLdI 3 1),
  (29, sIfge 38),
  (32, sLdA 0 1),
  (33, sPush (.int 5) 1),
  (34, sCallV 119 11 1),
  (37, sRetI),
  (38, sLdA 0 1),
  (39, sGet 11 0),
  (42, sLdI 1 1),
  (43, sLdI 2 1),
  (44, sIast),
  (45, sLdA 0 1),
  (46, sGet 11 1),
  (49, sLdI 1 1),
  (50, sLdI 3 1),
  (51, sIast),
  (52, sPush (.int 0) 1),
  (53, sStI 4 2),
  (55, sLdI 4 2),
  (57, sLdI 3 1),
  (58, sCmpge 80),
  (61, sLdA 0 1),
  (62, sGet 11 2),
  (65, sPush (.int 60) 2),
  (67, sLdI 1 1),
  (68, sImul),
  (69, sLdI 4 2),
  (71, sIadd),
  (72, sPush (.int 0) 1),
  (73, sIast),
  (74, sInc 4 1),
  (77, sGoto 55),
  (80, sLdI 3 1),
  (81, sRetI)]
theorem kX11_sheet : ∀ q ∈ pX11_sheet, gSnd RX11 cX11_sheet 5 none q.1 q.2 := by
  simp only [pX11_sheet, List.forall_mem_cons]
  exact ⟨gs_iload_n (k := 1) (by decide +kernel) rfl,
    gs_callS (by decide +kernel) rfl wd_912 wd_914 wd_913 wd_12 mp_120 (by decide),
    gs_if_eq (off := 21) (by decide +kernel) (by decide),
    gs_iload_n (k := 2) (by decide +kernel) rfl,
    gs_i2l (by decide +kernel),
    gs_lconst (n := 0) (by decide +kernel) (by decide),
    gs_ldc2 (by decide +kernel) wd_919,
    gs_callS (by decide +kernel) rfl wd_916 wd_918 wd_917 wd_12 mp_111 (by decide),
    gs_if_eq (off := 9) (by decide +kernel) (by decide),
    gs_iload_n (k := 3) (by decide +kernel) rfl,
    gs_bipush (n := 60) (by decide +kernel) (by decide),
    gs_icmp_le (off := 6) (by decide +kernel) (by decide),
    gs_bipush (n := -2) (by decide +kernel) (by decide),
    gs_iret (by decide +kernel),
    gs_iload_n (k := 3) (by decide +kernel) rfl,
    gs_if_ge (off := 9) (by decide +kernel) (by decide),
    gs_aload_n (k := 0) (by decide +kernel) rfl,
    gs_iconst (n := 5) (by decide +kernel) (by decide),
    gs_callV (by decide +kernel) rfl rfl wd_920 wd_923 wd_922 ws_31 wd_12 mp_119 (by decide),
    gs_iret (by decide +kernel),
    gs_aload_n (k := 0) (by decide +kernel) rfl,
    gs_get (T := TX11) (N := 29) (Cn := RX11) (by decide +kernel) rfl (by decide) inW11 rfl wd_819,
    gs_iload_n (k := 1) (by decide +kernel) rfl,
    gs_iload_n (k := 2) (by decide +kernel) rfl,
    gs_iastore (by decide +kernel),
    gs_aload_n (k := 0) (by decide +kernel) rfl,
    gs_get (T := TX11) (N := 29) (Cn := RX11) (by decide +kernel) rfl (by decide) inW11 rfl wd_820,
    gs_iload_n (k := 1) (by decide +kernel) rfl,
    gs_iload_n (k := 3) (by decide +kernel) rfl,
    gs_iastore (by decide +kernel),
    gs_iconst (n := 0) (by decide +kernel) (by decide),
    gs_istore (by decide +kernel),
    gs_iload (by decide +kernel),
    gs_iload_n (k := 3) (by decide +kernel) rfl,
    gs_icmp_ge (off := 22) (by decide +kernel) (by decide),
    gs_aload_n (k := 0) (by decide +kernel) rfl,
    gs_get (T := TX11) (N := 29) (Cn := RX11) (by decide +kernel) rfl (by decide) inW11 rfl wd_821,
    gs_bipush (n := 60) (by decide +kernel) (by decide),
    gs_iload_n (k := 1) (by decide +kernel) rfl,
    gs_imul (by decide +kernel),
    gs_iload (by decide +kernel),
    gs_iadd (by decide +kernel),
    gs_iconst (n := 0) (by decide +kernel) (by decide),
    gs_iastore (by decide +kernel),
    gs_iinc (n := 1) (by decide +kernel) (by decide),
    gs_goto (off := -22) (by decide +kernel) (by decide),
    gs_iload_n (k := 3) (by decide +kernel) rfl,
    gs_iret (by decide +kernel),
    fun _ h => absurd h List.not_mem_nil⟩
def pX11_lose : gProg := [(0, sLdI 1 1),
  (1, sCallS 120 1),
  (4, sIfne 10),
  (7, sPush (.int (-2)) 2),
  (9, sRetI),
  (10, sLdA 0 1),
  (11, sGet 11 0),
  (14, sLdI 1 1),
  (15, sIald),
  (16, sIfge 25),
  (19, sLdA 0 1),
  (20, sPush (.int 1) 1),
  (21, sCallV 119 11 1),
  (24, sRetI),
  (25, sLdA 0 1),
  (26, sGet 11 0),
  (29, sLdI 1 1),
  (30, sPush (.int (-1)) 1),
  (31, sIast),
  (32, sLdA 0 1),
  (33, sGet 11 1),
  (36, sLdI 1 1),
  (37, sIald),
  (38, sRetI)]
theorem kX11_lose : ∀ q ∈ pX11_lose, gSnd RX11 cX11_lose 2 none q.1 q.2 := by
  simp only [pX11_lose, List.forall_mem_cons]
  exact ⟨gs_iload_n (k := 1) (by decide +kernel) rfl,
    gs_callS (by decide +kernel) rfl wd_912 wd_914 wd_913 wd_12 mp_120 (by decide),
    gs_if_ne (off := 6) (by decide +kernel) (by decide),
    gs_bipush (n := -2) (by decide +kernel) (by decide),
    gs_iret (by decide +kernel),
    gs_aload_n (k := 0) (by decide +kernel) rfl,
    gs_get (T := TX11) (N := 29) (Cn := RX11) (by decide +kernel) rfl (by decide) inW11 rfl wd_819,
    gs_iload_n (k := 1) (by decide +kernel) rfl,
    gs_iaload (by decide +kernel),
    gs_if_ge (off := 9) (by decide +kernel) (by decide),
    gs_aload_n (k := 0) (by decide +kernel) rfl,
    gs_iconst (n := 1) (by decide +kernel) (by decide),
    gs_callV (by decide +kernel) rfl rfl wd_920 wd_923 wd_922 ws_31 wd_12 mp_119 (by decide),
    gs_iret (by decide +kernel),
    gs_aload_n (k := 0) (by decide +kernel) rfl,
    gs_get (T := TX11) (N := 29) (Cn := RX11) (by decide +kernel) rfl (by decide) inW11 rfl wd_819,
    gs_iload_n (k := 1) (by decide +kernel) rfl,
    gs_iconst (n := -1) (by decide +kernel) (by decide),
    gs_iastore (by decide +kernel),
    gs_aload_n (k := 0) (by decide +kernel) rfl,
    gs_get (T := TX11) (N := 29) (Cn := RX11) (by decide +kernel) rfl (by decide) inW11 rfl wd_820,
    gs_iload_n (k := 1) (by decide +kernel) rfl,
    gs_iaload (by decide +kernel),
    gs_iret (by decide +kernel),
    fun _ h => absurd h List.not_mem_nil⟩
def pX11_lacks : gProg := [(0, sLdA 0 1),
  (1, sGet 11 0),
  (4, sLdI 1 1),
  (5, sIald),
  (6, sIfge 15),
  (9, sLdA 0 1),
  (10, sPush (.int 1) 1),
  (11, sCallV 119 11 1),
  (14, sRetI),
  (15, sLdA 0 1),
  (16, sGet 11 0),
  (19, sLdI 1 1),
  (20, sIald),
  (21, sLdI 2 1),
  (22, sCmpeq 31),
  (25, sLdA 0 1),
  (26, sPush (.int 3) 1),
  (27, sCallV 119 11 1),
  (30, sRetI),
  (31, sLdI 3 1),
  (32, sI2L),
  (33, sPush (.long 0) 1),
  (34, sLdA 0 1),
  (35, sGet 11 1),
  (38, sLdI 1 1),
  (39, sIald),
  (40, sPush (.int 1) 1),
  (41, sIsub),
  (42, sI2L),
  (43, sCallS 111 3),
  (46, sIfeq 53),
  (49, sPush (.int 0) 1),
  (50, sGoto 58),
  (53, sLdA 0 1),
  (54, sPush (.int 2) 1),
  (55, sCallV 119 11 1),
  (58, sRetI)]
theorem kX11_lacks : ∀ q ∈ pX11_lacks, gSnd RX11 cX11_lacks 4 none q.1 q.2 := by
  simp only [pX11_lacks, List.forall_mem_cons]
  exact ⟨gs_aload_n (k := 0) (by decide +kernel) rfl,
    gs_get (T := TX11) (N := 29) (Cn := RX11) (by decide +kernel) rfl (by decide) inW11 rfl wd_819,
    gs_iload_n (k := 1) (by decide +kernel) rfl,
    gs_iaload (by decide +kernel),
    gs_if_ge (off := 9) (by decide +kernel) (by decide),
    gs_aload_n (k := 0) (by decide +kernel) rfl,
    gs_iconst (n := 1) (by decide +kernel) (by decide),
    gs_callV (by decide +kernel) rfl rfl wd_920 wd_923 wd_922 ws_31 wd_12 mp_119 (by decide),
    gs_iret (by decide +kernel),
    gs_aload_n (k := 0) (by decide +kernel) rfl,
    gs_get (T := TX11) (N := 29) (Cn := RX11) (by decide +kernel) rfl (by decide) inW11 rfl wd_819,
    gs_iload_n (k := 1) (by decide +kernel) rfl,
    gs_iaload (by decide +kernel),
    gs_iload_n (k := 2) (by decide +kernel) rfl,
    gs_icmp_eq (off := 9) (by decide +kernel) (by decide),
    gs_aload_n (k := 0) (by decide +kernel) rfl,
    gs_iconst (n := 3) (by decide +kernel) (by decide),
    gs_callV (by decide +kernel) rfl rfl wd_920 wd_923 wd_922 ws_31 wd_12 mp_119 (by decide),
    gs_iret (by decide +kernel),
    gs_iload_n (k := 3) (by decide +kernel) rfl,
    gs_i2l (by decide +kernel),
    gs_lconst (n := 0) (by decide +kernel) (by decide),
    gs_aload_n (k := 0) (by decide +kernel) rfl,
    gs_get (T := TX11) (N := 29) (Cn := RX11) (by decide +kernel) rfl (by decide) inW11 rfl wd_820,
    gs_iload_n (k := 1) (by decide +kernel) rfl,
    gs_iaload (by decide +kernel),
    gs_iconst (n := 1) (by decide +kernel) (by decide),
    gs_isub (by decide +kernel),
    gs_i2l (by decide +kernel),
    gs_callS (by decide +kernel) rfl wd_916 wd_918 wd_917 wd_12 mp_111 (by decide),
    gs_if_eq (off := 7) (by decide +kernel) (by decide),
    gs_iconst (n := 0) (by decide +kernel) (by decide),
    gs_goto (off := 8) (by decide +kernel) (by decide),
    gs_aload_n (k := 0) (by decide +kernel) rfl,
    gs_iconst (n := 2) (by decide +kernel) (by decide),
    gs_callV (by decide +kernel) rfl rfl wd_920 wd_923 wd_922 ws_31 wd_12 mp_119 (by decide),
    gs_iret (by decide +kernel),
    fun _ h => absurd h List.not_mem_nil⟩
def pX11_cut : gProg := [(0, sLdI 0 1),
  (1, sIfne 9),
  (4, sLdI 1 1),
  (5, sI2b),
  (6, sGoto 20),
  (9, sLdI 0 1),
  (10, sPush (.int 1) 1),
  (11, sCmpne 19),
  (14, sLdI 1 1),
  (15, sI2s),
  (16, sGoto 20),
  (19, sLdI 1 1),
  (20, sRetI)]
theorem kX11_cut : ∀ q ∈ pX11_cut, gSnd RX11 cX11_cut 2 none q.1 q.2 := by
  simp only [pX11_cut, List.forall_mem_cons]
  exact ⟨gs_iload_n (k := 0) (by decide +kernel) rfl,
    gs_if_ne (off := 8) (by decide +kernel) (by decide),
    gs_iload_n (k := 1) (by decide +kernel) rfl,
    gs_i2b (by decide +kernel),
    gs_goto (off := 14) (by decide +kernel) (by decide),
    gs_iload_n (k := 0) (by decide +kernel) rfl,
    gs_iconst (n := 1) (by decide +kernel) (by decide),
    gs_icmp_ne (off := 8) (by decide +kernel) (by decide),
    gs_iload_n (k := 1) (by decide +kernel) rfl,
    gs_i2s (by decide +kernel),
    gs_goto (off := 4) (by decide +kernel) (by decide),
    gs_iload_n (k := 1) (by decide +kernel) rfl,
    gs_iret (by decide +kernel),
    fun _ h => absurd h List.not_mem_nil⟩
def pX11_lay : gProg := [(0, sLdI 1 1),
  (1, sCallS 120 1),
  (4, sIfeq 19),
  (7, sLdI 2 1),
  (8, sI2L),
  (9, sPush (.long 0) 1),
  (10, sPush (.long 2) 3),
  (13, sCallS 111 3),
  (16, sIfne 22),
  (19, sPush (.int (-2)) 2),
  (21, sRetI),
  (22, sLdA 0 1),
  (23, sLdI 1 1),
  (24, sLdI 2 1),
  (25, sLdI 3 1),
  (26, sCallV 123 11 3),
  (29, sStI 5 2),
  (31, sLdI 5 2),
  (33, sIfeq 39),
  (36, sLdI 5 2),
  (38, sRetI),
  (39, sLdA 0 1),
  (40, sGet 11 2),
  (43, sPush (.int 60) 2),
  (45, sLdI 1 1),
  (46, sImul),
  (47, sLdI 3 1),
  (48, sIadd),
  (49, sLdI 2 1),
  (50, sLdI 4 2),
  (52, sCallS 124 2),
  (55, sIast),
  (56, sPush (.int 1) 1),
  (57, sRetI)]
theorem kX11_lay : ∀ q ∈ pX11_lay, gSnd RX11 cX11_lay 6 none q.1 q.2 := by
  simp only [pX11_lay, List.forall_mem_cons]
  exact ⟨gs_iload_n (k := 1) (by decide +kernel) rfl,
    gs_callS (by decide +kernel) rfl wd_912 wd_914 wd_913 wd_12 mp_120 (by decide),
    gs_if_eq (off := 15) (by decide +kernel) (by decide),
    gs_iload_n (k := 2) (by decide +kernel) rfl,
    gs_i2l (by decide +kernel),
    gs_lconst (n := 0) (by decide +kernel) (by decide),
    gs_ldc2 (by decide +kernel) wd_919,
    gs_callS (by decide +kernel) rfl wd_916 wd_918 wd_917 wd_12 mp_111 (by decide),
    gs_if_ne (off := 6) (by decide +kernel) (by decide),
    gs_bipush (n := -2) (by decide +kernel) (by decide),
    gs_iret (by decide +kernel),
    gs_aload_n (k := 0) (by decide +kernel) rfl,
    gs_iload_n (k := 1) (by decide +kernel) rfl,
    gs_iload_n (k := 2) (by decide +kernel) rfl,
    gs_iload_n (k := 3) (by decide +kernel) rfl,
    gs_callV (by decide +kernel) rfl rfl wd_932 wd_935 wd_934 ws_32 wd_12 mp_123 (by decide),
    gs_istore (by decide +kernel),
    gs_iload (by decide +kernel),
    gs_if_eq (off := 6) (by decide +kernel) (by decide),
    gs_iload (by decide +kernel),
    gs_iret (by decide +kernel),
    gs_aload_n (k := 0) (by decide +kernel) rfl,
    gs_get (T := TX11) (N := 29) (Cn := RX11) (by decide +kernel) rfl (by decide) inW11 rfl wd_821,
    gs_bipush (n := 60) (by decide +kernel) (by decide),
    gs_iload_n (k := 1) (by decide +kernel) rfl,
    gs_imul (by decide +kernel),
    gs_iload_n (k := 3) (by decide +kernel) rfl,
    gs_iadd (by decide +kernel),
    gs_iload_n (k := 2) (by decide +kernel) rfl,
    gs_iload (by decide +kernel),
    gs_callS (by decide +kernel) rfl wd_936 wd_938 wd_937 wd_12 mp_124 (by decide),
    gs_iastore (by decide +kernel),
    gs_iconst (n := 1) (by decide +kernel) (by decide),
    gs_iret (by decide +kernel),
    fun _ h => absurd h List.not_mem_nil⟩
def pX11_get : gProg := [(0, sLdI 1 1),
  (1, sCallS 120 1),
  (4, sIfeq 29),
  (7, sLdI 2 1),
  (8, sI2L),
  (9, sPush (.long 0) 1),
  (10, sPush (.long 2) 3),
  (13, sCallS 111 3),
  (16, sIfeq 29),
  (19, sLdA 0 1),
  (20, sLdI 1 1),
  (21, sLdI 2 1),
  (22, sLdI 3 1),
  (23, sCallV 123 11 3),
  (26, sIfeq 32),
  (29, sPush (.int (-2147483648)) 2),
  (31, sRetI),
  (32, sLdA 0 1),
  (33, sGet 11 2),
  (36, sPush (.int 60) 2),
  (38, sLdI 1 1),
  (39, sImul),
  (40, sLdI 3 1),
  (41, sIadd),
  (42, sIald),
  (43, sRetI)]
theorem kX11_get : ∀ q ∈ pX11_get, gSnd RX11 cX11_get 4 none q.1 q.2 := by
  simp only [pX11_get, List.forall_mem_cons]
  exact ⟨gs_iload_n (k := 1) (by decide +kernel) rfl,
    gs_callS (by decide +kernel) rfl wd_912 wd_914 wd_913 wd_12 mp_120 (by decide),
    gs_if_eq (off := 25) (by decide +kernel) (by decide),
    gs_iload_n (k := 2) (by decide +kernel) rfl,
    gs_i2l (by decide +kernel),
    gs_lconst (n := 0) (by decide +kernel) (by decide),
    gs_ldc2 (by decide +kernel) wd_919,
    gs_callS (by decide +kernel) rfl wd_916 wd_918 wd_917 wd_12 mp_111 (by decide),
    gs_if_eq (off := 13) (by decide +kernel) (by decide),
    gs_aload_n (k := 0) (by decide +kernel) rfl,
    gs_iload_n (k := 1) (by decide +kernel) rfl,
    gs_iload_n (k := 2) (by decide +kernel) rfl,
    gs_iload_n (k := 3) (by decide +kernel) rfl,
    gs_callV (by decide +kernel) rfl rfl wd_932 wd_935 wd_934 ws_32 wd_12 mp_123 (by decide),
    gs_if_eq (off := 6) (by decide +kernel) (by decide),
    gs_ldc (by decide +kernel) wd_943,
    gs_iret (by decide +kernel),
    gs_aload_n (k := 0) (by decide +kernel) rfl,
    gs_get (T := TX11) (N := 29) (Cn := RX11) (by decide +kernel) rfl (by decide) inW11 rfl wd_821,
    gs_bipush (n := 60) (by decide +kernel) (by decide),
    gs_iload_n (k := 1) (by decide +kernel) rfl,
    gs_imul (by decide +kernel),
    gs_iload_n (k := 3) (by decide +kernel) rfl,
    gs_iadd (by decide +kernel),
    gs_iaload (by decide +kernel),
    gs_iret (by decide +kernel),
    fun _ h => absurd h List.not_mem_nil⟩
def pX11_copy : gProg := [(0, sLdI 1 1),
  (1, sCallS 120 1),
  (4, sIfeq 14),
  (7, sLdI 3 1),
  (8, sCallS 120 1),
  (11, sIfne 17),
  (14, sPush (.int (-2)) 2),
  (16, sRetI),
  (17, sLdA 0 1),
  (18, sGet 11 0),
  (21, sLdI 1 1),
  (22, sIald),
  (23, sIflt 35),
  (26, sLdA 0 1),
  (27, sGet 11 0),
  (30, sLdI 3 1),
  (31, sIald),
  (32, sIfge 41),
  (35, sLdA 0 1),
  (36, sPush (.int 1) 1),
  (37, sCallV 119 11 1),
  (40, sRetI),
  (41, sLdA 0 1),
  (42, sGet 11 0),
  (45, sLdI 1 1),
  (46, sIald),
  (47, sLdA 0 1),
  (48, sGet 11 0),
  (51, sLdI 3 1),
  (52, sIald),
  (53, sCmpeq 62),
  (56, sLdA 0 1),
  (57, sPush (.int 4) 1),
  (58, sCallV 119 11 1),
  (61, sRetI),
  (62, sLdI 2 1),
  (63, sIflt 111),
  (66, sLdI 4 2),
  (68, sIflt 111),
  (71, sLdI 5 2),
  (73, sIflt 111),
  (76, sLdI 2 1),
  (77, sI2L),
  (78, sLdI 5 2),
  (80, sI2L),
  (81, sLadd),
  (82, sLdA 0 1),
  (83, sGet 11 1),
  (86, sLdI 1 1),
  (87, sIald),
  (88, sI2L),
  (89, sLcmp),
  (90, sIfgt 111),
  (93, sLdI 4 2),
  (95, sI2L),
  (96, sLdI 5 2),
  (98, sI2L),
  (99, sLadd),
  (100, sLdA 0 1),
  (101, sGet 11 1),
  (104, sLdI 3 1),
  (105, sIald),
  (106, sI2L),
  (107, sLcmp),
  (108, sIfle 117),
  (111, sLdA 0 1),
  (112, sPush (.int 2) 1),
  (113, sCallV 119 11 1),
  (116, sRetI),
  (117, sPush (.int 0) 1),
  (118, sStI 6 2),
  (120, sLdI 6 2),
  (122, sLdI 5 2),
  (124, sCmpge 154),
  (127, sLdA 0 1),
  (128, sGet 11 3),
  (131, sLdI 6 2),
  (133, sLdA 0 1),
  (134, sGet 11 2),
  (137, sPush (.int 60) 2),
  (139, sLdI 1 1),
  (140, sImul),
  (141, sLdI 2 1),
  (142, sIadd),
  (143, sLdI 6 2),
  (145, sIadd),
  (146, sIald),
  (147, sIast),
  (148, sInc 6 1),
  (151, sGoto 120),
  (154, sPush (.int 0) 1),
  (155, sStI 6 2),
  (157, sLdI 6 2),
  (159, sLdI 5 2),
  (161, sCmpge 192),
  (164, sLdA 0 1),
  (165, sGet 11 2),
  (168, sPush (.int 60) 2),
  (170, sLdI 3 1),
  (171, sImul),
  (172, sLdI 4 2),
  (174, sIadd),
  (175, sLdI 6 2),
  (177, sIadd),
  (178, sLdA 0 1),
  (179, sGet 11 3),
  (182, sLdI 6 2),
  (184, sIald),
  (185, sIast),
  (186, sInc 6 1),
  (189, sGoto 157),
  (192, sPush (.int 1) 1),
  (193, sRetI)]
set_option maxRecDepth 100000 in
theorem kX11_copy : ∀ q ∈ pX11_copy, gSnd RX11 cX11_copy 7 none q.1 q.2 := by
  simp only [pX11_copy, List.forall_mem_cons]
  exact ⟨gs_iload_n (k := 1) (by decide +kernel) rfl,
    gs_callS (by decide +kernel) rfl wd_912 wd_914 wd_913 wd_12 mp_120 (by decide),
    gs_if_eq (off := 10) (by decide +kernel) (by decide),
    gs_iload_n (k := 3) (by decide +kernel) rfl,
    gs_callS (by decide +kernel) rfl wd_912 wd_914 wd_913 wd_12 mp_120 (by decide),
    gs_if_ne (off := 6) (by decide +kernel) (by decide),
    gs_bipush (n := -2) (by decide +kernel) (by decide),
    gs_iret (by decide +kernel),
    gs_aload_n (k := 0) (by decide +kernel) rfl,
    gs_get (T := TX11) (N := 29) (Cn := RX11) (by decide +kernel) rfl (by decide) inW11 rfl wd_819,
    gs_iload_n (k := 1) (by decide +kernel) rfl,
    gs_iaload (by decide +kernel),
    gs_if_lt (off := 12) (by decide +kernel) (by decide),
    gs_aload_n (k := 0) (by decide +kernel) rfl,
    gs_get (T := TX11) (N := 29) (Cn := RX11) (by decide +kernel) rfl (by decide) inW11 rfl wd_819,
    gs_iload_n (k := 3) (by decide +kernel) rfl,
    gs_iaload (by decide +kernel),
    gs_if_ge (off := 9) (by decide +kernel) (by decide),
    gs_aload_n (k := 0) (by decide +kernel) rfl,
    gs_iconst (n := 1) (by decide +kernel) (by decide),
    gs_callV (by decide +kernel) rfl rfl wd_920 wd_923 wd_922 ws_31 wd_12 mp_119 (by decide),
    gs_iret (by decide +kernel),
    gs_aload_n (k := 0) (by decide +kernel) rfl,
    gs_get (T := TX11) (N := 29) (Cn := RX11) (by decide +kernel) rfl (by decide) inW11 rfl wd_819,
    gs_iload_n (k := 1) (by decide +kernel) rfl,
    gs_iaload (by decide +kernel),
    gs_aload_n (k := 0) (by decide +kernel) rfl,
    gs_get (T := TX11) (N := 29) (Cn := RX11) (by decide +kernel) rfl (by decide) inW11 rfl wd_819,
    gs_iload_n (k := 3) (by decide +kernel) rfl,
    gs_iaload (by decide +kernel),
    gs_icmp_eq (off := 9) (by decide +kernel) (by decide),
    gs_aload_n (k := 0) (by decide +kernel) rfl,
    gs_iconst (n := 4) (by decide +kernel) (by decide),
    gs_callV (by decide +kernel) rfl rfl wd_920 wd_923 wd_922 ws_31 wd_12 mp_119 (by decide),
    gs_iret (by decide +kernel),
    gs_iload_n (k := 2) (by decide +kernel) rfl,
    gs_if_lt (off := 48) (by decide +kernel) (by decide),
    gs_iload (by decide +kernel),
    gs_if_lt (off := 43) (by decide +kernel) (by decide),
    gs_iload (by decide +kernel),
    gs_if_lt (off := 38) (by decide +kernel) (by decide),
    gs_iload_n (k := 2) (by decide +kernel) rfl,
    gs_i2l (by decide +kernel),
    gs_iload (by decide +kernel),
    gs_i2l (by decide +kernel),
    gs_ladd (by decide +kernel),
    gs_aload_n (k := 0) (by decide +kernel) rfl,
    gs_get (T := TX11) (N := 29) (Cn := RX11) (by decide +kernel) rfl (by decide) inW11 rfl wd_820,
    gs_iload_n (k := 1) (by decide +kernel) rfl,
    gs_iaload (by decide +kernel),
    gs_i2l (by decide +kernel),
    gs_lcmp (by decide +kernel),
    gs_if_gt (off := 21) (by decide +kernel) (by decide),
    gs_iload (by decide +kernel),
    gs_i2l (by decide +kernel),
    gs_iload (by decide +kernel),
    gs_i2l (by decide +kernel),
    gs_ladd (by decide +kernel),
    gs_aload_n (k := 0) (by decide +kernel) rfl,
    gs_get (T := TX11) (N := 29) (Cn := RX11) (by decide +kernel) rfl (by decide) inW11 rfl wd_820,
    gs_iload_n (k := 3) (by decide +kernel) rfl,
    gs_iaload (by decide +kernel),
    gs_i2l (by decide +kernel),
    gs_lcmp (by decide +kernel),
    gs_if_le (off := 9) (by decide +kernel) (by decide),
    gs_aload_n (k := 0) (by decide +kernel) rfl,
    gs_iconst (n := 2) (by decide +kernel) (by decide),
    gs_callV (by decide +kernel) rfl rfl wd_920 wd_923 wd_922 ws_31 wd_12 mp_119 (by decide),
    gs_iret (by decide +kernel),
    gs_iconst (n := 0) (by decide +kernel) (by decide),
    gs_istore (by decide +kernel),
    gs_iload (by decide +kernel),
    gs_iload (by decide +kernel),
    gs_icmp_ge (off := 30) (by decide +kernel) (by decide),
    gs_aload_n (k := 0) (by decide +kernel) rfl,
    gs_get (T := TX11) (N := 29) (Cn := RX11) (by decide +kernel) rfl (by decide) inW11 rfl wd_822,
    gs_iload (by decide +kernel),
    gs_aload_n (k := 0) (by decide +kernel) rfl,
    gs_get (T := TX11) (N := 29) (Cn := RX11) (by decide +kernel) rfl (by decide) inW11 rfl wd_821,
    gs_bipush (n := 60) (by decide +kernel) (by decide),
    gs_iload_n (k := 1) (by decide +kernel) rfl,
    gs_imul (by decide +kernel),
    gs_iload_n (k := 2) (by decide +kernel) rfl,
    gs_iadd (by decide +kernel),
    gs_iload (by decide +kernel),
    gs_iadd (by decide +kernel),
    gs_iaload (by decide +kernel),
    gs_iastore (by decide +kernel),
    gs_iinc (n := 1) (by decide +kernel) (by decide),
    gs_goto (off := -31) (by decide +kernel) (by decide),
    gs_iconst (n := 0) (by decide +kernel) (by decide),
    gs_istore (by decide +kernel),
    gs_iload (by decide +kernel),
    gs_iload (by decide +kernel),
    gs_icmp_ge (off := 31) (by decide +kernel) (by decide),
    gs_aload_n (k := 0) (by decide +kernel) rfl,
    gs_get (T := TX11) (N := 29) (Cn := RX11) (by decide +kernel) rfl (by decide) inW11 rfl wd_821,
    gs_bipush (n := 60) (by decide +kernel) (by decide),
    gs_iload_n (k := 3) (by decide +kernel) rfl,
    gs_imul (by decide +kernel),
    gs_iload (by decide +kernel),
    gs_iadd (by decide +kernel),
    gs_iload (by decide +kernel),
    gs_iadd (by decide +kernel),
    gs_aload_n (k := 0) (by decide +kernel) rfl,
    gs_get (T := TX11) (N := 29) (Cn := RX11) (by decide +kernel) rfl (by decide) inW11 rfl wd_822,
    gs_iload (by decide +kernel),
    gs_iaload (by decide +kernel),
    gs_iastore (by decide +kernel),
    gs_iinc (n := 1) (by decide +kernel) (by decide),
    gs_goto (off := -32) (by decide +kernel) (by decide),
    gs_iconst (n := 1) (by decide +kernel) (by decide),
    gs_iret (by decide +kernel),
    fun _ h => absurd h List.not_mem_nil⟩
def pX11_type : gProg := [(0, sLdI 1 1),
  (1, sCallS 113 1),
  (4, sIfeq 19),
  (7, sLdI 2 1),
  (8, sI2L),
  (9, sPush (.long 0) 1),
  (10, sPush (.long 255) 3),
  (13, sCallS 111 3),
  (16, sIfne 22),
  (19, sPush (.int (-2)) 2),
  (21, sRetI),
  (22, sLdA 0 1),
  (23, sGet 11 6),
  (26, sLdI 1 1),
  (27, sIald),
  (28, sLdI 1 1),
  (29, sIfne 37),
  (32, sPush (.int 39) 2),
  (34, sGoto 39),
  (37, sPush (.int 35) 2),
  (39, sCmpne 45),
  (42, sPush (.int (-4)) 2),
  (44, sRetI),
  (45, sLdA 0 1),
  (46, sGet 11 5),
  (49, sPush (.int 40) 2),
  (51, sLdI 1 1),
  (52, sImul),
  (53, sLdA 0 1),
  (54, sGet 11 6),
  (57, sLdI 1 1),
  (58, sIald),
  (59, sIadd),
  (60, sLdI 2 1),
  (61, sIast),
  (62, sLdA 0 1),
  (63, sGet 11 6),
  (66, sLdI 1 1),
  (67, sDup2),
  (68, sIald),
  (69, sPush (.int 1) 1),
  (70, sIadd),
  (71, sIast),
  (72, sLdA 0 1),
  (73, sGet 11 6),
  (76, sLdI 1 1),
  (77, sIald),
  (78, sRetI)]
theorem kX11_type : ∀ q ∈ pX11_type, gSnd RX11 cX11_type 3 none q.1 q.2 := by
  simp only [pX11_type, List.forall_mem_cons]
  exact ⟨gs_iload_n (k := 1) (by decide +kernel) rfl,
    gs_callS (by decide +kernel) rfl wd_952 wd_954 wd_953 wd_12 mp_113 (by decide),
    gs_if_eq (off := 15) (by decide +kernel) (by decide),
    gs_iload_n (k := 2) (by decide +kernel) rfl,
    gs_i2l (by decide +kernel),
    gs_lconst (n := 0) (by decide +kernel) (by decide),
    gs_ldc2 (by decide +kernel) wd_955,
    gs_callS (by decide +kernel) rfl wd_916 wd_918 wd_917 wd_12 mp_111 (by decide),
    gs_if_ne (off := 6) (by decide +kernel) (by decide),
    gs_bipush (n := -2) (by decide +kernel) (by decide),
    gs_iret (by decide +kernel),
    gs_aload_n (k := 0) (by decide +kernel) rfl,
    gs_get (T := TX11) (N := 29) (Cn := RX11) (by decide +kernel) rfl (by decide) inW11 rfl wd_825,
    gs_iload_n (k := 1) (by decide +kernel) rfl,
    gs_iaload (by decide +kernel),
    gs_iload_n (k := 1) (by decide +kernel) rfl,
    gs_if_ne (off := 8) (by decide +kernel) (by decide),
    gs_bipush (n := 39) (by decide +kernel) (by decide),
    gs_goto (off := 5) (by decide +kernel) (by decide),
    gs_bipush (n := 35) (by decide +kernel) (by decide),
    gs_icmp_ne (off := 6) (by decide +kernel) (by decide),
    gs_bipush (n := -4) (by decide +kernel) (by decide),
    gs_iret (by decide +kernel),
    gs_aload_n (k := 0) (by decide +kernel) rfl,
    gs_get (T := TX11) (N := 29) (Cn := RX11) (by decide +kernel) rfl (by decide) inW11 rfl wd_824,
    gs_bipush (n := 40) (by decide +kernel) (by decide),
    gs_iload_n (k := 1) (by decide +kernel) rfl,
    gs_imul (by decide +kernel),
    gs_aload_n (k := 0) (by decide +kernel) rfl,
    gs_get (T := TX11) (N := 29) (Cn := RX11) (by decide +kernel) rfl (by decide) inW11 rfl wd_825,
    gs_iload_n (k := 1) (by decide +kernel) rfl,
    gs_iaload (by decide +kernel),
    gs_iadd (by decide +kernel),
    gs_iload_n (k := 2) (by decide +kernel) rfl,
    gs_iastore (by decide +kernel),
    gs_aload_n (k := 0) (by decide +kernel) rfl,
    gs_get (T := TX11) (N := 29) (Cn := RX11) (by decide +kernel) rfl (by decide) inW11 rfl wd_825,
    gs_iload_n (k := 1) (by decide +kernel) rfl,
    gs_dup2 (by decide +kernel),
    gs_iaload (by decide +kernel),
    gs_iconst (n := 1) (by decide +kernel) (by decide),
    gs_iadd (by decide +kernel),
    gs_iastore (by decide +kernel),
    gs_aload_n (k := 0) (by decide +kernel) rfl,
    gs_get (T := TX11) (N := 29) (Cn := RX11) (by decide +kernel) rfl (by decide) inW11 rfl wd_825,
    gs_iload_n (k := 1) (by decide +kernel) rfl,
    gs_iaload (by decide +kernel),
    gs_iret (by decide +kernel),
    fun _ h => absurd h List.not_mem_nil⟩
def pX11_wipe : gProg := [(0, sLdI 1 1),
  (1, sCallS 113 1),
  (4, sIfne 10),
  (7, sPush (.int (-2)) 2),
  (9, sRetI),
  (10, sLdA 0 1),
  (11, sGet 11 6),
  (14, sLdI 1 1),
  (15, sIald),
  (16, sStI 2 1),
  (17, sLdA 0 1),
  (18, sGet 11 6),
  (21, sLdI 1 1),
  (22, sPush (.int 0) 1),
  (23, sIast),
  (24, sLdI 2 1),
  (25, sRetI)]
theorem kX11_wipe : ∀ q ∈ pX11_wipe, gSnd RX11 cX11_wipe 3 none q.1 q.2 := by
  simp only [pX11_wipe, List.forall_mem_cons]
  exact ⟨gs_iload_n (k := 1) (by decide +kernel) rfl,
    gs_callS (by decide +kernel) rfl wd_952 wd_954 wd_953 wd_12 mp_113 (by decide),
    gs_if_ne (off := 6) (by decide +kernel) (by decide),
    gs_bipush (n := -2) (by decide +kernel) (by decide),
    gs_iret (by decide +kernel),
    gs_aload_n (k := 0) (by decide +kernel) rfl,
    gs_get (T := TX11) (N := 29) (Cn := RX11) (by decide +kernel) rfl (by decide) inW11 rfl wd_825,
    gs_iload_n (k := 1) (by decide +kernel) rfl,
    gs_iaload (by decide +kernel),
    gs_istore_n (k := 2) (by decide +kernel) rfl,
    gs_aload_n (k := 0) (by decide +kernel) rfl,
    gs_get (T := TX11) (N := 29) (Cn := RX11) (by decide +kernel) rfl (by decide) inW11 rfl wd_825,
    gs_iload_n (k := 1) (by decide +kernel) rfl,
    gs_iconst (n := 0) (by decide +kernel) (by decide),
    gs_iastore (by decide +kernel),
    gs_iload_n (k := 2) (by decide +kernel) rfl,
    gs_iret (by decide +kernel),
    fun _ h => absurd h List.not_mem_nil⟩
def pX11_undo : gProg := [(0, sLdI 1 1),
  (1, sCallS 113 1),
  (4, sIfne 10),
  (7, sPush (.int (-2)) 2),
  (9, sRetI),
  (10, sLdA 0 1),
  (11, sGet 11 6),
  (14, sLdI 1 1),
  (15, sIald),
  (16, sIfne 22),
  (19, sPush (.int (-3)) 2),
  (21, sRetI),
  (22, sLdA 0 1),
  (23, sGet 11 6),
  (26, sLdI 1 1),
  (27, sDup2),
  (28, sIald),
  (29, sPush (.int 1) 1),
  (30, sIsub),
  (31, sIast),
  (32, sLdA 0 1),
  (33, sGet 11 6),
  (36, sLdI 1 1),
  (37, sIald),
  (38, sRetI)]
theorem kX11_undo : ∀ q ∈ pX11_undo, gSnd RX11 cX11_undo 2 none q.1 q.2 := by
  simp only [pX11_undo, List.forall_mem_cons]
  exact ⟨gs_iload_n (k := 1) (by decide +kernel) rfl,
    gs_callS (by decide +kernel) rfl wd_952 wd_954 wd_953 wd_12 mp_113 (by decide),
    gs_if_ne (off := 6) (by decide +kernel) (by decide),
    gs_bipush (n := -2) (by decide +kernel) (by decide),
    gs_iret (by decide +kernel),
    gs_aload_n (k := 0) (by decide +kernel) rfl,
    gs_get (T := TX11) (N := 29) (Cn := RX11) (by decide +kernel) rfl (by decide) inW11 rfl wd_825,
    gs_iload_n (k := 1) (by decide +kernel) rfl,
    gs_iaload (by decide +kernel),
    gs_if_ne (off := 6) (by decide +kernel) (by decide),
    gs_bipush (n := -3) (by decide +kernel) (by decide),
    gs_iret (by decide +kernel),
    gs_aload_n (k := 0) (by decide +kernel) rfl,
    gs_get (T := TX11) (N := 29) (Cn := RX11) (by decide +kernel) rfl (by decide) inW11 rfl wd_825,
    gs_iload_n (k := 1) (by decide +kernel) rfl,
    gs_dup2 (by decide +kernel),
    gs_iaload (by decide +kernel),
    gs_iconst (n := 1) (by decide +kernel) (by decide),
    gs_isub (by decide +kernel),
    gs_iastore (by decide +kernel),
    gs_aload_n (k := 0) (by decide +kernel) rfl,
    gs_get (T := TX11) (N := 29) (Cn := RX11) (by decide +kernel) rfl (by decide) inW11 rfl wd_825,
    gs_iload_n (k := 1) (by decide +kernel) rfl,
    gs_iaload (by decide +kernel),
    gs_iret (by decide +kernel),
    fun _ h => absurd h List.not_mem_nil⟩
def pX11_kindOf : gProg := [(0, sLdI 0 1),
  (1, sPush (.int 99) 2),
  (3, sCmpne 10),
  (6, sPush (.int 0) 1),
  (7, sGoto 32),
  (10, sLdI 0 1),
  (11, sPush (.int 101) 2),
  (13, sCmpne 20),
  (16, sPush (.int 1) 1),
  (17, sGoto 32),
  (20, sLdI 0 1),
  (21, sPush (.int 100) 2),
  (23, sCmpne 30),
  (26, sPush (.int 2) 1),
  (27, sGoto 32),
  (30, sPush (.int (-9)) 2),
  (32, sRetI)]
theorem kX11_kindOf : ∀ q ∈ pX11_kindOf, gSnd RX11 cX11_kindOf 1 none q.1 q.2 := by
  simp only [pX11_kindOf, List.forall_mem_cons]
  exact ⟨gs_iload_n (k := 0) (by decide +kernel) rfl,
    gs_bipush (n := 99) (by decide +kernel) (by decide),
    gs_icmp_ne (off := 7) (by decide +kernel) (by decide),
    gs_iconst (n := 0) (by decide +kernel) (by decide),
    gs_goto (off := 25) (by decide +kernel) (by decide),
    gs_iload_n (k := 0) (by decide +kernel) rfl,
    gs_bipush (n := 101) (by decide +kernel) (by decide),
    gs_icmp_ne (off := 7) (by decide +kernel) (by decide),
    gs_iconst (n := 1) (by decide +kernel) (by decide),
    gs_goto (off := 15) (by decide +kernel) (by decide),
    gs_iload_n (k := 0) (by decide +kernel) rfl,
    gs_bipush (n := 100) (by decide +kernel) (by decide),
    gs_icmp_ne (off := 7) (by decide +kernel) (by decide),
    gs_iconst (n := 2) (by decide +kernel) (by decide),
    gs_goto (off := 5) (by decide +kernel) (by decide),
    gs_bipush (n := -9) (by decide +kernel) (by decide),
    gs_iret (by decide +kernel),
    fun _ h => absurd h List.not_mem_nil⟩
def pX11_bushOf : gProg := [(0, sLdI 0 1),
  (1, sSw 0 [28, 33, 57] 81),
  (28, sLdI 1 1),
  (29, sCallS 131 1),
  (32, sRetI),
  (33, sLdI 1 1),
  (34, sI2L),
  (35, sPush (.long 97) 3),
  (38, sPush (.long 108) 3),
  (41, sCallS 111 3),
  (44, sIfeq 54),
  (47, sLdI 1 1),
  (48, sPush (.int 97) 2),
  (50, sIsub),
  (51, sGoto 56),
  (54, sPush (.int (-9)) 2),
  (56, sRetI),
  (57, sLdI 1 1),
  (58, sI2L),
  (59, sPush (.long 49) 3),
  (62, sPush (.long 57) 3),
  (65, sCallS 111 3),
  (68, sIfeq 78),
  (71, sLdI 1 1),
  (72, sPush (.int 48) 2),
  (74, sIsub),
  (75, sGoto 80),
  (78, sPush (.int (-9)) 2),
  (80, sRetI),
  (81, sLdI 1 1),
  (82, sPush (.int 59) 2),
  (84, sCmpne 91),
  (87, sPush (.int 0) 1),
  (88, sGoto 93),
  (91, sPush (.int (-9)) 2),
  (93, sRetI)]
theorem kX11_bushOf : ∀ q ∈ pX11_bushOf, gSnd RX11 cX11_bushOf 2 none q.1 q.2 := by
  simp only [pX11_bushOf, List.forall_mem_cons]
  exact ⟨gs_iload_n (k := 0) (by decide +kernel) rfl,
    gs_table (dflt := 80) (lo := 0) (hi := 2) (offs := #[27, 32, 56]) (len := 27) (by decide +kernel) (by decide) (by decide) (by decide),
    gs_iload_n (k := 1) (by decide +kernel) rfl,
    gs_callS (by decide +kernel) rfl wd_979 wd_981 wd_980 wd_12 mp_131 (by decide),
    gs_iret (by decide +kernel),
    gs_iload_n (k := 1) (by decide +kernel) rfl,
    gs_i2l (by decide +kernel),
    gs_ldc2 (by decide +kernel) wd_982,
    gs_ldc2 (by decide +kernel) wd_983,
    gs_callS (by decide +kernel) rfl wd_916 wd_918 wd_917 wd_12 mp_111 (by decide),
    gs_if_eq (off := 10) (by decide +kernel) (by decide),
    gs_iload_n (k := 1) (by decide +kernel) rfl,
    gs_bipush (n := 97) (by decide +kernel) (by decide),
    gs_isub (by decide +kernel),
    gs_goto (off := 5) (by decide +kernel) (by decide),
    gs_bipush (n := -9) (by decide +kernel) (by decide),
    gs_iret (by decide +kernel),
    gs_iload_n (k := 1) (by decide +kernel) rfl,
    gs_i2l (by decide +kernel),
    gs_ldc2 (by decide +kernel) wd_984,
    gs_ldc2 (by decide +kernel) wd_985,
    gs_callS (by decide +kernel) rfl wd_916 wd_918 wd_917 wd_12 mp_111 (by decide),
    gs_if_eq (off := 10) (by decide +kernel) (by decide),
    gs_iload_n (k := 1) (by decide +kernel) rfl,
    gs_bipush (n := 48) (by decide +kernel) (by decide),
    gs_isub (by decide +kernel),
    gs_goto (off := 5) (by decide +kernel) (by decide),
    gs_bipush (n := -9) (by decide +kernel) (by decide),
    gs_iret (by decide +kernel),
    gs_iload_n (k := 1) (by decide +kernel) rfl,
    gs_bipush (n := 59) (by decide +kernel) (by decide),
    gs_icmp_ne (off := 7) (by decide +kernel) (by decide),
    gs_iconst (n := 0) (by decide +kernel) (by decide),
    gs_goto (off := 5) (by decide +kernel) (by decide),
    gs_bipush (n := -9) (by decide +kernel) (by decide),
    gs_iret (by decide +kernel),
    fun _ h => absurd h List.not_mem_nil⟩
end
section
def pX11_readsBushes : gProg := [(0, sLdA 0 1),
  (1, sPush (.int 0) 1),
  (2, sPut 11 7),
  (5, sLdA 0 1),
  (6, sGet 11 6),
  (9, sPush (.int 0) 1),
  (10, sIald),
  (11, sStI 1 1),
  (12, sPush (.int 0) 1),
  (13, sStI 2 1),
  (14, sLdI 2 1),
  (15, sLdI 1 1),
  (16, sCmpge 93),
  (19, sLdI 2 1),
  (20, sPush (.int 4) 1),
  (21, sIrem),
  (22, sStI 3 1),
  (23, sLdI 3 1),
  (24, sLdA 0 1),
  (25, sGet 11 5),
  (28, sLdI 2 1),
  (29, sIald),
  (30, sCallS 132 2),
  (33, sStI 4 2),
  (35, sLdI 4 2),
  (37, sPush (.int (-9)) 2),
  (39, sCmpne 49),
  (42, sLdA 0 1),
  (43, sPush (.int 0) 1),
  (44, sPut 11 7),
  (47, sLdI 2 1),
  (48, sRetI),
  (49, sLdI 3 1),
  (50, sPush (.int 3) 1),
  (51, sCmpge 68),
  (54, sLdA 0 1),
  (55, sGet 11 8),
  (58, sPush (.int 3) 1),
  (59, sLdI 2 1),
  (60, sPush (.int 4) 1),
  (61, sIdiv),
  (62, sImul),
  (63, sLdI 3 1),
  (64, sIadd),
  (65, sLdI 4 2),
  (67, sIast),
  (68, sLdA 0 1),
  (69, sDup),
  (70, sGet 11 7),
  (73, sLdI 3 1),
  (74, sPush (.int 2) 1),
  (75, sCmpne 82),
  (78, sPush (.int 1) 1),
  (79, sGoto 83),
  (82, sPush (.int 0) 1),
  (83, sIadd),
  (84, sPut 11 7),
  (87, sInc 2 1),
  (90, sGoto 14),
  (93, sLdI 1 1),
  (94, sIfle 111),
  (97, sLdI 1 1),
  (98, sPush (.int 4) 1),
  (99, sIrem),
  (100, sPush (.int 3) 1),
  (101, sCmpeq 111),
  (104, sLdA 0 1),
  (105, sPush (.int 0) 1),
  (106, sPut 11 7),
  (109, sLdI 1 1),
  (110, sRetI),
  (111, sPush (.int (-1)) 1),
  (112, sRetI)]
theorem kX11_readsBushes : ∀ q ∈ pX11_readsBushes, gSnd RX11 cX11_readsBushes 5 none q.1 q.2 := by
  simp only [pX11_readsBushes, List.forall_mem_cons]
  exact ⟨gs_aload_n (k := 0) (by decide +kernel) rfl,
    gs_iconst (n := 0) (by decide +kernel) (by decide),
    gs_put (T := TX11) (N := 29) (Cn := RX11) (by decide +kernel) rfl (by decide) inW11 tyX11_ok nmX11 rfl wd_826,
    gs_aload_n (k := 0) (by decide +kernel) rfl,
    gs_get (T := TX11) (N := 29) (Cn := RX11) (by decide +kernel) rfl (by decide) inW11 rfl wd_825,
    gs_iconst (n := 0) (by decide +kernel) (by decide),
    gs_iaload (by decide +kernel),
    gs_istore_n (k := 1) (by decide +kernel) rfl,
    gs_iconst (n := 0) (by decide +kernel) (by decide),
    gs_istore_n (k := 2) (by decide +kernel) rfl,
    gs_iload_n (k := 2) (by decide +kernel) rfl,
    gs_iload_n (k := 1) (by decide +kernel) rfl,
    gs_icmp_ge (off := 77) (by decide +kernel) (by decide),
    gs_iload_n (k := 2) (by decide +kernel) rfl,
    gs_iconst (n := 4) (by decide +kernel) (by decide),
    gs_irem (by decide +kernel),
    gs_istore_n (k := 3) (by decide +kernel) rfl,
    gs_iload_n (k := 3) (by decide +kernel) rfl,
    gs_aload_n (k := 0) (by decide +kernel) rfl,
    gs_get (T := TX11) (N := 29) (Cn := RX11) (by decide +kernel) rfl (by decide) inW11 rfl wd_824,
    gs_iload_n (k := 2) (by decide +kernel) rfl,
    gs_iaload (by decide +kernel),
    gs_callS (by decide +kernel) rfl wd_976 wd_978 wd_977 wd_12 mp_132 (by decide),
    gs_istore (by decide +kernel),
    gs_iload (by decide +kernel),
    gs_bipush (n := -9) (by decide +kernel) (by decide),
    gs_icmp_ne (off := 10) (by decide +kernel) (by decide),
    gs_aload_n (k := 0) (by decide +kernel) rfl,
    gs_iconst (n := 0) (by decide +kernel) (by decide),
    gs_put (T := TX11) (N := 29) (Cn := RX11) (by decide +kernel) rfl (by decide) inW11 tyX11_ok nmX11 rfl wd_826,
    gs_iload_n (k := 2) (by decide +kernel) rfl,
    gs_iret (by decide +kernel),
    gs_iload_n (k := 3) (by decide +kernel) rfl,
    gs_iconst (n := 3) (by decide +kernel) (by decide),
    gs_icmp_ge (off := 17) (by decide +kernel) (by decide),
    gs_aload_n (k := 0) (by decide +kernel) rfl,
    gs_get (T := TX11) (N := 29) (Cn := RX11) (by decide +kernel) rfl (by decide) inW11 rfl wd_827,
    gs_iconst (n := 3) (by decide +kernel) (by decide),
    gs_iload_n (k := 2) (by decide +kernel) rfl,
    gs_iconst (n := 4) (by decide +kernel) (by decide),
    gs_idiv (by decide +kernel),
    gs_imul (by decide +kernel),
    gs_iload_n (k := 3) (by decide +kernel) rfl,
    gs_iadd (by decide +kernel),
    gs_iload (by decide +kernel),
    gs_iastore (by decide +kernel),
    gs_aload_n (k := 0) (by decide +kernel) rfl,
    gs_dup (by decide +kernel),
    gs_get (T := TX11) (N := 29) (Cn := RX11) (by decide +kernel) rfl (by decide) inW11 rfl wd_826,
    gs_iload_n (k := 3) (by decide +kernel) rfl,
    gs_iconst (n := 2) (by decide +kernel) (by decide),
    gs_icmp_ne (off := 7) (by decide +kernel) (by decide),
    gs_iconst (n := 1) (by decide +kernel) (by decide),
    gs_goto (off := 4) (by decide +kernel) (by decide),
    gs_iconst (n := 0) (by decide +kernel) (by decide),
    gs_iadd (by decide +kernel),
    gs_put (T := TX11) (N := 29) (Cn := RX11) (by decide +kernel) rfl (by decide) inW11 tyX11_ok nmX11 rfl wd_826,
    gs_iinc (n := 1) (by decide +kernel) (by decide),
    gs_goto (off := -76) (by decide +kernel) (by decide),
    gs_iload_n (k := 1) (by decide +kernel) rfl,
    gs_if_le (off := 17) (by decide +kernel) (by decide),
    gs_iload_n (k := 1) (by decide +kernel) rfl,
    gs_iconst (n := 4) (by decide +kernel) (by decide),
    gs_irem (by decide +kernel),
    gs_iconst (n := 3) (by decide +kernel) (by decide),
    gs_icmp_eq (off := 10) (by decide +kernel) (by decide),
    gs_aload_n (k := 0) (by decide +kernel) rfl,
    gs_iconst (n := 0) (by decide +kernel) (by decide),
    gs_put (T := TX11) (N := 29) (Cn := RX11) (by decide +kernel) rfl (by decide) inW11 tyX11_ok nmX11 rfl wd_826,
    gs_iload_n (k := 1) (by decide +kernel) rfl,
    gs_iret (by decide +kernel),
    gs_iconst (n := -1) (by decide +kernel) (by decide),
    gs_iret (by decide +kernel),
    fun _ h => absurd h List.not_mem_nil⟩
def pX11_lookOf : gProg := [(0, sLdI 0 1),
  (1, sIfne 30),
  (4, sLdI 1 1),
  (5, sI2L),
  (6, sPush (.long 97) 3),
  (9, sPush (.long 120) 3),
  (12, sCallS 111 3),
  (15, sIfeq 25),
  (18, sLdI 1 1),
  (19, sPush (.int 97) 2),
  (21, sIsub),
  (22, sGoto 73),
  (25, sPush (.int (-9)) 2),
  (27, sGoto 73),
  (30, sLdI 0 1),
  (31, sPush (.int 1) 1),
  (32, sCmpne 61),
  (35, sLdI 1 1),
  (36, sI2L),
  (37, sPush (.long 48) 3),
  (40, sPush (.long 57) 3),
  (43, sCallS 111 3),
  (46, sIfeq 56),
  (49, sLdI 1 1),
  (50, sPush (.int 48) 2),
  (52, sIsub),
  (53, sGoto 73),
  (56, sPush (.int (-9)) 2),
  (58, sGoto 73),
  (61, sLdI 1 1),
  (62, sPush (.int 59) 2),
  (64, sCmpne 71),
  (67, sPush (.int 0) 1),
  (68, sGoto 73),
  (71, sPush (.int (-9)) 2),
  (73, sRetI)]
theorem kX11_lookOf : ∀ q ∈ pX11_lookOf, gSnd RX11 cX11_lookOf 2 none q.1 q.2 := by
  simp only [pX11_lookOf, List.forall_mem_cons]
  exact ⟨gs_iload_n (k := 0) (by decide +kernel) rfl,
    gs_if_ne (off := 29) (by decide +kernel) (by decide),
    gs_iload_n (k := 1) (by decide +kernel) rfl,
    gs_i2l (by decide +kernel),
    gs_ldc2 (by decide +kernel) wd_982,
    gs_ldc2 (by decide +kernel) wd_993,
    gs_callS (by decide +kernel) rfl wd_916 wd_918 wd_917 wd_12 mp_111 (by decide),
    gs_if_eq (off := 10) (by decide +kernel) (by decide),
    gs_iload_n (k := 1) (by decide +kernel) rfl,
    gs_bipush (n := 97) (by decide +kernel) (by decide),
    gs_isub (by decide +kernel),
    gs_goto (off := 51) (by decide +kernel) (by decide),
    gs_bipush (n := -9) (by decide +kernel) (by decide),
    gs_goto (off := 46) (by decide +kernel) (by decide),
    gs_iload_n (k := 0) (by decide +kernel) rfl,
    gs_iconst (n := 1) (by decide +kernel) (by decide),
    gs_icmp_ne (off := 29) (by decide +kernel) (by decide),
    gs_iload_n (k := 1) (by decide +kernel) rfl,
    gs_i2l (by decide +kernel),
    gs_ldc2 (by decide +kernel) wd_994,
    gs_ldc2 (by decide +kernel) wd_985,
    gs_callS (by decide +kernel) rfl wd_916 wd_918 wd_917 wd_12 mp_111 (by decide),
    gs_if_eq (off := 10) (by decide +kernel) (by decide),
    gs_iload_n (k := 1) (by decide +kernel) rfl,
    gs_bipush (n := 48) (by decide +kernel) (by decide),
    gs_isub (by decide +kernel),
    gs_goto (off := 20) (by decide +kernel) (by decide),
    gs_bipush (n := -9) (by decide +kernel) (by decide),
    gs_goto (off := 15) (by decide +kernel) (by decide),
    gs_iload_n (k := 1) (by decide +kernel) rfl,
    gs_bipush (n := 59) (by decide +kernel) (by decide),
    gs_icmp_ne (off := 7) (by decide +kernel) (by decide),
    gs_iconst (n := 0) (by decide +kernel) (by decide),
    gs_goto (off := 5) (by decide +kernel) (by decide),
    gs_bipush (n := -9) (by decide +kernel) (by decide),
    gs_iret (by decide +kernel),
    fun _ h => absurd h List.not_mem_nil⟩
def pX11_readsLooks : gProg := [(0, sLdA 0 1),
  (1, sPush (.int 0) 1),
  (2, sPut 11 9),
  (5, sLdA 0 1),
  (6, sGet 11 6),
  (9, sPush (.int 1) 1),
  (10, sIald),
  (11, sStI 1 1),
  (12, sPush (.int 0) 1),
  (13, sStI 2 1),
  (14, sLdI 2 1),
  (15, sLdI 1 1),
  (16, sCmpge 96),
  (19, sLdI 2 1),
  (20, sPush (.int 3) 1),
  (21, sIrem),
  (22, sStI 3 1),
  (23, sLdI 3 1),
  (24, sLdA 0 1),
  (25, sGet 11 5),
  (28, sPush (.int 40) 2),
  (30, sLdI 2 1),
  (31, sIadd),
  (32, sIald),
  (33, sCallS 134 2),
  (36, sStI 4 2),
  (38, sLdI 4 2),
  (40, sPush (.int (-9)) 2),
  (42, sCmpne 52),
  (45, sLdA 0 1),
  (46, sPush (.int 0) 1),
  (47, sPut 11 9),
  (50, sLdI 2 1),
  (51, sRetI),
  (52, sLdI 3 1),
  (53, sPush (.int 2) 1),
  (54, sCmpge 71),
  (57, sLdA 0 1),
  (58, sGet 11 10),
  (61, sPush (.int 2) 1),
  (62, sLdI 2 1),
  (63, sPush (.int 3) 1),
  (64, sIdiv),
  (65, sImul),
  (66, sLdI 3 1),
  (67, sIadd),
  (68, sLdI 4 2),
  (70, sIast),
  (71, sLdA 0 1),
  (72, sDup),
  (73, sGet 11 9),
  (76, sLdI 3 1),
  (77, sPush (.int 1) 1),
  (78, sCmpne 85),
  (81, sPush (.int 1) 1),
  (82, sGoto 86),
  (85, sPush (.int 0) 1),
  (86, sIadd),
  (87, sPut 11 9),
  (90, sInc 2 1),
  (93, sGoto 14),
  (96, sLdI 1 1),
  (97, sIfle 114),
  (100, sLdI 1 1),
  (101, sPush (.int 3) 1),
  (102, sIrem),
  (103, sPush (.int 2) 1),
  (104, sCmpeq 114),
  (107, sLdA 0 1),
  (108, sPush (.int 0) 1),
  (109, sPut 11 9),
  (112, sLdI 1 1),
  (113, sRetI),
  (114, sPush (.int (-1)) 1),
  (115, sRetI)]
theorem kX11_readsLooks : ∀ q ∈ pX11_readsLooks, gSnd RX11 cX11_readsLooks 5 none q.1 q.2 := by
  simp only [pX11_readsLooks, List.forall_mem_cons]
  exact ⟨gs_aload_n (k := 0) (by decide +kernel) rfl,
    gs_iconst (n := 0) (by decide +kernel) (by decide),
    gs_put (T := TX11) (N := 29) (Cn := RX11) (by decide +kernel) rfl (by decide) inW11 tyX11_ok nmX11 rfl wd_828,
    gs_aload_n (k := 0) (by decide +kernel) rfl,
    gs_get (T := TX11) (N := 29) (Cn := RX11) (by decide +kernel) rfl (by decide) inW11 rfl wd_825,
    gs_iconst (n := 1) (by decide +kernel) (by decide),
    gs_iaload (by decide +kernel),
    gs_istore_n (k := 1) (by decide +kernel) rfl,
    gs_iconst (n := 0) (by decide +kernel) (by decide),
    gs_istore_n (k := 2) (by decide +kernel) rfl,
    gs_iload_n (k := 2) (by decide +kernel) rfl,
    gs_iload_n (k := 1) (by decide +kernel) rfl,
    gs_icmp_ge (off := 80) (by decide +kernel) (by decide),
    gs_iload_n (k := 2) (by decide +kernel) rfl,
    gs_iconst (n := 3) (by decide +kernel) (by decide),
    gs_irem (by decide +kernel),
    gs_istore_n (k := 3) (by decide +kernel) rfl,
    gs_iload_n (k := 3) (by decide +kernel) rfl,
    gs_aload_n (k := 0) (by decide +kernel) rfl,
    gs_get (T := TX11) (N := 29) (Cn := RX11) (by decide +kernel) rfl (by decide) inW11 rfl wd_824,
    gs_bipush (n := 40) (by decide +kernel) (by decide),
    gs_iload_n (k := 2) (by decide +kernel) rfl,
    gs_iadd (by decide +kernel),
    gs_iaload (by decide +kernel),
    gs_callS (by decide +kernel) rfl wd_990 wd_992 wd_991 wd_12 mp_134 (by decide),
    gs_istore (by decide +kernel),
    gs_iload (by decide +kernel),
    gs_bipush (n := -9) (by decide +kernel) (by decide),
    gs_icmp_ne (off := 10) (by decide +kernel) (by decide),
    gs_aload_n (k := 0) (by decide +kernel) rfl,
    gs_iconst (n := 0) (by decide +kernel) (by decide),
    gs_put (T := TX11) (N := 29) (Cn := RX11) (by decide +kernel) rfl (by decide) inW11 tyX11_ok nmX11 rfl wd_828,
    gs_iload_n (k := 2) (by decide +kernel) rfl,
    gs_iret (by decide +kernel),
    gs_iload_n (k := 3) (by decide +kernel) rfl,
    gs_iconst (n := 2) (by decide +kernel) (by decide),
    gs_icmp_ge (off := 17) (by decide +kernel) (by decide),
    gs_aload_n (k := 0) (by decide +kernel) rfl,
    gs_get (T := TX11) (N := 29) (Cn := RX11) (by decide +kernel) rfl (by decide) inW11 rfl wd_829,
    gs_iconst (n := 2) (by decide +kernel) (by decide),
    gs_iload_n (k := 2) (by decide +kernel) rfl,
    gs_iconst (n := 3) (by decide +kernel) (by decide),
    gs_idiv (by decide +kernel),
    gs_imul (by decide +kernel),
    gs_iload_n (k := 3) (by decide +kernel) rfl,
    gs_iadd (by decide +kernel),
    gs_iload (by decide +kernel),
    gs_iastore (by decide +kernel),
    gs_aload_n (k := 0) (by decide +kernel) rfl,
    gs_dup (by decide +kernel),
    gs_get (T := TX11) (N := 29) (Cn := RX11) (by decide +kernel) rfl (by decide) inW11 rfl wd_828,
    gs_iload_n (k := 3) (by decide +kernel) rfl,
    gs_iconst (n := 1) (by decide +kernel) (by decide),
    gs_icmp_ne (off := 7) (by decide +kernel) (by decide),
    gs_iconst (n := 1) (by decide +kernel) (by decide),
    gs_goto (off := 4) (by decide +kernel) (by decide),
    gs_iconst (n := 0) (by decide +kernel) (by decide),
    gs_iadd (by decide +kernel),
    gs_put (T := TX11) (N := 29) (Cn := RX11) (by decide +kernel) rfl (by decide) inW11 tyX11_ok nmX11 rfl wd_828,
    gs_iinc (n := 1) (by decide +kernel) (by decide),
    gs_goto (off := -79) (by decide +kernel) (by decide),
    gs_iload_n (k := 1) (by decide +kernel) rfl,
    gs_if_le (off := 17) (by decide +kernel) (by decide),
    gs_iload_n (k := 1) (by decide +kernel) rfl,
    gs_iconst (n := 3) (by decide +kernel) (by decide),
    gs_irem (by decide +kernel),
    gs_iconst (n := 2) (by decide +kernel) (by decide),
    gs_icmp_eq (off := 10) (by decide +kernel) (by decide),
    gs_aload_n (k := 0) (by decide +kernel) rfl,
    gs_iconst (n := 0) (by decide +kernel) (by decide),
    gs_put (T := TX11) (N := 29) (Cn := RX11) (by decide +kernel) rfl (by decide) inW11 tyX11_ok nmX11 rfl wd_828,
    gs_iload_n (k := 1) (by decide +kernel) rfl,
    gs_iret (by decide +kernel),
    gs_iconst (n := -1) (by decide +kernel) (by decide),
    gs_iret (by decide +kernel),
    fun _ h => absurd h List.not_mem_nil⟩
def pX11_readsText : gProg := [(0, sLdI 1 1),
  (1, sIfne 11),
  (4, sLdA 0 1),
  (5, sCallV 133 11 0),
  (8, sGoto 15),
  (11, sLdA 0 1),
  (12, sCallV 135 11 0),
  (15, sRetI)]
theorem kX11_readsText : ∀ q ∈ pX11_readsText, gSnd RX11 cX11_readsText 2 none q.1 q.2 := by
  simp only [pX11_readsText, List.forall_mem_cons]
  exact ⟨gs_iload_n (k := 1) (by decide +kernel) rfl,
    gs_if_ne (off := 10) (by decide +kernel) (by decide),
    gs_aload_n (k := 0) (by decide +kernel) rfl,
    gs_callV (by decide +kernel) rfl rfl wd_972 wd_975 wd_974 ws_34 wd_12 mp_133 (by decide),
    gs_goto (off := 7) (by decide +kernel) (by decide),
    gs_aload_n (k := 0) (by decide +kernel) rfl,
    gs_callV (by decide +kernel) rfl rfl wd_986 wd_989 wd_988 ws_35 wd_12 mp_135 (by decide),
    gs_iret (by decide +kernel),
    fun _ h => absurd h List.not_mem_nil⟩
def pX11_fault : gProg := [(0, sLdI 1 1),
  (1, sCallS 113 1),
  (4, sIfeq 15),
  (7, sLdA 0 1),
  (8, sLdI 1 1),
  (9, sCallV 136 11 1),
  (12, sGoto 17),
  (15, sPush (.int (-2)) 2),
  (17, sRetI)]
theorem kX11_fault : ∀ q ∈ pX11_fault, gSnd RX11 cX11_fault 2 none q.1 q.2 := by
  simp only [pX11_fault, List.forall_mem_cons]
  exact ⟨gs_iload_n (k := 1) (by decide +kernel) rfl,
    gs_callS (by decide +kernel) rfl wd_952 wd_954 wd_953 wd_12 mp_113 (by decide),
    gs_if_eq (off := 11) (by decide +kernel) (by decide),
    gs_aload_n (k := 0) (by decide +kernel) rfl,
    gs_iload_n (k := 1) (by decide +kernel) rfl,
    gs_callV (by decide +kernel) rfl rfl wd_968 wd_971 wd_970 ws_33 wd_12 mp_136 (by decide),
    gs_goto (off := 5) (by decide +kernel) (by decide),
    gs_bipush (n := -2) (by decide +kernel) (by decide),
    gs_iret (by decide +kernel),
    fun _ h => absurd h List.not_mem_nil⟩
def pX11_isBush : gProg := [(0, sLdI 1 1),
  (1, sI2L),
  (2, sPush (.long 0) 1),
  (3, sLdA 0 1),
  (4, sGet 11 7),
  (7, sPush (.int 1) 1),
  (8, sIsub),
  (9, sI2L),
  (10, sCallS 111 3),
  (13, sRetI)]
theorem kX11_isBush : ∀ q ∈ pX11_isBush, gSnd RX11 cX11_isBush 2 none q.1 q.2 := by
  simp only [pX11_isBush, List.forall_mem_cons]
  exact ⟨gs_iload_n (k := 1) (by decide +kernel) rfl,
    gs_i2l (by decide +kernel),
    gs_lconst (n := 0) (by decide +kernel) (by decide),
    gs_aload_n (k := 0) (by decide +kernel) rfl,
    gs_get (T := TX11) (N := 29) (Cn := RX11) (by decide +kernel) rfl (by decide) inW11 rfl wd_826,
    gs_iconst (n := 1) (by decide +kernel) (by decide),
    gs_isub (by decide +kernel),
    gs_i2l (by decide +kernel),
    gs_callS (by decide +kernel) rfl wd_916 wd_918 wd_917 wd_12 mp_111 (by decide),
    gs_iret (by decide +kernel),
    fun _ h => absurd h List.not_mem_nil⟩
def pX11_isMonth : gProg := [(0, sLdI 0 1),
  (1, sI2L),
  (2, sPush (.long 0) 1),
  (3, sPush (.long 23) 3),
  (6, sCallS 111 3),
  (9, sRetI)]
theorem kX11_isMonth : ∀ q ∈ pX11_isMonth, gSnd RX11 cX11_isMonth 1 none q.1 q.2 := by
  simp only [pX11_isMonth, List.forall_mem_cons]
  exact ⟨gs_iload_n (k := 0) (by decide +kernel) rfl,
    gs_i2l (by decide +kernel),
    gs_lconst (n := 0) (by decide +kernel) (by decide),
    gs_ldc2 (by decide +kernel) wd_1025,
    gs_callS (by decide +kernel) rfl wd_916 wd_918 wd_917 wd_12 mp_111 (by decide),
    gs_iret (by decide +kernel),
    fun _ h => absurd h List.not_mem_nil⟩
def pX11_bush : gProg := [(0, sLdA 0 1),
  (1, sCallV 133 11 0),
  (4, sPop),
  (5, sLdA 0 1),
  (6, sLdI 1 1),
  (7, sCallV 138 11 1),
  (10, sIfeq 38),
  (13, sLdI 2 1),
  (14, sI2L),
  (15, sPush (.long 0) 1),
  (16, sPush (.long 2) 3),
  (19, sCallS 111 3),
  (22, sIfeq 38),
  (25, sLdA 0 1),
  (26, sGet 11 8),
  (29, sPush (.int 3) 1),
  (30, sLdI 1 1),
  (31, sImul),
  (32, sLdI 2 1),
  (33, sIadd),
  (34, sIald),
  (35, sGoto 40),
  (38, sPush (.int (-2)) 2),
  (40, sRetI)]
theorem kX11_bush : ∀ q ∈ pX11_bush, gSnd RX11 cX11_bush 3 none q.1 q.2 := by
  simp only [pX11_bush, List.forall_mem_cons]
  exact ⟨gs_aload_n (k := 0) (by decide +kernel) rfl,
    gs_callV (by decide +kernel) rfl rfl wd_972 wd_975 wd_974 ws_34 wd_12 mp_133 (by decide),
    gs_pop (by decide +kernel),
    gs_aload_n (k := 0) (by decide +kernel) rfl,
    gs_iload_n (k := 1) (by decide +kernel) rfl,
    gs_callV (by decide +kernel) rfl rfl wd_999 wd_1002 wd_1001 ws_36 wd_12 mp_138 (by decide),
    gs_if_eq (off := 28) (by decide +kernel) (by decide),
    gs_iload_n (k := 2) (by decide +kernel) rfl,
    gs_i2l (by decide +kernel),
    gs_lconst (n := 0) (by decide +kernel) (by decide),
    gs_ldc2 (by decide +kernel) wd_919,
    gs_callS (by decide +kernel) rfl wd_916 wd_918 wd_917 wd_12 mp_111 (by decide),
    gs_if_eq (off := 16) (by decide +kernel) (by decide),
    gs_aload_n (k := 0) (by decide +kernel) rfl,
    gs_get (T := TX11) (N := 29) (Cn := RX11) (by decide +kernel) rfl (by decide) inW11 rfl wd_827,
    gs_iconst (n := 3) (by decide +kernel) (by decide),
    gs_iload_n (k := 1) (by decide +kernel) rfl,
    gs_imul (by decide +kernel),
    gs_iload_n (k := 2) (by decide +kernel) rfl,
    gs_iadd (by decide +kernel),
    gs_iaload (by decide +kernel),
    gs_goto (off := 5) (by decide +kernel) (by decide),
    gs_bipush (n := -2) (by decide +kernel) (by decide),
    gs_iret (by decide +kernel),
    fun _ h => absurd h List.not_mem_nil⟩
def pX11_lookBy : gProg := [(0, sLdI 1 1),
  (1, sLdA 0 1),
  (2, sGet 11 9),
  (5, sCmpge 21),
  (8, sLdA 0 1),
  (9, sGet 11 10),
  (12, sPush (.int 2) 1),
  (13, sLdI 1 1),
  (14, sImul),
  (15, sLdI 2 1),
  (16, sIadd),
  (17, sIald),
  (18, sGoto 22),
  (21, sPush (.int (-1)) 1),
  (22, sRetI)]
theorem kX11_lookBy : ∀ q ∈ pX11_lookBy, gSnd RX11 cX11_lookBy 3 none q.1 q.2 := by
  simp only [pX11_lookBy, List.forall_mem_cons]
  exact ⟨gs_iload_n (k := 1) (by decide +kernel) rfl,
    gs_aload_n (k := 0) (by decide +kernel) rfl,
    gs_get (T := TX11) (N := 29) (Cn := RX11) (by decide +kernel) rfl (by decide) inW11 rfl wd_828,
    gs_icmp_ge (off := 16) (by decide +kernel) (by decide),
    gs_aload_n (k := 0) (by decide +kernel) rfl,
    gs_get (T := TX11) (N := 29) (Cn := RX11) (by decide +kernel) rfl (by decide) inW11 rfl wd_829,
    gs_iconst (n := 2) (by decide +kernel) (by decide),
    gs_iload_n (k := 1) (by decide +kernel) rfl,
    gs_imul (by decide +kernel),
    gs_iload_n (k := 2) (by decide +kernel) rfl,
    gs_iadd (by decide +kernel),
    gs_iaload (by decide +kernel),
    gs_goto (off := 4) (by decide +kernel) (by decide),
    gs_iconst (n := -1) (by decide +kernel) (by decide),
    gs_iret (by decide +kernel),
    fun _ h => absurd h List.not_mem_nil⟩
def pX11_look : gProg := [(0, sLdA 0 1),
  (1, sCallV 135 11 0),
  (4, sPop),
  (5, sLdI 1 1),
  (6, sI2L),
  (7, sPush (.long 0) 1),
  (8, sPush (.long 11) 3),
  (11, sCallS 111 3),
  (14, sIfeq 33),
  (17, sLdI 2 1),
  (18, sCallS 113 1),
  (21, sIfeq 33),
  (24, sLdA 0 1),
  (25, sLdI 1 1),
  (26, sLdI 2 1),
  (27, sCallV 141 11 2),
  (30, sGoto 35),
  (33, sPush (.int (-2)) 2),
  (35, sRetI)]
theorem kX11_look : ∀ q ∈ pX11_look, gSnd RX11 cX11_look 3 none q.1 q.2 := by
  simp only [pX11_look, List.forall_mem_cons]
  exact ⟨gs_aload_n (k := 0) (by decide +kernel) rfl,
    gs_callV (by decide +kernel) rfl rfl wd_986 wd_989 wd_988 ws_35 wd_12 mp_135 (by decide),
    gs_pop (by decide +kernel),
    gs_iload_n (k := 1) (by decide +kernel) rfl,
    gs_i2l (by decide +kernel),
    gs_lconst (n := 0) (by decide +kernel) (by decide),
    gs_ldc2 (by decide +kernel) wd_1007,
    gs_callS (by decide +kernel) rfl wd_916 wd_918 wd_917 wd_12 mp_111 (by decide),
    gs_if_eq (off := 19) (by decide +kernel) (by decide),
    gs_iload_n (k := 2) (by decide +kernel) rfl,
    gs_callS (by decide +kernel) rfl wd_952 wd_954 wd_953 wd_12 mp_113 (by decide),
    gs_if_eq (off := 12) (by decide +kernel) (by decide),
    gs_aload_n (k := 0) (by decide +kernel) rfl,
    gs_iload_n (k := 1) (by decide +kernel) rfl,
    gs_iload_n (k := 2) (by decide +kernel) rfl,
    gs_callV (by decide +kernel) rfl rfl wd_1008 wd_1011 wd_1010 ws_37 wd_12 mp_141 (by decide),
    gs_goto (off := 5) (by decide +kernel) (by decide),
    gs_bipush (n := -2) (by decide +kernel) (by decide),
    gs_iret (by decide +kernel),
    fun _ h => absurd h List.not_mem_nil⟩
def pX11_set : gProg := [(0, sLdI 1 1),
  (1, sCallS 113 1),
  (4, sIfeq 29),
  (7, sLdI 2 1),
  (8, sI2L),
  (9, sPush (.long 0) 1),
  (10, sLdI 1 1),
  (11, sIfne 20),
  (14, sPush (.long 100) 3),
  (17, sGoto 23),
  (20, sPush (.long 50) 3),
  (23, sCallS 111 3),
  (26, sIfne 32),
  (29, sPush (.int (-2)) 2),
  (31, sRetI),
  (32, sLdI 1 1),
  (33, sIfne 43),
  (36, sLdA 0 1),
  (37, sGet 11 11),
  (40, sGoto 47),
  (43, sLdA 0 1),
  (44, sGet 11 12),
  (47, sStI 3 1),
  (48, sLdA 0 1),
  (49, sLdI 1 1),
  (50, sIfne 57),
  (53, sLdI 2 1),
  (54, sGoto 61),
  (57, sLdA 0 1),
  (58, sGet 11 11),
  (61, sPut 11 11),
  (64, sLdA 0 1),
  (65, sLdI 1 1),
  (66, sIfne 76),
  (69, sLdA 0 1),
  (70, sGet 11 12),
  (73, sGoto 77),
  (76, sLdI 2 1),
  (77, sPut 11 12),
  (80, sLdI 3 1),
  (81, sRetI)]
theorem kX11_set : ∀ q ∈ pX11_set, gSnd RX11 cX11_set 4 none q.1 q.2 := by
  simp only [pX11_set, List.forall_mem_cons]
  exact ⟨gs_iload_n (k := 1) (by decide +kernel) rfl,
    gs_callS (by decide +kernel) rfl wd_952 wd_954 wd_953 wd_12 mp_113 (by decide),
    gs_if_eq (off := 25) (by decide +kernel) (by decide),
    gs_iload_n (k := 2) (by decide +kernel) rfl,
    gs_i2l (by decide +kernel),
    gs_lconst (n := 0) (by decide +kernel) (by decide),
    gs_iload_n (k := 1) (by decide +kernel) rfl,
    gs_if_ne (off := 9) (by decide +kernel) (by decide),
    gs_ldc2 (by decide +kernel) wd_1016,
    gs_goto (off := 6) (by decide +kernel) (by decide),
    gs_ldc2 (by decide +kernel) wd_1017,
    gs_callS (by decide +kernel) rfl wd_916 wd_918 wd_917 wd_12 mp_111 (by decide),
    gs_if_ne (off := 6) (by decide +kernel) (by decide),
    gs_bipush (n := -2) (by decide +kernel) (by decide),
    gs_iret (by decide +kernel),
    gs_iload_n (k := 1) (by decide +kernel) rfl,
    gs_if_ne (off := 10) (by decide +kernel) (by decide),
    gs_aload_n (k := 0) (by decide +kernel) rfl,
    gs_get (T := TX11) (N := 29) (Cn := RX11) (by decide +kernel) rfl (by decide) inW11 rfl wd_830,
    gs_goto (off := 7) (by decide +kernel) (by decide),
    gs_aload_n (k := 0) (by decide +kernel) rfl,
    gs_get (T := TX11) (N := 29) (Cn := RX11) (by decide +kernel) rfl (by decide) inW11 rfl wd_831,
    gs_istore_n (k := 3) (by decide +kernel) rfl,
    gs_aload_n (k := 0) (by decide +kernel) rfl,
    gs_iload_n (k := 1) (by decide +kernel) rfl,
    gs_if_ne (off := 7) (by decide +kernel) (by decide),
    gs_iload_n (k := 2) (by decide +kernel) rfl,
    gs_goto (off := 7) (by decide +kernel) (by decide),
    gs_aload_n (k := 0) (by decide +kernel) rfl,
    gs_get (T := TX11) (N := 29) (Cn := RX11) (by decide +kernel) rfl (by decide) inW11 rfl wd_830,
    gs_put (T := TX11) (N := 29) (Cn := RX11) (by decide +kernel) rfl (by decide) inW11 tyX11_ok nmX11 rfl wd_830,
    gs_aload_n (k := 0) (by decide +kernel) rfl,
    gs_iload_n (k := 1) (by decide +kernel) rfl,
    gs_if_ne (off := 10) (by decide +kernel) (by decide),
    gs_aload_n (k := 0) (by decide +kernel) rfl,
    gs_get (T := TX11) (N := 29) (Cn := RX11) (by decide +kernel) rfl (by decide) inW11 rfl wd_831,
    gs_goto (off := 4) (by decide +kernel) (by decide),
    gs_iload_n (k := 2) (by decide +kernel) rfl,
    gs_put (T := TX11) (N := 29) (Cn := RX11) (by decide +kernel) rfl (by decide) inW11 tyX11_ok nmX11 rfl wd_831,
    gs_iload_n (k := 3) (by decide +kernel) rfl,
    gs_iret (by decide +kernel),
    fun _ h => absurd h List.not_mem_nil⟩
def pX11_puts : gProg := [(0, sLdA 0 1),
  (1, sGet 11 14),
  (4, sPush (.int 3) 1),
  (5, sLdA 0 1),
  (6, sGet 11 13),
  (9, sImul),
  (10, sLdI 1 1),
  (11, sIast),
  (12, sLdA 0 1),
  (13, sGet 11 14),
  (16, sPush (.int 3) 1),
  (17, sLdA 0 1),
  (18, sGet 11 13),
  (21, sImul),
  (22, sPush (.int 1) 1),
  (23, sIadd),
  (24, sLdI 2 1),
  (25, sIast),
  (26, sLdA 0 1),
  (27, sGet 11 14),
  (30, sPush (.int 3) 1),
  (31, sLdA 0 1),
  (32, sGet 11 13),
  (35, sImul),
  (36, sPush (.int 2) 1),
  (37, sIadd),
  (38, sLdI 3 1),
  (39, sIast),
  (40, sLdA 0 1),
  (41, sDup),
  (42, sGet 11 13),
  (45, sPush (.int 1) 1),
  (46, sIadd),
  (47, sPut 11 13),
  (50, sRetV)]
theorem kX11_puts : ∀ q ∈ pX11_puts, gSnd RX11 cX11_puts 4 none q.1 q.2 := by
  simp only [pX11_puts, List.forall_mem_cons]
  exact ⟨gs_aload_n (k := 0) (by decide +kernel) rfl,
    gs_get (T := TX11) (N := 29) (Cn := RX11) (by decide +kernel) rfl (by decide) inW11 rfl wd_833,
    gs_iconst (n := 3) (by decide +kernel) (by decide),
    gs_aload_n (k := 0) (by decide +kernel) rfl,
    gs_get (T := TX11) (N := 29) (Cn := RX11) (by decide +kernel) rfl (by decide) inW11 rfl wd_832,
    gs_imul (by decide +kernel),
    gs_iload_n (k := 1) (by decide +kernel) rfl,
    gs_iastore (by decide +kernel),
    gs_aload_n (k := 0) (by decide +kernel) rfl,
    gs_get (T := TX11) (N := 29) (Cn := RX11) (by decide +kernel) rfl (by decide) inW11 rfl wd_833,
    gs_iconst (n := 3) (by decide +kernel) (by decide),
    gs_aload_n (k := 0) (by decide +kernel) rfl,
    gs_get (T := TX11) (N := 29) (Cn := RX11) (by decide +kernel) rfl (by decide) inW11 rfl wd_832,
    gs_imul (by decide +kernel),
    gs_iconst (n := 1) (by decide +kernel) (by decide),
    gs_iadd (by decide +kernel),
    gs_iload_n (k := 2) (by decide +kernel) rfl,
    gs_iastore (by decide +kernel),
    gs_aload_n (k := 0) (by decide +kernel) rfl,
    gs_get (T := TX11) (N := 29) (Cn := RX11) (by decide +kernel) rfl (by decide) inW11 rfl wd_833,
    gs_iconst (n := 3) (by decide +kernel) (by decide),
    gs_aload_n (k := 0) (by decide +kernel) rfl,
    gs_get (T := TX11) (N := 29) (Cn := RX11) (by decide +kernel) rfl (by decide) inW11 rfl wd_832,
    gs_imul (by decide +kernel),
    gs_iconst (n := 2) (by decide +kernel) (by decide),
    gs_iadd (by decide +kernel),
    gs_iload_n (k := 3) (by decide +kernel) rfl,
    gs_iastore (by decide +kernel),
    gs_aload_n (k := 0) (by decide +kernel) rfl,
    gs_dup (by decide +kernel),
    gs_get (T := TX11) (N := 29) (Cn := RX11) (by decide +kernel) rfl (by decide) inW11 rfl wd_832,
    gs_iconst (n := 1) (by decide +kernel) (by decide),
    gs_iadd (by decide +kernel),
    gs_put (T := TX11) (N := 29) (Cn := RX11) (by decide +kernel) rfl (by decide) inW11 tyX11_ok nmX11 rfl wd_832,
    gs_vret (by decide +kernel),
    fun _ h => absurd h List.not_mem_nil⟩
def pX11_event : gProg := [(0, sLdI 1 1),
  (1, sI2L),
  (2, sPush (.long 0) 1),
  (3, sPush (.long 3) 3),
  (6, sCallS 111 3),
  (9, sIfeq 31),
  (12, sLdI 2 1),
  (13, sCallS 139 1),
  (16, sIfeq 31),
  (19, sLdI 3 1),
  (20, sI2L),
  (21, sPush (.long 0) 1),
  (22, sPush (.long 9) 3),
  (25, sCallS 111 3),
  (28, sIfne 34),
  (31, sPush (.int (-2)) 2),
  (33, sRetI),
  (34, sLdA 0 1),
  (35, sGet 11 13),
  (38, sPush (.int 8) 2),
  (40, sCmpne 46),
  (43, sPush (.int (-4)) 2),
  (45, sRetI),
  (46, sLdA 0 1),
  (47, sLdI 1 1),
  (48, sLdI 2 1),
  (49, sLdI 3 1),
  (50, sCallV 144 11 3),
  (53, sLdA 0 1),
  (54, sGet 11 13),
  (57, sRetI)]
theorem kX11_event : ∀ q ∈ pX11_event, gSnd RX11 cX11_event 4 none q.1 q.2 := by
  simp only [pX11_event, List.forall_mem_cons]
  exact ⟨gs_iload_n (k := 1) (by decide +kernel) rfl,
    gs_i2l (by decide +kernel),
    gs_lconst (n := 0) (by decide +kernel) (by decide),
    gs_ldc2 (by decide +kernel) wd_915,
    gs_callS (by decide +kernel) rfl wd_916 wd_918 wd_917 wd_12 mp_111 (by decide),
    gs_if_eq (off := 22) (by decide +kernel) (by decide),
    gs_iload_n (k := 2) (by decide +kernel) rfl,
    gs_callS (by decide +kernel) rfl wd_1022 wd_1024 wd_1023 wd_12 mp_139 (by decide),
    gs_if_eq (off := 15) (by decide +kernel) (by decide),
    gs_iload_n (k := 3) (by decide +kernel) rfl,
    gs_i2l (by decide +kernel),
    gs_lconst (n := 0) (by decide +kernel) (by decide),
    gs_ldc2 (by decide +kernel) wd_1026,
    gs_callS (by decide +kernel) rfl wd_916 wd_918 wd_917 wd_12 mp_111 (by decide),
    gs_if_ne (off := 6) (by decide +kernel) (by decide),
    gs_bipush (n := -2) (by decide +kernel) (by decide),
    gs_iret (by decide +kernel),
    gs_aload_n (k := 0) (by decide +kernel) rfl,
    gs_get (T := TX11) (N := 29) (Cn := RX11) (by decide +kernel) rfl (by decide) inW11 rfl wd_832,
    gs_bipush (n := 8) (by decide +kernel) (by decide),
    gs_icmp_ne (off := 6) (by decide +kernel) (by decide),
    gs_bipush (n := -4) (by decide +kernel) (by decide),
    gs_iret (by decide +kernel),
    gs_aload_n (k := 0) (by decide +kernel) rfl,
    gs_iload_n (k := 1) (by decide +kernel) rfl,
    gs_iload_n (k := 2) (by decide +kernel) rfl,
    gs_iload_n (k := 3) (by decide +kernel) rfl,
    gs_callV (by decide +kernel) rfl rfl wd_1027 wd_1030 wd_1029 ws_38 wd_12 mp_144 (by decide),
    gs_aload_n (k := 0) (by decide +kernel) rfl,
    gs_get (T := TX11) (N := 29) (Cn := RX11) (by decide +kernel) rfl (by decide) inW11 rfl wd_832,
    gs_iret (by decide +kernel),
    fun _ h => absurd h List.not_mem_nil⟩
def pX11_back : gProg := [(0, sLdA 0 1),
  (1, sGet 11 13),
  (4, sIfne 10),
  (7, sPush (.int (-3)) 2),
  (9, sRetI),
  (10, sLdA 0 1),
  (11, sDup),
  (12, sGet 11 13),
  (15, sPush (.int 1) 1),
  (16, sIsub),
  (17, sPut 11 13),
  (20, sLdA 0 1),
  (21, sGet 11 13),
  (24, sRetI)]
theorem kX11_back : ∀ q ∈ pX11_back, gSnd RX11 cX11_back 1 none q.1 q.2 := by
  simp only [pX11_back, List.forall_mem_cons]
  exact ⟨gs_aload_n (k := 0) (by decide +kernel) rfl,
    gs_get (T := TX11) (N := 29) (Cn := RX11) (by decide +kernel) rfl (by decide) inW11 rfl wd_832,
    gs_if_ne (off := 6) (by decide +kernel) (by decide),
    gs_bipush (n := -3) (by decide +kernel) (by decide),
    gs_iret (by decide +kernel),
    gs_aload_n (k := 0) (by decide +kernel) rfl,
    gs_dup (by decide +kernel),
    gs_get (T := TX11) (N := 29) (Cn := RX11) (by decide +kernel) rfl (by decide) inW11 rfl wd_832,
    gs_iconst (n := 1) (by decide +kernel) (by decide),
    gs_isub (by decide +kernel),
    gs_put (T := TX11) (N := 29) (Cn := RX11) (by decide +kernel) rfl (by decide) inW11 tyX11_ok nmX11 rfl wd_832,
    gs_aload_n (k := 0) (by decide +kernel) rfl,
    gs_get (T := TX11) (N := 29) (Cn := RX11) (by decide +kernel) rfl (by decide) inW11 rfl wd_832,
    gs_iret (by decide +kernel),
    fun _ h => absurd h List.not_mem_nil⟩
def pX11_read : gProg := [(0, sLdI 1 1),
  (1, sCallS 120 1),
  (4, sIfne 10),
  (7, sPush (.int (-2)) 2),
  (9, sRetI),
  (10, sLdA 0 1),
  (11, sGet 11 0),
  (14, sLdI 1 1),
  (15, sIald),
  (16, sIfge 25),
  (19, sLdA 0 1),
  (20, sPush (.int 1) 1),
  (21, sCallV 119 11 1),
  (24, sRetI),
  (25, sPush (.int 0) 1),
  (26, sStI 2 1),
  (27, sPush (.int 1) 1),
  (28, sStI 3 1),
  (29, sLdI 3 1),
  (30, sIfeq 110),
  (33, sPush (.int 3) 1),
  (34, sLdI 2 1),
  (35, sImul),
  (36, sPush (.int 3) 1),
  (37, sIadd),
  (38, sLdA 0 1),
  (39, sGet 11 1),
  (42, sLdI 1 1),
  (43, sIald),
  (44, sCmpgt 110),
  (47, sPush (.int 60) 2),
  (49, sLdI 1 1),
  (50, sImul),
  (51, sPush (.int 3) 1),
  (52, sLdI 2 1),
  (53, sImul),
  (54, sIadd),
  (55, sStI 4 2),
  (57, sLdA 0 1),
  (58, sLdA 0 1),
  (59, sGet 11 2),
  (62, sLdI 4 2),
  (64, sIald),
  (65, sLdA 0 1),
  (66, sGet 11 2),
  (69, sLdI 4 2),
  (71, sPush (.int 1) 1),
  (72, sIadd),
  (73, sIald),
  (74, sLdA 0 1),
  (75, sGet 11 2),
  (78, sLdI 4 2),
  (80, sPush (.int 2) 1),
  (81, sIadd),
  (82, sIald),
  (83, sCallV 145 11 3),
  (86, sIflt 93),
  (89, sPush (.int 1) 1),
  (90, sGoto 94),
  (93, sPush (.int 0) 1),
  (94, sStI 3 1),
  (95, sLdI 2 1),
  (96, sLdI 3 1),
  (97, sIfeq 104),
  (100, sPush (.int 1) 1),
  (101, sGoto 105),
  (104, sPush (.int 0) 1),
  (105, sIadd),
  (106, sStI 2 1),
  (107, sGoto 29),
  (110, sLdI 2 1),
  (111, sRetI)]
theorem kX11_read : ∀ q ∈ pX11_read, gSnd RX11 cX11_read 5 none q.1 q.2 := by
  simp only [pX11_read, List.forall_mem_cons]
  exact ⟨gs_iload_n (k := 1) (by decide +kernel) rfl,
    gs_callS (by decide +kernel) rfl wd_912 wd_914 wd_913 wd_12 mp_120 (by decide),
    gs_if_ne (off := 6) (by decide +kernel) (by decide),
    gs_bipush (n := -2) (by decide +kernel) (by decide),
    gs_iret (by decide +kernel),
    gs_aload_n (k := 0) (by decide +kernel) rfl,
    gs_get (T := TX11) (N := 29) (Cn := RX11) (by decide +kernel) rfl (by decide) inW11 rfl wd_819,
    gs_iload_n (k := 1) (by decide +kernel) rfl,
    gs_iaload (by decide +kernel),
    gs_if_ge (off := 9) (by decide +kernel) (by decide),
    gs_aload_n (k := 0) (by decide +kernel) rfl,
    gs_iconst (n := 1) (by decide +kernel) (by decide),
    gs_callV (by decide +kernel) rfl rfl wd_920 wd_923 wd_922 ws_31 wd_12 mp_119 (by decide),
    gs_iret (by decide +kernel),
    gs_iconst (n := 0) (by decide +kernel) (by decide),
    gs_istore_n (k := 2) (by decide +kernel) rfl,
    gs_iconst (n := 1) (by decide +kernel) (by decide),
    gs_istore_n (k := 3) (by decide +kernel) rfl,
    gs_iload_n (k := 3) (by decide +kernel) rfl,
    gs_if_eq (off := 80) (by decide +kernel) (by decide),
    gs_iconst (n := 3) (by decide +kernel) (by decide),
    gs_iload_n (k := 2) (by decide +kernel) rfl,
    gs_imul (by decide +kernel),
    gs_iconst (n := 3) (by decide +kernel) (by decide),
    gs_iadd (by decide +kernel),
    gs_aload_n (k := 0) (by decide +kernel) rfl,
    gs_get (T := TX11) (N := 29) (Cn := RX11) (by decide +kernel) rfl (by decide) inW11 rfl wd_820,
    gs_iload_n (k := 1) (by decide +kernel) rfl,
    gs_iaload (by decide +kernel),
    gs_icmp_gt (off := 66) (by decide +kernel) (by decide),
    gs_bipush (n := 60) (by decide +kernel) (by decide),
    gs_iload_n (k := 1) (by decide +kernel) rfl,
    gs_imul (by decide +kernel),
    gs_iconst (n := 3) (by decide +kernel) (by decide),
    gs_iload_n (k := 2) (by decide +kernel) rfl,
    gs_imul (by decide +kernel),
    gs_iadd (by decide +kernel),
    gs_istore (by decide +kernel),
    gs_aload_n (k := 0) (by decide +kernel) rfl,
    gs_aload_n (k := 0) (by decide +kernel) rfl,
    gs_get (T := TX11) (N := 29) (Cn := RX11) (by decide +kernel) rfl (by decide) inW11 rfl wd_821,
    gs_iload (by decide +kernel),
    gs_iaload (by decide +kernel),
    gs_aload_n (k := 0) (by decide +kernel) rfl,
    gs_get (T := TX11) (N := 29) (Cn := RX11) (by decide +kernel) rfl (by decide) inW11 rfl wd_821,
    gs_iload (by decide +kernel),
    gs_iconst (n := 1) (by decide +kernel) (by decide),
    gs_iadd (by decide +kernel),
    gs_iaload (by decide +kernel),
    gs_aload_n (k := 0) (by decide +kernel) rfl,
    gs_get (T := TX11) (N := 29) (Cn := RX11) (by decide +kernel) rfl (by decide) inW11 rfl wd_821,
    gs_iload (by decide +kernel),
    gs_iconst (n := 2) (by decide +kernel) (by decide),
    gs_iadd (by decide +kernel),
    gs_iaload (by decide +kernel),
    gs_callV (by decide +kernel) rfl rfl wd_1039 wd_1021 wd_1019 wd_1020 wd_12 mp_145 (by decide),
    gs_if_lt (off := 7) (by decide +kernel) (by decide),
    gs_iconst (n := 1) (by decide +kernel) (by decide),
    gs_goto (off := 4) (by decide +kernel) (by decide),
    gs_iconst (n := 0) (by decide +kernel) (by decide),
    gs_istore_n (k := 3) (by decide +kernel) rfl,
    gs_iload_n (k := 2) (by decide +kernel) rfl,
    gs_iload_n (k := 3) (by decide +kernel) rfl,
    gs_if_eq (off := 7) (by decide +kernel) (by decide),
    gs_iconst (n := 1) (by decide +kernel) (by decide),
    gs_goto (off := 4) (by decide +kernel) (by decide),
    gs_iconst (n := 0) (by decide +kernel) (by decide),
    gs_iadd (by decide +kernel),
    gs_istore_n (k := 2) (by decide +kernel) rfl,
    gs_goto (off := -78) (by decide +kernel) (by decide),
    gs_iload_n (k := 2) (by decide +kernel) rfl,
    gs_iret (by decide +kernel),
    fun _ h => absurd h List.not_mem_nil⟩
def pX11_lasts : gProg := [(0, sLdI 0 1),
  (1, sSw 0 [28, 40, 51] 70),
  (28, sLdI 1 1),
  (29, sIfne 37),
  (32, sPush (.int 9) 2),
  (34, sGoto 39),
  (37, sPush (.int 12) 2),
  (39, sRetI),
  (40, sLdI 1 1),
  (41, sPush (.int 2) 1),
  (42, sCmpne 49),
  (45, sPush (.int 3) 1),
  (46, sGoto 50),
  (49, sPush (.int 2) 1),
  (50, sRetI),
  (51, sLdI 1 1),
  (52, sIfne 59),
  (55, sPush (.int 1) 1),
  (56, sGoto 69),
  (59, sLdI 1 1),
  (60, sPush (.int 1) 1),
  (61, sCmpne 68),
  (64, sPush (.int 2) 1),
  (65, sGoto 69),
  (68, sPush (.int 0) 1),
  (69, sRetI),
  (70, sPush (.int 3) 1),
  (71, sRetI)]
theorem kX11_lasts : ∀ q ∈ pX11_lasts, gSnd RX11 cX11_lasts 2 none q.1 q.2 := by
  simp only [pX11_lasts, List.forall_mem_cons]
  exact ⟨gs_iload_n (k := 0) (by decide +kernel) rfl,
    gs_table (dflt := 69) (lo := 0) (hi := 2) (offs := #[27, 39, 50]) (len := 27) (by decide +kernel) (by decide) (by decide) (by decide),
    gs_iload_n (k := 1) (by decide +kernel) rfl,
    gs_if_ne (off := 8) (by decide +kernel) (by decide),
    gs_bipush (n := 9) (by decide +kernel) (by decide),
    gs_goto (off := 5) (by decide +kernel) (by decide),
    gs_bipush (n := 12) (by decide +kernel) (by decide),
    gs_iret (by decide +kernel),
    gs_iload_n (k := 1) (by decide +kernel) rfl,
    gs_iconst (n := 2) (by decide +kernel) (by decide),
    gs_icmp_ne (off := 7) (by decide +kernel) (by decide),
    gs_iconst (n := 3) (by decide +kernel) (by decide),
    gs_goto (off := 4) (by decide +kernel) (by decide),
    gs_iconst (n := 2) (by decide +kernel) (by decide),
    gs_iret (by decide +kernel),
    gs_iload_n (k := 1) (by decide +kernel) rfl,
    gs_if_ne (off := 7) (by decide +kernel) (by decide),
    gs_iconst (n := 1) (by decide +kernel) (by decide),
    gs_goto (off := 13) (by decide +kernel) (by decide),
    gs_iload_n (k := 1) (by decide +kernel) rfl,
    gs_iconst (n := 1) (by decide +kernel) (by decide),
    gs_icmp_ne (off := 7) (by decide +kernel) (by decide),
    gs_iconst (n := 2) (by decide +kernel) (by decide),
    gs_goto (off := 4) (by decide +kernel) (by decide),
    gs_iconst (n := 0) (by decide +kernel) (by decide),
    gs_iret (by decide +kernel),
    gs_iconst (n := 3) (by decide +kernel) (by decide),
    gs_iret (by decide +kernel),
    fun _ h => absurd h List.not_mem_nil⟩
def pX11_isOn : gProg := [(0, sPush (.int 0) 1),
  (1, sStI 4 2),
  (3, sPush (.int 0) 1),
  (4, sStI 5 2),
  (6, sLdI 5 2),
  (8, sLdA 0 1),
  (9, sGet 11 13),
  (12, sCmpge 147),
  (15, sLdI 1 1),
  (16, sPush (.int 2) 1),
  (17, sCmpeq 52),
  (20, sLdA 0 1),
  (21, sGet 11 14),
  (24, sPush (.int 3) 1),
  (25, sLdI 5 2),
  (27, sImul),
  (28, sPush (.int 2) 1),
  (29, sIadd),
  (30, sIald),
  (31, sLdI 3 1),
  (32, sCmpne 56),
  (35, sLdA 0 1),
  (36, sGet 11 21),
  (39, sIfeq 52),
  (42, sLdI 3 1),
  (43, sLdA 0 1),
  (44, sGet 11 7),
  (47, sPush (.int 1) 1),
  (48, sIsub),
  (49, sCmpeq 56),
  (52, sPush (.int 1) 1),
  (53, sGoto 57),
  (56, sPush (.int 0) 1),
  (57, sStI 6 2),
  (59, sLdI 2 1),
  (60, sLdA 0 1),
  (61, sGet 11 14),
  (64, sPush (.int 3) 1),
  (65, sLdI 5 2),
  (67, sImul),
  (68, sPush (.int 1) 1),
  (69, sIadd),
  (70, sIald),
  (71, sIsub),
  (72, sStI 7 2),
  (74, sLdI 4 2),
  (76, sIfne 134),
  (79, sLdA 0 1),
  (80, sGet 11 15),
  (83, sLdI 5 2),
  (85, sCallS 114 2),
  (88, sIfne 138),
  (91, sLdA 0 1),
  (92, sGet 11 14),
  (95, sPush (.int 3) 1),
  (96, sLdI 5 2),
  (98, sImul),
  (99, sIald),
  (100, sLdI 1 1),
  (101, sCmpne 138),
  (104, sLdI 6 2),
  (106, sIfeq 138),
  (109, sLdI 7 2),
  (111, sI2L),
  (112, sPush (.long 0) 1),
  (113, sLdI 1 1),
  (114, sLdA 0 1),
  (115, sGet 11 8),
  (118, sPush (.int 3) 1),
  (119, sLdI 3 1),
  (120, sImul),
  (121, sIald),
  (122, sCallS 148 2),
  (125, sPush (.int 1) 1),
  (126, sIsub),
  (127, sI2L),
  (128, sCallS 111 3),
  (131, sIfeq 138),
  (134, sPush (.int 1) 1),
  (135, sGoto 139),
  (138, sPush (.int 0) 1),
  (139, sStI 4 2),
  (141, sInc 5 1),
  (144, sGoto 6),
  (147, sLdI 4 2),
  (149, sRetI)]
theorem kX11_isOn : ∀ q ∈ pX11_isOn, gSnd RX11 cX11_isOn 8 none q.1 q.2 := by
  simp only [pX11_isOn, List.forall_mem_cons]
  exact ⟨gs_iconst (n := 0) (by decide +kernel) (by decide),
    gs_istore (by decide +kernel),
    gs_iconst (n := 0) (by decide +kernel) (by decide),
    gs_istore (by decide +kernel),
    gs_iload (by decide +kernel),
    gs_aload_n (k := 0) (by decide +kernel) rfl,
    gs_get (T := TX11) (N := 29) (Cn := RX11) (by decide +kernel) rfl (by decide) inW11 rfl wd_832,
    gs_icmp_ge (off := 135) (by decide +kernel) (by decide),
    gs_iload_n (k := 1) (by decide +kernel) rfl,
    gs_iconst (n := 2) (by decide +kernel) (by decide),
    gs_icmp_eq (off := 35) (by decide +kernel) (by decide),
    gs_aload_n (k := 0) (by decide +kernel) rfl,
    gs_get (T := TX11) (N := 29) (Cn := RX11) (by decide +kernel) rfl (by decide) inW11 rfl wd_833,
    gs_iconst (n := 3) (by decide +kernel) (by decide),
    gs_iload (by decide +kernel),
    gs_imul (by decide +kernel),
    gs_iconst (n := 2) (by decide +kernel) (by decide),
    gs_iadd (by decide +kernel),
    gs_iaload (by decide +kernel),
    gs_iload_n (k := 3) (by decide +kernel) rfl,
    gs_icmp_ne (off := 24) (by decide +kernel) (by decide),
    gs_aload_n (k := 0) (by decide +kernel) rfl,
    gs_get (T := TX11) (N := 29) (Cn := RX11) (by decide +kernel) rfl (by decide) inW11 rfl wd_840,
    gs_if_eq (off := 13) (by decide +kernel) (by decide),
    gs_iload_n (k := 3) (by decide +kernel) rfl,
    gs_aload_n (k := 0) (by decide +kernel) rfl,
    gs_get (T := TX11) (N := 29) (Cn := RX11) (by decide +kernel) rfl (by decide) inW11 rfl wd_826,
    gs_iconst (n := 1) (by decide +kernel) (by decide),
    gs_isub (by decide +kernel),
    gs_icmp_eq (off := 7) (by decide +kernel) (by decide),
    gs_iconst (n := 1) (by decide +kernel) (by decide),
    gs_goto (off := 4) (by decide +kernel) (by decide),
    gs_iconst (n := 0) (by decide +kernel) (by decide),
    gs_istore (by decide +kernel),
    gs_iload_n (k := 2) (by decide +kernel) rfl,
    gs_aload_n (k := 0) (by decide +kernel) rfl,
    gs_get (T := TX11) (N := 29) (Cn := RX11) (by decide +kernel) rfl (by decide) inW11 rfl wd_833,
    gs_iconst (n := 3) (by decide +kernel) (by decide),
    gs_iload (by decide +kernel),
    gs_imul (by decide +kernel),
    gs_iconst (n := 1) (by decide +kernel) (by decide),
    gs_iadd (by decide +kernel),
    gs_iaload (by decide +kernel),
    gs_isub (by decide +kernel),
    gs_istore (by decide +kernel),
    gs_iload (by decide +kernel),
    gs_if_ne (off := 58) (by decide +kernel) (by decide),
    gs_aload_n (k := 0) (by decide +kernel) rfl,
    gs_get (T := TX11) (N := 29) (Cn := RX11) (by decide +kernel) rfl (by decide) inW11 rfl wd_834,
    gs_iload (by decide +kernel),
    gs_callS (by decide +kernel) rfl wd_1064 wd_1066 wd_1065 wd_12 mp_114 (by decide),
    gs_if_ne (off := 50) (by decide +kernel) (by decide),
    gs_aload_n (k := 0) (by decide +kernel) rfl,
    gs_get (T := TX11) (N := 29) (Cn := RX11) (by decide +kernel) rfl (by decide) inW11 rfl wd_833,
    gs_iconst (n := 3) (by decide +kernel) (by decide),
    gs_iload (by decide +kernel),
    gs_imul (by decide +kernel),
    gs_iaload (by decide +kernel),
    gs_iload_n (k := 1) (by decide +kernel) rfl,
    gs_icmp_ne (off := 37) (by decide +kernel) (by decide),
    gs_iload (by decide +kernel),
    gs_if_eq (off := 32) (by decide +kernel) (by decide),
    gs_iload (by decide +kernel),
    gs_i2l (by decide +kernel),
    gs_lconst (n := 0) (by decide +kernel) (by decide),
    gs_iload_n (k := 1) (by decide +kernel) rfl,
    gs_aload_n (k := 0) (by decide +kernel) rfl,
    gs_get (T := TX11) (N := 29) (Cn := RX11) (by decide +kernel) rfl (by decide) inW11 rfl wd_827,
    gs_iconst (n := 3) (by decide +kernel) (by decide),
    gs_iload_n (k := 3) (by decide +kernel) rfl,
    gs_imul (by decide +kernel),
    gs_iaload (by decide +kernel),
    gs_callS (by decide +kernel) rfl wd_1067 wd_1069 wd_1068 wd_12 mp_148 (by decide),
    gs_iconst (n := 1) (by decide +kernel) (by decide),
    gs_isub (by decide +kernel),
    gs_i2l (by decide +kernel),
    gs_callS (by decide +kernel) rfl wd_916 wd_918 wd_917 wd_12 mp_111 (by decide),
    gs_if_eq (off := 7) (by decide +kernel) (by decide),
    gs_iconst (n := 1) (by decide +kernel) (by decide),
    gs_goto (off := 4) (by decide +kernel) (by decide),
    gs_iconst (n := 0) (by decide +kernel) (by decide),
    gs_istore (by decide +kernel),
    gs_iinc (n := 1) (by decide +kernel) (by decide),
    gs_goto (off := -138) (by decide +kernel) (by decide),
    gs_iload (by decide +kernel),
    gs_iret (by decide +kernel),
    fun _ h => absurd h List.not_mem_nil⟩
def pX11_isSeason : gProg := [(0, sLdI 1 1),
  (1, sPush (.int 12) 2),
  (3, sIrem),
  (4, sLdA 0 1),
  (5, sGet 11 8),
  (8, sPush (.int 3) 1),
  (9, sLdI 2 1),
  (10, sImul),
  (11, sPush (.int 1) 1),
  (12, sIadd),
  (13, sIald),
  (14, sIsub),
  (15, sPush (.int 12) 2),
  (17, sIadd),
  (18, sPush (.int 12) 2),
  (20, sIrem),
  (21, sStI 3 1),
  (22, sLdI 3 1),
  (23, sLdA 0 1),
  (24, sGet 11 8),
  (27, sPush (.int 3) 1),
  (28, sLdI 2 1),
  (29, sImul),
  (30, sIald),
  (31, sIfne 39),
  (34, sPush (.int 6) 2),
  (36, sGoto 56),
  (39, sLdA 0 1),
  (40, sGet 11 8),
  (43, sPush (.int 3) 1),
  (44, sLdI 2 1),
  (45, sImul),
  (46, sIald),
  (47, sPush (.int 1) 1),
  (48, sCmpne 55),
  (51, sPush (.int 4) 1),
  (52, sGoto 56),
  (55, sPush (.int 3) 1),
  (56, sCmpge 63),
  (59, sPush (.int 1) 1),
  (60, sGoto 64),
  (63, sPush (.int 0) 1),
  (64, sRetI)]
theorem kX11_isSeason : ∀ q ∈ pX11_isSeason, gSnd RX11 cX11_isSeason 4 none q.1 q.2 := by
  simp only [pX11_isSeason, List.forall_mem_cons]
  exact ⟨gs_iload_n (k := 1) (by decide +kernel) rfl,
    gs_bipush (n := 12) (by decide +kernel) (by decide),
    gs_irem (by decide +kernel),
    gs_aload_n (k := 0) (by decide +kernel) rfl,
    gs_get (T := TX11) (N := 29) (Cn := RX11) (by decide +kernel) rfl (by decide) inW11 rfl wd_827,
    gs_iconst (n := 3) (by decide +kernel) (by decide),
    gs_iload_n (k := 2) (by decide +kernel) rfl,
    gs_imul (by decide +kernel),
    gs_iconst (n := 1) (by decide +kernel) (by decide),
    gs_iadd (by decide +kernel),
    gs_iaload (by decide +kernel),
    gs_isub (by decide +kernel),
    gs_bipush (n := 12) (by decide +kernel) (by decide),
    gs_iadd (by decide +kernel),
    gs_bipush (n := 12) (by decide +kernel) (by decide),
    gs_irem (by decide +kernel),
    gs_istore_n (k := 3) (by decide +kernel) rfl,
    gs_iload_n (k := 3) (by decide +kernel) rfl,
    gs_aload_n (k := 0) (by decide +kernel) rfl,
    gs_get (T := TX11) (N := 29) (Cn := RX11) (by decide +kernel) rfl (by decide) inW11 rfl wd_827,
    gs_iconst (n := 3) (by decide +kernel) (by decide),
    gs_iload_n (k := 2) (by decide +kernel) rfl,
    gs_imul (by decide +kernel),
    gs_iaload (by decide +kernel),
    gs_if_ne (off := 8) (by decide +kernel) (by decide),
    gs_bipush (n := 6) (by decide +kernel) (by decide),
    gs_goto (off := 20) (by decide +kernel) (by decide),
    gs_aload_n (k := 0) (by decide +kernel) rfl,
    gs_get (T := TX11) (N := 29) (Cn := RX11) (by decide +kernel) rfl (by decide) inW11 rfl wd_827,
    gs_iconst (n := 3) (by decide +kernel) (by decide),
    gs_iload_n (k := 2) (by decide +kernel) rfl,
    gs_imul (by decide +kernel),
    gs_iaload (by decide +kernel),
    gs_iconst (n := 1) (by decide +kernel) (by decide),
    gs_icmp_ne (off := 7) (by decide +kernel) (by decide),
    gs_iconst (n := 4) (by decide +kernel) (by decide),
    gs_goto (off := 4) (by decide +kernel) (by decide),
    gs_iconst (n := 3) (by decide +kernel) (by decide),
    gs_icmp_ge (off := 7) (by decide +kernel) (by decide),
    gs_iconst (n := 1) (by decide +kernel) (by decide),
    gs_goto (off := 4) (by decide +kernel) (by decide),
    gs_iconst (n := 0) (by decide +kernel) (by decide),
    gs_iret (by decide +kernel),
    fun _ h => absurd h List.not_mem_nil⟩
def pX11_stateOf : gProg := [(0, sLdA 0 1),
  (1, sPush (.int 0) 1),
  (2, sLdI 1 1),
  (3, sLdI 2 1),
  (4, sCallV 149 11 3),
  (7, sIfeq 14),
  (10, sPush (.int 2) 1),
  (11, sGoto 56),
  (14, sLdA 0 1),
  (15, sPush (.int 1) 1),
  (16, sLdI 1 1),
  (17, sLdI 2 1),
  (18, sCallV 149 11 3),
  (21, sIfeq 28),
  (24, sPush (.int 3) 1),
  (25, sGoto 56),
  (28, sLdA 0 1),
  (29, sPush (.int 2) 1),
  (30, sLdI 1 1),
  (31, sLdI 2 1),
  (32, sCallV 149 11 3),
  (35, sIfeq 42),
  (38, sPush (.int 4) 1),
  (39, sGoto 56),
  (42, sLdA 0 1),
  (43, sLdI 1 1),
  (44, sLdI 2 1),
  (45, sCallV 150 11 2),
  (48, sIfeq 55),
  (51, sPush (.int 1) 1),
  (52, sGoto 56),
  (55, sPush (.int 0) 1),
  (56, sRetI)]
theorem kX11_stateOf : ∀ q ∈ pX11_stateOf, gSnd RX11 cX11_stateOf 3 none q.1 q.2 := by
  simp only [pX11_stateOf, List.forall_mem_cons]
  exact ⟨gs_aload_n (k := 0) (by decide +kernel) rfl,
    gs_iconst (n := 0) (by decide +kernel) (by decide),
    gs_iload_n (k := 1) (by decide +kernel) rfl,
    gs_iload_n (k := 2) (by decide +kernel) rfl,
    gs_callV (by decide +kernel) rfl rfl wd_1060 wd_1063 wd_1062 ws_43 wd_12 mp_149 (by decide),
    gs_if_eq (off := 7) (by decide +kernel) (by decide),
    gs_iconst (n := 2) (by decide +kernel) (by decide),
    gs_goto (off := 45) (by decide +kernel) (by decide),
    gs_aload_n (k := 0) (by decide +kernel) rfl,
    gs_iconst (n := 1) (by decide +kernel) (by decide),
    gs_iload_n (k := 1) (by decide +kernel) rfl,
    gs_iload_n (k := 2) (by decide +kernel) rfl,
    gs_callV (by decide +kernel) rfl rfl wd_1060 wd_1063 wd_1062 ws_43 wd_12 mp_149 (by decide),
    gs_if_eq (off := 7) (by decide +kernel) (by decide),
    gs_iconst (n := 3) (by decide +kernel) (by decide),
    gs_goto (off := 31) (by decide +kernel) (by decide),
    gs_aload_n (k := 0) (by decide +kernel) rfl,
    gs_iconst (n := 2) (by decide +kernel) (by decide),
    gs_iload_n (k := 1) (by decide +kernel) rfl,
    gs_iload_n (k := 2) (by decide +kernel) rfl,
    gs_callV (by decide +kernel) rfl rfl wd_1060 wd_1063 wd_1062 ws_43 wd_12 mp_149 (by decide),
    gs_if_eq (off := 7) (by decide +kernel) (by decide),
    gs_iconst (n := 4) (by decide +kernel) (by decide),
    gs_goto (off := 17) (by decide +kernel) (by decide),
    gs_aload_n (k := 0) (by decide +kernel) rfl,
    gs_iload_n (k := 1) (by decide +kernel) rfl,
    gs_iload_n (k := 2) (by decide +kernel) rfl,
    gs_callV (by decide +kernel) rfl rfl wd_1070 wd_1073 wd_1072 ws_44 wd_12 mp_150 (by decide),
    gs_if_eq (off := 7) (by decide +kernel) (by decide),
    gs_iconst (n := 1) (by decide +kernel) (by decide),
    gs_goto (off := 4) (by decide +kernel) (by decide),
    gs_iconst (n := 0) (by decide +kernel) (by decide),
    gs_iret (by decide +kernel),
    fun _ h => absurd h List.not_mem_nil⟩
def pX11_grows : gProg := [(0, sPush (.int 0) 1),
  (1, sStI 1 1),
  (2, sLdI 1 1),
  (3, sPush (.int 24) 2),
  (5, sCmpge 141),
  (8, sLdA 0 1),
  (9, sGet 11 18),
  (12, sLdI 1 1),
  (13, sPush (.int 0) 1),
  (14, sIast),
  (15, sLdA 0 1),
  (16, sGet 11 20),
  (19, sLdI 1 1),
  (20, sPush (.int 0) 1),
  (21, sIast),
  (22, sPush (.int 0) 1),
  (23, sStI 2 1),
  (24, sLdI 2 1),
  (25, sLdA 0 1),
  (26, sGet 11 7),
  (29, sCmpge 135),
  (32, sPush (.int 11) 2),
  (34, sLdI 1 1),
  (35, sImul),
  (36, sLdI 2 1),
  (37, sIadd),
  (38, sStI 3 1),
  (39, sLdA 0 1),
  (40, sGet 11 16),
  (43, sLdI 3 1),
  (44, sLdA 0 1),
  (45, sLdI 1 1),
  (46, sLdI 2 1),
  (47, sCallV 151 11 2),
  (50, sIast),
  (51, sLdA 0 1),
  (52, sGet 11 17),
  (55, sLdI 3 1),
  (56, sLdA 0 1),
  (57, sPush (.int 3) 1),
  (58, sLdI 1 1),
  (59, sLdI 2 1),
  (60, sCallV 149 11 3),
  (63, sZast),
  (64, sLdA 0 1),
  (65, sGet 11 18),
  (68, sLdI 1 1),
  (69, sDup2),
  (70, sIald),
  (71, sLdA 0 1),
  (72, sGet 11 16),
  (75, sLdI 3 1),
  (76, sIald),
  (77, sPush (.int 1) 1),
  (78, sCmpne 94),
  (81, sLdA 0 1),
  (82, sGet 11 8),
  (85, sPush (.int 3) 1),
  (86, sLdI 2 1),
  (87, sImul),
  (88, sPush (.int 2) 1),
  (89, sIadd),
  (90, sIald),
  (91, sGoto 95),
  (94, sPush (.int 0) 1),
  (95, sIadd),
  (96, sIast),
  (97, sLdA 0 1),
  (98, sGet 11 20),
  (101, sLdI 1 1),
  (102, sDup2),
  (103, sIald),
  (104, sLdA 0 1),
  (105, sLdI 1 1),
  (106, sLdI 2 1),
  (107, sCallV 153 11 2),
  (110, sIfeq 126),
  (113, sLdA 0 1),
  (114, sGet 11 8),
  (117, sPush (.int 3) 1),
  (118, sLdI 2 1),
  (119, sImul),
  (120, sPush (.int 2) 1),
  (121, sIadd),
  (122, sIald),
  (123, sGoto 127),
  (126, sPush (.int 0) 1),
  (127, sIadd),
  (128, sIast),
  (129, sInc 2 1),
  (132, sGoto 24),
  (135, sInc 1 1),
  (138, sGoto 2),
  (141, sRetV)]
set_option maxRecDepth 100000 in
theorem kX11_grows : ∀ q ∈ pX11_grows, gSnd RX11 cX11_grows 4 none q.1 q.2 := by
  simp only [pX11_grows, List.forall_mem_cons]
  exact ⟨gs_iconst (n := 0) (by decide +kernel) (by decide),
    gs_istore_n (k := 1) (by decide +kernel) rfl,
    gs_iload_n (k := 1) (by decide +kernel) rfl,
    gs_bipush (n := 24) (by decide +kernel) (by decide),
    gs_icmp_ge (off := 136) (by decide +kernel) (by decide),
    gs_aload_n (k := 0) (by decide +kernel) rfl,
    gs_get (T := TX11) (N := 29) (Cn := RX11) (by decide +kernel) rfl (by decide) inW11 rfl wd_837,
    gs_iload_n (k := 1) (by decide +kernel) rfl,
    gs_iconst (n := 0) (by decide +kernel) (by decide),
    gs_iastore (by decide +kernel),
    gs_aload_n (k := 0) (by decide +kernel) rfl,
    gs_get (T := TX11) (N := 29) (Cn := RX11) (by decide +kernel) rfl (by decide) inW11 rfl wd_839,
    gs_iload_n (k := 1) (by decide +kernel) rfl,
    gs_iconst (n := 0) (by decide +kernel) (by decide),
    gs_iastore (by decide +kernel),
    gs_iconst (n := 0) (by decide +kernel) (by decide),
    gs_istore_n (k := 2) (by decide +kernel) rfl,
    gs_iload_n (k := 2) (by decide +kernel) rfl,
    gs_aload_n (k := 0) (by decide +kernel) rfl,
    gs_get (T := TX11) (N := 29) (Cn := RX11) (by decide +kernel) rfl (by decide) inW11 rfl wd_826,
    gs_icmp_ge (off := 106) (by decide +kernel) (by decide),
    gs_bipush (n := 11) (by decide +kernel) (by decide),
    gs_iload_n (k := 1) (by decide +kernel) rfl,
    gs_imul (by decide +kernel),
    gs_iload_n (k := 2) (by decide +kernel) rfl,
    gs_iadd (by decide +kernel),
    gs_istore_n (k := 3) (by decide +kernel) rfl,
    gs_aload_n (k := 0) (by decide +kernel) rfl,
    gs_get (T := TX11) (N := 29) (Cn := RX11) (by decide +kernel) rfl (by decide) inW11 rfl wd_835,
    gs_iload_n (k := 3) (by decide +kernel) rfl,
    gs_aload_n (k := 0) (by decide +kernel) rfl,
    gs_iload_n (k := 1) (by decide +kernel) rfl,
    gs_iload_n (k := 2) (by decide +kernel) rfl,
    gs_callV (by decide +kernel) rfl rfl wd_1056 wd_1059 wd_1058 ws_42 wd_12 mp_151 (by decide),
    gs_iastore (by decide +kernel),
    gs_aload_n (k := 0) (by decide +kernel) rfl,
    gs_get (T := TX11) (N := 29) (Cn := RX11) (by decide +kernel) rfl (by decide) inW11 rfl wd_836,
    gs_iload_n (k := 3) (by decide +kernel) rfl,
    gs_aload_n (k := 0) (by decide +kernel) rfl,
    gs_iconst (n := 3) (by decide +kernel) (by decide),
    gs_iload_n (k := 1) (by decide +kernel) rfl,
    gs_iload_n (k := 2) (by decide +kernel) rfl,
    gs_callV (by decide +kernel) rfl rfl wd_1060 wd_1063 wd_1062 ws_43 wd_12 mp_149 (by decide),
    gs_zastore (by decide +kernel),
    gs_aload_n (k := 0) (by decide +kernel) rfl,
    gs_get (T := TX11) (N := 29) (Cn := RX11) (by decide +kernel) rfl (by decide) inW11 rfl wd_837,
    gs_iload_n (k := 1) (by decide +kernel) rfl,
    gs_dup2 (by decide +kernel),
    gs_iaload (by decide +kernel),
    gs_aload_n (k := 0) (by decide +kernel) rfl,
    gs_get (T := TX11) (N := 29) (Cn := RX11) (by decide +kernel) rfl (by decide) inW11 rfl wd_835,
    gs_iload_n (k := 3) (by decide +kernel) rfl,
    gs_iaload (by decide +kernel),
    gs_iconst (n := 1) (by decide +kernel) (by decide),
    gs_icmp_ne (off := 16) (by decide +kernel) (by decide),
    gs_aload_n (k := 0) (by decide +kernel) rfl,
    gs_get (T := TX11) (N := 29) (Cn := RX11) (by decide +kernel) rfl (by decide) inW11 rfl wd_827,
    gs_iconst (n := 3) (by decide +kernel) (by decide),
    gs_iload_n (k := 2) (by decide +kernel) rfl,
    gs_imul (by decide +kernel),
    gs_iconst (n := 2) (by decide +kernel) (by decide),
    gs_iadd (by decide +kernel),
    gs_iaload (by decide +kernel),
    gs_goto (off := 4) (by decide +kernel) (by decide),
    gs_iconst (n := 0) (by decide +kernel) (by decide),
    gs_iadd (by decide +kernel),
    gs_iastore (by decide +kernel),
    gs_aload_n (k := 0) (by decide +kernel) rfl,
    gs_get (T := TX11) (N := 29) (Cn := RX11) (by decide +kernel) rfl (by decide) inW11 rfl wd_839,
    gs_iload_n (k := 1) (by decide +kernel) rfl,
    gs_dup2 (by decide +kernel),
    gs_iaload (by decide +kernel),
    gs_aload_n (k := 0) (by decide +kernel) rfl,
    gs_iload_n (k := 1) (by decide +kernel) rfl,
    gs_iload_n (k := 2) (by decide +kernel) rfl,
    gs_callV (by decide +kernel) rfl rfl wd_1074 wd_1077 wd_1076 ws_45 wd_12 mp_153 (by decide),
    gs_if_eq (off := 16) (by decide +kernel) (by decide),
    gs_aload_n (k := 0) (by decide +kernel) rfl,
    gs_get (T := TX11) (N := 29) (Cn := RX11) (by decide +kernel) rfl (by decide) inW11 rfl wd_827,
    gs_iconst (n := 3) (by decide +kernel) (by decide),
    gs_iload_n (k := 2) (by decide +kernel) rfl,
    gs_imul (by decide +kernel),
    gs_iconst (n := 2) (by decide +kernel) (by decide),
    gs_iadd (by decide +kernel),
    gs_iaload (by decide +kernel),
    gs_goto (off := 4) (by decide +kernel) (by decide),
    gs_iconst (n := 0) (by decide +kernel) (by decide),
    gs_iadd (by decide +kernel),
    gs_iastore (by decide +kernel),
    gs_iinc (n := 1) (by decide +kernel) (by decide),
    gs_goto (off := -108) (by decide +kernel) (by decide),
    gs_iinc (n := 1) (by decide +kernel) (by decide),
    gs_goto (off := -136) (by decide +kernel) (by decide),
    gs_vret (by decide +kernel),
    fun _ h => absurd h List.not_mem_nil⟩
def pX11_isSeeming : gProg := [(0, sLdA 0 1),
  (1, sGet 11 16),
  (4, sPush (.int 11) 2),
  (6, sLdI 1 1),
  (7, sImul),
  (8, sLdI 2 1),
  (9, sIadd),
  (10, sIald),
  (11, sPush (.int 1) 1),
  (12, sCmpeq 29),
  (15, sLdA 0 1),
  (16, sGet 11 17),
  (19, sPush (.int 11) 2),
  (21, sLdI 1 1),
  (22, sImul),
  (23, sLdI 2 1),
  (24, sIadd),
  (25, sZald),
  (26, sIfeq 33),
  (29, sPush (.int 1) 1),
  (30, sGoto 34),
  (33, sPush (.int 0) 1),
  (34, sRetI)]
theorem kX11_isSeeming : ∀ q ∈ pX11_isSeeming, gSnd RX11 cX11_isSeeming 3 none q.1 q.2 := by
  simp only [pX11_isSeeming, List.forall_mem_cons]
  exact ⟨gs_aload_n (k := 0) (by decide +kernel) rfl,
    gs_get (T := TX11) (N := 29) (Cn := RX11) (by decide +kernel) rfl (by decide) inW11 rfl wd_835,
    gs_bipush (n := 11) (by decide +kernel) (by decide),
    gs_iload_n (k := 1) (by decide +kernel) rfl,
    gs_imul (by decide +kernel),
    gs_iload_n (k := 2) (by decide +kernel) rfl,
    gs_iadd (by decide +kernel),
    gs_iaload (by decide +kernel),
    gs_iconst (n := 1) (by decide +kernel) (by decide),
    gs_icmp_eq (off := 17) (by decide +kernel) (by decide),
    gs_aload_n (k := 0) (by decide +kernel) rfl,
    gs_get (T := TX11) (N := 29) (Cn := RX11) (by decide +kernel) rfl (by decide) inW11 rfl wd_836,
    gs_bipush (n := 11) (by decide +kernel) (by decide),
    gs_iload_n (k := 1) (by decide +kernel) rfl,
    gs_imul (by decide +kernel),
    gs_iload_n (k := 2) (by decide +kernel) rfl,
    gs_iadd (by decide +kernel),
    gs_zaload (by decide +kernel),
    gs_if_eq (off := 7) (by decide +kernel) (by decide),
    gs_iconst (n := 1) (by decide +kernel) (by decide),
    gs_goto (off := 4) (by decide +kernel) (by decide),
    gs_iconst (n := 0) (by decide +kernel) (by decide),
    gs_iret (by decide +kernel),
    fun _ h => absurd h List.not_mem_nil⟩
def pX11_kept : gProg := [(0, sLdI 0 1),
  (1, sIfge 8),
  (4, sPush (.int 0) 1),
  (5, sGoto 20),
  (8, sLdI 0 1),
  (9, sPush (.int 100) 2),
  (11, sCmple 19),
  (14, sPush (.int 100) 2),
  (16, sGoto 20),
  (19, sLdI 0 1),
  (20, sRetI)]
theorem kX11_kept : ∀ q ∈ pX11_kept, gSnd RX11 cX11_kept 1 none q.1 q.2 := by
  simp only [pX11_kept, List.forall_mem_cons]
  exact ⟨gs_iload_n (k := 0) (by decide +kernel) rfl,
    gs_if_ge (off := 7) (by decide +kernel) (by decide),
    gs_iconst (n := 0) (by decide +kernel) (by decide),
    gs_goto (off := 15) (by decide +kernel) (by decide),
    gs_iload_n (k := 0) (by decide +kernel) rfl,
    gs_bipush (n := 100) (by decide +kernel) (by decide),
    gs_icmp_le (off := 8) (by decide +kernel) (by decide),
    gs_bipush (n := 100) (by decide +kernel) (by decide),
    gs_goto (off := 4) (by decide +kernel) (by decide),
    gs_iload_n (k := 0) (by decide +kernel) rfl,
    gs_iret (by decide +kernel),
    fun _ h => absurd h List.not_mem_nil⟩
def pX11_looked : gProg := [(0, sLdA 0 1),
  (1, sLdI 2 1),
  (2, sLdI 3 1),
  (3, sCallV 153 11 2),
  (6, sIfeq 24),
  (9, sLdI 1 1),
  (10, sLdA 0 1),
  (11, sGet 11 8),
  (14, sPush (.int 3) 1),
  (15, sLdI 3 1),
  (16, sImul),
  (17, sPush (.int 2) 1),
  (18, sIadd),
  (19, sIald),
  (20, sIadd),
  (21, sGoto 27),
  (24, sLdI 1 1),
  (25, sPush (.int 5) 1),
  (26, sIsub),
  (27, sCallS 154 1),
  (30, sRetI)]
theorem kX11_looked : ∀ q ∈ pX11_looked, gSnd RX11 cX11_looked 4 none q.1 q.2 := by
  simp only [pX11_looked, List.forall_mem_cons]
  exact ⟨gs_aload_n (k := 0) (by decide +kernel) rfl,
    gs_iload_n (k := 2) (by decide +kernel) rfl,
    gs_iload_n (k := 3) (by decide +kernel) rfl,
    gs_callV (by decide +kernel) rfl rfl wd_1074 wd_1077 wd_1076 ws_45 wd_12 mp_153 (by decide),
    gs_if_eq (off := 18) (by decide +kernel) (by decide),
    gs_iload_n (k := 1) (by decide +kernel) rfl,
    gs_aload_n (k := 0) (by decide +kernel) rfl,
    gs_get (T := TX11) (N := 29) (Cn := RX11) (by decide +kernel) rfl (by decide) inW11 rfl wd_827,
    gs_iconst (n := 3) (by decide +kernel) (by decide),
    gs_iload_n (k := 3) (by decide +kernel) rfl,
    gs_imul (by decide +kernel),
    gs_iconst (n := 2) (by decide +kernel) (by decide),
    gs_iadd (by decide +kernel),
    gs_iaload (by decide +kernel),
    gs_iadd (by decide +kernel),
    gs_goto (off := 6) (by decide +kernel) (by decide),
    gs_iload_n (k := 1) (by decide +kernel) rfl,
    gs_iconst (n := 5) (by decide +kernel) (by decide),
    gs_isub (by decide +kernel),
    gs_callS (by decide +kernel) rfl wd_1082 wd_1084 wd_1083 wd_12 mp_154 (by decide),
    gs_iret (by decide +kernel),
    fun _ h => absurd h List.not_mem_nil⟩
def pX11_believes : gProg := [(0, sLdA 0 1),
  (1, sGet 11 11),
  (4, sStI 1 1),
  (5, sPush (.int 0) 1),
  (6, sStI 2 1),
  (7, sLdI 2 1),
  (8, sPush (.int 24) 2),
  (10, sCmpge 231),
  (13, sPush (.int 0) 1),
  (14, sStI 3 1),
  (15, sLdI 3 1),
  (16, sLdA 0 1),
  (17, sGet 11 13),
  (20, sCmpge 106),
  (23, sLdA 0 1),
  (24, sGet 11 14),
  (27, sPush (.int 3) 1),
  (28, sLdI 3 1),
  (29, sImul),
  (30, sIald),
  (31, sIfne 80),
  (34, sLdA 0 1),
  (35, sGet 11 14),
  (38, sPush (.int 3) 1),
  (39, sLdI 3 1),
  (40, sImul),
  (41, sPush (.int 1) 1),
  (42, sIadd),
  (43, sIald),
  (44, sLdI 2 1),
  (45, sCmpne 80),
  (48, sLdA 0 1),
  (49, sLdA 0 1),
  (50, sGet 11 14),
  (53, sPush (.int 3) 1),
  (54, sLdI 3 1),
  (55, sImul),
  (56, sPush (.int 2) 1),
  (57, sIadd),
  (58, sIald),
  (59, sCallV 138 11 1),
  (62, sIfeq 80),
  (65, sLdA 0 1),
  (66, sGet 11 15),
  (69, sLdI 3 1),
  (70, sCallS 114 2),
  (73, sIfne 80),
  (76, sPush (.int 1) 1),
  (77, sGoto 81),
  (80, sPush (.int 0) 1),
  (81, sStI 4 2),
  (83, sLdI 4 2),
  (85, sIfeq 95),
  (88, sLdI 1 1),
  (89, sPush (.int 10) 2),
  (91, sIsub),
  (92, sGoto 96),
  (95, sLdI 1 1),
  (96, sCallS 154 1),
  (99, sStI 1 1),
  (100, sInc 3 1),
  (103, sGoto 15),
  (106, sPush (.int 0) 1),
  (107, sStI 3 1),
  (108, sPush (.int 0) 1),
  (109, sStI 4 2),
  (111, sLdI 4 2),
  (113, sLdA 0 1),
  (114, sGet 11 9),
  (117, sCmpge 177),
  (120, sLdA 0 1),
  (121, sGet 11 10),
  (124, sPush (.int 2) 1),
  (125, sLdI 4 2),
  (127, sImul),
  (128, sIald),
  (129, sLdI 2 1),
  (130, sCmpne 171),
  (133, sLdA 0 1),
  (134, sLdA 0 1),
  (135, sGet 11 10),
  (138, sPush (.int 2) 1),
  (139, sLdI 4 2),
  (141, sImul),
  (142, sPush (.int 1) 1),
  (143, sIadd),
  (144, sIald),
  (145, sCallV 138 11 1),
  (148, sIfeq 171),
  (151, sLdA 0 1),
  (152, sLdI 1 1),
  (153, sLdI 2 1),
  (154, sLdA 0 1),
  (155, sGet 11 10),
  (158, sPush (.int 2) 1),
  (159, sLdI 4 2),
  (161, sImul),
  (162, sPush (.int 1) 1),
  (163, sIadd),
  (164, sIald),
  (165, sCallV 155 11 3),
  (168, sStI 1 1),
  (169, sPush (.int 1) 1),
  (170, sStI 3 1),
  (171, sInc 4 1),
  (174, sGoto 111),
  (177, sLdA 0 1),
  (178, sGet 11 22),
  (181, sLdI 2 1),
  (182, sCmpne 198),
  (185, sLdA 0 1),
  (186, sLdI 1 1),
  (187, sLdI 2 1),
  (188, sLdA 0 1),
  (189, sGet 11 23),
  (192, sCallV 155 11 3),
  (195, sStI 1 1),
  (196, sPush (.int 1) 1),
  (197, sStI 3 1),
  (198, sLdA 0 1),
  (199, sGet 11 19),
  (202, sLdI 2 1),
  (203, sLdI 3 1),
  (204, sIfeq 211),
  (207, sLdI 1 1),
  (208, sGoto 214),
  (211, sLdI 1 1),
  (212, sPush (.int 2) 1),
  (213, sIsub),
  (214, sCallS 154 1),
  (217, sIast),
  (218, sLdA 0 1),
  (219, sGet 11 19),
  (222, sLdI 2 1),
  (223, sIald),
  (224, sStI 1 1),
  (225, sInc 2 1),
  (228, sGoto 7),
  (231, sRetV)]
set_option maxRecDepth 100000 in
theorem kX11_believes : ∀ q ∈ pX11_believes, gSnd RX11 cX11_believes 5 none q.1 q.2 := by
  simp only [pX11_believes, List.forall_mem_cons]
  exact ⟨gs_aload_n (k := 0) (by decide +kernel) rfl,
    gs_get (T := TX11) (N := 29) (Cn := RX11) (by decide +kernel) rfl (by decide) inW11 rfl wd_830,
    gs_istore_n (k := 1) (by decide +kernel) rfl,
    gs_iconst (n := 0) (by decide +kernel) (by decide),
    gs_istore_n (k := 2) (by decide +kernel) rfl,
    gs_iload_n (k := 2) (by decide +kernel) rfl,
    gs_bipush (n := 24) (by decide +kernel) (by decide),
    gs_icmp_ge (off := 221) (by decide +kernel) (by decide),
    gs_iconst (n := 0) (by decide +kernel) (by decide),
    gs_istore_n (k := 3) (by decide +kernel) rfl,
    gs_iload_n (k := 3) (by decide +kernel) rfl,
    gs_aload_n (k := 0) (by decide +kernel) rfl,
    gs_get (T := TX11) (N := 29) (Cn := RX11) (by decide +kernel) rfl (by decide) inW11 rfl wd_832,
    gs_icmp_ge (off := 86) (by decide +kernel) (by decide),
    gs_aload_n (k := 0) (by decide +kernel) rfl,
    gs_get (T := TX11) (N := 29) (Cn := RX11) (by decide +kernel) rfl (by decide) inW11 rfl wd_833,
    gs_iconst (n := 3) (by decide +kernel) (by decide),
    gs_iload_n (k := 3) (by decide +kernel) rfl,
    gs_imul (by decide +kernel),
    gs_iaload (by decide +kernel),
    gs_if_ne (off := 49) (by decide +kernel) (by decide),
    gs_aload_n (k := 0) (by decide +kernel) rfl,
    gs_get (T := TX11) (N := 29) (Cn := RX11) (by decide +kernel) rfl (by decide) inW11 rfl wd_833,
    gs_iconst (n := 3) (by decide +kernel) (by decide),
    gs_iload_n (k := 3) (by decide +kernel) rfl,
    gs_imul (by decide +kernel),
    gs_iconst (n := 1) (by decide +kernel) (by decide),
    gs_iadd (by decide +kernel),
    gs_iaload (by decide +kernel),
    gs_iload_n (k := 2) (by decide +kernel) rfl,
    gs_icmp_ne (off := 35) (by decide +kernel) (by decide),
    gs_aload_n (k := 0) (by decide +kernel) rfl,
    gs_aload_n (k := 0) (by decide +kernel) rfl,
    gs_get (T := TX11) (N := 29) (Cn := RX11) (by decide +kernel) rfl (by decide) inW11 rfl wd_833,
    gs_iconst (n := 3) (by decide +kernel) (by decide),
    gs_iload_n (k := 3) (by decide +kernel) rfl,
    gs_imul (by decide +kernel),
    gs_iconst (n := 2) (by decide +kernel) (by decide),
    gs_iadd (by decide +kernel),
    gs_iaload (by decide +kernel),
    gs_callV (by decide +kernel) rfl rfl wd_999 wd_1002 wd_1001 ws_36 wd_12 mp_138 (by decide),
    gs_if_eq (off := 18) (by decide +kernel) (by decide),
    gs_aload_n (k := 0) (by decide +kernel) rfl,
    gs_get (T := TX11) (N := 29) (Cn := RX11) (by decide +kernel) rfl (by decide) inW11 rfl wd_834,
    gs_iload_n (k := 3) (by decide +kernel) rfl,
    gs_callS (by decide +kernel) rfl wd_1064 wd_1066 wd_1065 wd_12 mp_114 (by decide),
    gs_if_ne (off := 7) (by decide +kernel) (by decide),
    gs_iconst (n := 1) (by decide +kernel) (by decide),
    gs_goto (off := 4) (by decide +kernel) (by decide),
    gs_iconst (n := 0) (by decide +kernel) (by decide),
    gs_istore (by decide +kernel),
    gs_iload (by decide +kernel),
    gs_if_eq (off := 10) (by decide +kernel) (by decide),
    gs_iload_n (k := 1) (by decide +kernel) rfl,
    gs_bipush (n := 10) (by decide +kernel) (by decide),
    gs_isub (by decide +kernel),
    gs_goto (off := 4) (by decide +kernel) (by decide),
    gs_iload_n (k := 1) (by decide +kernel) rfl,
    gs_callS (by decide +kernel) rfl wd_1082 wd_1084 wd_1083 wd_12 mp_154 (by decide),
    gs_istore_n (k := 1) (by decide +kernel) rfl,
    gs_iinc (n := 1) (by decide +kernel) (by decide),
    gs_goto (off := -88) (by decide +kernel) (by decide),
    gs_iconst (n := 0) (by decide +kernel) (by decide),
    gs_istore_n (k := 3) (by decide +kernel) rfl,
    gs_iconst (n := 0) (by decide +kernel) (by decide),
    gs_istore (by decide +kernel),
    gs_iload (by decide +kernel),
    gs_aload_n (k := 0) (by decide +kernel) rfl,
    gs_get (T := TX11) (N := 29) (Cn := RX11) (by decide +kernel) rfl (by decide) inW11 rfl wd_828,
    gs_icmp_ge (off := 60) (by decide +kernel) (by decide),
    gs_aload_n (k := 0) (by decide +kernel) rfl,
    gs_get (T := TX11) (N := 29) (Cn := RX11) (by decide +kernel) rfl (by decide) inW11 rfl wd_829,
    gs_iconst (n := 2) (by decide +kernel) (by decide),
    gs_iload (by decide +kernel),
    gs_imul (by decide +kernel),
    gs_iaload (by decide +kernel),
    gs_iload_n (k := 2) (by decide +kernel) rfl,
    gs_icmp_ne (off := 41) (by decide +kernel) (by decide),
    gs_aload_n (k := 0) (by decide +kernel) rfl,
    gs_aload_n (k := 0) (by decide +kernel) rfl,
    gs_get (T := TX11) (N := 29) (Cn := RX11) (by decide +kernel) rfl (by decide) inW11 rfl wd_829,
    gs_iconst (n := 2) (by decide +kernel) (by decide),
    gs_iload (by decide +kernel),
    gs_imul (by decide +kernel),
    gs_iconst (n := 1) (by decide +kernel) (by decide),
    gs_iadd (by decide +kernel),
    gs_iaload (by decide +kernel),
    gs_callV (by decide +kernel) rfl rfl wd_999 wd_1002 wd_1001 ws_36 wd_12 mp_138 (by decide),
    gs_if_eq (off := 23) (by decide +kernel) (by decide),
    gs_aload_n (k := 0) (by decide +kernel) rfl,
    gs_iload_n (k := 1) (by decide +kernel) rfl,
    gs_iload_n (k := 2) (by decide +kernel) rfl,
    gs_aload_n (k := 0) (by decide +kernel) rfl,
    gs_get (T := TX11) (N := 29) (Cn := RX11) (by decide +kernel) rfl (by decide) inW11 rfl wd_829,
    gs_iconst (n := 2) (by decide +kernel) (by decide),
    gs_iload (by decide +kernel),
    gs_imul (by decide +kernel),
    gs_iconst (n := 1) (by decide +kernel) (by decide),
    gs_iadd (by decide +kernel),
    gs_iaload (by decide +kernel),
    gs_callV (by decide +kernel) rfl rfl wd_1085 wd_1088 wd_1087 ws_47 wd_12 mp_155 (by decide),
    gs_istore_n (k := 1) (by decide +kernel) rfl,
    gs_iconst (n := 1) (by decide +kernel) (by decide),
    gs_istore_n (k := 3) (by decide +kernel) rfl,
    gs_iinc (n := 1) (by decide +kernel) (by decide),
    gs_goto (off := -63) (by decide +kernel) (by decide),
    gs_aload_n (k := 0) (by decide +kernel) rfl,
    gs_get (T := TX11) (N := 29) (Cn := RX11) (by decide +kernel) rfl (by decide) inW11 rfl wd_841,
    gs_iload_n (k := 2) (by decide +kernel) rfl,
    gs_icmp_ne (off := 16) (by decide +kernel) (by decide),
    gs_aload_n (k := 0) (by decide +kernel) rfl,
    gs_iload_n (k := 1) (by decide +kernel) rfl,
    gs_iload_n (k := 2) (by decide +kernel) rfl,
    gs_aload_n (k := 0) (by decide +kernel) rfl,
    gs_get (T := TX11) (N := 29) (Cn := RX11) (by decide +kernel) rfl (by decide) inW11 rfl wd_842,
    gs_callV (by decide +kernel) rfl rfl wd_1085 wd_1088 wd_1087 ws_47 wd_12 mp_155 (by decide),
    gs_istore_n (k := 1) (by decide +kernel) rfl,
    gs_iconst (n := 1) (by decide +kernel) (by decide),
    gs_istore_n (k := 3) (by decide +kernel) rfl,
    gs_aload_n (k := 0) (by decide +kernel) rfl,
    gs_get (T := TX11) (N := 29) (Cn := RX11) (by decide +kernel) rfl (by decide) inW11 rfl wd_838,
    gs_iload_n (k := 2) (by decide +kernel) rfl,
    gs_iload_n (k := 3) (by decide +kernel) rfl,
    gs_if_eq (off := 7) (by decide +kernel) (by decide),
    gs_iload_n (k := 1) (by decide +kernel) rfl,
    gs_goto (off := 6) (by decide +kernel) (by decide),
    gs_iload_n (k := 1) (by decide +kernel) rfl,
    gs_iconst (n := 2) (by decide +kernel) (by decide),
    gs_isub (by decide +kernel),
    gs_callS (by decide +kernel) rfl wd_1082 wd_1084 wd_1083 wd_12 mp_154 (by decide),
    gs_iastore (by decide +kernel),
    gs_aload_n (k := 0) (by decide +kernel) rfl,
    gs_get (T := TX11) (N := 29) (Cn := RX11) (by decide +kernel) rfl (by decide) inW11 rfl wd_838,
    gs_iload_n (k := 2) (by decide +kernel) rfl,
    gs_iaload (by decide +kernel),
    gs_istore_n (k := 1) (by decide +kernel) rfl,
    gs_iinc (n := 1) (by decide +kernel) (by decide),
    gs_goto (off := -221) (by decide +kernel) (by decide),
    gs_vret (by decide +kernel),
    fun _ h => absurd h List.not_mem_nil⟩
end
section
def pX11_lives : gProg := [(0, sLdA 0 1),
  (1, sCallV 152 11 0),
  (4, sLdA 0 1),
  (5, sCallV 156 11 0),
  (8, sRetV)]
theorem kX11_lives : ∀ q ∈ pX11_lives, gSnd RX11 cX11_lives 1 none q.1 q.2 := by
  simp only [pX11_lives, List.forall_mem_cons]
  exact ⟨gs_aload_n (k := 0) (by decide +kernel) rfl,
    gs_callV (by decide +kernel) rfl rfl wd_1052 wd_1055 wd_1054 ws_41 wd_12 mp_152 (by decide),
    gs_aload_n (k := 0) (by decide +kernel) rfl,
    gs_callV (by decide +kernel) rfl rfl wd_1078 wd_1081 wd_1080 ws_46 wd_12 mp_156 (by decide),
    gs_vret (by decide +kernel),
    fun _ h => absurd h List.not_mem_nil⟩
def pX11_find : gProg := [(0, sLdA 0 1),
  (1, sCallV 133 11 0),
  (4, sPop),
  (5, sLdA 0 1),
  (6, sCallV 135 11 0),
  (9, sPop),
  (10, sLdA 0 1),
  (11, sCallV 157 11 0),
  (14, sRetV)]
theorem kX11_find : ∀ q ∈ pX11_find, gSnd RX11 cX11_find 1 none q.1 q.2 := by
  simp only [pX11_find, List.forall_mem_cons]
  exact ⟨gs_aload_n (k := 0) (by decide +kernel) rfl,
    gs_callV (by decide +kernel) rfl rfl wd_972 wd_975 wd_974 ws_34 wd_12 mp_133 (by decide),
    gs_pop (by decide +kernel),
    gs_aload_n (k := 0) (by decide +kernel) rfl,
    gs_callV (by decide +kernel) rfl rfl wd_986 wd_989 wd_988 ws_35 wd_12 mp_135 (by decide),
    gs_pop (by decide +kernel),
    gs_aload_n (k := 0) (by decide +kernel) rfl,
    gs_callV (by decide +kernel) rfl rfl wd_1048 wd_1051 wd_1050 ws_40 wd_12 mp_157 (by decide),
    gs_vret (by decide +kernel),
    fun _ h => absurd h List.not_mem_nil⟩
def pX11_atBy : gProg := [(0, sLdI 3 1),
  (1, sIfne 18),
  (4, sLdA 0 1),
  (5, sGet 11 16),
  (8, sPush (.int 11) 2),
  (10, sLdI 1 1),
  (11, sImul),
  (12, sLdI 2 1),
  (13, sIadd),
  (14, sIald),
  (15, sGoto 59),
  (18, sLdI 3 1),
  (19, sPush (.int 1) 1),
  (20, sCmpne 40),
  (23, sLdA 0 1),
  (24, sLdI 1 1),
  (25, sLdI 2 1),
  (26, sCallV 153 11 2),
  (29, sIfeq 36),
  (32, sPush (.int 1) 1),
  (33, sGoto 59),
  (36, sPush (.int 0) 1),
  (37, sGoto 59),
  (40, sLdA 0 1),
  (41, sGet 11 17),
  (44, sPush (.int 11) 2),
  (46, sLdI 1 1),
  (47, sImul),
  (48, sLdI 2 1),
  (49, sIadd),
  (50, sZald),
  (51, sIfeq 58),
  (54, sPush (.int 1) 1),
  (55, sGoto 59),
  (58, sPush (.int 0) 1),
  (59, sRetI)]
theorem kX11_atBy : ∀ q ∈ pX11_atBy, gSnd RX11 cX11_atBy 4 none q.1 q.2 := by
  simp only [pX11_atBy, List.forall_mem_cons]
  exact ⟨gs_iload_n (k := 3) (by decide +kernel) rfl,
    gs_if_ne (off := 17) (by decide +kernel) (by decide),
    gs_aload_n (k := 0) (by decide +kernel) rfl,
    gs_get (T := TX11) (N := 29) (Cn := RX11) (by decide +kernel) rfl (by decide) inW11 rfl wd_835,
    gs_bipush (n := 11) (by decide +kernel) (by decide),
    gs_iload_n (k := 1) (by decide +kernel) rfl,
    gs_imul (by decide +kernel),
    gs_iload_n (k := 2) (by decide +kernel) rfl,
    gs_iadd (by decide +kernel),
    gs_iaload (by decide +kernel),
    gs_goto (off := 44) (by decide +kernel) (by decide),
    gs_iload_n (k := 3) (by decide +kernel) rfl,
    gs_iconst (n := 1) (by decide +kernel) (by decide),
    gs_icmp_ne (off := 20) (by decide +kernel) (by decide),
    gs_aload_n (k := 0) (by decide +kernel) rfl,
    gs_iload_n (k := 1) (by decide +kernel) rfl,
    gs_iload_n (k := 2) (by decide +kernel) rfl,
    gs_callV (by decide +kernel) rfl rfl wd_1074 wd_1077 wd_1076 ws_45 wd_12 mp_153 (by decide),
    gs_if_eq (off := 7) (by decide +kernel) (by decide),
    gs_iconst (n := 1) (by decide +kernel) (by decide),
    gs_goto (off := 26) (by decide +kernel) (by decide),
    gs_iconst (n := 0) (by decide +kernel) (by decide),
    gs_goto (off := 22) (by decide +kernel) (by decide),
    gs_aload_n (k := 0) (by decide +kernel) rfl,
    gs_get (T := TX11) (N := 29) (Cn := RX11) (by decide +kernel) rfl (by decide) inW11 rfl wd_836,
    gs_bipush (n := 11) (by decide +kernel) (by decide),
    gs_iload_n (k := 1) (by decide +kernel) rfl,
    gs_imul (by decide +kernel),
    gs_iload_n (k := 2) (by decide +kernel) rfl,
    gs_iadd (by decide +kernel),
    gs_zaload (by decide +kernel),
    gs_if_eq (off := 7) (by decide +kernel) (by decide),
    gs_iconst (n := 1) (by decide +kernel) (by decide),
    gs_goto (off := 4) (by decide +kernel) (by decide),
    gs_iconst (n := 0) (by decide +kernel) (by decide),
    gs_iret (by decide +kernel),
    fun _ h => absurd h List.not_mem_nil⟩
def pX11_at : gProg := [(0, sLdA 0 1),
  (1, sCallV 158 11 0),
  (4, sLdI 1 1),
  (5, sCallS 139 1),
  (8, sIfeq 41),
  (11, sLdA 0 1),
  (12, sLdI 2 1),
  (13, sCallV 138 11 1),
  (16, sIfeq 41),
  (19, sLdI 3 1),
  (20, sI2L),
  (21, sPush (.long 0) 1),
  (22, sPush (.long 2) 3),
  (25, sCallS 111 3),
  (28, sIfeq 41),
  (31, sLdA 0 1),
  (32, sLdI 1 1),
  (33, sLdI 2 1),
  (34, sLdI 3 1),
  (35, sCallV 159 11 3),
  (38, sGoto 43),
  (41, sPush (.int (-2)) 2),
  (43, sRetI)]
theorem kX11_at : ∀ q ∈ pX11_at, gSnd RX11 cX11_at 4 none q.1 q.2 := by
  simp only [pX11_at, List.forall_mem_cons]
  exact ⟨gs_aload_n (k := 0) (by decide +kernel) rfl,
    gs_callV (by decide +kernel) rfl rfl wd_1044 wd_1047 wd_1046 ws_39 wd_12 mp_158 (by decide),
    gs_iload_n (k := 1) (by decide +kernel) rfl,
    gs_callS (by decide +kernel) rfl wd_1022 wd_1024 wd_1023 wd_12 mp_139 (by decide),
    gs_if_eq (off := 33) (by decide +kernel) (by decide),
    gs_aload_n (k := 0) (by decide +kernel) rfl,
    gs_iload_n (k := 2) (by decide +kernel) rfl,
    gs_callV (by decide +kernel) rfl rfl wd_999 wd_1002 wd_1001 ws_36 wd_12 mp_138 (by decide),
    gs_if_eq (off := 25) (by decide +kernel) (by decide),
    gs_iload_n (k := 3) (by decide +kernel) rfl,
    gs_i2l (by decide +kernel),
    gs_lconst (n := 0) (by decide +kernel) (by decide),
    gs_ldc2 (by decide +kernel) wd_919,
    gs_callS (by decide +kernel) rfl wd_916 wd_918 wd_917 wd_12 mp_111 (by decide),
    gs_if_eq (off := 13) (by decide +kernel) (by decide),
    gs_aload_n (k := 0) (by decide +kernel) rfl,
    gs_iload_n (k := 1) (by decide +kernel) rfl,
    gs_iload_n (k := 2) (by decide +kernel) rfl,
    gs_iload_n (k := 3) (by decide +kernel) rfl,
    gs_callV (by decide +kernel) rfl rfl wd_1089 wd_1092 wd_1091 ws_48 wd_12 mp_159 (by decide),
    gs_goto (off := 5) (by decide +kernel) (by decide),
    gs_bipush (n := -2) (by decide +kernel) (by decide),
    gs_iret (by decide +kernel),
    fun _ h => absurd h List.not_mem_nil⟩
def pX11_hillBy : gProg := [(0, sLdI 2 1),
  (1, sIfne 13),
  (4, sLdA 0 1),
  (5, sGet 11 18),
  (8, sLdI 1 1),
  (9, sIald),
  (10, sGoto 33),
  (13, sLdI 2 1),
  (14, sPush (.int 1) 1),
  (15, sCmpne 27),
  (18, sLdA 0 1),
  (19, sGet 11 19),
  (22, sLdI 1 1),
  (23, sIald),
  (24, sGoto 33),
  (27, sLdA 0 1),
  (28, sGet 11 20),
  (31, sLdI 1 1),
  (32, sIald),
  (33, sRetI)]
theorem kX11_hillBy : ∀ q ∈ pX11_hillBy, gSnd RX11 cX11_hillBy 3 none q.1 q.2 := by
  simp only [pX11_hillBy, List.forall_mem_cons]
  exact ⟨gs_iload_n (k := 2) (by decide +kernel) rfl,
    gs_if_ne (off := 12) (by decide +kernel) (by decide),
    gs_aload_n (k := 0) (by decide +kernel) rfl,
    gs_get (T := TX11) (N := 29) (Cn := RX11) (by decide +kernel) rfl (by decide) inW11 rfl wd_837,
    gs_iload_n (k := 1) (by decide +kernel) rfl,
    gs_iaload (by decide +kernel),
    gs_goto (off := 23) (by decide +kernel) (by decide),
    gs_iload_n (k := 2) (by decide +kernel) rfl,
    gs_iconst (n := 1) (by decide +kernel) (by decide),
    gs_icmp_ne (off := 12) (by decide +kernel) (by decide),
    gs_aload_n (k := 0) (by decide +kernel) rfl,
    gs_get (T := TX11) (N := 29) (Cn := RX11) (by decide +kernel) rfl (by decide) inW11 rfl wd_838,
    gs_iload_n (k := 1) (by decide +kernel) rfl,
    gs_iaload (by decide +kernel),
    gs_goto (off := 9) (by decide +kernel) (by decide),
    gs_aload_n (k := 0) (by decide +kernel) rfl,
    gs_get (T := TX11) (N := 29) (Cn := RX11) (by decide +kernel) rfl (by decide) inW11 rfl wd_839,
    gs_iload_n (k := 1) (by decide +kernel) rfl,
    gs_iaload (by decide +kernel),
    gs_iret (by decide +kernel),
    fun _ h => absurd h List.not_mem_nil⟩
def pX11_hill : gProg := [(0, sLdA 0 1),
  (1, sCallV 158 11 0),
  (4, sLdI 1 1),
  (5, sCallS 139 1),
  (8, sIfeq 32),
  (11, sLdI 2 1),
  (12, sI2L),
  (13, sPush (.long 0) 1),
  (14, sPush (.long 2) 3),
  (17, sCallS 111 3),
  (20, sIfeq 32),
  (23, sLdA 0 1),
  (24, sLdI 1 1),
  (25, sLdI 2 1),
  (26, sCallV 161 11 2),
  (29, sGoto 34),
  (32, sPush (.int (-2)) 2),
  (34, sRetI)]
theorem kX11_hill : ∀ q ∈ pX11_hill, gSnd RX11 cX11_hill 3 none q.1 q.2 := by
  simp only [pX11_hill, List.forall_mem_cons]
  exact ⟨gs_aload_n (k := 0) (by decide +kernel) rfl,
    gs_callV (by decide +kernel) rfl rfl wd_1044 wd_1047 wd_1046 ws_39 wd_12 mp_158 (by decide),
    gs_iload_n (k := 1) (by decide +kernel) rfl,
    gs_callS (by decide +kernel) rfl wd_1022 wd_1024 wd_1023 wd_12 mp_139 (by decide),
    gs_if_eq (off := 24) (by decide +kernel) (by decide),
    gs_iload_n (k := 2) (by decide +kernel) rfl,
    gs_i2l (by decide +kernel),
    gs_lconst (n := 0) (by decide +kernel) (by decide),
    gs_ldc2 (by decide +kernel) wd_919,
    gs_callS (by decide +kernel) rfl wd_916 wd_918 wd_917 wd_12 mp_111 (by decide),
    gs_if_eq (off := 12) (by decide +kernel) (by decide),
    gs_aload_n (k := 0) (by decide +kernel) rfl,
    gs_iload_n (k := 1) (by decide +kernel) rfl,
    gs_iload_n (k := 2) (by decide +kernel) rfl,
    gs_callV (by decide +kernel) rfl rfl wd_1097 wd_1100 wd_1099 ws_49 wd_12 mp_161 (by decide),
    gs_goto (off := 5) (by decide +kernel) (by decide),
    gs_bipush (n := -2) (by decide +kernel) (by decide),
    gs_iret (by decide +kernel),
    fun _ h => absurd h List.not_mem_nil⟩
def pX11_bareNow : gProg := [(0, sPush (.int 0) 1),
  (1, sStI 1 1),
  (2, sPush (.int 0) 1),
  (3, sStI 2 1),
  (4, sLdI 2 1),
  (5, sPush (.int 24) 2),
  (7, sCmpge 35),
  (10, sLdI 1 1),
  (11, sLdA 0 1),
  (12, sGet 11 18),
  (15, sLdI 2 1),
  (16, sIald),
  (17, sIfne 26),
  (20, sPush (.int 1) 1),
  (21, sLdI 2 1),
  (22, sIshl),
  (23, sGoto 27),
  (26, sPush (.int 0) 1),
  (27, sIor),
  (28, sStI 1 1),
  (29, sInc 2 1),
  (32, sGoto 4),
  (35, sLdI 1 1),
  (36, sRetI)]
theorem kX11_bareNow : ∀ q ∈ pX11_bareNow, gSnd RX11 cX11_bareNow 3 none q.1 q.2 := by
  simp only [pX11_bareNow, List.forall_mem_cons]
  exact ⟨gs_iconst (n := 0) (by decide +kernel) (by decide),
    gs_istore_n (k := 1) (by decide +kernel) rfl,
    gs_iconst (n := 0) (by decide +kernel) (by decide),
    gs_istore_n (k := 2) (by decide +kernel) rfl,
    gs_iload_n (k := 2) (by decide +kernel) rfl,
    gs_bipush (n := 24) (by decide +kernel) (by decide),
    gs_icmp_ge (off := 28) (by decide +kernel) (by decide),
    gs_iload_n (k := 1) (by decide +kernel) rfl,
    gs_aload_n (k := 0) (by decide +kernel) rfl,
    gs_get (T := TX11) (N := 29) (Cn := RX11) (by decide +kernel) rfl (by decide) inW11 rfl wd_837,
    gs_iload_n (k := 2) (by decide +kernel) rfl,
    gs_iaload (by decide +kernel),
    gs_if_ne (off := 9) (by decide +kernel) (by decide),
    gs_iconst (n := 1) (by decide +kernel) (by decide),
    gs_iload_n (k := 2) (by decide +kernel) rfl,
    gs_ishl (by decide +kernel),
    gs_goto (off := 4) (by decide +kernel) (by decide),
    gs_iconst (n := 0) (by decide +kernel) (by decide),
    gs_ior (by decide +kernel),
    gs_istore_n (k := 1) (by decide +kernel) rfl,
    gs_iinc (n := 1) (by decide +kernel) (by decide),
    gs_goto (off := -28) (by decide +kernel) (by decide),
    gs_iload_n (k := 1) (by decide +kernel) rfl,
    gs_iret (by decide +kernel),
    fun _ h => absurd h List.not_mem_nil⟩
def pX11_bare : gProg := [(0, sLdA 0 1),
  (1, sCallV 158 11 0),
  (4, sLdA 0 1),
  (5, sCallV 163 11 0),
  (8, sRetI)]
theorem kX11_bare : ∀ q ∈ pX11_bare, gSnd RX11 cX11_bare 1 none q.1 q.2 := by
  simp only [pX11_bare, List.forall_mem_cons]
  exact ⟨gs_aload_n (k := 0) (by decide +kernel) rfl,
    gs_callV (by decide +kernel) rfl rfl wd_1044 wd_1047 wd_1046 ws_39 wd_12 mp_158 (by decide),
    gs_aload_n (k := 0) (by decide +kernel) rfl,
    gs_callV (by decide +kernel) rfl rfl wd_1105 wd_1108 wd_1107 ws_50 wd_12 mp_163 (by decide),
    gs_iret (by decide +kernel),
    fun _ h => absurd h List.not_mem_nil⟩
def pX11_runNow : gProg := [(0, sPush (.int (-1)) 1),
  (1, sStI 1 1),
  (2, sPush (.int 23) 2),
  (4, sStI 2 1),
  (5, sLdI 2 1),
  (6, sIflt 34),
  (9, sLdA 0 1),
  (10, sGet 11 19),
  (13, sLdI 2 1),
  (14, sIald),
  (15, sLdA 0 1),
  (16, sGet 11 12),
  (19, sCmpge 26),
  (22, sLdI 2 1),
  (23, sGoto 27),
  (26, sLdI 1 1),
  (27, sStI 1 1),
  (28, sInc 2 (-1)),
  (31, sGoto 5),
  (34, sLdI 1 1),
  (35, sRetI)]
theorem kX11_runNow : ∀ q ∈ pX11_runNow, gSnd RX11 cX11_runNow 3 none q.1 q.2 := by
  simp only [pX11_runNow, List.forall_mem_cons]
  exact ⟨gs_iconst (n := -1) (by decide +kernel) (by decide),
    gs_istore_n (k := 1) (by decide +kernel) rfl,
    gs_bipush (n := 23) (by decide +kernel) (by decide),
    gs_istore_n (k := 2) (by decide +kernel) rfl,
    gs_iload_n (k := 2) (by decide +kernel) rfl,
    gs_if_lt (off := 28) (by decide +kernel) (by decide),
    gs_aload_n (k := 0) (by decide +kernel) rfl,
    gs_get (T := TX11) (N := 29) (Cn := RX11) (by decide +kernel) rfl (by decide) inW11 rfl wd_838,
    gs_iload_n (k := 2) (by decide +kernel) rfl,
    gs_iaload (by decide +kernel),
    gs_aload_n (k := 0) (by decide +kernel) rfl,
    gs_get (T := TX11) (N := 29) (Cn := RX11) (by decide +kernel) rfl (by decide) inW11 rfl wd_831,
    gs_icmp_ge (off := 7) (by decide +kernel) (by decide),
    gs_iload_n (k := 2) (by decide +kernel) rfl,
    gs_goto (off := 4) (by decide +kernel) (by decide),
    gs_iload_n (k := 1) (by decide +kernel) rfl,
    gs_istore_n (k := 1) (by decide +kernel) rfl,
    gs_iinc (n := -1) (by decide +kernel) (by decide),
    gs_goto (off := -26) (by decide +kernel) (by decide),
    gs_iload_n (k := 1) (by decide +kernel) rfl,
    gs_iret (by decide +kernel),
    fun _ h => absurd h List.not_mem_nil⟩
def pX11_run : gProg := [(0, sLdA 0 1),
  (1, sCallV 158 11 0),
  (4, sLdA 0 1),
  (5, sCallV 165 11 0),
  (8, sRetI)]
theorem kX11_run : ∀ q ∈ pX11_run, gSnd RX11 cX11_run 1 none q.1 q.2 := by
  simp only [pX11_run, List.forall_mem_cons]
  exact ⟨gs_aload_n (k := 0) (by decide +kernel) rfl,
    gs_callV (by decide +kernel) rfl rfl wd_1044 wd_1047 wd_1046 ws_39 wd_12 mp_158 (by decide),
    gs_aload_n (k := 0) (by decide +kernel) rfl,
    gs_callV (by decide +kernel) rfl rfl wd_1113 wd_1116 wd_1115 ws_51 wd_12 mp_165 (by decide),
    gs_iret (by decide +kernel),
    fun _ h => absurd h List.not_mem_nil⟩
def pX11_fakeNow : gProg := [(0, sPush (.int 0) 1),
  (1, sStI 1 1),
  (2, sPush (.int 0) 1),
  (3, sStI 2 1),
  (4, sLdI 2 1),
  (5, sLdA 0 1),
  (6, sGet 11 9),
  (9, sCmpge 84),
  (12, sLdA 0 1),
  (13, sGet 11 10),
  (16, sPush (.int 2) 1),
  (17, sLdI 2 1),
  (18, sImul),
  (19, sIald),
  (20, sStI 3 1),
  (21, sLdA 0 1),
  (22, sGet 11 10),
  (25, sPush (.int 2) 1),
  (26, sLdI 2 1),
  (27, sImul),
  (28, sPush (.int 1) 1),
  (29, sIadd),
  (30, sIald),
  (31, sStI 4 2),
  (33, sLdI 1 1),
  (34, sLdA 0 1),
  (35, sLdI 4 2),
  (37, sCallV 138 11 1),
  (40, sIfeq 75),
  (43, sLdA 0 1),
  (44, sLdI 3 1),
  (45, sLdI 4 2),
  (47, sCallV 153 11 2),
  (50, sIfeq 75),
  (53, sLdA 0 1),
  (54, sGet 11 16),
  (57, sPush (.int 11) 2),
  (59, sLdI 3 1),
  (60, sImul),
  (61, sLdI 4 2),
  (63, sIadd),
  (64, sIald),
  (65, sPush (.int 1) 1),
  (66, sCmpeq 75),
  (69, sPush (.int 1) 1),
  (70, sLdI 2 1),
  (71, sIshl),
  (72, sGoto 76),
  (75, sPush (.int 0) 1),
  (76, sIor),
  (77, sStI 1 1),
  (78, sInc 2 1),
  (81, sGoto 4),
  (84, sLdI 1 1),
  (85, sRetI)]
theorem kX11_fakeNow : ∀ q ∈ pX11_fakeNow, gSnd RX11 cX11_fakeNow 5 none q.1 q.2 := by
  simp only [pX11_fakeNow, List.forall_mem_cons]
  exact ⟨gs_iconst (n := 0) (by decide +kernel) (by decide),
    gs_istore_n (k := 1) (by decide +kernel) rfl,
    gs_iconst (n := 0) (by decide +kernel) (by decide),
    gs_istore_n (k := 2) (by decide +kernel) rfl,
    gs_iload_n (k := 2) (by decide +kernel) rfl,
    gs_aload_n (k := 0) (by decide +kernel) rfl,
    gs_get (T := TX11) (N := 29) (Cn := RX11) (by decide +kernel) rfl (by decide) inW11 rfl wd_828,
    gs_icmp_ge (off := 75) (by decide +kernel) (by decide),
    gs_aload_n (k := 0) (by decide +kernel) rfl,
    gs_get (T := TX11) (N := 29) (Cn := RX11) (by decide +kernel) rfl (by decide) inW11 rfl wd_829,
    gs_iconst (n := 2) (by decide +kernel) (by decide),
    gs_iload_n (k := 2) (by decide +kernel) rfl,
    gs_imul (by decide +kernel),
    gs_iaload (by decide +kernel),
    gs_istore_n (k := 3) (by decide +kernel) rfl,
    gs_aload_n (k := 0) (by decide +kernel) rfl,
    gs_get (T := TX11) (N := 29) (Cn := RX11) (by decide +kernel) rfl (by decide) inW11 rfl wd_829,
    gs_iconst (n := 2) (by decide +kernel) (by decide),
    gs_iload_n (k := 2) (by decide +kernel) rfl,
    gs_imul (by decide +kernel),
    gs_iconst (n := 1) (by decide +kernel) (by decide),
    gs_iadd (by decide +kernel),
    gs_iaload (by decide +kernel),
    gs_istore (by decide +kernel),
    gs_iload_n (k := 1) (by decide +kernel) rfl,
    gs_aload_n (k := 0) (by decide +kernel) rfl,
    gs_iload (by decide +kernel),
    gs_callV (by decide +kernel) rfl rfl wd_999 wd_1002 wd_1001 ws_36 wd_12 mp_138 (by decide),
    gs_if_eq (off := 35) (by decide +kernel) (by decide),
    gs_aload_n (k := 0) (by decide +kernel) rfl,
    gs_iload_n (k := 3) (by decide +kernel) rfl,
    gs_iload (by decide +kernel),
    gs_callV (by decide +kernel) rfl rfl wd_1074 wd_1077 wd_1076 ws_45 wd_12 mp_153 (by decide),
    gs_if_eq (off := 25) (by decide +kernel) (by decide),
    gs_aload_n (k := 0) (by decide +kernel) rfl,
    gs_get (T := TX11) (N := 29) (Cn := RX11) (by decide +kernel) rfl (by decide) inW11 rfl wd_835,
    gs_bipush (n := 11) (by decide +kernel) (by decide),
    gs_iload_n (k := 3) (by decide +kernel) rfl,
    gs_imul (by decide +kernel),
    gs_iload (by decide +kernel),
    gs_iadd (by decide +kernel),
    gs_iaload (by decide +kernel),
    gs_iconst (n := 1) (by decide +kernel) (by decide),
    gs_icmp_eq (off := 9) (by decide +kernel) (by decide),
    gs_iconst (n := 1) (by decide +kernel) (by decide),
    gs_iload_n (k := 2) (by decide +kernel) rfl,
    gs_ishl (by decide +kernel),
    gs_goto (off := 4) (by decide +kernel) (by decide),
    gs_iconst (n := 0) (by decide +kernel) (by decide),
    gs_ior (by decide +kernel),
    gs_istore_n (k := 1) (by decide +kernel) rfl,
    gs_iinc (n := 1) (by decide +kernel) (by decide),
    gs_goto (off := -77) (by decide +kernel) (by decide),
    gs_iload_n (k := 1) (by decide +kernel) rfl,
    gs_iret (by decide +kernel),
    fun _ h => absurd h List.not_mem_nil⟩
def pX11_fake : gProg := [(0, sLdA 0 1),
  (1, sCallV 158 11 0),
  (4, sLdA 0 1),
  (5, sCallV 167 11 0),
  (8, sRetI)]
theorem kX11_fake : ∀ q ∈ pX11_fake, gSnd RX11 cX11_fake 1 none q.1 q.2 := by
  simp only [pX11_fake, List.forall_mem_cons]
  exact ⟨gs_aload_n (k := 0) (by decide +kernel) rfl,
    gs_callV (by decide +kernel) rfl rfl wd_1044 wd_1047 wd_1046 ws_39 wd_12 mp_158 (by decide),
    gs_aload_n (k := 0) (by decide +kernel) rfl,
    gs_callV (by decide +kernel) rfl rfl wd_1121 wd_1124 wd_1123 ws_52 wd_12 mp_167 (by decide),
    gs_iret (by decide +kernel),
    fun _ h => absurd h List.not_mem_nil⟩
def pX11_lastBy : gProg := [(0, sPush (.int (-1)) 1),
  (1, sStI 2 1),
  (2, sPush (.int (-1)) 1),
  (3, sStI 3 1),
  (4, sPush (.int 0) 1),
  (5, sStI 4 2),
  (7, sLdI 4 2),
  (9, sLdA 0 1),
  (10, sGet 11 7),
  (13, sCmpge 88),
  (16, sPush (.int 0) 1),
  (17, sStI 5 2),
  (19, sPush (.int 0) 1),
  (20, sStI 6 2),
  (22, sLdI 6 2),
  (24, sPush (.int 24) 2),
  (26, sCmpge 62),
  (29, sLdI 5 2),
  (31, sLdA 0 1),
  (32, sGet 11 16),
  (35, sPush (.int 11) 2),
  (37, sLdI 6 2),
  (39, sImul),
  (40, sLdI 4 2),
  (42, sIadd),
  (43, sIald),
  (44, sPush (.int 1) 1),
  (45, sCmpne 52),
  (48, sPush (.int 1) 1),
  (49, sGoto 53),
  (52, sPush (.int 0) 1),
  (53, sIadd),
  (54, sStI 5 2),
  (56, sInc 6 1),
  (59, sGoto 22),
  (62, sLdI 5 2),
  (64, sLdI 3 1),
  (65, sCmple 73),
  (68, sLdI 4 2),
  (70, sGoto 74),
  (73, sLdI 2 1),
  (74, sStI 2 1),
  (75, sLdI 5 2),
  (77, sLdI 3 1),
  (78, sCallS 117 2),
  (81, sStI 3 1),
  (82, sInc 4 1),
  (85, sGoto 7),
  (88, sLdI 1 1),
  (89, sIfne 96),
  (92, sLdI 2 1),
  (93, sGoto 97),
  (96, sLdI 3 1),
  (97, sRetI)]
theorem kX11_lastBy : ∀ q ∈ pX11_lastBy, gSnd RX11 cX11_lastBy 7 none q.1 q.2 := by
  simp only [pX11_lastBy, List.forall_mem_cons]
  exact ⟨gs_iconst (n := -1) (by decide +kernel) (by decide),
    gs_istore_n (k := 2) (by decide +kernel) rfl,
    gs_iconst (n := -1) (by decide +kernel) (by decide),
    gs_istore_n (k := 3) (by decide +kernel) rfl,
    gs_iconst (n := 0) (by decide +kernel) (by decide),
    gs_istore (by decide +kernel),
    gs_iload (by decide +kernel),
    gs_aload_n (k := 0) (by decide +kernel) rfl,
    gs_get (T := TX11) (N := 29) (Cn := RX11) (by decide +kernel) rfl (by decide) inW11 rfl wd_826,
    gs_icmp_ge (off := 75) (by decide +kernel) (by decide),
    gs_iconst (n := 0) (by decide +kernel) (by decide),
    gs_istore (by decide +kernel),
    gs_iconst (n := 0) (by decide +kernel) (by decide),
    gs_istore (by decide +kernel),
    gs_iload (by decide +kernel),
    gs_bipush (n := 24) (by decide +kernel) (by decide),
    gs_icmp_ge (off := 36) (by decide +kernel) (by decide),
    gs_iload (by decide +kernel),
    gs_aload_n (k := 0) (by decide +kernel) rfl,
    gs_get (T := TX11) (N := 29) (Cn := RX11) (by decide +kernel) rfl (by decide) inW11 rfl wd_835,
    gs_bipush (n := 11) (by decide +kernel) (by decide),
    gs_iload (by decide +kernel),
    gs_imul (by decide +kernel),
    gs_iload (by decide +kernel),
    gs_iadd (by decide +kernel),
    gs_iaload (by decide +kernel),
    gs_iconst (n := 1) (by decide +kernel) (by decide),
    gs_icmp_ne (off := 7) (by decide +kernel) (by decide),
    gs_iconst (n := 1) (by decide +kernel) (by decide),
    gs_goto (off := 4) (by decide +kernel) (by decide),
    gs_iconst (n := 0) (by decide +kernel) (by decide),
    gs_iadd (by decide +kernel),
    gs_istore (by decide +kernel),
    gs_iinc (n := 1) (by decide +kernel) (by decide),
    gs_goto (off := -37) (by decide +kernel) (by decide),
    gs_iload (by decide +kernel),
    gs_iload_n (k := 3) (by decide +kernel) rfl,
    gs_icmp_le (off := 8) (by decide +kernel) (by decide),
    gs_iload (by decide +kernel),
    gs_goto (off := 4) (by decide +kernel) (by decide),
    gs_iload_n (k := 2) (by decide +kernel) rfl,
    gs_istore_n (k := 2) (by decide +kernel) rfl,
    gs_iload (by decide +kernel),
    gs_iload_n (k := 3) (by decide +kernel) rfl,
    gs_callS (by decide +kernel) rfl wd_1133 wd_1135 wd_1134 wd_12 mp_117 (by decide),
    gs_istore_n (k := 3) (by decide +kernel) rfl,
    gs_iinc (n := 1) (by decide +kernel) (by decide),
    gs_goto (off := -78) (by decide +kernel) (by decide),
    gs_iload_n (k := 1) (by decide +kernel) rfl,
    gs_if_ne (off := 7) (by decide +kernel) (by decide),
    gs_iload_n (k := 2) (by decide +kernel) rfl,
    gs_goto (off := 4) (by decide +kernel) (by decide),
    gs_iload_n (k := 3) (by decide +kernel) rfl,
    gs_iret (by decide +kernel),
    fun _ h => absurd h List.not_mem_nil⟩
def pX11_last : gProg := [(0, sLdA 0 1),
  (1, sCallV 158 11 0),
  (4, sLdI 1 1),
  (5, sCallS 113 1),
  (8, sIfeq 19),
  (11, sLdA 0 1),
  (12, sLdI 1 1),
  (13, sCallV 169 11 1),
  (16, sGoto 21),
  (19, sPush (.int (-2)) 2),
  (21, sRetI)]
theorem kX11_last : ∀ q ∈ pX11_last, gSnd RX11 cX11_last 2 none q.1 q.2 := by
  simp only [pX11_last, List.forall_mem_cons]
  exact ⟨gs_aload_n (k := 0) (by decide +kernel) rfl,
    gs_callV (by decide +kernel) rfl rfl wd_1044 wd_1047 wd_1046 ws_39 wd_12 mp_158 (by decide),
    gs_iload_n (k := 1) (by decide +kernel) rfl,
    gs_callS (by decide +kernel) rfl wd_952 wd_954 wd_953 wd_12 mp_113 (by decide),
    gs_if_eq (off := 11) (by decide +kernel) (by decide),
    gs_aload_n (k := 0) (by decide +kernel) rfl,
    gs_iload_n (k := 1) (by decide +kernel) rfl,
    gs_callV (by decide +kernel) rfl rfl wd_1129 wd_1132 wd_1131 ws_53 wd_12 mp_169 (by decide),
    gs_goto (off := 5) (by decide +kernel) (by decide),
    gs_bipush (n := -2) (by decide +kernel) (by decide),
    gs_iret (by decide +kernel),
    fun _ h => absurd h List.not_mem_nil⟩
def pX11_plantBy : gProg := [(0, sPush (.int (-1)) 1),
  (1, sStI 2 1),
  (2, sPush (.int 99) 2),
  (4, sStI 3 1),
  (5, sPush (.int 3) 1),
  (6, sLdA 0 1),
  (7, sGet 11 7),
  (10, sImul),
  (11, sStI 4 2),
  (13, sLdA 0 1),
  (14, sDup),
  (15, sGet 11 7),
  (18, sPush (.int 1) 1),
  (19, sIadd),
  (20, sPut 11 7),
  (23, sLdA 0 1),
  (24, sPush (.int 1) 1),
  (25, sPutZ 11 21),
  (28, sLdA 0 1),
  (29, sGet 11 8),
  (32, sLdI 4 2),
  (34, sPush (.int 2) 1),
  (35, sIadd),
  (36, sPush (.int 1) 1),
  (37, sIast),
  (38, sPush (.int 0) 1),
  (39, sStI 5 2),
  (41, sLdI 5 2),
  (43, sPush (.int 36) 2),
  (45, sCmpge 113),
  (48, sLdA 0 1),
  (49, sGet 11 8),
  (52, sLdI 4 2),
  (54, sLdI 5 2),
  (56, sPush (.int 12) 2),
  (58, sIdiv),
  (59, sIast),
  (60, sLdA 0 1),
  (61, sGet 11 8),
  (64, sLdI 4 2),
  (66, sPush (.int 1) 1),
  (67, sIadd),
  (68, sLdI 5 2),
  (70, sPush (.int 12) 2),
  (72, sIrem),
  (73, sIast),
  (74, sLdA 0 1),
  (75, sCallV 152 11 0),
  (78, sLdA 0 1),
  (79, sCallV 163 11 0),
  (82, sCallS 115 1),
  (85, sStI 6 2),
  (87, sLdI 6 2),
  (89, sLdI 3 1),
  (90, sCmpge 98),
  (93, sLdI 5 2),
  (95, sGoto 99),
  (98, sLdI 2 1),
  (99, sStI 2 1),
  (100, sLdI 6 2),
  (102, sLdI 3 1),
  (103, sCallS 116 2),
  (106, sStI 3 1),
  (107, sInc 5 1),
  (110, sGoto 41),
  (113, sLdA 0 1),
  (114, sPush (.int 0) 1),
  (115, sPutZ 11 21),
  (118, sLdA 0 1),
  (119, sDup),
  (120, sGet 11 7),
  (123, sPush (.int 1) 1),
  (124, sIsub),
  (125, sPut 11 7),
  (128, sLdI 1 1),
  (129, sIfne 139),
  (132, sLdI 2 1),
  (133, sPush (.int 12) 2),
  (135, sIdiv),
  (136, sGoto 152),
  (139, sLdI 1 1),
  (140, sPush (.int 1) 1),
  (141, sCmpne 151),
  (144, sLdI 2 1),
  (145, sPush (.int 12) 2),
  (147, sIrem),
  (148, sGoto 152),
  (151, sLdI 3 1),
  (152, sRetI)]
theorem kX11_plantBy : ∀ q ∈ pX11_plantBy, gSnd RX11 cX11_plantBy 7 none q.1 q.2 := by
  simp only [pX11_plantBy, List.forall_mem_cons]
  exact ⟨gs_iconst (n := -1) (by decide +kernel) (by decide),
    gs_istore_n (k := 2) (by decide +kernel) rfl,
    gs_bipush (n := 99) (by decide +kernel) (by decide),
    gs_istore_n (k := 3) (by decide +kernel) rfl,
    gs_iconst (n := 3) (by decide +kernel) (by decide),
    gs_aload_n (k := 0) (by decide +kernel) rfl,
    gs_get (T := TX11) (N := 29) (Cn := RX11) (by decide +kernel) rfl (by decide) inW11 rfl wd_826,
    gs_imul (by decide +kernel),
    gs_istore (by decide +kernel),
    gs_aload_n (k := 0) (by decide +kernel) rfl,
    gs_dup (by decide +kernel),
    gs_get (T := TX11) (N := 29) (Cn := RX11) (by decide +kernel) rfl (by decide) inW11 rfl wd_826,
    gs_iconst (n := 1) (by decide +kernel) (by decide),
    gs_iadd (by decide +kernel),
    gs_put (T := TX11) (N := 29) (Cn := RX11) (by decide +kernel) rfl (by decide) inW11 tyX11_ok nmX11 rfl wd_826,
    gs_aload_n (k := 0) (by decide +kernel) rfl,
    gs_iconst (n := 1) (by decide +kernel) (by decide),
    gs_putZ (T := TX11) (N := 29) (Cn := RX11) (by decide +kernel) rfl (by decide) inW11 tyX11_ok nmX11 rfl wd_840,
    gs_aload_n (k := 0) (by decide +kernel) rfl,
    gs_get (T := TX11) (N := 29) (Cn := RX11) (by decide +kernel) rfl (by decide) inW11 rfl wd_827,
    gs_iload (by decide +kernel),
    gs_iconst (n := 2) (by decide +kernel) (by decide),
    gs_iadd (by decide +kernel),
    gs_iconst (n := 1) (by decide +kernel) (by decide),
    gs_iastore (by decide +kernel),
    gs_iconst (n := 0) (by decide +kernel) (by decide),
    gs_istore (by decide +kernel),
    gs_iload (by decide +kernel),
    gs_bipush (n := 36) (by decide +kernel) (by decide),
    gs_icmp_ge (off := 68) (by decide +kernel) (by decide),
    gs_aload_n (k := 0) (by decide +kernel) rfl,
    gs_get (T := TX11) (N := 29) (Cn := RX11) (by decide +kernel) rfl (by decide) inW11 rfl wd_827,
    gs_iload (by decide +kernel),
    gs_iload (by decide +kernel),
    gs_bipush (n := 12) (by decide +kernel) (by decide),
    gs_idiv (by decide +kernel),
    gs_iastore (by decide +kernel),
    gs_aload_n (k := 0) (by decide +kernel) rfl,
    gs_get (T := TX11) (N := 29) (Cn := RX11) (by decide +kernel) rfl (by decide) inW11 rfl wd_827,
    gs_iload (by decide +kernel),
    gs_iconst (n := 1) (by decide +kernel) (by decide),
    gs_iadd (by decide +kernel),
    gs_iload (by decide +kernel),
    gs_bipush (n := 12) (by decide +kernel) (by decide),
    gs_irem (by decide +kernel),
    gs_iastore (by decide +kernel),
    gs_aload_n (k := 0) (by decide +kernel) rfl,
    gs_callV (by decide +kernel) rfl rfl wd_1052 wd_1055 wd_1054 ws_41 wd_12 mp_152 (by decide),
    gs_aload_n (k := 0) (by decide +kernel) rfl,
    gs_callV (by decide +kernel) rfl rfl wd_1105 wd_1108 wd_1107 ws_50 wd_12 mp_163 (by decide),
    gs_callS (by decide +kernel) rfl wd_1144 wd_1146 wd_1145 wd_12 mp_115 (by decide),
    gs_istore (by decide +kernel),
    gs_iload (by decide +kernel),
    gs_iload_n (k := 3) (by decide +kernel) rfl,
    gs_icmp_ge (off := 8) (by decide +kernel) (by decide),
    gs_iload (by decide +kernel),
    gs_goto (off := 4) (by decide +kernel) (by decide),
    gs_iload_n (k := 2) (by decide +kernel) rfl,
    gs_istore_n (k := 2) (by decide +kernel) rfl,
    gs_iload (by decide +kernel),
    gs_iload_n (k := 3) (by decide +kernel) rfl,
    gs_callS (by decide +kernel) rfl wd_1147 wd_1149 wd_1148 wd_12 mp_116 (by decide),
    gs_istore_n (k := 3) (by decide +kernel) rfl,
    gs_iinc (n := 1) (by decide +kernel) (by decide),
    gs_goto (off := -69) (by decide +kernel) (by decide),
    gs_aload_n (k := 0) (by decide +kernel) rfl,
    gs_iconst (n := 0) (by decide +kernel) (by decide),
    gs_putZ (T := TX11) (N := 29) (Cn := RX11) (by decide +kernel) rfl (by decide) inW11 tyX11_ok nmX11 rfl wd_840,
    gs_aload_n (k := 0) (by decide +kernel) rfl,
    gs_dup (by decide +kernel),
    gs_get (T := TX11) (N := 29) (Cn := RX11) (by decide +kernel) rfl (by decide) inW11 rfl wd_826,
    gs_iconst (n := 1) (by decide +kernel) (by decide),
    gs_isub (by decide +kernel),
    gs_put (T := TX11) (N := 29) (Cn := RX11) (by decide +kernel) rfl (by decide) inW11 tyX11_ok nmX11 rfl wd_826,
    gs_iload_n (k := 1) (by decide +kernel) rfl,
    gs_if_ne (off := 10) (by decide +kernel) (by decide),
    gs_iload_n (k := 2) (by decide +kernel) rfl,
    gs_bipush (n := 12) (by decide +kernel) (by decide),
    gs_idiv (by decide +kernel),
    gs_goto (off := 16) (by decide +kernel) (by decide),
    gs_iload_n (k := 1) (by decide +kernel) rfl,
    gs_iconst (n := 1) (by decide +kernel) (by decide),
    gs_icmp_ne (off := 10) (by decide +kernel) (by decide),
    gs_iload_n (k := 2) (by decide +kernel) rfl,
    gs_bipush (n := 12) (by decide +kernel) (by decide),
    gs_irem (by decide +kernel),
    gs_goto (off := 4) (by decide +kernel) (by decide),
    gs_iload_n (k := 3) (by decide +kernel) rfl,
    gs_iret (by decide +kernel),
    fun _ h => absurd h List.not_mem_nil⟩
def pX11_plant : gProg := [(0, sLdA 0 1),
  (1, sCallV 158 11 0),
  (4, sLdI 1 1),
  (5, sI2L),
  (6, sPush (.long 0) 1),
  (7, sPush (.long 2) 3),
  (10, sCallS 111 3),
  (13, sIfeq 24),
  (16, sLdA 0 1),
  (17, sLdI 1 1),
  (18, sCallV 171 11 1),
  (21, sGoto 26),
  (24, sPush (.int (-2)) 2),
  (26, sRetI)]
theorem kX11_plant : ∀ q ∈ pX11_plant, gSnd RX11 cX11_plant 2 none q.1 q.2 := by
  simp only [pX11_plant, List.forall_mem_cons]
  exact ⟨gs_aload_n (k := 0) (by decide +kernel) rfl,
    gs_callV (by decide +kernel) rfl rfl wd_1044 wd_1047 wd_1046 ws_39 wd_12 mp_158 (by decide),
    gs_iload_n (k := 1) (by decide +kernel) rfl,
    gs_i2l (by decide +kernel),
    gs_lconst (n := 0) (by decide +kernel) (by decide),
    gs_ldc2 (by decide +kernel) wd_919,
    gs_callS (by decide +kernel) rfl wd_916 wd_918 wd_917 wd_12 mp_111 (by decide),
    gs_if_eq (off := 11) (by decide +kernel) (by decide),
    gs_aload_n (k := 0) (by decide +kernel) rfl,
    gs_iload_n (k := 1) (by decide +kernel) rfl,
    gs_callV (by decide +kernel) rfl rfl wd_1140 wd_1143 wd_1142 ws_54 wd_12 mp_171 (by decide),
    gs_goto (off := 5) (by decide +kernel) (by decide),
    gs_bipush (n := -2) (by decide +kernel) (by decide),
    gs_iret (by decide +kernel),
    fun _ h => absurd h List.not_mem_nil⟩
def pX11_sendBy : gProg := [(0, sPush (.int (-1)) 1),
  (1, sStI 2 1),
  (2, sPush (.int (-1)) 1),
  (3, sStI 3 1),
  (4, sLdA 0 1),
  (5, sCallV 152 11 0),
  (8, sPush (.int 0) 1),
  (9, sStI 4 2),
  (11, sLdI 4 2),
  (13, sPush (.int 24) 2),
  (15, sLdA 0 1),
  (16, sGet 11 7),
  (19, sImul),
  (20, sCmpge 94),
  (23, sLdA 0 1),
  (24, sLdI 4 2),
  (26, sLdA 0 1),
  (27, sGet 11 7),
  (30, sIdiv),
  (31, sPut 11 22),
  (34, sLdA 0 1),
  (35, sLdI 4 2),
  (37, sLdA 0 1),
  (38, sGet 11 7),
  (41, sIrem),
  (42, sPut 11 23),
  (45, sLdA 0 1),
  (46, sCallV 156 11 0),
  (49, sLdA 0 1),
  (50, sCallV 165 11 0),
  (53, sPush (.int (-1)) 1),
  (54, sCmpne 62),
  (57, sPush (.int 24) 2),
  (59, sGoto 66),
  (62, sLdA 0 1),
  (63, sCallV 165 11 0),
  (66, sStI 5 2),
  (68, sLdI 5 2),
  (70, sLdI 3 1),
  (71, sCmple 79),
  (74, sLdI 4 2),
  (76, sGoto 80),
  (79, sLdI 2 1),
  (80, sStI 2 1),
  (81, sLdI 5 2),
  (83, sLdI 3 1),
  (84, sCallS 117 2),
  (87, sStI 3 1),
  (88, sInc 4 1),
  (91, sGoto 11),
  (94, sLdA 0 1),
  (95, sPush (.int (-1)) 1),
  (96, sPut 11 22),
  (99, sLdI 2 1),
  (100, sPush (.int (-1)) 1),
  (101, sCmpne 108),
  (104, sPush (.int (-1)) 1),
  (105, sGoto 146),
  (108, sLdI 1 1),
  (109, sIfne 121),
  (112, sLdI 2 1),
  (113, sLdA 0 1),
  (114, sGet 11 7),
  (117, sIdiv),
  (118, sGoto 146),
  (121, sLdI 1 1),
  (122, sPush (.int 1) 1),
  (123, sCmpne 135),
  (126, sLdI 2 1),
  (127, sLdA 0 1),
  (128, sGet 11 7),
  (131, sIrem),
  (132, sGoto 146),
  (135, sLdI 3 1),
  (136, sPush (.int 24) 2),
  (138, sCmpne 145),
  (141, sPush (.int (-1)) 1),
  (142, sGoto 146),
  (145, sLdI 3 1),
  (146, sRetI)]
theorem kX11_sendBy : ∀ q ∈ pX11_sendBy, gSnd RX11 cX11_sendBy 6 none q.1 q.2 := by
  simp only [pX11_sendBy, List.forall_mem_cons]
  exact ⟨gs_iconst (n := -1) (by decide +kernel) (by decide),
    gs_istore_n (k := 2) (by decide +kernel) rfl,
    gs_iconst (n := -1) (by decide +kernel) (by decide),
    gs_istore_n (k := 3) (by decide +kernel) rfl,
    gs_aload_n (k := 0) (by decide +kernel) rfl,
    gs_callV (by decide +kernel) rfl rfl wd_1052 wd_1055 wd_1054 ws_41 wd_12 mp_152 (by decide),
    gs_iconst (n := 0) (by decide +kernel) (by decide),
    gs_istore (by decide +kernel),
    gs_iload (by decide +kernel),
    gs_bipush (n := 24) (by decide +kernel) (by decide),
    gs_aload_n (k := 0) (by decide +kernel) rfl,
    gs_get (T := TX11) (N := 29) (Cn := RX11) (by decide +kernel) rfl (by decide) inW11 rfl wd_826,
    gs_imul (by decide +kernel),
    gs_icmp_ge (off := 74) (by decide +kernel) (by decide),
    gs_aload_n (k := 0) (by decide +kernel) rfl,
    gs_iload (by decide +kernel),
    gs_aload_n (k := 0) (by decide +kernel) rfl,
    gs_get (T := TX11) (N := 29) (Cn := RX11) (by decide +kernel) rfl (by decide) inW11 rfl wd_826,
    gs_idiv (by decide +kernel),
    gs_put (T := TX11) (N := 29) (Cn := RX11) (by decide +kernel) rfl (by decide) inW11 tyX11_ok nmX11 rfl wd_841,
    gs_aload_n (k := 0) (by decide +kernel) rfl,
    gs_iload (by decide +kernel),
    gs_aload_n (k := 0) (by decide +kernel) rfl,
    gs_get (T := TX11) (N := 29) (Cn := RX11) (by decide +kernel) rfl (by decide) inW11 rfl wd_826,
    gs_irem (by decide +kernel),
    gs_put (T := TX11) (N := 29) (Cn := RX11) (by decide +kernel) rfl (by decide) inW11 tyX11_ok nmX11 rfl wd_842,
    gs_aload_n (k := 0) (by decide +kernel) rfl,
    gs_callV (by decide +kernel) rfl rfl wd_1078 wd_1081 wd_1080 ws_46 wd_12 mp_156 (by decide),
    gs_aload_n (k := 0) (by decide +kernel) rfl,
    gs_callV (by decide +kernel) rfl rfl wd_1113 wd_1116 wd_1115 ws_51 wd_12 mp_165 (by decide),
    gs_iconst (n := -1) (by decide +kernel) (by decide),
    gs_icmp_ne (off := 8) (by decide +kernel) (by decide),
    gs_bipush (n := 24) (by decide +kernel) (by decide),
    gs_goto (off := 7) (by decide +kernel) (by decide),
    gs_aload_n (k := 0) (by decide +kernel) rfl,
    gs_callV (by decide +kernel) rfl rfl wd_1113 wd_1116 wd_1115 ws_51 wd_12 mp_165 (by decide),
    gs_istore (by decide +kernel),
    gs_iload (by decide +kernel),
    gs_iload_n (k := 3) (by decide +kernel) rfl,
    gs_icmp_le (off := 8) (by decide +kernel) (by decide),
    gs_iload (by decide +kernel),
    gs_goto (off := 4) (by decide +kernel) (by decide),
    gs_iload_n (k := 2) (by decide +kernel) rfl,
    gs_istore_n (k := 2) (by decide +kernel) rfl,
    gs_iload (by decide +kernel),
    gs_iload_n (k := 3) (by decide +kernel) rfl,
    gs_callS (by decide +kernel) rfl wd_1133 wd_1135 wd_1134 wd_12 mp_117 (by decide),
    gs_istore_n (k := 3) (by decide +kernel) rfl,
    gs_iinc (n := 1) (by decide +kernel) (by decide),
    gs_goto (off := -80) (by decide +kernel) (by decide),
    gs_aload_n (k := 0) (by decide +kernel) rfl,
    gs_iconst (n := -1) (by decide +kernel) (by decide),
    gs_put (T := TX11) (N := 29) (Cn := RX11) (by decide +kernel) rfl (by decide) inW11 tyX11_ok nmX11 rfl wd_841,
    gs_iload_n (k := 2) (by decide +kernel) rfl,
    gs_iconst (n := -1) (by decide +kernel) (by decide),
    gs_icmp_ne (off := 7) (by decide +kernel) (by decide),
    gs_iconst (n := -1) (by decide +kernel) (by decide),
    gs_goto (off := 41) (by decide +kernel) (by decide),
    gs_iload_n (k := 1) (by decide +kernel) rfl,
    gs_if_ne (off := 12) (by decide +kernel) (by decide),
    gs_iload_n (k := 2) (by decide +kernel) rfl,
    gs_aload_n (k := 0) (by decide +kernel) rfl,
    gs_get (T := TX11) (N := 29) (Cn := RX11) (by decide +kernel) rfl (by decide) inW11 rfl wd_826,
    gs_idiv (by decide +kernel),
    gs_goto (off := 28) (by decide +kernel) (by decide),
    gs_iload_n (k := 1) (by decide +kernel) rfl,
    gs_iconst (n := 1) (by decide +kernel) (by decide),
    gs_icmp_ne (off := 12) (by decide +kernel) (by decide),
    gs_iload_n (k := 2) (by decide +kernel) rfl,
    gs_aload_n (k := 0) (by decide +kernel) rfl,
    gs_get (T := TX11) (N := 29) (Cn := RX11) (by decide +kernel) rfl (by decide) inW11 rfl wd_826,
    gs_irem (by decide +kernel),
    gs_goto (off := 14) (by decide +kernel) (by decide),
    gs_iload_n (k := 3) (by decide +kernel) rfl,
    gs_bipush (n := 24) (by decide +kernel) (by decide),
    gs_icmp_ne (off := 7) (by decide +kernel) (by decide),
    gs_iconst (n := -1) (by decide +kernel) (by decide),
    gs_goto (off := 4) (by decide +kernel) (by decide),
    gs_iload_n (k := 3) (by decide +kernel) rfl,
    gs_iret (by decide +kernel),
    fun _ h => absurd h List.not_mem_nil⟩
def pX11_send : gProg := [(0, sLdA 0 1),
  (1, sCallV 158 11 0),
  (4, sLdI 1 1),
  (5, sI2L),
  (6, sPush (.long 0) 1),
  (7, sPush (.long 2) 3),
  (10, sCallS 111 3),
  (13, sIfeq 24),
  (16, sLdA 0 1),
  (17, sLdI 1 1),
  (18, sCallV 173 11 1),
  (21, sGoto 26),
  (24, sPush (.int (-2)) 2),
  (26, sRetI)]
theorem kX11_send : ∀ q ∈ pX11_send, gSnd RX11 cX11_send 2 none q.1 q.2 := by
  simp only [pX11_send, List.forall_mem_cons]
  exact ⟨gs_aload_n (k := 0) (by decide +kernel) rfl,
    gs_callV (by decide +kernel) rfl rfl wd_1044 wd_1047 wd_1046 ws_39 wd_12 mp_158 (by decide),
    gs_iload_n (k := 1) (by decide +kernel) rfl,
    gs_i2l (by decide +kernel),
    gs_lconst (n := 0) (by decide +kernel) (by decide),
    gs_ldc2 (by decide +kernel) wd_919,
    gs_callS (by decide +kernel) rfl wd_916 wd_918 wd_917 wd_12 mp_111 (by decide),
    gs_if_eq (off := 11) (by decide +kernel) (by decide),
    gs_aload_n (k := 0) (by decide +kernel) rfl,
    gs_iload_n (k := 1) (by decide +kernel) rfl,
    gs_callV (by decide +kernel) rfl rfl wd_1154 wd_1157 wd_1156 ws_55 wd_12 mp_173 (by decide),
    gs_goto (off := 5) (by decide +kernel) (by decide),
    gs_bipush (n := -2) (by decide +kernel) (by decide),
    gs_iret (by decide +kernel),
    fun _ h => absurd h List.not_mem_nil⟩
def pX11_isSaved : gProg := [(0, sLdA 0 1),
  (1, sLdI 1 1),
  (2, sPut 11 15),
  (5, sLdA 0 1),
  (6, sCallV 152 11 0),
  (9, sLdA 0 1),
  (10, sPush (.int 0) 1),
  (11, sPut 11 15),
  (14, sLdA 0 1),
  (15, sCallV 163 11 0),
  (18, sIfne 25),
  (21, sPush (.int 1) 1),
  (22, sGoto 26),
  (25, sPush (.int 0) 1),
  (26, sRetI)]
theorem kX11_isSaved : ∀ q ∈ pX11_isSaved, gSnd RX11 cX11_isSaved 2 none q.1 q.2 := by
  simp only [pX11_isSaved, List.forall_mem_cons]
  exact ⟨gs_aload_n (k := 0) (by decide +kernel) rfl,
    gs_iload_n (k := 1) (by decide +kernel) rfl,
    gs_put (T := TX11) (N := 29) (Cn := RX11) (by decide +kernel) rfl (by decide) inW11 tyX11_ok nmX11 rfl wd_834,
    gs_aload_n (k := 0) (by decide +kernel) rfl,
    gs_callV (by decide +kernel) rfl rfl wd_1052 wd_1055 wd_1054 ws_41 wd_12 mp_152 (by decide),
    gs_aload_n (k := 0) (by decide +kernel) rfl,
    gs_iconst (n := 0) (by decide +kernel) (by decide),
    gs_put (T := TX11) (N := 29) (Cn := RX11) (by decide +kernel) rfl (by decide) inW11 tyX11_ok nmX11 rfl wd_834,
    gs_aload_n (k := 0) (by decide +kernel) rfl,
    gs_callV (by decide +kernel) rfl rfl wd_1105 wd_1108 wd_1107 ws_50 wd_12 mp_163 (by decide),
    gs_if_ne (off := 7) (by decide +kernel) (by decide),
    gs_iconst (n := 1) (by decide +kernel) (by decide),
    gs_goto (off := 4) (by decide +kernel) (by decide),
    gs_iconst (n := 0) (by decide +kernel) (by decide),
    gs_iret (by decide +kernel),
    fun _ h => absurd h List.not_mem_nil⟩
def pX11_saveOf : gProg := [(0, sLdA 0 1),
  (1, sPush (.int 0) 1),
  (2, sCallV 175 11 1),
  (5, sIfeq 19),
  (8, sLdI 1 1),
  (9, sPush (.int (-1)) 1),
  (10, sCmpne 17),
  (13, sPush (.int 0) 1),
  (14, sGoto 18),
  (17, sPush (.int (-1)) 1),
  (18, sRetI),
  (19, sPush (.int 0) 1),
  (20, sStI 2 1),
  (21, sLdI 2 1),
  (22, sLdA 0 1),
  (23, sGet 11 13),
  (26, sCmpge 64),
  (29, sLdA 0 1),
  (30, sPush (.int 1) 1),
  (31, sLdI 2 1),
  (32, sIshl),
  (33, sCallV 175 11 1),
  (36, sIfeq 58),
  (39, sLdI 1 1),
  (40, sPush (.int (-1)) 1),
  (41, sCmpne 48),
  (44, sPush (.int 1) 1),
  (45, sGoto 57),
  (48, sLdI 1 1),
  (49, sIfne 56),
  (52, sLdI 2 1),
  (53, sGoto 57),
  (56, sPush (.int (-1)) 1),
  (57, sRetI),
  (58, sInc 2 1),
  (61, sGoto 21),
  (64, sPush (.int 0) 1),
  (65, sStI 2 1),
  (66, sLdI 2 1),
  (67, sLdA 0 1),
  (68, sGet 11 13),
  (71, sCmpge 131),
  (74, sLdI 2 1),
  (75, sPush (.int 1) 1),
  (76, sIadd),
  (77, sStI 3 1),
  (78, sLdI 3 1),
  (79, sLdA 0 1),
  (80, sGet 11 13),
  (83, sCmpge 125),
  (86, sLdA 0 1),
  (87, sPush (.int 1) 1),
  (88, sLdI 2 1),
  (89, sIshl),
  (90, sPush (.int 1) 1),
  (91, sLdI 3 1),
  (92, sIshl),
  (93, sIor),
  (94, sCallV 175 11 1),
  (97, sIfeq 119),
  (100, sLdI 1 1),
  (101, sPush (.int (-1)) 1),
  (102, sCmpne 109),
  (105, sPush (.int 2) 1),
  (106, sGoto 118),
  (109, sLdI 1 1),
  (110, sIfne 117),
  (113, sLdI 2 1),
  (114, sGoto 118),
  (117, sLdI 3 1),
  (118, sRetI),
  (119, sInc 3 1),
  (122, sGoto 78),
  (125, sInc 2 1),
  (128, sGoto 66),
  (131, sPush (.int (-1)) 1),
  (132, sRetI)]
theorem kX11_saveOf : ∀ q ∈ pX11_saveOf, gSnd RX11 cX11_saveOf 4 none q.1 q.2 := by
  simp only [pX11_saveOf, List.forall_mem_cons]
  exact ⟨gs_aload_n (k := 0) (by decide +kernel) rfl,
    gs_iconst (n := 0) (by decide +kernel) (by decide),
    gs_callV (by decide +kernel) rfl rfl wd_1167 wd_1170 wd_1169 ws_57 wd_12 mp_175 (by decide),
    gs_if_eq (off := 14) (by decide +kernel) (by decide),
    gs_iload_n (k := 1) (by decide +kernel) rfl,
    gs_iconst (n := -1) (by decide +kernel) (by decide),
    gs_icmp_ne (off := 7) (by decide +kernel) (by decide),
    gs_iconst (n := 0) (by decide +kernel) (by decide),
    gs_goto (off := 4) (by decide +kernel) (by decide),
    gs_iconst (n := -1) (by decide +kernel) (by decide),
    gs_iret (by decide +kernel),
    gs_iconst (n := 0) (by decide +kernel) (by decide),
    gs_istore_n (k := 2) (by decide +kernel) rfl,
    gs_iload_n (k := 2) (by decide +kernel) rfl,
    gs_aload_n (k := 0) (by decide +kernel) rfl,
    gs_get (T := TX11) (N := 29) (Cn := RX11) (by decide +kernel) rfl (by decide) inW11 rfl wd_832,
    gs_icmp_ge (off := 38) (by decide +kernel) (by decide),
    gs_aload_n (k := 0) (by decide +kernel) rfl,
    gs_iconst (n := 1) (by decide +kernel) (by decide),
    gs_iload_n (k := 2) (by decide +kernel) rfl,
    gs_ishl (by decide +kernel),
    gs_callV (by decide +kernel) rfl rfl wd_1167 wd_1170 wd_1169 ws_57 wd_12 mp_175 (by decide),
    gs_if_eq (off := 22) (by decide +kernel) (by decide),
    gs_iload_n (k := 1) (by decide +kernel) rfl,
    gs_iconst (n := -1) (by decide +kernel) (by decide),
    gs_icmp_ne (off := 7) (by decide +kernel) (by decide),
    gs_iconst (n := 1) (by decide +kernel) (by decide),
    gs_goto (off := 12) (by decide +kernel) (by decide),
    gs_iload_n (k := 1) (by decide +kernel) rfl,
    gs_if_ne (off := 7) (by decide +kernel) (by decide),
    gs_iload_n (k := 2) (by decide +kernel) rfl,
    gs_goto (off := 4) (by decide +kernel) (by decide),
    gs_iconst (n := -1) (by decide +kernel) (by decide),
    gs_iret (by decide +kernel),
    gs_iinc (n := 1) (by decide +kernel) (by decide),
    gs_goto (off := -40) (by decide +kernel) (by decide),
    gs_iconst (n := 0) (by decide +kernel) (by decide),
    gs_istore_n (k := 2) (by decide +kernel) rfl,
    gs_iload_n (k := 2) (by decide +kernel) rfl,
    gs_aload_n (k := 0) (by decide +kernel) rfl,
    gs_get (T := TX11) (N := 29) (Cn := RX11) (by decide +kernel) rfl (by decide) inW11 rfl wd_832,
    gs_icmp_ge (off := 60) (by decide +kernel) (by decide),
    gs_iload_n (k := 2) (by decide +kernel) rfl,
    gs_iconst (n := 1) (by decide +kernel) (by decide),
    gs_iadd (by decide +kernel),
    gs_istore_n (k := 3) (by decide +kernel) rfl,
    gs_iload_n (k := 3) (by decide +kernel) rfl,
    gs_aload_n (k := 0) (by decide +kernel) rfl,
    gs_get (T := TX11) (N := 29) (Cn := RX11) (by decide +kernel) rfl (by decide) inW11 rfl wd_832,
    gs_icmp_ge (off := 42) (by decide +kernel) (by decide),
    gs_aload_n (k := 0) (by decide +kernel) rfl,
    gs_iconst (n := 1) (by decide +kernel) (by decide),
    gs_iload_n (k := 2) (by decide +kernel) rfl,
    gs_ishl (by decide +kernel),
    gs_iconst (n := 1) (by decide +kernel) (by decide),
    gs_iload_n (k := 3) (by decide +kernel) rfl,
    gs_ishl (by decide +kernel),
    gs_ior (by decide +kernel),
    gs_callV (by decide +kernel) rfl rfl wd_1167 wd_1170 wd_1169 ws_57 wd_12 mp_175 (by decide),
    gs_if_eq (off := 22) (by decide +kernel) (by decide),
    gs_iload_n (k := 1) (by decide +kernel) rfl,
    gs_iconst (n := -1) (by decide +kernel) (by decide),
    gs_icmp_ne (off := 7) (by decide +kernel) (by decide),
    gs_iconst (n := 2) (by decide +kernel) (by decide),
    gs_goto (off := 12) (by decide +kernel) (by decide),
    gs_iload_n (k := 1) (by decide +kernel) rfl,
    gs_if_ne (off := 7) (by decide +kernel) (by decide),
    gs_iload_n (k := 2) (by decide +kernel) rfl,
    gs_goto (off := 4) (by decide +kernel) (by decide),
    gs_iload_n (k := 3) (by decide +kernel) rfl,
    gs_iret (by decide +kernel),
    gs_iinc (n := 1) (by decide +kernel) (by decide),
    gs_goto (off := -44) (by decide +kernel) (by decide),
    gs_iinc (n := 1) (by decide +kernel) (by decide),
    gs_goto (off := -62) (by decide +kernel) (by decide),
    gs_iconst (n := -1) (by decide +kernel) (by decide),
    gs_iret (by decide +kernel),
    fun _ h => absurd h List.not_mem_nil⟩
def pX11_save : gProg := [(0, sLdA 0 1),
  (1, sCallV 158 11 0),
  (4, sLdI 1 1),
  (5, sI2L),
  (6, sPush (.long (-1)) 3),
  (9, sPush (.long 1) 1),
  (10, sCallS 111 3),
  (13, sIfeq 24),
  (16, sLdA 0 1),
  (17, sLdI 1 1),
  (18, sCallV 176 11 1),
  (21, sGoto 26),
  (24, sPush (.int (-2)) 2),
  (26, sRetI)]
theorem kX11_save : ∀ q ∈ pX11_save, gSnd RX11 cX11_save 2 none q.1 q.2 := by
  simp only [pX11_save, List.forall_mem_cons]
  exact ⟨gs_aload_n (k := 0) (by decide +kernel) rfl,
    gs_callV (by decide +kernel) rfl rfl wd_1044 wd_1047 wd_1046 ws_39 wd_12 mp_158 (by decide),
    gs_iload_n (k := 1) (by decide +kernel) rfl,
    gs_i2l (by decide +kernel),
    gs_ldc2 (by decide +kernel) wd_1162,
    gs_lconst (n := 1) (by decide +kernel) (by decide),
    gs_callS (by decide +kernel) rfl wd_916 wd_918 wd_917 wd_12 mp_111 (by decide),
    gs_if_eq (off := 11) (by decide +kernel) (by decide),
    gs_aload_n (k := 0) (by decide +kernel) rfl,
    gs_iload_n (k := 1) (by decide +kernel) rfl,
    gs_callV (by decide +kernel) rfl rfl wd_1163 wd_1166 wd_1165 ws_56 wd_12 mp_176 (by decide),
    gs_goto (off := 5) (by decide +kernel) (by decide),
    gs_bipush (n := -2) (by decide +kernel) (by decide),
    gs_iret (by decide +kernel),
    fun _ h => absurd h List.not_mem_nil⟩
def pX11_dealBy : gProg := [(0, sPush (.int (-1)) 1),
  (1, sStI 2 1),
  (2, sPush (.int (-1)) 1),
  (3, sStI 3 1),
  (4, sPush (.int 0) 1),
  (5, sStI 4 2),
  (7, sLdI 4 2),
  (9, sPush (.int 24) 2),
  (11, sCmpge 80),
  (14, sLdI 4 2),
  (16, sStI 5 2),
  (18, sLdI 5 2),
  (20, sPush (.int 24) 2),
  (22, sCmpge 74),
  (25, sLdA 0 1),
  (26, sGet 11 19),
  (29, sLdI 5 2),
  (31, sIald),
  (32, sLdA 0 1),
  (33, sGet 11 19),
  (36, sLdI 4 2),
  (38, sIald),
  (39, sIsub),
  (40, sStI 6 2),
  (42, sLdI 6 2),
  (44, sLdI 3 1),
  (45, sCmple 59),
  (48, sPush (.int 24) 2),
  (50, sLdI 4 2),
  (52, sImul),
  (53, sLdI 5 2),
  (55, sIadd),
  (56, sGoto 60),
  (59, sLdI 2 1),
  (60, sStI 2 1),
  (61, sLdI 6 2),
  (63, sLdI 3 1),
  (64, sCallS 117 2),
  (67, sStI 3 1),
  (68, sInc 5 1),
  (71, sGoto 18),
  (74, sInc 4 1),
  (77, sGoto 7),
  (80, sLdI 1 1),
  (81, sIfne 91),
  (84, sLdI 2 1),
  (85, sPush (.int 24) 2),
  (87, sIdiv),
  (88, sGoto 104),
  (91, sLdI 1 1),
  (92, sPush (.int 1) 1),
  (93, sCmpne 103),
  (96, sLdI 2 1),
  (97, sPush (.int 24) 2),
  (99, sIrem),
  (100, sGoto 104),
  (103, sLdI 3 1),
  (104, sRetI)]
theorem kX11_dealBy : ∀ q ∈ pX11_dealBy, gSnd RX11 cX11_dealBy 7 none q.1 q.2 := by
  simp only [pX11_dealBy, List.forall_mem_cons]
  exact ⟨gs_iconst (n := -1) (by decide +kernel) (by decide),
    gs_istore_n (k := 2) (by decide +kernel) rfl,
    gs_iconst (n := -1) (by decide +kernel) (by decide),
    gs_istore_n (k := 3) (by decide +kernel) rfl,
    gs_iconst (n := 0) (by decide +kernel) (by decide),
    gs_istore (by decide +kernel),
    gs_iload (by decide +kernel),
    gs_bipush (n := 24) (by decide +kernel) (by decide),
    gs_icmp_ge (off := 69) (by decide +kernel) (by decide),
    gs_iload (by decide +kernel),
    gs_istore (by decide +kernel),
    gs_iload (by decide +kernel),
    gs_bipush (n := 24) (by decide +kernel) (by decide),
    gs_icmp_ge (off := 52) (by decide +kernel) (by decide),
    gs_aload_n (k := 0) (by decide +kernel) rfl,
    gs_get (T := TX11) (N := 29) (Cn := RX11) (by decide +kernel) rfl (by decide) inW11 rfl wd_838,
    gs_iload (by decide +kernel),
    gs_iaload (by decide +kernel),
    gs_aload_n (k := 0) (by decide +kernel) rfl,
    gs_get (T := TX11) (N := 29) (Cn := RX11) (by decide +kernel) rfl (by decide) inW11 rfl wd_838,
    gs_iload (by decide +kernel),
    gs_iaload (by decide +kernel),
    gs_isub (by decide +kernel),
    gs_istore (by decide +kernel),
    gs_iload (by decide +kernel),
    gs_iload_n (k := 3) (by decide +kernel) rfl,
    gs_icmp_le (off := 14) (by decide +kernel) (by decide),
    gs_bipush (n := 24) (by decide +kernel) (by decide),
    gs_iload (by decide +kernel),
    gs_imul (by decide +kernel),
    gs_iload (by decide +kernel),
    gs_iadd (by decide +kernel),
    gs_goto (off := 4) (by decide +kernel) (by decide),
    gs_iload_n (k := 2) (by decide +kernel) rfl,
    gs_istore_n (k := 2) (by decide +kernel) rfl,
    gs_iload (by decide +kernel),
    gs_iload_n (k := 3) (by decide +kernel) rfl,
    gs_callS (by decide +kernel) rfl wd_1133 wd_1135 wd_1134 wd_12 mp_117 (by decide),
    gs_istore_n (k := 3) (by decide +kernel) rfl,
    gs_iinc (n := 1) (by decide +kernel) (by decide),
    gs_goto (off := -53) (by decide +kernel) (by decide),
    gs_iinc (n := 1) (by decide +kernel) (by decide),
    gs_goto (off := -70) (by decide +kernel) (by decide),
    gs_iload_n (k := 1) (by decide +kernel) rfl,
    gs_if_ne (off := 10) (by decide +kernel) (by decide),
    gs_iload_n (k := 2) (by decide +kernel) rfl,
    gs_bipush (n := 24) (by decide +kernel) (by decide),
    gs_idiv (by decide +kernel),
    gs_goto (off := 16) (by decide +kernel) (by decide),
    gs_iload_n (k := 1) (by decide +kernel) rfl,
    gs_iconst (n := 1) (by decide +kernel) (by decide),
    gs_icmp_ne (off := 10) (by decide +kernel) (by decide),
    gs_iload_n (k := 2) (by decide +kernel) rfl,
    gs_bipush (n := 24) (by decide +kernel) (by decide),
    gs_irem (by decide +kernel),
    gs_goto (off := 4) (by decide +kernel) (by decide),
    gs_iload_n (k := 3) (by decide +kernel) rfl,
    gs_iret (by decide +kernel),
    fun _ h => absurd h List.not_mem_nil⟩
def pX11_deal : gProg := [(0, sLdA 0 1),
  (1, sCallV 158 11 0),
  (4, sLdI 1 1),
  (5, sI2L),
  (6, sPush (.long 0) 1),
  (7, sPush (.long 2) 3),
  (10, sCallS 111 3),
  (13, sIfeq 24),
  (16, sLdA 0 1),
  (17, sLdI 1 1),
  (18, sCallV 178 11 1),
  (21, sGoto 26),
  (24, sPush (.int (-2)) 2),
  (26, sRetI)]
theorem kX11_deal : ∀ q ∈ pX11_deal, gSnd RX11 cX11_deal 2 none q.1 q.2 := by
  simp only [pX11_deal, List.forall_mem_cons]
  exact ⟨gs_aload_n (k := 0) (by decide +kernel) rfl,
    gs_callV (by decide +kernel) rfl rfl wd_1044 wd_1047 wd_1046 ws_39 wd_12 mp_158 (by decide),
    gs_iload_n (k := 1) (by decide +kernel) rfl,
    gs_i2l (by decide +kernel),
    gs_lconst (n := 0) (by decide +kernel) (by decide),
    gs_ldc2 (by decide +kernel) wd_919,
    gs_callS (by decide +kernel) rfl wd_916 wd_918 wd_917 wd_12 mp_111 (by decide),
    gs_if_eq (off := 11) (by decide +kernel) (by decide),
    gs_aload_n (k := 0) (by decide +kernel) rfl,
    gs_iload_n (k := 1) (by decide +kernel) rfl,
    gs_callV (by decide +kernel) rfl rfl wd_1175 wd_1178 wd_1177 ws_58 wd_12 mp_178 (by decide),
    gs_goto (off := 5) (by decide +kernel) (by decide),
    gs_bipush (n := -2) (by decide +kernel) (by decide),
    gs_iret (by decide +kernel),
    fun _ h => absurd h List.not_mem_nil⟩
def pX11_seen : gProg := [(0, sLdI 1 1),
  (1, sCallS 139 1),
  (4, sIfeq 31),
  (7, sLdI 2 1),
  (8, sI2L),
  (9, sPush (.long 0) 1),
  (10, sPush (.long 9) 3),
  (13, sCallS 111 3),
  (16, sIfeq 31),
  (19, sLdI 3 1),
  (20, sI2L),
  (21, sPush (.long 0) 1),
  (22, sPush (.long 4) 3),
  (25, sCallS 111 3),
  (28, sIfne 34),
  (31, sPush (.int (-2)) 2),
  (33, sRetI),
  (34, sLdA 0 1),
  (35, sGet 11 24),
  (38, sPush (.int 8) 2),
  (40, sCmpne 46),
  (43, sPush (.int (-4)) 2),
  (45, sRetI),
  (46, sLdA 0 1),
  (47, sGet 11 25),
  (50, sPush (.int 3) 1),
  (51, sLdA 0 1),
  (52, sGet 11 24),
  (55, sImul),
  (56, sLdI 1 1),
  (57, sIast),
  (58, sLdA 0 1),
  (59, sGet 11 25),
  (62, sPush (.int 3) 1),
  (63, sLdA 0 1),
  (64, sGet 11 24),
  (67, sImul),
  (68, sPush (.int 1) 1),
  (69, sIadd),
  (70, sLdI 2 1),
  (71, sIast),
  (72, sLdA 0 1),
  (73, sGet 11 25),
  (76, sPush (.int 3) 1),
  (77, sLdA 0 1),
  (78, sGet 11 24),
  (81, sImul),
  (82, sPush (.int 2) 1),
  (83, sIadd),
  (84, sLdI 3 1),
  (85, sIast),
  (86, sLdA 0 1),
  (87, sDup),
  (88, sGet 11 24),
  (91, sPush (.int 1) 1),
  (92, sIadd),
  (93, sPut 11 24),
  (96, sLdA 0 1),
  (97, sGet 11 24),
  (100, sRetI)]
theorem kX11_seen : ∀ q ∈ pX11_seen, gSnd RX11 cX11_seen 4 none q.1 q.2 := by
  simp only [pX11_seen, List.forall_mem_cons]
  exact ⟨gs_iload_n (k := 1) (by decide +kernel) rfl,
    gs_callS (by decide +kernel) rfl wd_1022 wd_1024 wd_1023 wd_12 mp_139 (by decide),
    gs_if_eq (off := 27) (by decide +kernel) (by decide),
    gs_iload_n (k := 2) (by decide +kernel) rfl,
    gs_i2l (by decide +kernel),
    gs_lconst (n := 0) (by decide +kernel) (by decide),
    gs_ldc2 (by decide +kernel) wd_1026,
    gs_callS (by decide +kernel) rfl wd_916 wd_918 wd_917 wd_12 mp_111 (by decide),
    gs_if_eq (off := 15) (by decide +kernel) (by decide),
    gs_iload_n (k := 3) (by decide +kernel) rfl,
    gs_i2l (by decide +kernel),
    gs_lconst (n := 0) (by decide +kernel) (by decide),
    gs_ldc2 (by decide +kernel) wd_1183,
    gs_callS (by decide +kernel) rfl wd_916 wd_918 wd_917 wd_12 mp_111 (by decide),
    gs_if_ne (off := 6) (by decide +kernel) (by decide),
    gs_bipush (n := -2) (by decide +kernel) (by decide),
    gs_iret (by decide +kernel),
    gs_aload_n (k := 0) (by decide +kernel) rfl,
    gs_get (T := TX11) (N := 29) (Cn := RX11) (by decide +kernel) rfl (by decide) inW11 rfl wd_843,
    gs_bipush (n := 8) (by decide +kernel) (by decide),
    gs_icmp_ne (off := 6) (by decide +kernel) (by decide),
    gs_bipush (n := -4) (by decide +kernel) (by decide),
    gs_iret (by decide +kernel),
    gs_aload_n (k := 0) (by decide +kernel) rfl,
    gs_get (T := TX11) (N := 29) (Cn := RX11) (by decide +kernel) rfl (by decide) inW11 rfl wd_844,
    gs_iconst (n := 3) (by decide +kernel) (by decide),
    gs_aload_n (k := 0) (by decide +kernel) rfl,
    gs_get (T := TX11) (N := 29) (Cn := RX11) (by decide +kernel) rfl (by decide) inW11 rfl wd_843,
    gs_imul (by decide +kernel),
    gs_iload_n (k := 1) (by decide +kernel) rfl,
    gs_iastore (by decide +kernel),
    gs_aload_n (k := 0) (by decide +kernel) rfl,
    gs_get (T := TX11) (N := 29) (Cn := RX11) (by decide +kernel) rfl (by decide) inW11 rfl wd_844,
    gs_iconst (n := 3) (by decide +kernel) (by decide),
    gs_aload_n (k := 0) (by decide +kernel) rfl,
    gs_get (T := TX11) (N := 29) (Cn := RX11) (by decide +kernel) rfl (by decide) inW11 rfl wd_843,
    gs_imul (by decide +kernel),
    gs_iconst (n := 1) (by decide +kernel) (by decide),
    gs_iadd (by decide +kernel),
    gs_iload_n (k := 2) (by decide +kernel) rfl,
    gs_iastore (by decide +kernel),
    gs_aload_n (k := 0) (by decide +kernel) rfl,
    gs_get (T := TX11) (N := 29) (Cn := RX11) (by decide +kernel) rfl (by decide) inW11 rfl wd_844,
    gs_iconst (n := 3) (by decide +kernel) (by decide),
    gs_aload_n (k := 0) (by decide +kernel) rfl,
    gs_get (T := TX11) (N := 29) (Cn := RX11) (by decide +kernel) rfl (by decide) inW11 rfl wd_843,
    gs_imul (by decide +kernel),
    gs_iconst (n := 2) (by decide +kernel) (by decide),
    gs_iadd (by decide +kernel),
    gs_iload_n (k := 3) (by decide +kernel) rfl,
    gs_iastore (by decide +kernel),
    gs_aload_n (k := 0) (by decide +kernel) rfl,
    gs_dup (by decide +kernel),
    gs_get (T := TX11) (N := 29) (Cn := RX11) (by decide +kernel) rfl (by decide) inW11 rfl wd_843,
    gs_iconst (n := 1) (by decide +kernel) (by decide),
    gs_iadd (by decide +kernel),
    gs_put (T := TX11) (N := 29) (Cn := RX11) (by decide +kernel) rfl (by decide) inW11 tyX11_ok nmX11 rfl wd_843,
    gs_aload_n (k := 0) (by decide +kernel) rfl,
    gs_get (T := TX11) (N := 29) (Cn := RX11) (by decide +kernel) rfl (by decide) inW11 rfl wd_843,
    gs_iret (by decide +kernel),
    fun _ h => absurd h List.not_mem_nil⟩
def pX11_forget : gProg := [(0, sLdA 0 1),
  (1, sGet 11 24),
  (4, sStI 1 1),
  (5, sLdA 0 1),
  (6, sPush (.int 0) 1),
  (7, sPut 11 24),
  (10, sLdI 1 1),
  (11, sRetI)]
theorem kX11_forget : ∀ q ∈ pX11_forget, gSnd RX11 cX11_forget 2 none q.1 q.2 := by
  simp only [pX11_forget, List.forall_mem_cons]
  exact ⟨gs_aload_n (k := 0) (by decide +kernel) rfl,
    gs_get (T := TX11) (N := 29) (Cn := RX11) (by decide +kernel) rfl (by decide) inW11 rfl wd_843,
    gs_istore_n (k := 1) (by decide +kernel) rfl,
    gs_aload_n (k := 0) (by decide +kernel) rfl,
    gs_iconst (n := 0) (by decide +kernel) (by decide),
    gs_put (T := TX11) (N := 29) (Cn := RX11) (by decide +kernel) rfl (by decide) inW11 tyX11_ok nmX11 rfl wd_843,
    gs_iload_n (k := 1) (by decide +kernel) rfl,
    gs_iret (by decide +kernel),
    fun _ h => absurd h List.not_mem_nil⟩
def pX11_isSeen : gProg := [(0, sPush (.int 1) 1),
  (1, sStI 1 1),
  (2, sPush (.int 0) 1),
  (3, sStI 2 1),
  (4, sLdI 2 1),
  (5, sLdA 0 1),
  (6, sGet 11 24),
  (9, sCmpge 73),
  (12, sLdA 0 1),
  (13, sGet 11 25),
  (16, sPush (.int 3) 1),
  (17, sLdI 2 1),
  (18, sImul),
  (19, sPush (.int 1) 1),
  (20, sIadd),
  (21, sIald),
  (22, sStI 3 1),
  (23, sLdI 1 1),
  (24, sIfeq 65),
  (27, sLdA 0 1),
  (28, sLdI 3 1),
  (29, sCallV 138 11 1),
  (32, sIfeq 65),
  (35, sLdA 0 1),
  (36, sLdA 0 1),
  (37, sGet 11 25),
  (40, sPush (.int 3) 1),
  (41, sLdI 2 1),
  (42, sImul),
  (43, sIald),
  (44, sLdI 3 1),
  (45, sCallV 151 11 2),
  (48, sLdA 0 1),
  (49, sGet 11 25),
  (52, sPush (.int 3) 1),
  (53, sLdI 2 1),
  (54, sImul),
  (55, sPush (.int 2) 1),
  (56, sIadd),
  (57, sIald),
  (58, sCmpne 65),
  (61, sPush (.int 1) 1),
  (62, sGoto 66),
  (65, sPush (.int 0) 1),
  (66, sStI 1 1),
  (67, sInc 2 1),
  (70, sGoto 4),
  (73, sLdI 1 1),
  (74, sRetI)]
theorem kX11_isSeen : ∀ q ∈ pX11_isSeen, gSnd RX11 cX11_isSeen 4 none q.1 q.2 := by
  simp only [pX11_isSeen, List.forall_mem_cons]
  exact ⟨gs_iconst (n := 1) (by decide +kernel) (by decide),
    gs_istore_n (k := 1) (by decide +kernel) rfl,
    gs_iconst (n := 0) (by decide +kernel) (by decide),
    gs_istore_n (k := 2) (by decide +kernel) rfl,
    gs_iload_n (k := 2) (by decide +kernel) rfl,
    gs_aload_n (k := 0) (by decide +kernel) rfl,
    gs_get (T := TX11) (N := 29) (Cn := RX11) (by decide +kernel) rfl (by decide) inW11 rfl wd_843,
    gs_icmp_ge (off := 64) (by decide +kernel) (by decide),
    gs_aload_n (k := 0) (by decide +kernel) rfl,
    gs_get (T := TX11) (N := 29) (Cn := RX11) (by decide +kernel) rfl (by decide) inW11 rfl wd_844,
    gs_iconst (n := 3) (by decide +kernel) (by decide),
    gs_iload_n (k := 2) (by decide +kernel) rfl,
    gs_imul (by decide +kernel),
    gs_iconst (n := 1) (by decide +kernel) (by decide),
    gs_iadd (by decide +kernel),
    gs_iaload (by decide +kernel),
    gs_istore_n (k := 3) (by decide +kernel) rfl,
    gs_iload_n (k := 1) (by decide +kernel) rfl,
    gs_if_eq (off := 41) (by decide +kernel) (by decide),
    gs_aload_n (k := 0) (by decide +kernel) rfl,
    gs_iload_n (k := 3) (by decide +kernel) rfl,
    gs_callV (by decide +kernel) rfl rfl wd_999 wd_1002 wd_1001 ws_36 wd_12 mp_138 (by decide),
    gs_if_eq (off := 33) (by decide +kernel) (by decide),
    gs_aload_n (k := 0) (by decide +kernel) rfl,
    gs_aload_n (k := 0) (by decide +kernel) rfl,
    gs_get (T := TX11) (N := 29) (Cn := RX11) (by decide +kernel) rfl (by decide) inW11 rfl wd_844,
    gs_iconst (n := 3) (by decide +kernel) (by decide),
    gs_iload_n (k := 2) (by decide +kernel) rfl,
    gs_imul (by decide +kernel),
    gs_iaload (by decide +kernel),
    gs_iload_n (k := 3) (by decide +kernel) rfl,
    gs_callV (by decide +kernel) rfl rfl wd_1056 wd_1059 wd_1058 ws_42 wd_12 mp_151 (by decide),
    gs_aload_n (k := 0) (by decide +kernel) rfl,
    gs_get (T := TX11) (N := 29) (Cn := RX11) (by decide +kernel) rfl (by decide) inW11 rfl wd_844,
    gs_iconst (n := 3) (by decide +kernel) (by decide),
    gs_iload_n (k := 2) (by decide +kernel) rfl,
    gs_imul (by decide +kernel),
    gs_iconst (n := 2) (by decide +kernel) (by decide),
    gs_iadd (by decide +kernel),
    gs_iaload (by decide +kernel),
    gs_icmp_ne (off := 7) (by decide +kernel) (by decide),
    gs_iconst (n := 1) (by decide +kernel) (by decide),
    gs_goto (off := 4) (by decide +kernel) (by decide),
    gs_iconst (n := 0) (by decide +kernel) (by decide),
    gs_istore_n (k := 1) (by decide +kernel) rfl,
    gs_iinc (n := 1) (by decide +kernel) (by decide),
    gs_goto (off := -66) (by decide +kernel) (by decide),
    gs_iload_n (k := 1) (by decide +kernel) rfl,
    gs_iret (by decide +kernel),
    fun _ h => absurd h List.not_mem_nil⟩
def pX11_neverNow : gProg := [(0, sPush (.int 0) 1),
  (1, sStI 1 1),
  (2, sPush (.int 0) 1),
  (3, sStI 2 1),
  (4, sLdI 2 1),
  (5, sLdA 0 1),
  (6, sGet 11 13),
  (9, sCmpge 42),
  (12, sLdA 0 1),
  (13, sPush (.int 1) 1),
  (14, sLdI 2 1),
  (15, sIshl),
  (16, sPut 11 15),
  (19, sLdI 1 1),
  (20, sLdA 0 1),
  (21, sCallV 182 11 0),
  (24, sIfeq 33),
  (27, sPush (.int 1) 1),
  (28, sLdI 2 1),
  (29, sIshl),
  (30, sGoto 34),
  (33, sPush (.int 0) 1),
  (34, sIor),
  (35, sStI 1 1),
  (36, sInc 2 1),
  (39, sGoto 4),
  (42, sLdA 0 1),
  (43, sPush (.int 0) 1),
  (44, sPut 11 15),
  (47, sLdI 1 1),
  (48, sRetI)]
theorem kX11_neverNow : ∀ q ∈ pX11_neverNow, gSnd RX11 cX11_neverNow 3 none q.1 q.2 := by
  simp only [pX11_neverNow, List.forall_mem_cons]
  exact ⟨gs_iconst (n := 0) (by decide +kernel) (by decide),
    gs_istore_n (k := 1) (by decide +kernel) rfl,
    gs_iconst (n := 0) (by decide +kernel) (by decide),
    gs_istore_n (k := 2) (by decide +kernel) rfl,
    gs_iload_n (k := 2) (by decide +kernel) rfl,
    gs_aload_n (k := 0) (by decide +kernel) rfl,
    gs_get (T := TX11) (N := 29) (Cn := RX11) (by decide +kernel) rfl (by decide) inW11 rfl wd_832,
    gs_icmp_ge (off := 33) (by decide +kernel) (by decide),
    gs_aload_n (k := 0) (by decide +kernel) rfl,
    gs_iconst (n := 1) (by decide +kernel) (by decide),
    gs_iload_n (k := 2) (by decide +kernel) rfl,
    gs_ishl (by decide +kernel),
    gs_put (T := TX11) (N := 29) (Cn := RX11) (by decide +kernel) rfl (by decide) inW11 tyX11_ok nmX11 rfl wd_834,
    gs_iload_n (k := 1) (by decide +kernel) rfl,
    gs_aload_n (k := 0) (by decide +kernel) rfl,
    gs_callV (by decide +kernel) rfl rfl wd_1196 wd_1199 wd_1198 ws_60 wd_12 mp_182 (by decide),
    gs_if_eq (off := 9) (by decide +kernel) (by decide),
    gs_iconst (n := 1) (by decide +kernel) (by decide),
    gs_iload_n (k := 2) (by decide +kernel) rfl,
    gs_ishl (by decide +kernel),
    gs_goto (off := 4) (by decide +kernel) (by decide),
    gs_iconst (n := 0) (by decide +kernel) (by decide),
    gs_ior (by decide +kernel),
    gs_istore_n (k := 1) (by decide +kernel) rfl,
    gs_iinc (n := 1) (by decide +kernel) (by decide),
    gs_goto (off := -35) (by decide +kernel) (by decide),
    gs_aload_n (k := 0) (by decide +kernel) rfl,
    gs_iconst (n := 0) (by decide +kernel) (by decide),
    gs_put (T := TX11) (N := 29) (Cn := RX11) (by decide +kernel) rfl (by decide) inW11 tyX11_ok nmX11 rfl wd_834,
    gs_iload_n (k := 1) (by decide +kernel) rfl,
    gs_iret (by decide +kernel),
    fun _ h => absurd h List.not_mem_nil⟩
def pX11_never : gProg := [(0, sLdA 0 1),
  (1, sCallV 158 11 0),
  (4, sLdA 0 1),
  (5, sCallV 183 11 0),
  (8, sRetI)]
theorem kX11_never : ∀ q ∈ pX11_never, gSnd RX11 cX11_never 1 none q.1 q.2 := by
  simp only [pX11_never, List.forall_mem_cons]
  exact ⟨gs_aload_n (k := 0) (by decide +kernel) rfl,
    gs_callV (by decide +kernel) rfl rfl wd_1044 wd_1047 wd_1046 ws_39 wd_12 mp_158 (by decide),
    gs_aload_n (k := 0) (by decide +kernel) rfl,
    gs_callV (by decide +kernel) rfl rfl wd_1192 wd_1195 wd_1194 ws_59 wd_12 mp_183 (by decide),
    gs_iret (by decide +kernel),
    fun _ h => absurd h List.not_mem_nil⟩
def pX11_beganOf : gProg := [(0, sLdA 0 1),
  (1, sGet 11 8),
  (4, sPush (.int 3) 1),
  (5, sLdI 1 1),
  (6, sImul),
  (7, sPush (.int 1) 1),
  (8, sIadd),
  (9, sIald),
  (10, sStI 2 1),
  (11, sPush (.int 0) 1),
  (12, sStI 3 1),
  (13, sPush (.int 0) 1),
  (14, sStI 4 2),
  (16, sLdI 4 2),
  (18, sPush (.int 12) 2),
  (20, sCmpge 59),
  (23, sLdA 0 1),
  (24, sGet 11 8),
  (27, sPush (.int 3) 1),
  (28, sLdI 1 1),
  (29, sImul),
  (30, sPush (.int 1) 1),
  (31, sIadd),
  (32, sLdI 4 2),
  (34, sIast),
  (35, sLdI 3 1),
  (36, sLdA 0 1),
  (37, sCallV 182 11 0),
  (40, sIfeq 50),
  (43, sPush (.int 1) 1),
  (44, sLdI 4 2),
  (46, sIshl),
  (47, sGoto 51),
  (50, sPush (.int 0) 1),
  (51, sIor),
  (52, sStI 3 1),
  (53, sInc 4 1),
  (56, sGoto 16),
  (59, sLdA 0 1),
  (60, sGet 11 8),
  (63, sPush (.int 3) 1),
  (64, sLdI 1 1),
  (65, sImul),
  (66, sPush (.int 1) 1),
  (67, sIadd),
  (68, sLdI 2 1),
  (69, sIast),
  (70, sLdI 3 1),
  (71, sRetI)]
theorem kX11_beganOf : ∀ q ∈ pX11_beganOf, gSnd RX11 cX11_beganOf 5 none q.1 q.2 := by
  simp only [pX11_beganOf, List.forall_mem_cons]
  exact ⟨gs_aload_n (k := 0) (by decide +kernel) rfl,
    gs_get (T := TX11) (N := 29) (Cn := RX11) (by decide +kernel) rfl (by decide) inW11 rfl wd_827,
    gs_iconst (n := 3) (by decide +kernel) (by decide),
    gs_iload_n (k := 1) (by decide +kernel) rfl,
    gs_imul (by decide +kernel),
    gs_iconst (n := 1) (by decide +kernel) (by decide),
    gs_iadd (by decide +kernel),
    gs_iaload (by decide +kernel),
    gs_istore_n (k := 2) (by decide +kernel) rfl,
    gs_iconst (n := 0) (by decide +kernel) (by decide),
    gs_istore_n (k := 3) (by decide +kernel) rfl,
    gs_iconst (n := 0) (by decide +kernel) (by decide),
    gs_istore (by decide +kernel),
    gs_iload (by decide +kernel),
    gs_bipush (n := 12) (by decide +kernel) (by decide),
    gs_icmp_ge (off := 39) (by decide +kernel) (by decide),
    gs_aload_n (k := 0) (by decide +kernel) rfl,
    gs_get (T := TX11) (N := 29) (Cn := RX11) (by decide +kernel) rfl (by decide) inW11 rfl wd_827,
    gs_iconst (n := 3) (by decide +kernel) (by decide),
    gs_iload_n (k := 1) (by decide +kernel) rfl,
    gs_imul (by decide +kernel),
    gs_iconst (n := 1) (by decide +kernel) (by decide),
    gs_iadd (by decide +kernel),
    gs_iload (by decide +kernel),
    gs_iastore (by decide +kernel),
    gs_iload_n (k := 3) (by decide +kernel) rfl,
    gs_aload_n (k := 0) (by decide +kernel) rfl,
    gs_callV (by decide +kernel) rfl rfl wd_1196 wd_1199 wd_1198 ws_60 wd_12 mp_182 (by decide),
    gs_if_eq (off := 10) (by decide +kernel) (by decide),
    gs_iconst (n := 1) (by decide +kernel) (by decide),
    gs_iload (by decide +kernel),
    gs_ishl (by decide +kernel),
    gs_goto (off := 4) (by decide +kernel) (by decide),
    gs_iconst (n := 0) (by decide +kernel) (by decide),
    gs_ior (by decide +kernel),
    gs_istore_n (k := 3) (by decide +kernel) rfl,
    gs_iinc (n := 1) (by decide +kernel) (by decide),
    gs_goto (off := -40) (by decide +kernel) (by decide),
    gs_aload_n (k := 0) (by decide +kernel) rfl,
    gs_get (T := TX11) (N := 29) (Cn := RX11) (by decide +kernel) rfl (by decide) inW11 rfl wd_827,
    gs_iconst (n := 3) (by decide +kernel) (by decide),
    gs_iload_n (k := 1) (by decide +kernel) rfl,
    gs_imul (by decide +kernel),
    gs_iconst (n := 1) (by decide +kernel) (by decide),
    gs_iadd (by decide +kernel),
    gs_iload_n (k := 2) (by decide +kernel) rfl,
    gs_iastore (by decide +kernel),
    gs_iload_n (k := 3) (by decide +kernel) rfl,
    gs_iret (by decide +kernel),
    fun _ h => absurd h List.not_mem_nil⟩
def pX11_sortOf : gProg := [(0, sLdA 0 1),
  (1, sGet 11 8),
  (4, sPush (.int 3) 1),
  (5, sLdI 1 1),
  (6, sImul),
  (7, sIald),
  (8, sStI 2 1),
  (9, sPush (.int 0) 1),
  (10, sStI 3 1),
  (11, sPush (.int 0) 1),
  (12, sStI 4 2),
  (14, sLdI 4 2),
  (16, sPush (.int 3) 1),
  (17, sCmpge 54),
  (20, sLdA 0 1),
  (21, sGet 11 8),
  (24, sPush (.int 3) 1),
  (25, sLdI 1 1),
  (26, sImul),
  (27, sLdI 4 2),
  (29, sIast),
  (30, sLdI 3 1),
  (31, sLdA 0 1),
  (32, sCallV 182 11 0),
  (35, sIfeq 45),
  (38, sPush (.int 1) 1),
  (39, sLdI 4 2),
  (41, sIshl),
  (42, sGoto 46),
  (45, sPush (.int 0) 1),
  (46, sIor),
  (47, sStI 3 1),
  (48, sInc 4 1),
  (51, sGoto 14),
  (54, sLdA 0 1),
  (55, sGet 11 8),
  (58, sPush (.int 3) 1),
  (59, sLdI 1 1),
  (60, sImul),
  (61, sLdI 2 1),
  (62, sIast),
  (63, sLdI 3 1),
  (64, sRetI)]
theorem kX11_sortOf : ∀ q ∈ pX11_sortOf, gSnd RX11 cX11_sortOf 5 none q.1 q.2 := by
  simp only [pX11_sortOf, List.forall_mem_cons]
  exact ⟨gs_aload_n (k := 0) (by decide +kernel) rfl,
    gs_get (T := TX11) (N := 29) (Cn := RX11) (by decide +kernel) rfl (by decide) inW11 rfl wd_827,
    gs_iconst (n := 3) (by decide +kernel) (by decide),
    gs_iload_n (k := 1) (by decide +kernel) rfl,
    gs_imul (by decide +kernel),
    gs_iaload (by decide +kernel),
    gs_istore_n (k := 2) (by decide +kernel) rfl,
    gs_iconst (n := 0) (by decide +kernel) (by decide),
    gs_istore_n (k := 3) (by decide +kernel) rfl,
    gs_iconst (n := 0) (by decide +kernel) (by decide),
    gs_istore (by decide +kernel),
    gs_iload (by decide +kernel),
    gs_iconst (n := 3) (by decide +kernel) (by decide),
    gs_icmp_ge (off := 37) (by decide +kernel) (by decide),
    gs_aload_n (k := 0) (by decide +kernel) rfl,
    gs_get (T := TX11) (N := 29) (Cn := RX11) (by decide +kernel) rfl (by decide) inW11 rfl wd_827,
    gs_iconst (n := 3) (by decide +kernel) (by decide),
    gs_iload_n (k := 1) (by decide +kernel) rfl,
    gs_imul (by decide +kernel),
    gs_iload (by decide +kernel),
    gs_iastore (by decide +kernel),
    gs_iload_n (k := 3) (by decide +kernel) rfl,
    gs_aload_n (k := 0) (by decide +kernel) rfl,
    gs_callV (by decide +kernel) rfl rfl wd_1196 wd_1199 wd_1198 ws_60 wd_12 mp_182 (by decide),
    gs_if_eq (off := 10) (by decide +kernel) (by decide),
    gs_iconst (n := 1) (by decide +kernel) (by decide),
    gs_iload (by decide +kernel),
    gs_ishl (by decide +kernel),
    gs_goto (off := 4) (by decide +kernel) (by decide),
    gs_iconst (n := 0) (by decide +kernel) (by decide),
    gs_ior (by decide +kernel),
    gs_istore_n (k := 3) (by decide +kernel) rfl,
    gs_iinc (n := 1) (by decide +kernel) (by decide),
    gs_goto (off := -37) (by decide +kernel) (by decide),
    gs_aload_n (k := 0) (by decide +kernel) rfl,
    gs_get (T := TX11) (N := 29) (Cn := RX11) (by decide +kernel) rfl (by decide) inW11 rfl wd_827,
    gs_iconst (n := 3) (by decide +kernel) (by decide),
    gs_iload_n (k := 1) (by decide +kernel) rfl,
    gs_imul (by decide +kernel),
    gs_iload_n (k := 2) (by decide +kernel) rfl,
    gs_iastore (by decide +kernel),
    gs_iload_n (k := 3) (by decide +kernel) rfl,
    gs_iret (by decide +kernel),
    fun _ h => absurd h List.not_mem_nil⟩
end
section
def pX11_wasOf : gProg := [(0, sLdI 2 1),
  (1, sIfne 12),
  (4, sLdA 0 1),
  (5, sLdI 1 1),
  (6, sCallV 185 11 1),
  (9, sGoto 17),
  (12, sLdA 0 1),
  (13, sLdI 1 1),
  (14, sCallV 186 11 1),
  (17, sRetI)]
theorem kX11_wasOf : ∀ q ∈ pX11_wasOf, gSnd RX11 cX11_wasOf 3 none q.1 q.2 := by
  simp only [pX11_wasOf, List.forall_mem_cons]
  exact ⟨gs_iload_n (k := 2) (by decide +kernel) rfl,
    gs_if_ne (off := 11) (by decide +kernel) (by decide),
    gs_aload_n (k := 0) (by decide +kernel) rfl,
    gs_iload_n (k := 1) (by decide +kernel) rfl,
    gs_callV (by decide +kernel) rfl rfl wd_1208 wd_1211 wd_1210 ws_62 wd_12 mp_185 (by decide),
    gs_goto (off := 8) (by decide +kernel) (by decide),
    gs_aload_n (k := 0) (by decide +kernel) rfl,
    gs_iload_n (k := 1) (by decide +kernel) rfl,
    gs_callV (by decide +kernel) rfl rfl wd_1212 wd_1215 wd_1214 ws_63 wd_12 mp_186 (by decide),
    gs_iret (by decide +kernel),
    fun _ h => absurd h List.not_mem_nil⟩
def pX11_was : gProg := [(0, sLdA 0 1),
  (1, sCallV 158 11 0),
  (4, sLdA 0 1),
  (5, sLdI 1 1),
  (6, sCallV 138 11 1),
  (9, sIfeq 28),
  (12, sLdI 2 1),
  (13, sCallS 113 1),
  (16, sIfeq 28),
  (19, sLdA 0 1),
  (20, sLdI 1 1),
  (21, sLdI 2 1),
  (22, sCallV 187 11 2),
  (25, sGoto 30),
  (28, sPush (.int (-2)) 2),
  (30, sRetI)]
theorem kX11_was : ∀ q ∈ pX11_was, gSnd RX11 cX11_was 3 none q.1 q.2 := by
  simp only [pX11_was, List.forall_mem_cons]
  exact ⟨gs_aload_n (k := 0) (by decide +kernel) rfl,
    gs_callV (by decide +kernel) rfl rfl wd_1044 wd_1047 wd_1046 ws_39 wd_12 mp_158 (by decide),
    gs_aload_n (k := 0) (by decide +kernel) rfl,
    gs_iload_n (k := 1) (by decide +kernel) rfl,
    gs_callV (by decide +kernel) rfl rfl wd_999 wd_1002 wd_1001 ws_36 wd_12 mp_138 (by decide),
    gs_if_eq (off := 19) (by decide +kernel) (by decide),
    gs_iload_n (k := 2) (by decide +kernel) rfl,
    gs_callS (by decide +kernel) rfl wd_952 wd_954 wd_953 wd_12 mp_113 (by decide),
    gs_if_eq (off := 12) (by decide +kernel) (by decide),
    gs_aload_n (k := 0) (by decide +kernel) rfl,
    gs_iload_n (k := 1) (by decide +kernel) rfl,
    gs_iload_n (k := 2) (by decide +kernel) rfl,
    gs_callV (by decide +kernel) rfl rfl wd_1204 wd_1207 wd_1206 ws_61 wd_12 mp_187 (by decide),
    gs_goto (off := 5) (by decide +kernel) (by decide),
    gs_bipush (n := -2) (by decide +kernel) (by decide),
    gs_iret (by decide +kernel),
    fun _ h => absurd h List.not_mem_nil⟩
def pX11_askOf : gProg := [(0, sLdA 0 1),
  (1, sLdI 1 1),
  (2, sCallV 185 11 1),
  (5, sStI 2 1),
  (6, sLdA 0 1),
  (7, sGet 11 8),
  (10, sPush (.int 3) 1),
  (11, sLdI 1 1),
  (12, sImul),
  (13, sPush (.int 1) 1),
  (14, sIadd),
  (15, sIald),
  (16, sStI 3 1),
  (17, sPush (.int 0) 1),
  (18, sStI 4 2),
  (20, sLdI 4 2),
  (22, sPush (.int 120) 2),
  (24, sCmpge 41),
  (27, sLdA 0 1),
  (28, sGet 11 26),
  (31, sLdI 4 2),
  (33, sPush (.int 0) 1),
  (34, sIast),
  (35, sInc 4 1),
  (38, sGoto 20),
  (41, sPush (.int 0) 1),
  (42, sStI 4 2),
  (44, sLdI 4 2),
  (46, sPush (.int 12) 2),
  (48, sCmpge 119),
  (51, sLdA 0 1),
  (52, sGet 11 8),
  (55, sPush (.int 3) 1),
  (56, sLdI 1 1),
  (57, sImul),
  (58, sPush (.int 1) 1),
  (59, sIadd),
  (60, sLdI 4 2),
  (62, sIast),
  (63, sPush (.int 0) 1),
  (64, sStI 5 2),
  (66, sLdI 5 2),
  (68, sPush (.int 24) 2),
  (70, sCmpge 113),
  (73, sLdA 0 1),
  (74, sGet 11 26),
  (77, sPush (.int 5) 1),
  (78, sLdI 5 2),
  (80, sImul),
  (81, sLdA 0 1),
  (82, sLdI 5 2),
  (84, sLdI 1 1),
  (85, sCallV 151 11 2),
  (88, sIadd),
  (89, sDup2),
  (90, sIald),
  (91, sLdI 2 1),
  (92, sLdI 4 2),
  (94, sCallS 114 2),
  (97, sIfeq 104),
  (100, sPush (.int 1) 1),
  (101, sGoto 105),
  (104, sPush (.int 0) 1),
  (105, sIadd),
  (106, sIast),
  (107, sInc 5 1),
  (110, sGoto 66),
  (113, sInc 4 1),
  (116, sGoto 44),
  (119, sLdA 0 1),
  (120, sGet 11 8),
  (123, sPush (.int 3) 1),
  (124, sLdI 1 1),
  (125, sImul),
  (126, sPush (.int 1) 1),
  (127, sIadd),
  (128, sLdI 3 1),
  (129, sIast),
  (130, sPush (.int (-1)) 1),
  (131, sStI 4 2),
  (133, sPush (.int 0) 1),
  (134, sStI 5 2),
  (136, sPush (.int 0) 1),
  (137, sStI 6 2),
  (139, sLdI 6 2),
  (141, sPush (.int 24) 2),
  (143, sCmpge 237),
  (146, sPush (.int 0) 1),
  (147, sStI 7 2),
  (149, sPush (.int 0) 1),
  (150, sStI 8 2),
  (152, sLdI 8 2),
  (154, sPush (.int 5) 1),
  (155, sCmpge 183),
  (158, sLdA 0 1),
  (159, sGet 11 26),
  (162, sPush (.int 5) 1),
  (163, sLdI 6 2),
  (165, sImul),
  (166, sLdI 8 2),
  (168, sIadd),
  (169, sIald),
  (170, sLdI 7 2),
  (172, sCallS 117 2),
  (175, sStI 7 2),
  (177, sInc 8 1),
  (180, sGoto 152),
  (183, sLdI 4 2),
  (185, sPush (.int (-1)) 1),
  (186, sCmpeq 196),
  (189, sLdI 7 2),
  (191, sLdI 5 2),
  (193, sCmpge 200),
  (196, sPush (.int 1) 1),
  (197, sGoto 201),
  (200, sPush (.int 0) 1),
  (201, sStI 8 2),
  (203, sLdI 8 2),
  (205, sIfeq 213),
  (208, sLdI 6 2),
  (210, sGoto 215),
  (213, sLdI 4 2),
  (215, sStI 4 2),
  (217, sLdI 8 2),
  (219, sIfeq 227),
  (222, sLdI 7 2),
  (224, sGoto 229),
  (227, sLdI 5 2),
  (229, sStI 5 2),
  (231, sInc 6 1),
  (234, sGoto 139),
  (237, sLdI 4 2),
  (239, sRetI)]
set_option maxRecDepth 100000 in
theorem kX11_askOf : ∀ q ∈ pX11_askOf, gSnd RX11 cX11_askOf 9 none q.1 q.2 := by
  simp only [pX11_askOf, List.forall_mem_cons]
  exact ⟨gs_aload_n (k := 0) (by decide +kernel) rfl,
    gs_iload_n (k := 1) (by decide +kernel) rfl,
    gs_callV (by decide +kernel) rfl rfl wd_1208 wd_1211 wd_1210 ws_62 wd_12 mp_185 (by decide),
    gs_istore_n (k := 2) (by decide +kernel) rfl,
    gs_aload_n (k := 0) (by decide +kernel) rfl,
    gs_get (T := TX11) (N := 29) (Cn := RX11) (by decide +kernel) rfl (by decide) inW11 rfl wd_827,
    gs_iconst (n := 3) (by decide +kernel) (by decide),
    gs_iload_n (k := 1) (by decide +kernel) rfl,
    gs_imul (by decide +kernel),
    gs_iconst (n := 1) (by decide +kernel) (by decide),
    gs_iadd (by decide +kernel),
    gs_iaload (by decide +kernel),
    gs_istore_n (k := 3) (by decide +kernel) rfl,
    gs_iconst (n := 0) (by decide +kernel) (by decide),
    gs_istore (by decide +kernel),
    gs_iload (by decide +kernel),
    gs_bipush (n := 120) (by decide +kernel) (by decide),
    gs_icmp_ge (off := 17) (by decide +kernel) (by decide),
    gs_aload_n (k := 0) (by decide +kernel) rfl,
    gs_get (T := TX11) (N := 29) (Cn := RX11) (by decide +kernel) rfl (by decide) inW11 rfl wd_845,
    gs_iload (by decide +kernel),
    gs_iconst (n := 0) (by decide +kernel) (by decide),
    gs_iastore (by decide +kernel),
    gs_iinc (n := 1) (by decide +kernel) (by decide),
    gs_goto (off := -18) (by decide +kernel) (by decide),
    gs_iconst (n := 0) (by decide +kernel) (by decide),
    gs_istore (by decide +kernel),
    gs_iload (by decide +kernel),
    gs_bipush (n := 12) (by decide +kernel) (by decide),
    gs_icmp_ge (off := 71) (by decide +kernel) (by decide),
    gs_aload_n (k := 0) (by decide +kernel) rfl,
    gs_get (T := TX11) (N := 29) (Cn := RX11) (by decide +kernel) rfl (by decide) inW11 rfl wd_827,
    gs_iconst (n := 3) (by decide +kernel) (by decide),
    gs_iload_n (k := 1) (by decide +kernel) rfl,
    gs_imul (by decide +kernel),
    gs_iconst (n := 1) (by decide +kernel) (by decide),
    gs_iadd (by decide +kernel),
    gs_iload (by decide +kernel),
    gs_iastore (by decide +kernel),
    gs_iconst (n := 0) (by decide +kernel) (by decide),
    gs_istore (by decide +kernel),
    gs_iload (by decide +kernel),
    gs_bipush (n := 24) (by decide +kernel) (by decide),
    gs_icmp_ge (off := 43) (by decide +kernel) (by decide),
    gs_aload_n (k := 0) (by decide +kernel) rfl,
    gs_get (T := TX11) (N := 29) (Cn := RX11) (by decide +kernel) rfl (by decide) inW11 rfl wd_845,
    gs_iconst (n := 5) (by decide +kernel) (by decide),
    gs_iload (by decide +kernel),
    gs_imul (by decide +kernel),
    gs_aload_n (k := 0) (by decide +kernel) rfl,
    gs_iload (by decide +kernel),
    gs_iload_n (k := 1) (by decide +kernel) rfl,
    gs_callV (by decide +kernel) rfl rfl wd_1056 wd_1059 wd_1058 ws_42 wd_12 mp_151 (by decide),
    gs_iadd (by decide +kernel),
    gs_dup2 (by decide +kernel),
    gs_iaload (by decide +kernel),
    gs_iload_n (k := 2) (by decide +kernel) rfl,
    gs_iload (by decide +kernel),
    gs_callS (by decide +kernel) rfl wd_1064 wd_1066 wd_1065 wd_12 mp_114 (by decide),
    gs_if_eq (off := 7) (by decide +kernel) (by decide),
    gs_iconst (n := 1) (by decide +kernel) (by decide),
    gs_goto (off := 4) (by decide +kernel) (by decide),
    gs_iconst (n := 0) (by decide +kernel) (by decide),
    gs_iadd (by decide +kernel),
    gs_iastore (by decide +kernel),
    gs_iinc (n := 1) (by decide +kernel) (by decide),
    gs_goto (off := -44) (by decide +kernel) (by decide),
    gs_iinc (n := 1) (by decide +kernel) (by decide),
    gs_goto (off := -72) (by decide +kernel) (by decide),
    gs_aload_n (k := 0) (by decide +kernel) rfl,
    gs_get (T := TX11) (N := 29) (Cn := RX11) (by decide +kernel) rfl (by decide) inW11 rfl wd_827,
    gs_iconst (n := 3) (by decide +kernel) (by decide),
    gs_iload_n (k := 1) (by decide +kernel) rfl,
    gs_imul (by decide +kernel),
    gs_iconst (n := 1) (by decide +kernel) (by decide),
    gs_iadd (by decide +kernel),
    gs_iload_n (k := 3) (by decide +kernel) rfl,
    gs_iastore (by decide +kernel),
    gs_iconst (n := -1) (by decide +kernel) (by decide),
    gs_istore (by decide +kernel),
    gs_iconst (n := 0) (by decide +kernel) (by decide),
    gs_istore (by decide +kernel),
    gs_iconst (n := 0) (by decide +kernel) (by decide),
    gs_istore (by decide +kernel),
    gs_iload (by decide +kernel),
    gs_bipush (n := 24) (by decide +kernel) (by decide),
    gs_icmp_ge (off := 94) (by decide +kernel) (by decide),
    gs_iconst (n := 0) (by decide +kernel) (by decide),
    gs_istore (by decide +kernel),
    gs_iconst (n := 0) (by decide +kernel) (by decide),
    gs_istore (by decide +kernel),
    gs_iload (by decide +kernel),
    gs_iconst (n := 5) (by decide +kernel) (by decide),
    gs_icmp_ge (off := 28) (by decide +kernel) (by decide),
    gs_aload_n (k := 0) (by decide +kernel) rfl,
    gs_get (T := TX11) (N := 29) (Cn := RX11) (by decide +kernel) rfl (by decide) inW11 rfl wd_845,
    gs_iconst (n := 5) (by decide +kernel) (by decide),
    gs_iload (by decide +kernel),
    gs_imul (by decide +kernel),
    gs_iload (by decide +kernel),
    gs_iadd (by decide +kernel),
    gs_iaload (by decide +kernel),
    gs_iload (by decide +kernel),
    gs_callS (by decide +kernel) rfl wd_1133 wd_1135 wd_1134 wd_12 mp_117 (by decide),
    gs_istore (by decide +kernel),
    gs_iinc (n := 1) (by decide +kernel) (by decide),
    gs_goto (off := -28) (by decide +kernel) (by decide),
    gs_iload (by decide +kernel),
    gs_iconst (n := -1) (by decide +kernel) (by decide),
    gs_icmp_eq (off := 10) (by decide +kernel) (by decide),
    gs_iload (by decide +kernel),
    gs_iload (by decide +kernel),
    gs_icmp_ge (off := 7) (by decide +kernel) (by decide),
    gs_iconst (n := 1) (by decide +kernel) (by decide),
    gs_goto (off := 4) (by decide +kernel) (by decide),
    gs_iconst (n := 0) (by decide +kernel) (by decide),
    gs_istore (by decide +kernel),
    gs_iload (by decide +kernel),
    gs_if_eq (off := 8) (by decide +kernel) (by decide),
    gs_iload (by decide +kernel),
    gs_goto (off := 5) (by decide +kernel) (by decide),
    gs_iload (by decide +kernel),
    gs_istore (by decide +kernel),
    gs_iload (by decide +kernel),
    gs_if_eq (off := 8) (by decide +kernel) (by decide),
    gs_iload (by decide +kernel),
    gs_goto (off := 5) (by decide +kernel) (by decide),
    gs_iload (by decide +kernel),
    gs_istore (by decide +kernel),
    gs_iinc (n := 1) (by decide +kernel) (by decide),
    gs_goto (off := -95) (by decide +kernel) (by decide),
    gs_iload (by decide +kernel),
    gs_iret (by decide +kernel),
    fun _ h => absurd h List.not_mem_nil⟩
def pX11_ask : gProg := [(0, sLdA 0 1),
  (1, sCallV 158 11 0),
  (4, sLdA 0 1),
  (5, sLdI 1 1),
  (6, sCallV 138 11 1),
  (9, sIfeq 20),
  (12, sLdA 0 1),
  (13, sLdI 1 1),
  (14, sCallV 189 11 1),
  (17, sGoto 22),
  (20, sPush (.int (-2)) 2),
  (22, sRetI)]
theorem kX11_ask : ∀ q ∈ pX11_ask, gSnd RX11 cX11_ask 2 none q.1 q.2 := by
  simp only [pX11_ask, List.forall_mem_cons]
  exact ⟨gs_aload_n (k := 0) (by decide +kernel) rfl,
    gs_callV (by decide +kernel) rfl rfl wd_1044 wd_1047 wd_1046 ws_39 wd_12 mp_158 (by decide),
    gs_aload_n (k := 0) (by decide +kernel) rfl,
    gs_iload_n (k := 1) (by decide +kernel) rfl,
    gs_callV (by decide +kernel) rfl rfl wd_999 wd_1002 wd_1001 ws_36 wd_12 mp_138 (by decide),
    gs_if_eq (off := 11) (by decide +kernel) (by decide),
    gs_aload_n (k := 0) (by decide +kernel) rfl,
    gs_iload_n (k := 1) (by decide +kernel) rfl,
    gs_callV (by decide +kernel) rfl rfl wd_1220 wd_1223 wd_1222 ws_64 wd_12 mp_189 (by decide),
    gs_goto (off := 5) (by decide +kernel) (by decide),
    gs_bipush (n := -2) (by decide +kernel) (by decide),
    gs_iret (by decide +kernel),
    fun _ h => absurd h List.not_mem_nil⟩
def pX11_luckOf : gProg := [(0, sPush (.long 0) 1),
  (1, sStL 4 2),
  (3, sPush (.int 0) 1),
  (4, sStI 6 2),
  (6, sLdI 6 2),
  (8, sPush (.int 1) 1),
  (9, sLdA 0 1),
  (10, sGet 11 13),
  (13, sIshl),
  (14, sCmpge 135),
  (17, sLdA 0 1),
  (18, sLdI 6 2),
  (20, sPut 11 15),
  (23, sPush (.int 1) 1),
  (24, sStI 7 2),
  (26, sPush (.int 0) 1),
  (27, sStI 8 2),
  (29, sLdI 8 2),
  (31, sLdA 0 1),
  (32, sGet 11 7),
  (35, sCmpge 67),
  (38, sLdI 7 2),
  (40, sIfeq 58),
  (43, sLdA 0 1),
  (44, sLdI 2 1),
  (45, sLdI 8 2),
  (47, sCallV 151 11 2),
  (50, sPush (.int 1) 1),
  (51, sCmpeq 58),
  (54, sPush (.int 1) 1),
  (55, sGoto 59),
  (58, sPush (.int 0) 1),
  (59, sStI 7 2),
  (61, sInc 8 1),
  (64, sGoto 29),
  (67, sLdI 7 2),
  (69, sIfeq 76),
  (72, sPush (.long 1) 1),
  (73, sGoto 77),
  (76, sPush (.long 0) 1),
  (77, sStL 8 2),
  (79, sPush (.int 0) 1),
  (80, sStI 10 2),
  (82, sLdI 10 2),
  (84, sLdA 0 1),
  (85, sGet 11 13),
  (88, sCmpge 122),
  (91, sLdL 8 2),
  (93, sLdI 6 2),
  (95, sLdI 10 2),
  (97, sCallS 114 2),
  (100, sIfeq 111),
  (103, sPush (.int 16) 2),
  (105, sLdI 1 1),
  (106, sIsub),
  (107, sI2L),
  (108, sGoto 113),
  (111, sLdI 1 1),
  (112, sI2L),
  (113, sLmul),
  (114, sStL 8 2),
  (116, sInc 10 1),
  (119, sGoto 82),
  (122, sLdL 4 2),
  (124, sLdL 8 2),
  (126, sLadd),
  (127, sStL 4 2),
  (129, sInc 6 1),
  (132, sGoto 6),
  (135, sLdA 0 1),
  (136, sPush (.int 0) 1),
  (137, sPut 11 15),
  (140, sLdL 4 2),
  (142, sPush (.long 1) 1),
  (143, sPush (.int 4) 1),
  (144, sLdA 0 1),
  (145, sGet 11 13),
  (148, sImul),
  (149, sLshl),
  (150, sLdI 3 1),
  (151, sCallS 118 3),
  (154, sRetL)]
theorem kX11_luckOf : ∀ q ∈ pX11_luckOf, gSnd RX11 cX11_luckOf 11 none q.1 q.2 := by
  simp only [pX11_luckOf, List.forall_mem_cons]
  exact ⟨gs_lconst (n := 0) (by decide +kernel) (by decide),
    gs_lstore (by decide +kernel),
    gs_iconst (n := 0) (by decide +kernel) (by decide),
    gs_istore (by decide +kernel),
    gs_iload (by decide +kernel),
    gs_iconst (n := 1) (by decide +kernel) (by decide),
    gs_aload_n (k := 0) (by decide +kernel) rfl,
    gs_get (T := TX11) (N := 29) (Cn := RX11) (by decide +kernel) rfl (by decide) inW11 rfl wd_832,
    gs_ishl (by decide +kernel),
    gs_icmp_ge (off := 121) (by decide +kernel) (by decide),
    gs_aload_n (k := 0) (by decide +kernel) rfl,
    gs_iload (by decide +kernel),
    gs_put (T := TX11) (N := 29) (Cn := RX11) (by decide +kernel) rfl (by decide) inW11 tyX11_ok nmX11 rfl wd_834,
    gs_iconst (n := 1) (by decide +kernel) (by decide),
    gs_istore (by decide +kernel),
    gs_iconst (n := 0) (by decide +kernel) (by decide),
    gs_istore (by decide +kernel),
    gs_iload (by decide +kernel),
    gs_aload_n (k := 0) (by decide +kernel) rfl,
    gs_get (T := TX11) (N := 29) (Cn := RX11) (by decide +kernel) rfl (by decide) inW11 rfl wd_826,
    gs_icmp_ge (off := 32) (by decide +kernel) (by decide),
    gs_iload (by decide +kernel),
    gs_if_eq (off := 18) (by decide +kernel) (by decide),
    gs_aload_n (k := 0) (by decide +kernel) rfl,
    gs_iload_n (k := 2) (by decide +kernel) rfl,
    gs_iload (by decide +kernel),
    gs_callV (by decide +kernel) rfl rfl wd_1056 wd_1059 wd_1058 ws_42 wd_12 mp_151 (by decide),
    gs_iconst (n := 1) (by decide +kernel) (by decide),
    gs_icmp_eq (off := 7) (by decide +kernel) (by decide),
    gs_iconst (n := 1) (by decide +kernel) (by decide),
    gs_goto (off := 4) (by decide +kernel) (by decide),
    gs_iconst (n := 0) (by decide +kernel) (by decide),
    gs_istore (by decide +kernel),
    gs_iinc (n := 1) (by decide +kernel) (by decide),
    gs_goto (off := -35) (by decide +kernel) (by decide),
    gs_iload (by decide +kernel),
    gs_if_eq (off := 7) (by decide +kernel) (by decide),
    gs_lconst (n := 1) (by decide +kernel) (by decide),
    gs_goto (off := 4) (by decide +kernel) (by decide),
    gs_lconst (n := 0) (by decide +kernel) (by decide),
    gs_lstore (by decide +kernel),
    gs_iconst (n := 0) (by decide +kernel) (by decide),
    gs_istore (by decide +kernel),
    gs_iload (by decide +kernel),
    gs_aload_n (k := 0) (by decide +kernel) rfl,
    gs_get (T := TX11) (N := 29) (Cn := RX11) (by decide +kernel) rfl (by decide) inW11 rfl wd_832,
    gs_icmp_ge (off := 34) (by decide +kernel) (by decide),
    gs_lload (by decide +kernel),
    gs_iload (by decide +kernel),
    gs_iload (by decide +kernel),
    gs_callS (by decide +kernel) rfl wd_1064 wd_1066 wd_1065 wd_12 mp_114 (by decide),
    gs_if_eq (off := 11) (by decide +kernel) (by decide),
    gs_bipush (n := 16) (by decide +kernel) (by decide),
    gs_iload_n (k := 1) (by decide +kernel) rfl,
    gs_isub (by decide +kernel),
    gs_i2l (by decide +kernel),
    gs_goto (off := 5) (by decide +kernel) (by decide),
    gs_iload_n (k := 1) (by decide +kernel) rfl,
    gs_i2l (by decide +kernel),
    gs_lmul (by decide +kernel),
    gs_lstore (by decide +kernel),
    gs_iinc (n := 1) (by decide +kernel) (by decide),
    gs_goto (off := -37) (by decide +kernel) (by decide),
    gs_lload (by decide +kernel),
    gs_lload (by decide +kernel),
    gs_ladd (by decide +kernel),
    gs_lstore (by decide +kernel),
    gs_iinc (n := 1) (by decide +kernel) (by decide),
    gs_goto (off := -126) (by decide +kernel) (by decide),
    gs_aload_n (k := 0) (by decide +kernel) rfl,
    gs_iconst (n := 0) (by decide +kernel) (by decide),
    gs_put (T := TX11) (N := 29) (Cn := RX11) (by decide +kernel) rfl (by decide) inW11 tyX11_ok nmX11 rfl wd_834,
    gs_lload (by decide +kernel),
    gs_lconst (n := 1) (by decide +kernel) (by decide),
    gs_iconst (n := 4) (by decide +kernel) (by decide),
    gs_aload_n (k := 0) (by decide +kernel) rfl,
    gs_get (T := TX11) (N := 29) (Cn := RX11) (by decide +kernel) rfl (by decide) inW11 rfl wd_832,
    gs_imul (by decide +kernel),
    gs_lshl (by decide +kernel),
    gs_iload_n (k := 3) (by decide +kernel) rfl,
    gs_callS (by decide +kernel) rfl wd_1233 wd_1235 wd_1234 wd_12 mp_118 (by decide),
    gs_lret (by decide +kernel),
    fun _ h => absurd h List.not_mem_nil⟩
def pX11_luck : gProg := [(0, sLdA 0 1),
  (1, sCallV 158 11 0),
  (4, sLdI 1 1),
  (5, sI2L),
  (6, sPush (.long 0) 1),
  (7, sPush (.long 16) 3),
  (10, sCallS 111 3),
  (13, sIfeq 40),
  (16, sLdI 2 1),
  (17, sCallS 139 1),
  (20, sIfeq 40),
  (23, sLdI 3 1),
  (24, sCallS 113 1),
  (27, sIfeq 40),
  (30, sLdA 0 1),
  (31, sLdI 1 1),
  (32, sLdI 2 1),
  (33, sLdI 3 1),
  (34, sCallV 191 11 3),
  (37, sGoto 45),
  (40, sPush (.int (-2)) 2),
  (42, sCallS 112 1),
  (45, sRetL)]
theorem kX11_luck : ∀ q ∈ pX11_luck, gSnd RX11 cX11_luck 4 none q.1 q.2 := by
  simp only [pX11_luck, List.forall_mem_cons]
  exact ⟨gs_aload_n (k := 0) (by decide +kernel) rfl,
    gs_callV (by decide +kernel) rfl rfl wd_1044 wd_1047 wd_1046 ws_39 wd_12 mp_158 (by decide),
    gs_iload_n (k := 1) (by decide +kernel) rfl,
    gs_i2l (by decide +kernel),
    gs_lconst (n := 0) (by decide +kernel) (by decide),
    gs_ldc2 (by decide +kernel) wd_1228,
    gs_callS (by decide +kernel) rfl wd_916 wd_918 wd_917 wd_12 mp_111 (by decide),
    gs_if_eq (off := 27) (by decide +kernel) (by decide),
    gs_iload_n (k := 2) (by decide +kernel) rfl,
    gs_callS (by decide +kernel) rfl wd_1022 wd_1024 wd_1023 wd_12 mp_139 (by decide),
    gs_if_eq (off := 20) (by decide +kernel) (by decide),
    gs_iload_n (k := 3) (by decide +kernel) rfl,
    gs_callS (by decide +kernel) rfl wd_952 wd_954 wd_953 wd_12 mp_113 (by decide),
    gs_if_eq (off := 13) (by decide +kernel) (by decide),
    gs_aload_n (k := 0) (by decide +kernel) rfl,
    gs_iload_n (k := 1) (by decide +kernel) rfl,
    gs_iload_n (k := 2) (by decide +kernel) rfl,
    gs_iload_n (k := 3) (by decide +kernel) rfl,
    gs_callV (by decide +kernel) rfl rfl wd_1229 wd_1232 wd_1231 ws_65 wd_12 mp_191 (by decide),
    gs_goto (off := 8) (by decide +kernel) (by decide),
    gs_bipush (n := -2) (by decide +kernel) (by decide),
    gs_callS (by decide +kernel) rfl wd_1236 wd_1238 wd_1237 wd_12 mp_112 (by decide),
    gs_lret (by decide +kernel),
    fun _ h => absurd h List.not_mem_nil⟩
def pX11_lot : gProg := [(0, sLdA 0 1),
  (1, sPush (.int 1103515245) 3),
  (4, sLdA 0 1),
  (5, sGet 11 27),
  (8, sImul),
  (9, sPush (.int 12345) 3),
  (12, sIadd),
  (13, sPut 11 27),
  (16, sLdA 0 1),
  (17, sGet 11 27),
  (20, sPush (.int 16) 2),
  (22, sIushr),
  (23, sLdI 1 1),
  (24, sIrem),
  (25, sRetI)]
theorem kX11_lot : ∀ q ∈ pX11_lot, gSnd RX11 cX11_lot 2 none q.1 q.2 := by
  simp only [pX11_lot, List.forall_mem_cons]
  exact ⟨gs_aload_n (k := 0) (by decide +kernel) rfl,
    gs_ldcw (by decide +kernel) wd_1253,
    gs_aload_n (k := 0) (by decide +kernel) rfl,
    gs_get (T := TX11) (N := 29) (Cn := RX11) (by decide +kernel) rfl (by decide) inW11 rfl wd_846,
    gs_imul (by decide +kernel),
    gs_sipush (n := 12345) (by decide +kernel) (by decide),
    gs_iadd (by decide +kernel),
    gs_put (T := TX11) (N := 29) (Cn := RX11) (by decide +kernel) rfl (by decide) inW11 tyX11_ok nmX11 rfl wd_846,
    gs_aload_n (k := 0) (by decide +kernel) rfl,
    gs_get (T := TX11) (N := 29) (Cn := RX11) (by decide +kernel) rfl (by decide) inW11 rfl wd_846,
    gs_bipush (n := 16) (by decide +kernel) (by decide),
    gs_iushr (by decide +kernel),
    gs_iload_n (k := 1) (by decide +kernel) rfl,
    gs_irem (by decide +kernel),
    gs_iret (by decide +kernel),
    fun _ h => absurd h List.not_mem_nil⟩
def pX11_centuryOf : gProg := [(0, sLdA 0 1),
  (1, sGet 11 13),
  (4, sStI 4 2),
  (6, sPush (.int 0) 1),
  (7, sStI 5 2),
  (9, sLdI 5 2),
  (11, sPush (.int 24) 2),
  (13, sCmpge 36),
  (16, sLdA 0 1),
  (17, sGet 11 28),
  (20, sLdI 5 2),
  (22, sLdA 0 1),
  (23, sGet 11 14),
  (26, sLdI 5 2),
  (28, sIald),
  (29, sIast),
  (30, sInc 5 1),
  (33, sGoto 9),
  (36, sLdA 0 1),
  (37, sLdI 1 1),
  (38, sPut 11 27),
  (41, sLdA 0 1),
  (42, sPush (.int 0) 1),
  (43, sPut 11 13),
  (46, sPush (.int 0) 1),
  (47, sStI 5 2),
  (49, sLdI 5 2),
  (51, sLdI 2 1),
  (52, sCmpge 99),
  (55, sLdA 0 1),
  (56, sGet 11 7),
  (59, sIfle 99),
  (62, sLdA 0 1),
  (63, sPush (.int 4) 1),
  (64, sCallV 193 11 1),
  (67, sStI 6 2),
  (69, sLdA 0 1),
  (70, sPush (.int 24) 2),
  (72, sCallV 193 11 1),
  (75, sStI 7 2),
  (77, sLdA 0 1),
  (78, sLdI 6 2),
  (80, sLdI 7 2),
  (82, sLdA 0 1),
  (83, sLdA 0 1),
  (84, sGet 11 7),
  (87, sCallV 193 11 1),
  (90, sCallV 144 11 3),
  (93, sInc 5 1),
  (96, sGoto 49),
  (99, sLdA 0 1),
  (100, sCallV 157 11 0),
  (103, sPush (.int 0) 1),
  (104, sStI 5 2),
  (106, sLdI 5 2),
  (108, sPush (.int 24) 2),
  (110, sCmpge 133),
  (113, sLdA 0 1),
  (114, sGet 11 14),
  (117, sLdI 5 2),
  (119, sLdA 0 1),
  (120, sGet 11 28),
  (123, sLdI 5 2),
  (125, sIald),
  (126, sIast),
  (127, sInc 5 1),
  (130, sGoto 106),
  (133, sLdA 0 1),
  (134, sLdI 4 2),
  (136, sPut 11 13),
  (139, sLdI 3 1),
  (140, sIfne 153),
  (143, sLdA 0 1),
  (144, sCallV 163 11 0),
  (147, sCallS 115 1),
  (150, sGoto 157),
  (153, sLdA 0 1),
  (154, sCallV 165 11 0),
  (157, sRetI)]
theorem kX11_centuryOf : ∀ q ∈ pX11_centuryOf, gSnd RX11 cX11_centuryOf 8 none q.1 q.2 := by
  simp only [pX11_centuryOf, List.forall_mem_cons]
  exact ⟨gs_aload_n (k := 0) (by decide +kernel) rfl,
    gs_get (T := TX11) (N := 29) (Cn := RX11) (by decide +kernel) rfl (by decide) inW11 rfl wd_832,
    gs_istore (by decide +kernel),
    gs_iconst (n := 0) (by decide +kernel) (by decide),
    gs_istore (by decide +kernel),
    gs_iload (by decide +kernel),
    gs_bipush (n := 24) (by decide +kernel) (by decide),
    gs_icmp_ge (off := 23) (by decide +kernel) (by decide),
    gs_aload_n (k := 0) (by decide +kernel) rfl,
    gs_get (T := TX11) (N := 29) (Cn := RX11) (by decide +kernel) rfl (by decide) inW11 rfl wd_847,
    gs_iload (by decide +kernel),
    gs_aload_n (k := 0) (by decide +kernel) rfl,
    gs_get (T := TX11) (N := 29) (Cn := RX11) (by decide +kernel) rfl (by decide) inW11 rfl wd_833,
    gs_iload (by decide +kernel),
    gs_iaload (by decide +kernel),
    gs_iastore (by decide +kernel),
    gs_iinc (n := 1) (by decide +kernel) (by decide),
    gs_goto (off := -24) (by decide +kernel) (by decide),
    gs_aload_n (k := 0) (by decide +kernel) rfl,
    gs_iload_n (k := 1) (by decide +kernel) rfl,
    gs_put (T := TX11) (N := 29) (Cn := RX11) (by decide +kernel) rfl (by decide) inW11 tyX11_ok nmX11 rfl wd_846,
    gs_aload_n (k := 0) (by decide +kernel) rfl,
    gs_iconst (n := 0) (by decide +kernel) (by decide),
    gs_put (T := TX11) (N := 29) (Cn := RX11) (by decide +kernel) rfl (by decide) inW11 tyX11_ok nmX11 rfl wd_832,
    gs_iconst (n := 0) (by decide +kernel) (by decide),
    gs_istore (by decide +kernel),
    gs_iload (by decide +kernel),
    gs_iload_n (k := 2) (by decide +kernel) rfl,
    gs_icmp_ge (off := 47) (by decide +kernel) (by decide),
    gs_aload_n (k := 0) (by decide +kernel) rfl,
    gs_get (T := TX11) (N := 29) (Cn := RX11) (by decide +kernel) rfl (by decide) inW11 rfl wd_826,
    gs_if_le (off := 40) (by decide +kernel) (by decide),
    gs_aload_n (k := 0) (by decide +kernel) rfl,
    gs_iconst (n := 4) (by decide +kernel) (by decide),
    gs_callV (by decide +kernel) rfl rfl wd_1249 wd_1252 wd_1251 ws_67 wd_12 mp_193 (by decide),
    gs_istore (by decide +kernel),
    gs_aload_n (k := 0) (by decide +kernel) rfl,
    gs_bipush (n := 24) (by decide +kernel) (by decide),
    gs_callV (by decide +kernel) rfl rfl wd_1249 wd_1252 wd_1251 ws_67 wd_12 mp_193 (by decide),
    gs_istore (by decide +kernel),
    gs_aload_n (k := 0) (by decide +kernel) rfl,
    gs_iload (by decide +kernel),
    gs_iload (by decide +kernel),
    gs_aload_n (k := 0) (by decide +kernel) rfl,
    gs_aload_n (k := 0) (by decide +kernel) rfl,
    gs_get (T := TX11) (N := 29) (Cn := RX11) (by decide +kernel) rfl (by decide) inW11 rfl wd_826,
    gs_callV (by decide +kernel) rfl rfl wd_1249 wd_1252 wd_1251 ws_67 wd_12 mp_193 (by decide),
    gs_callV (by decide +kernel) rfl rfl wd_1027 wd_1030 wd_1029 ws_38 wd_12 mp_144 (by decide),
    gs_iinc (n := 1) (by decide +kernel) (by decide),
    gs_goto (off := -47) (by decide +kernel) (by decide),
    gs_aload_n (k := 0) (by decide +kernel) rfl,
    gs_callV (by decide +kernel) rfl rfl wd_1048 wd_1051 wd_1050 ws_40 wd_12 mp_157 (by decide),
    gs_iconst (n := 0) (by decide +kernel) (by decide),
    gs_istore (by decide +kernel),
    gs_iload (by decide +kernel),
    gs_bipush (n := 24) (by decide +kernel) (by decide),
    gs_icmp_ge (off := 23) (by decide +kernel) (by decide),
    gs_aload_n (k := 0) (by decide +kernel) rfl,
    gs_get (T := TX11) (N := 29) (Cn := RX11) (by decide +kernel) rfl (by decide) inW11 rfl wd_833,
    gs_iload (by decide +kernel),
    gs_aload_n (k := 0) (by decide +kernel) rfl,
    gs_get (T := TX11) (N := 29) (Cn := RX11) (by decide +kernel) rfl (by decide) inW11 rfl wd_847,
    gs_iload (by decide +kernel),
    gs_iaload (by decide +kernel),
    gs_iastore (by decide +kernel),
    gs_iinc (n := 1) (by decide +kernel) (by decide),
    gs_goto (off := -24) (by decide +kernel) (by decide),
    gs_aload_n (k := 0) (by decide +kernel) rfl,
    gs_iload (by decide +kernel),
    gs_put (T := TX11) (N := 29) (Cn := RX11) (by decide +kernel) rfl (by decide) inW11 tyX11_ok nmX11 rfl wd_832,
    gs_iload_n (k := 3) (by decide +kernel) rfl,
    gs_if_ne (off := 13) (by decide +kernel) (by decide),
    gs_aload_n (k := 0) (by decide +kernel) rfl,
    gs_callV (by decide +kernel) rfl rfl wd_1105 wd_1108 wd_1107 ws_50 wd_12 mp_163 (by decide),
    gs_callS (by decide +kernel) rfl wd_1144 wd_1146 wd_1145 wd_12 mp_115 (by decide),
    gs_goto (off := 7) (by decide +kernel) (by decide),
    gs_aload_n (k := 0) (by decide +kernel) rfl,
    gs_callV (by decide +kernel) rfl rfl wd_1113 wd_1116 wd_1115 ws_51 wd_12 mp_165 (by decide),
    gs_iret (by decide +kernel),
    fun _ h => absurd h List.not_mem_nil⟩
def pX11_century : gProg := [(0, sLdA 0 1),
  (1, sCallV 158 11 0),
  (4, sLdI 2 1),
  (5, sI2L),
  (6, sPush (.long 0) 1),
  (7, sPush (.long 8) 3),
  (10, sCallS 111 3),
  (13, sIfeq 33),
  (16, sLdI 3 1),
  (17, sCallS 113 1),
  (20, sIfeq 33),
  (23, sLdA 0 1),
  (24, sLdI 1 1),
  (25, sLdI 2 1),
  (26, sLdI 3 1),
  (27, sCallV 194 11 3),
  (30, sGoto 35),
  (33, sPush (.int (-2)) 2),
  (35, sRetI)]
theorem kX11_century : ∀ q ∈ pX11_century, gSnd RX11 cX11_century 4 none q.1 q.2 := by
  simp only [pX11_century, List.forall_mem_cons]
  exact ⟨gs_aload_n (k := 0) (by decide +kernel) rfl,
    gs_callV (by decide +kernel) rfl rfl wd_1044 wd_1047 wd_1046 ws_39 wd_12 mp_158 (by decide),
    gs_iload_n (k := 2) (by decide +kernel) rfl,
    gs_i2l (by decide +kernel),
    gs_lconst (n := 0) (by decide +kernel) (by decide),
    gs_ldc2 (by decide +kernel) wd_1244,
    gs_callS (by decide +kernel) rfl wd_916 wd_918 wd_917 wd_12 mp_111 (by decide),
    gs_if_eq (off := 20) (by decide +kernel) (by decide),
    gs_iload_n (k := 3) (by decide +kernel) rfl,
    gs_callS (by decide +kernel) rfl wd_952 wd_954 wd_953 wd_12 mp_113 (by decide),
    gs_if_eq (off := 13) (by decide +kernel) (by decide),
    gs_aload_n (k := 0) (by decide +kernel) rfl,
    gs_iload_n (k := 1) (by decide +kernel) rfl,
    gs_iload_n (k := 2) (by decide +kernel) rfl,
    gs_iload_n (k := 3) (by decide +kernel) rfl,
    gs_callV (by decide +kernel) rfl rfl wd_1245 wd_1248 wd_1247 ws_66 wd_12 mp_194 (by decide),
    gs_goto (off := 5) (by decide +kernel) (by decide),
    gs_bipush (n := -2) (by decide +kernel) (by decide),
    gs_iret (by decide +kernel),
    fun _ h => absurd h List.not_mem_nil⟩
def pX11_write : gProg := [(0, sLdI 1 1),
  (1, sCallS 120 1),
  (4, sIfne 10),
  (7, sPush (.int (-2)) 2),
  (9, sRetI),
  (10, sLdA 0 1),
  (11, sGet 11 0),
  (14, sLdI 1 1),
  (15, sIald),
  (16, sIfge 25),
  (19, sLdA 0 1),
  (20, sPush (.int 1) 1),
  (21, sCallV 119 11 1),
  (24, sRetI),
  (25, sLdA 0 1),
  (26, sCallV 158 11 0),
  (29, sLdA 0 1),
  (30, sGet 11 1),
  (33, sLdI 1 1),
  (34, sIald),
  (35, sPush (.int 24) 2),
  (37, sCallS 116 2),
  (40, sStI 2 1),
  (41, sPush (.int 0) 1),
  (42, sStI 3 1),
  (43, sLdI 3 1),
  (44, sLdI 2 1),
  (45, sCmpge 80),
  (48, sLdA 0 1),
  (49, sGet 11 2),
  (52, sPush (.int 60) 2),
  (54, sLdI 1 1),
  (55, sImul),
  (56, sLdI 3 1),
  (57, sIadd),
  (58, sLdA 0 1),
  (59, sGet 11 0),
  (62, sLdI 1 1),
  (63, sIald),
  (64, sLdA 0 1),
  (65, sGet 11 19),
  (68, sLdI 3 1),
  (69, sIald),
  (70, sCallS 124 2),
  (73, sIast),
  (74, sInc 3 1),
  (77, sGoto 43),
  (80, sLdI 2 1),
  (81, sRetI)]
theorem kX11_write : ∀ q ∈ pX11_write, gSnd RX11 cX11_write 4 none q.1 q.2 := by
  simp only [pX11_write, List.forall_mem_cons]
  exact ⟨gs_iload_n (k := 1) (by decide +kernel) rfl,
    gs_callS (by decide +kernel) rfl wd_912 wd_914 wd_913 wd_12 mp_120 (by decide),
    gs_if_ne (off := 6) (by decide +kernel) (by decide),
    gs_bipush (n := -2) (by decide +kernel) (by decide),
    gs_iret (by decide +kernel),
    gs_aload_n (k := 0) (by decide +kernel) rfl,
    gs_get (T := TX11) (N := 29) (Cn := RX11) (by decide +kernel) rfl (by decide) inW11 rfl wd_819,
    gs_iload_n (k := 1) (by decide +kernel) rfl,
    gs_iaload (by decide +kernel),
    gs_if_ge (off := 9) (by decide +kernel) (by decide),
    gs_aload_n (k := 0) (by decide +kernel) rfl,
    gs_iconst (n := 1) (by decide +kernel) (by decide),
    gs_callV (by decide +kernel) rfl rfl wd_920 wd_923 wd_922 ws_31 wd_12 mp_119 (by decide),
    gs_iret (by decide +kernel),
    gs_aload_n (k := 0) (by decide +kernel) rfl,
    gs_callV (by decide +kernel) rfl rfl wd_1044 wd_1047 wd_1046 ws_39 wd_12 mp_158 (by decide),
    gs_aload_n (k := 0) (by decide +kernel) rfl,
    gs_get (T := TX11) (N := 29) (Cn := RX11) (by decide +kernel) rfl (by decide) inW11 rfl wd_820,
    gs_iload_n (k := 1) (by decide +kernel) rfl,
    gs_iaload (by decide +kernel),
    gs_bipush (n := 24) (by decide +kernel) (by decide),
    gs_callS (by decide +kernel) rfl wd_1147 wd_1149 wd_1148 wd_12 mp_116 (by decide),
    gs_istore_n (k := 2) (by decide +kernel) rfl,
    gs_iconst (n := 0) (by decide +kernel) (by decide),
    gs_istore_n (k := 3) (by decide +kernel) rfl,
    gs_iload_n (k := 3) (by decide +kernel) rfl,
    gs_iload_n (k := 2) (by decide +kernel) rfl,
    gs_icmp_ge (off := 35) (by decide +kernel) (by decide),
    gs_aload_n (k := 0) (by decide +kernel) rfl,
    gs_get (T := TX11) (N := 29) (Cn := RX11) (by decide +kernel) rfl (by decide) inW11 rfl wd_821,
    gs_bipush (n := 60) (by decide +kernel) (by decide),
    gs_iload_n (k := 1) (by decide +kernel) rfl,
    gs_imul (by decide +kernel),
    gs_iload_n (k := 3) (by decide +kernel) rfl,
    gs_iadd (by decide +kernel),
    gs_aload_n (k := 0) (by decide +kernel) rfl,
    gs_get (T := TX11) (N := 29) (Cn := RX11) (by decide +kernel) rfl (by decide) inW11 rfl wd_819,
    gs_iload_n (k := 1) (by decide +kernel) rfl,
    gs_iaload (by decide +kernel),
    gs_aload_n (k := 0) (by decide +kernel) rfl,
    gs_get (T := TX11) (N := 29) (Cn := RX11) (by decide +kernel) rfl (by decide) inW11 rfl wd_838,
    gs_iload_n (k := 3) (by decide +kernel) rfl,
    gs_iaload (by decide +kernel),
    gs_callS (by decide +kernel) rfl wd_936 wd_938 wd_937 wd_12 mp_124 (by decide),
    gs_iastore (by decide +kernel),
    gs_iinc (n := 1) (by decide +kernel) (by decide),
    gs_goto (off := -34) (by decide +kernel) (by decide),
    gs_iload_n (k := 2) (by decide +kernel) rfl,
    gs_iret (by decide +kernel),
    fun _ h => absurd h List.not_mem_nil⟩
def pX11_allYellow : gProg := [(0, sPush (.int 0) 1),
  (1, sStI 1 1),
  (2, sPush (.int 0) 1),
  (3, sStI 2 1),
  (4, sLdI 2 1),
  (5, sPush (.int 24) 2),
  (7, sCmpge 25),
  (10, sLdI 1 1),
  (11, sLdA 0 1),
  (12, sGet 11 18),
  (15, sLdI 2 1),
  (16, sIald),
  (17, sIadd),
  (18, sStI 1 1),
  (19, sInc 2 1),
  (22, sGoto 4),
  (25, sLdI 1 1),
  (26, sRetI)]
theorem kX11_allYellow : ∀ q ∈ pX11_allYellow, gSnd RX11 cX11_allYellow 3 none q.1 q.2 := by
  simp only [pX11_allYellow, List.forall_mem_cons]
  exact ⟨gs_iconst (n := 0) (by decide +kernel) (by decide),
    gs_istore_n (k := 1) (by decide +kernel) rfl,
    gs_iconst (n := 0) (by decide +kernel) (by decide),
    gs_istore_n (k := 2) (by decide +kernel) rfl,
    gs_iload_n (k := 2) (by decide +kernel) rfl,
    gs_bipush (n := 24) (by decide +kernel) (by decide),
    gs_icmp_ge (off := 18) (by decide +kernel) (by decide),
    gs_iload_n (k := 1) (by decide +kernel) rfl,
    gs_aload_n (k := 0) (by decide +kernel) rfl,
    gs_get (T := TX11) (N := 29) (Cn := RX11) (by decide +kernel) rfl (by decide) inW11 rfl wd_837,
    gs_iload_n (k := 2) (by decide +kernel) rfl,
    gs_iaload (by decide +kernel),
    gs_iadd (by decide +kernel),
    gs_istore_n (k := 1) (by decide +kernel) rfl,
    gs_iinc (n := 1) (by decide +kernel) (by decide),
    gs_goto (off := -18) (by decide +kernel) (by decide),
    gs_iload_n (k := 1) (by decide +kernel) rfl,
    gs_iret (by decide +kernel),
    fun _ h => absurd h List.not_mem_nil⟩
def pX11_count : gProg := [(0, sLdA 0 1),
  (1, sCallV 158 11 0),
  (4, sLdI 1 1),
  (5, sSw 0 [56, 61, 66, 66, 75, 80, 88, 93, 98] 103),
  (56, sLdA 0 1),
  (57, sGet 11 7),
  (60, sRetI),
  (61, sLdA 0 1),
  (62, sGet 11 9),
  (65, sRetI),
  (66, sLdA 0 1),
  (67, sGet 11 6),
  (70, sLdI 1 1),
  (71, sPush (.int 2) 1),
  (72, sIsub),
  (73, sIald),
  (74, sRetI),
  (75, sLdA 0 1),
  (76, sGet 11 13),
  (79, sRetI),
  (80, sLdA 0 1),
  (81, sCallV 163 11 0),
  (84, sCallS 115 1),
  (87, sRetI),
  (88, sLdA 0 1),
  (89, sCallV 197 11 0),
  (92, sRetI),
  (93, sLdA 0 1),
  (94, sGet 11 24),
  (97, sRetI),
  (98, sLdA 0 1),
  (99, sGet 11 4),
  (102, sRetI),
  (103, sPush (.int (-2)) 2),
  (105, sRetI)]
theorem kX11_count : ∀ q ∈ pX11_count, gSnd RX11 cX11_count 2 none q.1 q.2 := by
  simp only [pX11_count, List.forall_mem_cons]
  exact ⟨gs_aload_n (k := 0) (by decide +kernel) rfl,
    gs_callV (by decide +kernel) rfl rfl wd_1044 wd_1047 wd_1046 ws_39 wd_12 mp_158 (by decide),
    gs_iload_n (k := 1) (by decide +kernel) rfl,
    gs_table (dflt := 98) (lo := 0) (hi := 8) (offs := #[51, 56, 61, 61, 70, 75, 83, 88, 93]) (len := 51) (by decide +kernel) (by decide) (by decide) (by decide),
    gs_aload_n (k := 0) (by decide +kernel) rfl,
    gs_get (T := TX11) (N := 29) (Cn := RX11) (by decide +kernel) rfl (by decide) inW11 rfl wd_826,
    gs_iret (by decide +kernel),
    gs_aload_n (k := 0) (by decide +kernel) rfl,
    gs_get (T := TX11) (N := 29) (Cn := RX11) (by decide +kernel) rfl (by decide) inW11 rfl wd_828,
    gs_iret (by decide +kernel),
    gs_aload_n (k := 0) (by decide +kernel) rfl,
    gs_get (T := TX11) (N := 29) (Cn := RX11) (by decide +kernel) rfl (by decide) inW11 rfl wd_825,
    gs_iload_n (k := 1) (by decide +kernel) rfl,
    gs_iconst (n := 2) (by decide +kernel) (by decide),
    gs_isub (by decide +kernel),
    gs_iaload (by decide +kernel),
    gs_iret (by decide +kernel),
    gs_aload_n (k := 0) (by decide +kernel) rfl,
    gs_get (T := TX11) (N := 29) (Cn := RX11) (by decide +kernel) rfl (by decide) inW11 rfl wd_832,
    gs_iret (by decide +kernel),
    gs_aload_n (k := 0) (by decide +kernel) rfl,
    gs_callV (by decide +kernel) rfl rfl wd_1105 wd_1108 wd_1107 ws_50 wd_12 mp_163 (by decide),
    gs_callS (by decide +kernel) rfl wd_1144 wd_1146 wd_1145 wd_12 mp_115 (by decide),
    gs_iret (by decide +kernel),
    gs_aload_n (k := 0) (by decide +kernel) rfl,
    gs_callV (by decide +kernel) rfl rfl wd_1262 wd_1265 wd_1264 ws_68 wd_12 mp_197 (by decide),
    gs_iret (by decide +kernel),
    gs_aload_n (k := 0) (by decide +kernel) rfl,
    gs_get (T := TX11) (N := 29) (Cn := RX11) (by decide +kernel) rfl (by decide) inW11 rfl wd_843,
    gs_iret (by decide +kernel),
    gs_aload_n (k := 0) (by decide +kernel) rfl,
    gs_get (T := TX11) (N := 29) (Cn := RX11) (by decide +kernel) rfl (by decide) inW11 rfl wd_823,
    gs_iret (by decide +kernel),
    gs_bipush (n := -2) (by decide +kernel) (by decide),
    gs_iret (by decide +kernel),
    fun _ h => absurd h List.not_mem_nil⟩
def pX11_tellsMonth : gProg := [(0, sLdL 1 1),
  (1, sStL 5 2),
  (3, sPush (.int 0) 1),
  (4, sStI 7 2),
  (6, sLdI 7 2),
  (8, sPush (.int 3) 1),
  (9, sCmpge 37),
  (12, sPush (.long 31) 3),
  (15, sLdL 5 2),
  (17, sLmul),
  (18, sLdA 0 1),
  (19, sLdI 3 1),
  (20, sLdI 4 2),
  (22, sLdI 7 2),
  (24, sCallV 159 11 3),
  (27, sI2L),
  (28, sLadd),
  (29, sStL 5 2),
  (31, sInc 7 1),
  (34, sGoto 6),
  (37, sLdL 5 2),
  (39, sRetL)]
theorem kX11_tellsMonth : ∀ q ∈ pX11_tellsMonth, gSnd RX11 cX11_tellsMonth 8 none q.1 q.2 := by
  simp only [pX11_tellsMonth, List.forall_mem_cons]
  exact ⟨gs_lload_n (k := 1) (by decide +kernel) rfl,
    gs_lstore (by decide +kernel),
    gs_iconst (n := 0) (by decide +kernel) (by decide),
    gs_istore (by decide +kernel),
    gs_iload (by decide +kernel),
    gs_iconst (n := 3) (by decide +kernel) (by decide),
    gs_icmp_ge (off := 28) (by decide +kernel) (by decide),
    gs_ldc2 (by decide +kernel) wd_1271,
    gs_lload (by decide +kernel),
    gs_lmul (by decide +kernel),
    gs_aload_n (k := 0) (by decide +kernel) rfl,
    gs_iload_n (k := 3) (by decide +kernel) rfl,
    gs_iload (by decide +kernel),
    gs_iload (by decide +kernel),
    gs_callV (by decide +kernel) rfl rfl wd_1089 wd_1092 wd_1091 ws_48 wd_12 mp_159 (by decide),
    gs_i2l (by decide +kernel),
    gs_ladd (by decide +kernel),
    gs_lstore (by decide +kernel),
    gs_iinc (n := 1) (by decide +kernel) (by decide),
    gs_goto (off := -28) (by decide +kernel) (by decide),
    gs_lload (by decide +kernel),
    gs_lret (by decide +kernel),
    fun _ h => absurd h List.not_mem_nil⟩
def pX11_tellsBush : gProg := [(0, sLdL 1 1),
  (1, sStL 4 2),
  (3, sPush (.int 0) 1),
  (4, sStI 6 2),
  (6, sLdI 6 2),
  (8, sPush (.int 3) 1),
  (9, sCmpge 39),
  (12, sPush (.long 31) 3),
  (15, sLdL 4 2),
  (17, sLmul),
  (18, sLdA 0 1),
  (19, sGet 11 8),
  (22, sPush (.int 3) 1),
  (23, sLdI 3 1),
  (24, sImul),
  (25, sLdI 6 2),
  (27, sIadd),
  (28, sIald),
  (29, sI2L),
  (30, sLadd),
  (31, sStL 4 2),
  (33, sInc 6 1),
  (36, sGoto 6),
  (39, sLdA 0 1),
  (40, sLdA 0 1),
  (41, sLdA 0 1),
  (42, sLdA 0 1),
  (43, sLdL 4 2),
  (45, sPush (.int 0) 1),
  (46, sLdI 3 1),
  (47, sCallV 199 11 3),
  (50, sPush (.int 6) 2),
  (52, sLdI 3 1),
  (53, sCallV 199 11 3),
  (56, sPush (.int 13) 2),
  (58, sLdI 3 1),
  (59, sCallV 199 11 3),
  (62, sPush (.int 23) 2),
  (64, sLdI 3 1),
  (65, sCallV 199 11 3),
  (68, sStL 4 2),
  (70, sPush (.long 31) 3),
  (73, sLdL 4 2),
  (75, sLmul),
  (76, sLdA 0 1),
  (77, sLdI 3 1),
  (78, sCallV 185 11 1),
  (81, sI2L),
  (82, sLadd),
  (83, sStL 4 2),
  (85, sPush (.long 31) 3),
  (88, sLdL 4 2),
  (90, sLmul),
  (91, sLdA 0 1),
  (92, sLdI 3 1),
  (93, sCallV 186 11 1),
  (96, sI2L),
  (97, sLadd),
  (98, sStL 4 2),
  (100, sPush (.long 31) 3),
  (103, sLdL 4 2),
  (105, sLmul),
  (106, sLdA 0 1),
  (107, sLdI 3 1),
  (108, sCallV 189 11 1),
  (111, sI2L),
  (112, sLadd),
  (113, sRetL)]
theorem kX11_tellsBush : ∀ q ∈ pX11_tellsBush, gSnd RX11 cX11_tellsBush 7 none q.1 q.2 := by
  simp only [pX11_tellsBush, List.forall_mem_cons]
  exact ⟨gs_lload_n (k := 1) (by decide +kernel) rfl,
    gs_lstore (by decide +kernel),
    gs_iconst (n := 0) (by decide +kernel) (by decide),
    gs_istore (by decide +kernel),
    gs_iload (by decide +kernel),
    gs_iconst (n := 3) (by decide +kernel) (by decide),
    gs_icmp_ge (off := 30) (by decide +kernel) (by decide),
    gs_ldc2 (by decide +kernel) wd_1271,
    gs_lload (by decide +kernel),
    gs_lmul (by decide +kernel),
    gs_aload_n (k := 0) (by decide +kernel) rfl,
    gs_get (T := TX11) (N := 29) (Cn := RX11) (by decide +kernel) rfl (by decide) inW11 rfl wd_827,
    gs_iconst (n := 3) (by decide +kernel) (by decide),
    gs_iload_n (k := 3) (by decide +kernel) rfl,
    gs_imul (by decide +kernel),
    gs_iload (by decide +kernel),
    gs_iadd (by decide +kernel),
    gs_iaload (by decide +kernel),
    gs_i2l (by decide +kernel),
    gs_ladd (by decide +kernel),
    gs_lstore (by decide +kernel),
    gs_iinc (n := 1) (by decide +kernel) (by decide),
    gs_goto (off := -30) (by decide +kernel) (by decide),
    gs_aload_n (k := 0) (by decide +kernel) rfl,
    gs_aload_n (k := 0) (by decide +kernel) rfl,
    gs_aload_n (k := 0) (by decide +kernel) rfl,
    gs_aload_n (k := 0) (by decide +kernel) rfl,
    gs_lload (by decide +kernel),
    gs_iconst (n := 0) (by decide +kernel) (by decide),
    gs_iload_n (k := 3) (by decide +kernel) rfl,
    gs_callV (by decide +kernel) rfl rfl wd_1277 wd_1280 wd_1279 ws_70 wd_12 mp_199 (by decide),
    gs_bipush (n := 6) (by decide +kernel) (by decide),
    gs_iload_n (k := 3) (by decide +kernel) rfl,
    gs_callV (by decide +kernel) rfl rfl wd_1277 wd_1280 wd_1279 ws_70 wd_12 mp_199 (by decide),
    gs_bipush (n := 13) (by decide +kernel) (by decide),
    gs_iload_n (k := 3) (by decide +kernel) rfl,
    gs_callV (by decide +kernel) rfl rfl wd_1277 wd_1280 wd_1279 ws_70 wd_12 mp_199 (by decide),
    gs_bipush (n := 23) (by decide +kernel) (by decide),
    gs_iload_n (k := 3) (by decide +kernel) rfl,
    gs_callV (by decide +kernel) rfl rfl wd_1277 wd_1280 wd_1279 ws_70 wd_12 mp_199 (by decide),
    gs_lstore (by decide +kernel),
    gs_ldc2 (by decide +kernel) wd_1271,
    gs_lload (by decide +kernel),
    gs_lmul (by decide +kernel),
    gs_aload_n (k := 0) (by decide +kernel) rfl,
    gs_iload_n (k := 3) (by decide +kernel) rfl,
    gs_callV (by decide +kernel) rfl rfl wd_1208 wd_1211 wd_1210 ws_62 wd_12 mp_185 (by decide),
    gs_i2l (by decide +kernel),
    gs_ladd (by decide +kernel),
    gs_lstore (by decide +kernel),
    gs_ldc2 (by decide +kernel) wd_1271,
    gs_lload (by decide +kernel),
    gs_lmul (by decide +kernel),
    gs_aload_n (k := 0) (by decide +kernel) rfl,
    gs_iload_n (k := 3) (by decide +kernel) rfl,
    gs_callV (by decide +kernel) rfl rfl wd_1212 wd_1215 wd_1214 ws_63 wd_12 mp_186 (by decide),
    gs_i2l (by decide +kernel),
    gs_ladd (by decide +kernel),
    gs_lstore (by decide +kernel),
    gs_ldc2 (by decide +kernel) wd_1271,
    gs_lload (by decide +kernel),
    gs_lmul (by decide +kernel),
    gs_aload_n (k := 0) (by decide +kernel) rfl,
    gs_iload_n (k := 3) (by decide +kernel) rfl,
    gs_callV (by decide +kernel) rfl rfl wd_1220 wd_1223 wd_1222 ws_64 wd_12 mp_189 (by decide),
    gs_i2l (by decide +kernel),
    gs_ladd (by decide +kernel),
    gs_lret (by decide +kernel),
    fun _ h => absurd h List.not_mem_nil⟩
def pX11_digest : gProg := [(0, sPush (.long 17) 3),
  (3, sStL 1 1),
  (4, sPush (.int 0) 1),
  (5, sStI 3 1),
  (6, sLdI 3 1),
  (7, sPush (.int 8) 2),
  (9, sCmpge 31),
  (12, sPush (.long 31) 3),
  (15, sLdL 1 1),
  (16, sLmul),
  (17, sLdA 0 1),
  (18, sLdI 3 1),
  (19, sCallV 198 11 1),
  (22, sI2L),
  (23, sLadd),
  (24, sStL 1 1),
  (25, sInc 3 1),
  (28, sGoto 6),
  (31, sPush (.long 31) 3),
  (34, sLdL 1 1),
  (35, sLmul),
  (36, sLdA 0 1),
  (37, sPush (.int 0) 1),
  (38, sCallV 136 11 1),
  (41, sI2L),
  (42, sLadd),
  (43, sStL 1 1),
  (44, sPush (.long 31) 3),
  (47, sLdL 1 1),
  (48, sLmul),
  (49, sLdA 0 1),
  (50, sPush (.int 1) 1),
  (51, sCallV 136 11 1),
  (54, sI2L),
  (55, sLadd),
  (56, sStL 1 1),
  (57, sLdA 0 1),
  (58, sCallV 157 11 0),
  (61, sPush (.int 0) 1),
  (62, sStI 3 1),
  (63, sLdI 3 1),
  (64, sPush (.int 24) 2),
  (66, sCmpge 105),
  (69, sPush (.int 0) 1),
  (70, sStI 4 2),
  (72, sLdI 4 2),
  (74, sPush (.int 3) 1),
  (75, sCmpge 99),
  (78, sPush (.long 31) 3),
  (81, sLdL 1 1),
  (82, sLmul),
  (83, sLdA 0 1),
  (84, sLdI 3 1),
  (85, sLdI 4 2),
  (87, sCallV 161 11 2),
  (90, sI2L),
  (91, sLadd),
  (92, sStL 1 1),
  (93, sInc 4 1),
  (96, sGoto 72),
  (99, sInc 3 1),
  (102, sGoto 63),
  (105, sPush (.int 0) 1),
  (106, sStI 3 1),
  (107, sLdI 3 1),
  (108, sPush (.int 12) 2),
  (110, sCmpge 147),
  (113, sPush (.long 31) 3),
  (116, sLdL 1 1),
  (117, sLmul),
  (118, sLdA 0 1),
  (119, sLdI 3 1),
  (120, sPush (.int 0) 1),
  (121, sCallV 141 11 2),
  (124, sI2L),
  (125, sLadd),
  (126, sStL 1 1),
  (127, sPush (.long 31) 3),
  (130, sLdL 1 1),
  (131, sLmul),
  (132, sLdA 0 1),
  (133, sLdI 3 1),
  (134, sPush (.int 1) 1),
  (135, sCallV 141 11 2),
  (138, sI2L),
  (139, sLadd),
  (140, sStL 1 1),
  (141, sInc 3 1),
  (144, sGoto 107),
  (147, sPush (.int 0) 1),
  (148, sStI 3 1),
  (149, sLdI 3 1),
  (150, sLdA 0 1),
  (151, sGet 11 7),
  (154, sCmpge 170),
  (157, sLdA 0 1),
  (158, sLdL 1 1),
  (159, sLdI 3 1),
  (160, sCallV 200 11 2),
  (163, sStL 1 1),
  (164, sInc 3 1),
  (167, sGoto 149),
  (170, sPush (.long 31) 3),
  (173, sLdL 1 1),
  (174, sLmul),
  (175, sLdA 0 1),
  (176, sCallV 163 11 0),
  (179, sI2L),
  (180, sLadd),
  (181, sStL 1 1),
  (182, sPush (.long 31) 3),
  (185, sLdL 1 1),
  (186, sLmul),
  (187, sLdA 0 1),
  (188, sCallV 165 11 0),
  (191, sI2L),
  (192, sLadd),
  (193, sStL 1 1),
  (194, sPush (.long 31) 3),
  (197, sLdL 1 1),
  (198, sLmul),
  (199, sLdA 0 1),
  (200, sCallV 167 11 0),
  (203, sI2L),
  (204, sLadd),
  (205, sStL 1 1),
  (206, sPush (.long 31) 3),
  (209, sLdL 1 1),
  (210, sLmul),
  (211, sLdA 0 1),
  (212, sPush (.int 0) 1),
  (213, sCallV 169 11 1),
  (216, sI2L),
  (217, sLadd),
  (218, sStL 1 1),
  (219, sPush (.long 31) 3),
  (222, sLdL 1 1),
  (223, sLmul),
  (224, sLdA 0 1),
  (225, sPush (.int 1) 1),
  (226, sCallV 169 11 1),
  (229, sI2L),
  (230, sLadd),
  (231, sStL 1 1),
  (232, sPush (.int 0) 1),
  (233, sStI 3 1),
  (234, sLdI 3 1),
  (235, sPush (.int 3) 1),
  (236, sCmpge 258),
  (239, sPush (.long 31) 3),
  (242, sLdL 1 1),
  (243, sLmul),
  (244, sLdA 0 1),
  (245, sLdI 3 1),
  (246, sCallV 171 11 1),
  (249, sI2L),
  (250, sLadd),
  (251, sStL 1 1),
  (252, sInc 3 1),
  (255, sGoto 234),
  (258, sPush (.int 0) 1),
  (259, sStI 3 1),
  (260, sLdI 3 1),
  (261, sPush (.int 3) 1),
  (262, sCmpge 284),
  (265, sPush (.long 31) 3),
  (268, sLdL 1 1),
  (269, sLmul),
  (270, sLdA 0 1),
  (271, sLdI 3 1),
  (272, sCallV 173 11 1),
  (275, sI2L),
  (276, sLadd),
  (277, sStL 1 1),
  (278, sInc 3 1),
  (281, sGoto 260),
  (284, sPush (.long 31) 3),
  (287, sLdL 1 1),
  (288, sLmul),
  (289, sLdA 0 1),
  (290, sPush (.int (-1)) 1),
  (291, sCallV 176 11 1),
  (294, sI2L),
  (295, sLadd),
  (296, sStL 1 1),
  (297, sPush (.long 31) 3),
  (300, sLdL 1 1),
  (301, sLmul),
  (302, sLdA 0 1),
  (303, sPush (.int 0) 1),
  (304, sCallV 176 11 1),
  (307, sI2L),
  (308, sLadd),
  (309, sStL 1 1),
  (310, sLdA 0 1),
  (311, sCallV 157 11 0),
  (314, sPush (.int 0) 1),
  (315, sStI 3 1),
  (316, sLdI 3 1),
  (317, sPush (.int 3) 1),
  (318, sCmpge 340),
  (321, sPush (.long 31) 3),
  (324, sLdL 1 1),
  (325, sLmul),
  (326, sLdA 0 1),
  (327, sLdI 3 1),
  (328, sCallV 178 11 1),
  (331, sI2L),
  (332, sLadd),
  (333, sStL 1 1),
  (334, sInc 3 1),
  (337, sGoto 316),
  (340, sPush (.long 31) 3),
  (343, sLdL 1 1),
  (344, sLmul),
  (345, sLdA 0 1),
  (346, sCallV 183 11 0),
  (349, sI2L),
  (350, sLadd),
  (351, sStL 1 1),
  (352, sPush (.long 31) 3),
  (355, sLdL 1 1),
  (356, sLmul),
  (357, sLdA 0 1),
  (358, sPush (.int 5) 1),
  (359, sPush (.int 6) 2),
  (361, sPush (.int 0) 1),
  (362, sCallV 191 11 3),
  (365, sLadd),
  (366, sStL 1 1),
  (367, sPush (.long 31) 3),
  (370, sLdL 1 1),
  (371, sLmul),
  (372, sLdA 0 1),
  (373, sPush (.int 5) 1),
  (374, sPush (.int 6) 2),
  (376, sPush (.int 1) 1),
  (377, sCallV 191 11 3),
  (380, sLadd),
  (381, sStL 1 1),
  (382, sPush (.long 31) 3),
  (385, sLdL 1 1),
  (386, sLmul),
  (387, sLdA 0 1),
  (388, sPush (.int 5) 1),
  (389, sPush (.int 13) 2),
  (391, sPush (.int 0) 1),
  (392, sCallV 191 11 3),
  (395, sLadd),
  (396, sStL 1 1),
  (397, sPush (.long 31) 3),
  (400, sLdL 1 1),
  (401, sLmul),
  (402, sLdA 0 1),
  (403, sPush (.int 5) 1),
  (404, sPush (.int 13) 2),
  (406, sPush (.int 1) 1),
  (407, sCallV 191 11 3),
  (410, sLadd),
  (411, sStL 1 1),
  (412, sPush (.long 31) 3),
  (415, sLdL 1 1),
  (416, sLmul),
  (417, sLdA 0 1),
  (418, sPush (.int 7) 2),
  (420, sPush (.int 6) 2),
  (422, sPush (.int 0) 1),
  (423, sCallV 194 11 3),
  (426, sI2L),
  (427, sLadd),
  (428, sStL 1 1),
  (429, sPush (.long 31) 3),
  (432, sLdL 1 1),
  (433, sLmul),
  (434, sLdA 0 1),
  (435, sPush (.int 7) 2),
  (437, sPush (.int 6) 2),
  (439, sPush (.int 1) 1),
  (440, sCallV 194 11 3),
  (443, sI2L),
  (444, sLadd),
  (445, sRetL)]
set_option maxRecDepth 100000 in
theorem kX11_digest : ∀ q ∈ pX11_digest, gSnd RX11 cX11_digest 5 none q.1 q.2 := by
  simp only [pX11_digest, List.forall_mem_cons]
  exact ⟨gs_ldc2 (by decide +kernel) wd_1270,
    gs_lstore_n (k := 1) (by decide +kernel) rfl,
    gs_iconst (n := 0) (by decide +kernel) (by decide),
    gs_istore_n (k := 3) (by decide +kernel) rfl,
    gs_iload_n (k := 3) (by decide +kernel) rfl,
    gs_bipush (n := 8) (by decide +kernel) (by decide),
    gs_icmp_ge (off := 22) (by decide +kernel) (by decide),
    gs_ldc2 (by decide +kernel) wd_1271,
    gs_lload_n (k := 1) (by decide +kernel) rfl,
    gs_lmul (by decide +kernel),
    gs_aload_n (k := 0) (by decide +kernel) rfl,
    gs_iload_n (k := 3) (by decide +kernel) rfl,
    gs_callV (by decide +kernel) rfl rfl wd_1272 wd_1261 wd_1259 wd_1260 wd_12 mp_198 (by decide),
    gs_i2l (by decide +kernel),
    gs_ladd (by decide +kernel),
    gs_lstore_n (k := 1) (by decide +kernel) rfl,
    gs_iinc (n := 1) (by decide +kernel) (by decide),
    gs_goto (off := -22) (by decide +kernel) (by decide),
    gs_ldc2 (by decide +kernel) wd_1271,
    gs_lload_n (k := 1) (by decide +kernel) rfl,
    gs_lmul (by decide +kernel),
    gs_aload_n (k := 0) (by decide +kernel) rfl,
    gs_iconst (n := 0) (by decide +kernel) (by decide),
    gs_callV (by decide +kernel) rfl rfl wd_968 wd_971 wd_970 ws_33 wd_12 mp_136 (by decide),
    gs_i2l (by decide +kernel),
    gs_ladd (by decide +kernel),
    gs_lstore_n (k := 1) (by decide +kernel) rfl,
    gs_ldc2 (by decide +kernel) wd_1271,
    gs_lload_n (k := 1) (by decide +kernel) rfl,
    gs_lmul (by decide +kernel),
    gs_aload_n (k := 0) (by decide +kernel) rfl,
    gs_iconst (n := 1) (by decide +kernel) (by decide),
    gs_callV (by decide +kernel) rfl rfl wd_968 wd_971 wd_970 ws_33 wd_12 mp_136 (by decide),
    gs_i2l (by decide +kernel),
    gs_ladd (by decide +kernel),
    gs_lstore_n (k := 1) (by decide +kernel) rfl,
    gs_aload_n (k := 0) (by decide +kernel) rfl,
    gs_callV (by decide +kernel) rfl rfl wd_1048 wd_1051 wd_1050 ws_40 wd_12 mp_157 (by decide),
    gs_iconst (n := 0) (by decide +kernel) (by decide),
    gs_istore_n (k := 3) (by decide +kernel) rfl,
    gs_iload_n (k := 3) (by decide +kernel) rfl,
    gs_bipush (n := 24) (by decide +kernel) (by decide),
    gs_icmp_ge (off := 39) (by decide +kernel) (by decide),
    gs_iconst (n := 0) (by decide +kernel) (by decide),
    gs_istore (by decide +kernel),
    gs_iload (by decide +kernel),
    gs_iconst (n := 3) (by decide +kernel) (by decide),
    gs_icmp_ge (off := 24) (by decide +kernel) (by decide),
    gs_ldc2 (by decide +kernel) wd_1271,
    gs_lload_n (k := 1) (by decide +kernel) rfl,
    gs_lmul (by decide +kernel),
    gs_aload_n (k := 0) (by decide +kernel) rfl,
    gs_iload_n (k := 3) (by decide +kernel) rfl,
    gs_iload (by decide +kernel),
    gs_callV (by decide +kernel) rfl rfl wd_1097 wd_1100 wd_1099 ws_49 wd_12 mp_161 (by decide),
    gs_i2l (by decide +kernel),
    gs_ladd (by decide +kernel),
    gs_lstore_n (k := 1) (by decide +kernel) rfl,
    gs_iinc (n := 1) (by decide +kernel) (by decide),
    gs_goto (off := -24) (by decide +kernel) (by decide),
    gs_iinc (n := 1) (by decide +kernel) (by decide),
    gs_goto (off := -39) (by decide +kernel) (by decide),
    gs_iconst (n := 0) (by decide +kernel) (by decide),
    gs_istore_n (k := 3) (by decide +kernel) rfl,
    gs_iload_n (k := 3) (by decide +kernel) rfl,
    gs_bipush (n := 12) (by decide +kernel) (by decide),
    gs_icmp_ge (off := 37) (by decide +kernel) (by decide),
    gs_ldc2 (by decide +kernel) wd_1271,
    gs_lload_n (k := 1) (by decide +kernel) rfl,
    gs_lmul (by decide +kernel),
    gs_aload_n (k := 0) (by decide +kernel) rfl,
    gs_iload_n (k := 3) (by decide +kernel) rfl,
    gs_iconst (n := 0) (by decide +kernel) (by decide),
    gs_callV (by decide +kernel) rfl rfl wd_1008 wd_1011 wd_1010 ws_37 wd_12 mp_141 (by decide),
    gs_i2l (by decide +kernel),
    gs_ladd (by decide +kernel),
    gs_lstore_n (k := 1) (by decide +kernel) rfl,
    gs_ldc2 (by decide +kernel) wd_1271,
    gs_lload_n (k := 1) (by decide +kernel) rfl,
    gs_lmul (by decide +kernel),
    gs_aload_n (k := 0) (by decide +kernel) rfl,
    gs_iload_n (k := 3) (by decide +kernel) rfl,
    gs_iconst (n := 1) (by decide +kernel) (by decide),
    gs_callV (by decide +kernel) rfl rfl wd_1008 wd_1011 wd_1010 ws_37 wd_12 mp_141 (by decide),
    gs_i2l (by decide +kernel),
    gs_ladd (by decide +kernel),
    gs_lstore_n (k := 1) (by decide +kernel) rfl,
    gs_iinc (n := 1) (by decide +kernel) (by decide),
    gs_goto (off := -37) (by decide +kernel) (by decide),
    gs_iconst (n := 0) (by decide +kernel) (by decide),
    gs_istore_n (k := 3) (by decide +kernel) rfl,
    gs_iload_n (k := 3) (by decide +kernel) rfl,
    gs_aload_n (k := 0) (by decide +kernel) rfl,
    gs_get (T := TX11) (N := 29) (Cn := RX11) (by decide +kernel) rfl (by decide) inW11 rfl wd_826,
    gs_icmp_ge (off := 16) (by decide +kernel) (by decide),
    gs_aload_n (k := 0) (by decide +kernel) rfl,
    gs_lload_n (k := 1) (by decide +kernel) rfl,
    gs_iload_n (k := 3) (by decide +kernel) rfl,
    gs_callV (by decide +kernel) rfl rfl wd_1273 wd_1276 wd_1275 ws_69 wd_12 mp_200 (by decide),
    gs_lstore_n (k := 1) (by decide +kernel) rfl,
    gs_iinc (n := 1) (by decide +kernel) (by decide),
    gs_goto (off := -18) (by decide +kernel) (by decide),
    gs_ldc2 (by decide +kernel) wd_1271,
    gs_lload_n (k := 1) (by decide +kernel) rfl,
    gs_lmul (by decide +kernel),
    gs_aload_n (k := 0) (by decide +kernel) rfl,
    gs_callV (by decide +kernel) rfl rfl wd_1105 wd_1108 wd_1107 ws_50 wd_12 mp_163 (by decide),
    gs_i2l (by decide +kernel),
    gs_ladd (by decide +kernel),
    gs_lstore_n (k := 1) (by decide +kernel) rfl,
    gs_ldc2 (by decide +kernel) wd_1271,
    gs_lload_n (k := 1) (by decide +kernel) rfl,
    gs_lmul (by decide +kernel),
    gs_aload_n (k := 0) (by decide +kernel) rfl,
    gs_callV (by decide +kernel) rfl rfl wd_1113 wd_1116 wd_1115 ws_51 wd_12 mp_165 (by decide),
    gs_i2l (by decide +kernel),
    gs_ladd (by decide +kernel),
    gs_lstore_n (k := 1) (by decide +kernel) rfl,
    gs_ldc2 (by decide +kernel) wd_1271,
    gs_lload_n (k := 1) (by decide +kernel) rfl,
    gs_lmul (by decide +kernel),
    gs_aload_n (k := 0) (by decide +kernel) rfl,
    gs_callV (by decide +kernel) rfl rfl wd_1121 wd_1124 wd_1123 ws_52 wd_12 mp_167 (by decide),
    gs_i2l (by decide +kernel),
    gs_ladd (by decide +kernel),
    gs_lstore_n (k := 1) (by decide +kernel) rfl,
    gs_ldc2 (by decide +kernel) wd_1271,
    gs_lload_n (k := 1) (by decide +kernel) rfl,
    gs_lmul (by decide +kernel),
    gs_aload_n (k := 0) (by decide +kernel) rfl,
    gs_iconst (n := 0) (by decide +kernel) (by decide),
    gs_callV (by decide +kernel) rfl rfl wd_1129 wd_1132 wd_1131 ws_53 wd_12 mp_169 (by decide),
    gs_i2l (by decide +kernel),
    gs_ladd (by decide +kernel),
    gs_lstore_n (k := 1) (by decide +kernel) rfl,
    gs_ldc2 (by decide +kernel) wd_1271,
    gs_lload_n (k := 1) (by decide +kernel) rfl,
    gs_lmul (by decide +kernel),
    gs_aload_n (k := 0) (by decide +kernel) rfl,
    gs_iconst (n := 1) (by decide +kernel) (by decide),
    gs_callV (by decide +kernel) rfl rfl wd_1129 wd_1132 wd_1131 ws_53 wd_12 mp_169 (by decide),
    gs_i2l (by decide +kernel),
    gs_ladd (by decide +kernel),
    gs_lstore_n (k := 1) (by decide +kernel) rfl,
    gs_iconst (n := 0) (by decide +kernel) (by decide),
    gs_istore_n (k := 3) (by decide +kernel) rfl,
    gs_iload_n (k := 3) (by decide +kernel) rfl,
    gs_iconst (n := 3) (by decide +kernel) (by decide),
    gs_icmp_ge (off := 22) (by decide +kernel) (by decide),
    gs_ldc2 (by decide +kernel) wd_1271,
    gs_lload_n (k := 1) (by decide +kernel) rfl,
    gs_lmul (by decide +kernel),
    gs_aload_n (k := 0) (by decide +kernel) rfl,
    gs_iload_n (k := 3) (by decide +kernel) rfl,
    gs_callV (by decide +kernel) rfl rfl wd_1140 wd_1143 wd_1142 ws_54 wd_12 mp_171 (by decide),
    gs_i2l (by decide +kernel),
    gs_ladd (by decide +kernel),
    gs_lstore_n (k := 1) (by decide +kernel) rfl,
    gs_iinc (n := 1) (by decide +kernel) (by decide),
    gs_goto (off := -21) (by decide +kernel) (by decide),
    gs_iconst (n := 0) (by decide +kernel) (by decide),
    gs_istore_n (k := 3) (by decide +kernel) rfl,
    gs_iload_n (k := 3) (by decide +kernel) rfl,
    gs_iconst (n := 3) (by decide +kernel) (by decide),
    gs_icmp_ge (off := 22) (by decide +kernel) (by decide),
    gs_ldc2 (by decide +kernel) wd_1271,
    gs_lload_n (k := 1) (by decide +kernel) rfl,
    gs_lmul (by decide +kernel),
    gs_aload_n (k := 0) (by decide +kernel) rfl,
    gs_iload_n (k := 3) (by decide +kernel) rfl,
    gs_callV (by decide +kernel) rfl rfl wd_1154 wd_1157 wd_1156 ws_55 wd_12 mp_173 (by decide),
    gs_i2l (by decide +kernel),
    gs_ladd (by decide +kernel),
    gs_lstore_n (k := 1) (by decide +kernel) rfl,
    gs_iinc (n := 1) (by decide +kernel) (by decide),
    gs_goto (off := -21) (by decide +kernel) (by decide),
    gs_ldc2 (by decide +kernel) wd_1271,
    gs_lload_n (k := 1) (by decide +kernel) rfl,
    gs_lmul (by decide +kernel),
    gs_aload_n (k := 0) (by decide +kernel) rfl,
    gs_iconst (n := -1) (by decide +kernel) (by decide),
    gs_callV (by decide +kernel) rfl rfl wd_1163 wd_1166 wd_1165 ws_56 wd_12 mp_176 (by decide),
    gs_i2l (by decide +kernel),
    gs_ladd (by decide +kernel),
    gs_lstore_n (k := 1) (by decide +kernel) rfl,
    gs_ldc2 (by decide +kernel) wd_1271,
    gs_lload_n (k := 1) (by decide +kernel) rfl,
    gs_lmul (by decide +kernel),
    gs_aload_n (k := 0) (by decide +kernel) rfl,
    gs_iconst (n := 0) (by decide +kernel) (by decide),
    gs_callV (by decide +kernel) rfl rfl wd_1163 wd_1166 wd_1165 ws_56 wd_12 mp_176 (by decide),
    gs_i2l (by decide +kernel),
    gs_ladd (by decide +kernel),
    gs_lstore_n (k := 1) (by decide +kernel) rfl,
    gs_aload_n (k := 0) (by decide +kernel) rfl,
    gs_callV (by decide +kernel) rfl rfl wd_1048 wd_1051 wd_1050 ws_40 wd_12 mp_157 (by decide),
    gs_iconst (n := 0) (by decide +kernel) (by decide),
    gs_istore_n (k := 3) (by decide +kernel) rfl,
    gs_iload_n (k := 3) (by decide +kernel) rfl,
    gs_iconst (n := 3) (by decide +kernel) (by decide),
    gs_icmp_ge (off := 22) (by decide +kernel) (by decide),
    gs_ldc2 (by decide +kernel) wd_1271,
    gs_lload_n (k := 1) (by decide +kernel) rfl,
    gs_lmul (by decide +kernel),
    gs_aload_n (k := 0) (by decide +kernel) rfl,
    gs_iload_n (k := 3) (by decide +kernel) rfl,
    gs_callV (by decide +kernel) rfl rfl wd_1175 wd_1178 wd_1177 ws_58 wd_12 mp_178 (by decide),
    gs_i2l (by decide +kernel),
    gs_ladd (by decide +kernel),
    gs_lstore_n (k := 1) (by decide +kernel) rfl,
    gs_iinc (n := 1) (by decide +kernel) (by decide),
    gs_goto (off := -21) (by decide +kernel) (by decide),
    gs_ldc2 (by decide +kernel) wd_1271,
    gs_lload_n (k := 1) (by decide +kernel) rfl,
    gs_lmul (by decide +kernel),
    gs_aload_n (k := 0) (by decide +kernel) rfl,
    gs_callV (by decide +kernel) rfl rfl wd_1192 wd_1195 wd_1194 ws_59 wd_12 mp_183 (by decide),
    gs_i2l (by decide +kernel),
    gs_ladd (by decide +kernel),
    gs_lstore_n (k := 1) (by decide +kernel) rfl,
    gs_ldc2 (by decide +kernel) wd_1271,
    gs_lload_n (k := 1) (by decide +kernel) rfl,
    gs_lmul (by decide +kernel),
    gs_aload_n (k := 0) (by decide +kernel) rfl,
    gs_iconst (n := 5) (by decide +kernel) (by decide),
    gs_bipush (n := 6) (by decide +kernel) (by decide),
    gs_iconst (n := 0) (by decide +kernel) (by decide),
    gs_callV (by decide +kernel) rfl rfl wd_1229 wd_1232 wd_1231 ws_65 wd_12 mp_191 (by decide),
    gs_ladd (by decide +kernel),
    gs_lstore_n (k := 1) (by decide +kernel) rfl,
    gs_ldc2 (by decide +kernel) wd_1271,
    gs_lload_n (k := 1) (by decide +kernel) rfl,
    gs_lmul (by decide +kernel),
    gs_aload_n (k := 0) (by decide +kernel) rfl,
    gs_iconst (n := 5) (by decide +kernel) (by decide),
    gs_bipush (n := 6) (by decide +kernel) (by decide),
    gs_iconst (n := 1) (by decide +kernel) (by decide),
    gs_callV (by decide +kernel) rfl rfl wd_1229 wd_1232 wd_1231 ws_65 wd_12 mp_191 (by decide),
    gs_ladd (by decide +kernel),
    gs_lstore_n (k := 1) (by decide +kernel) rfl,
    gs_ldc2 (by decide +kernel) wd_1271,
    gs_lload_n (k := 1) (by decide +kernel) rfl,
    gs_lmul (by decide +kernel),
    gs_aload_n (k := 0) (by decide +kernel) rfl,
    gs_iconst (n := 5) (by decide +kernel) (by decide),
    gs_bipush (n := 13) (by decide +kernel) (by decide),
    gs_iconst (n := 0) (by decide +kernel) (by decide),
    gs_callV (by decide +kernel) rfl rfl wd_1229 wd_1232 wd_1231 ws_65 wd_12 mp_191 (by decide),
    gs_ladd (by decide +kernel),
    gs_lstore_n (k := 1) (by decide +kernel) rfl,
    gs_ldc2 (by decide +kernel) wd_1271,
    gs_lload_n (k := 1) (by decide +kernel) rfl,
    gs_lmul (by decide +kernel),
    gs_aload_n (k := 0) (by decide +kernel) rfl,
    gs_iconst (n := 5) (by decide +kernel) (by decide),
    gs_bipush (n := 13) (by decide +kernel) (by decide),
    gs_iconst (n := 1) (by decide +kernel) (by decide),
    gs_callV (by decide +kernel) rfl rfl wd_1229 wd_1232 wd_1231 ws_65 wd_12 mp_191 (by decide),
    gs_ladd (by decide +kernel),
    gs_lstore_n (k := 1) (by decide +kernel) rfl,
    gs_ldc2 (by decide +kernel) wd_1271,
    gs_lload_n (k := 1) (by decide +kernel) rfl,
    gs_lmul (by decide +kernel),
    gs_aload_n (k := 0) (by decide +kernel) rfl,
    gs_bipush (n := 7) (by decide +kernel) (by decide),
    gs_bipush (n := 6) (by decide +kernel) (by decide),
    gs_iconst (n := 0) (by decide +kernel) (by decide),
    gs_callV (by decide +kernel) rfl rfl wd_1245 wd_1248 wd_1247 ws_66 wd_12 mp_194 (by decide),
    gs_i2l (by decide +kernel),
    gs_ladd (by decide +kernel),
    gs_lstore_n (k := 1) (by decide +kernel) rfl,
    gs_ldc2 (by decide +kernel) wd_1271,
    gs_lload_n (k := 1) (by decide +kernel) rfl,
    gs_lmul (by decide +kernel),
    gs_aload_n (k := 0) (by decide +kernel) rfl,
    gs_bipush (n := 7) (by decide +kernel) (by decide),
    gs_bipush (n := 6) (by decide +kernel) (by decide),
    gs_iconst (n := 1) (by decide +kernel) (by decide),
    gs_callV (by decide +kernel) rfl rfl wd_1245 wd_1248 wd_1247 ws_66 wd_12 mp_194 (by decide),
    gs_i2l (by decide +kernel),
    gs_ladd (by decide +kernel),
    gs_lret (by decide +kernel),
    fun _ h => absurd h List.not_mem_nil⟩
def pJ6_bitCount_0f7a4 : gProg := [(0, sLdI 0 1),
  (1, sLdI 0 1),
  (2, sPush (.int 1) 1),
  (3, sIushr),
  (4, sPush (.int 1431655765) 3),
  (7, sIand),
  (8, sIsub),
  (9, sStI 0 1),
  (10, sLdI 0 1),
  (11, sPush (.int 858993459) 3),
  (14, sIand),
  (15, sLdI 0 1),
  (16, sPush (.int 2) 1),
  (17, sIushr),
  (18, sPush (.int 858993459) 3),
  (21, sIand),
  (22, sIadd),
  (23, sStI 0 1),
  (24, sLdI 0 1),
  (25, sLdI 0 1),
  (26, sPush (.int 4) 1),
  (27, sIushr),
  (28, sIadd),
  (29, sPush (.int 252645135) 3),
  (32, sIand),
  (33, sStI 0 1),
  (34, sLdI 0 1),
  (35, sLdI 0 1),
  (36, sPush (.int 8) 2),
  (38, sIushr),
  (39, sIadd),
  (40, sStI 0 1),
  (41, sLdI 0 1),
  (42, sLdI 0 1),
  (43, sPush (.int 16) 2),
  (45, sIushr),
  (46, sIadd),
  (47, sStI 0 1),
  (48, sLdI 0 1),
  (49, sPush (.int 63) 2),
  (51, sIand),
  (52, sRetI)]
theorem kJ6_bitCount_0f7a4 : ∀ q ∈ pJ6_bitCount_0f7a4, gSnd RJ6 cJ6_bitCount_0f7a4 1 none q.1 q.2 := by
  simp only [pJ6_bitCount_0f7a4, List.forall_mem_cons]
  exact ⟨gs_iload_n (k := 0) (by decide +kernel) rfl,
    gs_iload_n (k := 0) (by decide +kernel) rfl,
    gs_iconst (n := 1) (by decide +kernel) (by decide),
    gs_iushr (by decide +kernel),
    gs_ldcw (by decide +kernel) wd_560,
    gs_iand (by decide +kernel),
    gs_isub (by decide +kernel),
    gs_istore_n (k := 0) (by decide +kernel) rfl,
    gs_iload_n (k := 0) (by decide +kernel) rfl,
    gs_ldcw (by decide +kernel) wd_561,
    gs_iand (by decide +kernel),
    gs_iload_n (k := 0) (by decide +kernel) rfl,
    gs_iconst (n := 2) (by decide +kernel) (by decide),
    gs_iushr (by decide +kernel),
    gs_ldcw (by decide +kernel) wd_561,
    gs_iand (by decide +kernel),
    gs_iadd (by decide +kernel),
    gs_istore_n (k := 0) (by decide +kernel) rfl,
    gs_iload_n (k := 0) (by decide +kernel) rfl,
    gs_iload_n (k := 0) (by decide +kernel) rfl,
    gs_iconst (n := 4) (by decide +kernel) (by decide),
    gs_iushr (by decide +kernel),
    gs_iadd (by decide +kernel),
    gs_ldcw (by decide +kernel) wd_562,
    gs_iand (by decide +kernel),
    gs_istore_n (k := 0) (by decide +kernel) rfl,
    gs_iload_n (k := 0) (by decide +kernel) rfl,
    gs_iload_n (k := 0) (by decide +kernel) rfl,
    gs_bipush (n := 8) (by decide +kernel) (by decide),
    gs_iushr (by decide +kernel),
    gs_iadd (by decide +kernel),
    gs_istore_n (k := 0) (by decide +kernel) rfl,
    gs_iload_n (k := 0) (by decide +kernel) rfl,
    gs_iload_n (k := 0) (by decide +kernel) rfl,
    gs_bipush (n := 16) (by decide +kernel) (by decide),
    gs_iushr (by decide +kernel),
    gs_iadd (by decide +kernel),
    gs_istore_n (k := 0) (by decide +kernel) rfl,
    gs_iload_n (k := 0) (by decide +kernel) rfl,
    gs_bipush (n := 63) (by decide +kernel) (by decide),
    gs_iand (by decide +kernel),
    gs_iret (by decide +kernel),
    fun _ h => absurd h List.not_mem_nil⟩
end
section
def pJ7_fill_53178 : gProg := [(0, sPush (.int 0) 1),
  (1, sStI 2 1),
  (2, sLdA 0 1),
  (3, sAlen),
  (4, sStI 3 1),
  (5, sLdI 2 1),
  (6, sLdI 3 1),
  (7, sCmpge 20),
  (10, sLdA 0 1),
  (11, sLdI 2 1),
  (12, sLdI 1 1),
  (13, sIast),
  (14, sInc 2 1),
  (17, sGoto 5),
  (20, sRetV)]
theorem kJ7_fill_53178 : ∀ q ∈ pJ7_fill_53178, gSnd RJ7 cJ7_fill_53178 4 none q.1 q.2 := by
  simp only [pJ7_fill_53178, List.forall_mem_cons]
  exact ⟨gs_iconst (n := 0) (by decide +kernel) (by decide),
    gs_istore_n (k := 2) (by decide +kernel) rfl,
    gs_aload_n (k := 0) (by decide +kernel) rfl,
    gs_alen (by decide +kernel),
    gs_istore_n (k := 3) (by decide +kernel) rfl,
    gs_iload_n (k := 2) (by decide +kernel) rfl,
    gs_iload_n (k := 3) (by decide +kernel) rfl,
    gs_icmp_ge (off := 13) (by decide +kernel) (by decide),
    gs_aload_n (k := 0) (by decide +kernel) rfl,
    gs_iload_n (k := 2) (by decide +kernel) rfl,
    gs_iload_n (k := 1) (by decide +kernel) rfl,
    gs_iastore (by decide +kernel),
    gs_iinc (n := 1) (by decide +kernel) (by decide),
    gs_goto (off := -12) (by decide +kernel) (by decide),
    gs_vret (by decide +kernel),
    fun _ h => absurd h List.not_mem_nil⟩
end
section
def pLaw0 (L : Nat) (xs : Nat → Int32) : gProg := [(16, sPush (.int 0) 1),
  (17, sStI 3 1),
  (18, sLdI 3 1),
  (19, sLdA 0 1),
  (20, sScrLen L),
  (21, sPush (.int 6) 2),
  (23, sIsub),
  (24, sCmpgt 1201),
  (27, sLdA 0 1),
  (28, sLdI 3 1),
  (29, sScrLd L xs),
  (30, sPush (.int 63) 2),
  (32, sIand),
  (33, sSw 0 [188, 221, 244, 267, 290, 323, 356, 389, 432, 445, 468, 511, 544, 557, 570, 583, 606, 629, 652, 675, 698, 741, 754, 767, 800, 823, 867, 910, 953, 976, 1029, 1072, 1135, 1158, 1181] 1195),
  (188, sLdA 1 1),
  (189, sLdA 0 1),
  (190, sLdI 3 1),
  (191, sPush (.int 1) 1),
  (192, sIadd),
  (193, sScrLd L xs),
  (194, sLdA 0 1),
  (195, sLdI 3 1),
  (196, sPush (.int 2) 1),
  (197, sIadd),
  (198, sScrLd L xs),
  (199, sCallV 44 10 2),
  (202, sLdA 2 1),
  (203, sLdA 0 1),
  (204, sLdI 3 1),
  (205, sPush (.int 1) 1),
  (206, sIadd),
  (207, sScrLd L xs),
  (208, sLdA 0 1),
  (209, sLdI 3 1),
  (210, sPush (.int 2) 1),
  (211, sIadd),
  (212, sScrLd L xs),
  (213, sCallV 128 11 2),
  (216, sCmpeq 1195),
  (219, sPush (.int 0) 1),
  (220, sRetI),
  (221, sLdA 1 1),
  (222, sLdA 0 1),
  (223, sLdI 3 1),
  (224, sPush (.int 1) 1),
  (225, sIadd),
  (226, sScrLd L xs),
  (227, sCallV 45 10 1),
  (230, sLdA 2 1),
  (231, sLdA 0 1),
  (232, sLdI 3 1),
  (233, sPush (.int 1) 1),
  (234, sIadd),
  (235, sScrLd L xs),
  (236, sCallV 129 11 1),
  (239, sCmpeq 1195),
  (242, sPush (.int 0) 1),
  (243, sRetI),
  (244, sLdA 1 1),
  (245, sLdA 0 1),
  (246, sLdI 3 1),
  (247, sPush (.int 1) 1),
  (248, sIadd),
  (249, sScrLd L xs),
  (250, sCallV 46 10 1),
  (253, sLdA 2 1),
  (254, sLdA 0 1),
  (255, sLdI 3 1),
  (256, sPush (.int 1) 1),
  (257, sIadd),
  (258, sScrLd L xs),
  (259, sCallV 130 11 1),
  (262, sCmpeq 1195),
  (265, sPush (.int 0) 1),
  (266, sRetI),
  (267, sLdA 1 1),
  (268, sLdA 0 1),
  (269, sLdI 3 1),
  (270, sPush (.int 1) 1),
  (271, sIadd),
  (272, sScrLd L xs),
  (273, sCallV 47 10 1),
  (276, sLdA 2 1),
  (277, sLdA 0 1),
  (278, sLdI 3 1),
  (279, sPush (.int 1) 1),
  (280, sIadd),
  (281, sScrLd L xs),
  (282, sCallV 137 11 1),
  (285, sCmpeq 1195),
  (288, sPush (.int 0) 1),
  (289, sRetI),
  (290, sLdA 1 1),
  (291, sLdA 0 1),
  (292, sLdI 3 1),
  (293, sPush (.int 1) 1),
  (294, sIadd),
  (295, sScrLd L xs),
  (296, sLdA 0 1),
  (297, sLdI 3 1)]
theorem kLaw0 (L : Nat) (xs : Nat → Int32) : ∀ q ∈ pLaw0 L xs, gSnd R_law code 4 (some (L, xs)) q.1 q.2 := by
  simp only [pLaw0, List.forall_mem_cons]
  exact ⟨gs_iconst (n := 0) (by decide +kernel) (by decide),
    gs_istore_n (k := 3) (by decide +kernel) rfl,
    gs_iload_n (k := 3) (by decide +kernel) rfl,
    gs_aload_n (k := 0) (by decide +kernel) rfl,
    gs_scrLen rfl (by decide +kernel),
    gs_bipush (n := 6) (by decide +kernel) (by decide),
    gs_isub (by decide +kernel),
    gs_icmp_gt (off := 1177) (by decide +kernel) (by decide),
    gs_aload_n (k := 0) (by decide +kernel) rfl,
    gs_iload_n (k := 3) (by decide +kernel) rfl,
    gs_scrLd rfl (by decide +kernel),
    gs_bipush (n := 63) (by decide +kernel) (by decide),
    gs_iand (by decide +kernel),
    gs_table (dflt := 1162) (lo := 0) (hi := 34) (offs := #[155, 188, 211, 234, 257, 290, 323, 356, 399, 412, 435, 478, 511, 524, 537, 550, 573, 596, 619, 642, 665, 708, 721, 734, 767, 790, 834, 877, 920, 943, 996, 1039, 1102, 1125, 1148]) (len := 155) (by decide +kernel) (by decide) (by decide) (by decide),
    gs_aload_n (k := 1) (by decide +kernel) rfl,
    gs_aload_n (k := 0) (by decide +kernel) rfl,
    gs_iload_n (k := 3) (by decide +kernel) rfl,
    gs_iconst (n := 1) (by decide +kernel) (by decide),
    gs_iadd (by decide +kernel),
    gs_scrLd rfl (by decide +kernel),
    gs_aload_n (k := 0) (by decide +kernel) rfl,
    gs_iload_n (k := 3) (by decide +kernel) rfl,
    gs_iconst (n := 2) (by decide +kernel) (by decide),
    gs_iadd (by decide +kernel),
    gs_scrLd rfl (by decide +kernel),
    gs_callV (by decide +kernel) rfl rfl wd_303 wd_306 wd_304 wd_305 wd_1 mp_44 (by decide),
    gs_aload_n (k := 2) (by decide +kernel) rfl,
    gs_aload_n (k := 0) (by decide +kernel) rfl,
    gs_iload_n (k := 3) (by decide +kernel) rfl,
    gs_iconst (n := 1) (by decide +kernel) (by decide),
    gs_iadd (by decide +kernel),
    gs_scrLd rfl (by decide +kernel),
    gs_aload_n (k := 0) (by decide +kernel) rfl,
    gs_iload_n (k := 3) (by decide +kernel) rfl,
    gs_iconst (n := 2) (by decide +kernel) (by decide),
    gs_iadd (by decide +kernel),
    gs_scrLd rfl (by decide +kernel),
    gs_callV (by decide +kernel) rfl rfl wd_948 wd_951 wd_949 wd_950 wd_12 mp_128 (by decide),
    gs_icmp_eq (off := 979) (by decide +kernel) (by decide),
    gs_iconst (n := 0) (by decide +kernel) (by decide),
    gs_iret (by decide +kernel),
    gs_aload_n (k := 1) (by decide +kernel) rfl,
    gs_aload_n (k := 0) (by decide +kernel) rfl,
    gs_iload_n (k := 3) (by decide +kernel) rfl,
    gs_iconst (n := 1) (by decide +kernel) (by decide),
    gs_iadd (by decide +kernel),
    gs_scrLd rfl (by decide +kernel),
    gs_callV (by decide +kernel) rfl rfl wd_333 wd_336 wd_334 wd_335 wd_1 mp_45 (by decide),
    gs_aload_n (k := 2) (by decide +kernel) rfl,
    gs_aload_n (k := 0) (by decide +kernel) rfl,
    gs_iload_n (k := 3) (by decide +kernel) rfl,
    gs_iconst (n := 1) (by decide +kernel) (by decide),
    gs_iadd (by decide +kernel),
    gs_scrLd rfl (by decide +kernel),
    gs_callV (by decide +kernel) rfl rfl wd_956 wd_959 wd_957 wd_958 wd_12 mp_129 (by decide),
    gs_icmp_eq (off := 956) (by decide +kernel) (by decide),
    gs_iconst (n := 0) (by decide +kernel) (by decide),
    gs_iret (by decide +kernel),
    gs_aload_n (k := 1) (by decide +kernel) rfl,
    gs_aload_n (k := 0) (by decide +kernel) rfl,
    gs_iload_n (k := 3) (by decide +kernel) rfl,
    gs_iconst (n := 1) (by decide +kernel) (by decide),
    gs_iadd (by decide +kernel),
    gs_scrLd rfl (by decide +kernel),
    gs_callV (by decide +kernel) rfl rfl wd_341 wd_344 wd_342 wd_343 wd_1 mp_46 (by decide),
    gs_aload_n (k := 2) (by decide +kernel) rfl,
    gs_aload_n (k := 0) (by decide +kernel) rfl,
    gs_iload_n (k := 3) (by decide +kernel) rfl,
    gs_iconst (n := 1) (by decide +kernel) (by decide),
    gs_iadd (by decide +kernel),
    gs_scrLd rfl (by decide +kernel),
    gs_callV (by decide +kernel) rfl rfl wd_960 wd_963 wd_961 wd_962 wd_12 mp_130 (by decide),
    gs_icmp_eq (off := 933) (by decide +kernel) (by decide),
    gs_iconst (n := 0) (by decide +kernel) (by decide),
    gs_iret (by decide +kernel),
    gs_aload_n (k := 1) (by decide +kernel) rfl,
    gs_aload_n (k := 0) (by decide +kernel) rfl,
    gs_iload_n (k := 3) (by decide +kernel) rfl,
    gs_iconst (n := 1) (by decide +kernel) (by decide),
    gs_iadd (by decide +kernel),
    gs_scrLd rfl (by decide +kernel),
    gs_callV (by decide +kernel) rfl rfl wd_349 wd_352 wd_350 wd_351 wd_1 mp_47 (by decide),
    gs_aload_n (k := 2) (by decide +kernel) rfl,
    gs_aload_n (k := 0) (by decide +kernel) rfl,
    gs_iload_n (k := 3) (by decide +kernel) rfl,
    gs_iconst (n := 1) (by decide +kernel) (by decide),
    gs_iadd (by decide +kernel),
    gs_scrLd rfl (by decide +kernel),
    gs_callV (by decide +kernel) rfl rfl wd_964 wd_967 wd_965 wd_966 wd_12 mp_137 (by decide),
    gs_icmp_eq (off := 910) (by decide +kernel) (by decide),
    gs_iconst (n := 0) (by decide +kernel) (by decide),
    gs_iret (by decide +kernel),
    gs_aload_n (k := 1) (by decide +kernel) rfl,
    gs_aload_n (k := 0) (by decide +kernel) rfl,
    gs_iload_n (k := 3) (by decide +kernel) rfl,
    gs_iconst (n := 1) (by decide +kernel) (by decide),
    gs_iadd (by decide +kernel),
    gs_scrLd rfl (by decide +kernel),
    gs_aload_n (k := 0) (by decide +kernel) rfl,
    gs_iload_n (k := 3) (by decide +kernel) rfl,
    fun _ h => absurd h List.not_mem_nil⟩
def pLaw1 (L : Nat) (xs : Nat → Int32) : gProg := [(298, sPush (.int 2) 1),
  (299, sIadd),
  (300, sScrLd L xs),
  (301, sCallV 48 10 2),
  (304, sLdA 2 1),
  (305, sLdA 0 1),
  (306, sLdI 3 1),
  (307, sPush (.int 1) 1),
  (308, sIadd),
  (309, sScrLd L xs),
  (310, sLdA 0 1),
  (311, sLdI 3 1),
  (312, sPush (.int 2) 1),
  (313, sIadd),
  (314, sScrLd L xs),
  (315, sCallV 140 11 2),
  (318, sCmpeq 1195),
  (321, sPush (.int 0) 1),
  (322, sRetI),
  (323, sLdA 1 1),
  (324, sLdA 0 1),
  (325, sLdI 3 1),
  (326, sPush (.int 1) 1),
  (327, sIadd),
  (328, sScrLd L xs),
  (329, sLdA 0 1),
  (330, sLdI 3 1),
  (331, sPush (.int 2) 1),
  (332, sIadd),
  (333, sScrLd L xs),
  (334, sCallV 49 10 2),
  (337, sLdA 2 1),
  (338, sLdA 0 1),
  (339, sLdI 3 1),
  (340, sPush (.int 1) 1),
  (341, sIadd),
  (342, sScrLd L xs),
  (343, sLdA 0 1),
  (344, sLdI 3 1),
  (345, sPush (.int 2) 1),
  (346, sIadd),
  (347, sScrLd L xs),
  (348, sCallV 142 11 2),
  (351, sCmpeq 1195),
  (354, sPush (.int 0) 1),
  (355, sRetI),
  (356, sLdA 1 1),
  (357, sLdA 0 1),
  (358, sLdI 3 1),
  (359, sPush (.int 1) 1),
  (360, sIadd),
  (361, sScrLd L xs),
  (362, sLdA 0 1),
  (363, sLdI 3 1),
  (364, sPush (.int 2) 1),
  (365, sIadd),
  (366, sScrLd L xs),
  (367, sCallV 50 10 2),
  (370, sLdA 2 1),
  (371, sLdA 0 1),
  (372, sLdI 3 1),
  (373, sPush (.int 1) 1),
  (374, sIadd),
  (375, sScrLd L xs),
  (376, sLdA 0 1),
  (377, sLdI 3 1),
  (378, sPush (.int 2) 1),
  (379, sIadd),
  (380, sScrLd L xs),
  (381, sCallV 143 11 2),
  (384, sCmpeq 1195),
  (387, sPush (.int 0) 1),
  (388, sRetI),
  (389, sLdA 1 1),
  (390, sLdA 0 1),
  (391, sLdI 3 1),
  (392, sPush (.int 1) 1),
  (393, sIadd),
  (394, sScrLd L xs),
  (395, sLdA 0 1),
  (396, sLdI 3 1),
  (397, sPush (.int 2) 1),
  (398, sIadd),
  (399, sScrLd L xs),
  (400, sLdA 0 1),
  (401, sLdI 3 1),
  (402, sPush (.int 3) 1),
  (403, sIadd),
  (404, sScrLd L xs),
  (405, sCallV 51 10 3),
  (408, sLdA 2 1),
  (409, sLdA 0 1),
  (410, sLdI 3 1),
  (411, sPush (.int 1) 1),
  (412, sIadd),
  (413, sScrLd L xs),
  (414, sLdA 0 1),
  (415, sLdI 3 1),
  (416, sPush (.int 2) 1),
  (417, sIadd)]
theorem kLaw1 (L : Nat) (xs : Nat → Int32) : ∀ q ∈ pLaw1 L xs, gSnd R_law code 4 (some (L, xs)) q.1 q.2 := by
  simp only [pLaw1, List.forall_mem_cons]
  exact ⟨gs_iconst (n := 2) (by decide +kernel) (by decide),
    gs_iadd (by decide +kernel),
    gs_scrLd rfl (by decide +kernel),
    gs_callV (by decide +kernel) rfl rfl wd_353 wd_356 wd_354 wd_355 wd_1 mp_48 (by decide),
    gs_aload_n (k := 2) (by decide +kernel) rfl,
    gs_aload_n (k := 0) (by decide +kernel) rfl,
    gs_iload_n (k := 3) (by decide +kernel) rfl,
    gs_iconst (n := 1) (by decide +kernel) (by decide),
    gs_iadd (by decide +kernel),
    gs_scrLd rfl (by decide +kernel),
    gs_aload_n (k := 0) (by decide +kernel) rfl,
    gs_iload_n (k := 3) (by decide +kernel) rfl,
    gs_iconst (n := 2) (by decide +kernel) (by decide),
    gs_iadd (by decide +kernel),
    gs_scrLd rfl (by decide +kernel),
    gs_callV (by decide +kernel) rfl rfl wd_995 wd_998 wd_996 wd_997 wd_12 mp_140 (by decide),
    gs_icmp_eq (off := 877) (by decide +kernel) (by decide),
    gs_iconst (n := 0) (by decide +kernel) (by decide),
    gs_iret (by decide +kernel),
    gs_aload_n (k := 1) (by decide +kernel) rfl,
    gs_aload_n (k := 0) (by decide +kernel) rfl,
    gs_iload_n (k := 3) (by decide +kernel) rfl,
    gs_iconst (n := 1) (by decide +kernel) (by decide),
    gs_iadd (by decide +kernel),
    gs_scrLd rfl (by decide +kernel),
    gs_aload_n (k := 0) (by decide +kernel) rfl,
    gs_iload_n (k := 3) (by decide +kernel) rfl,
    gs_iconst (n := 2) (by decide +kernel) (by decide),
    gs_iadd (by decide +kernel),
    gs_scrLd rfl (by decide +kernel),
    gs_callV (by decide +kernel) rfl rfl wd_376 wd_379 wd_377 wd_378 wd_1 mp_49 (by decide),
    gs_aload_n (k := 2) (by decide +kernel) rfl,
    gs_aload_n (k := 0) (by decide +kernel) rfl,
    gs_iload_n (k := 3) (by decide +kernel) rfl,
    gs_iconst (n := 1) (by decide +kernel) (by decide),
    gs_iadd (by decide +kernel),
    gs_scrLd rfl (by decide +kernel),
    gs_aload_n (k := 0) (by decide +kernel) rfl,
    gs_iload_n (k := 3) (by decide +kernel) rfl,
    gs_iconst (n := 2) (by decide +kernel) (by decide),
    gs_iadd (by decide +kernel),
    gs_scrLd rfl (by decide +kernel),
    gs_callV (by decide +kernel) rfl rfl wd_1003 wd_1006 wd_1004 wd_1005 wd_12 mp_142 (by decide),
    gs_icmp_eq (off := 844) (by decide +kernel) (by decide),
    gs_iconst (n := 0) (by decide +kernel) (by decide),
    gs_iret (by decide +kernel),
    gs_aload_n (k := 1) (by decide +kernel) rfl,
    gs_aload_n (k := 0) (by decide +kernel) rfl,
    gs_iload_n (k := 3) (by decide +kernel) rfl,
    gs_iconst (n := 1) (by decide +kernel) (by decide),
    gs_iadd (by decide +kernel),
    gs_scrLd rfl (by decide +kernel),
    gs_aload_n (k := 0) (by decide +kernel) rfl,
    gs_iload_n (k := 3) (by decide +kernel) rfl,
    gs_iconst (n := 2) (by decide +kernel) (by decide),
    gs_iadd (by decide +kernel),
    gs_scrLd rfl (by decide +kernel),
    gs_callV (by decide +kernel) rfl rfl wd_396 wd_399 wd_397 wd_398 wd_1 mp_50 (by decide),
    gs_aload_n (k := 2) (by decide +kernel) rfl,
    gs_aload_n (k := 0) (by decide +kernel) rfl,
    gs_iload_n (k := 3) (by decide +kernel) rfl,
    gs_iconst (n := 1) (by decide +kernel) (by decide),
    gs_iadd (by decide +kernel),
    gs_scrLd rfl (by decide +kernel),
    gs_aload_n (k := 0) (by decide +kernel) rfl,
    gs_iload_n (k := 3) (by decide +kernel) rfl,
    gs_iconst (n := 2) (by decide +kernel) (by decide),
    gs_iadd (by decide +kernel),
    gs_scrLd rfl (by decide +kernel),
    gs_callV (by decide +kernel) rfl rfl wd_1012 wd_1015 wd_1013 wd_1014 wd_12 mp_143 (by decide),
    gs_icmp_eq (off := 811) (by decide +kernel) (by decide),
    gs_iconst (n := 0) (by decide +kernel) (by decide),
    gs_iret (by decide +kernel),
    gs_aload_n (k := 1) (by decide +kernel) rfl,
    gs_aload_n (k := 0) (by decide +kernel) rfl,
    gs_iload_n (k := 3) (by decide +kernel) rfl,
    gs_iconst (n := 1) (by decide +kernel) (by decide),
    gs_iadd (by decide +kernel),
    gs_scrLd rfl (by decide +kernel),
    gs_aload_n (k := 0) (by decide +kernel) rfl,
    gs_iload_n (k := 3) (by decide +kernel) rfl,
    gs_iconst (n := 2) (by decide +kernel) (by decide),
    gs_iadd (by decide +kernel),
    gs_scrLd rfl (by decide +kernel),
    gs_aload_n (k := 0) (by decide +kernel) rfl,
    gs_iload_n (k := 3) (by decide +kernel) rfl,
    gs_iconst (n := 3) (by decide +kernel) (by decide),
    gs_iadd (by decide +kernel),
    gs_scrLd rfl (by decide +kernel),
    gs_callV (by decide +kernel) rfl rfl wd_400 wd_403 wd_401 wd_402 wd_1 mp_51 (by decide),
    gs_aload_n (k := 2) (by decide +kernel) rfl,
    gs_aload_n (k := 0) (by decide +kernel) rfl,
    gs_iload_n (k := 3) (by decide +kernel) rfl,
    gs_iconst (n := 1) (by decide +kernel) (by decide),
    gs_iadd (by decide +kernel),
    gs_scrLd rfl (by decide +kernel),
    gs_aload_n (k := 0) (by decide +kernel) rfl,
    gs_iload_n (k := 3) (by decide +kernel) rfl,
    gs_iconst (n := 2) (by decide +kernel) (by decide),
    gs_iadd (by decide +kernel),
    fun _ h => absurd h List.not_mem_nil⟩
def pLaw2 (L : Nat) (xs : Nat → Int32) : gProg := [(418, sScrLd L xs),
  (419, sLdA 0 1),
  (420, sLdI 3 1),
  (421, sPush (.int 3) 1),
  (422, sIadd),
  (423, sScrLd L xs),
  (424, sCallV 145 11 3),
  (427, sCmpeq 1195),
  (430, sPush (.int 0) 1),
  (431, sRetI),
  (432, sLdA 1 1),
  (433, sCallV 52 10 0),
  (436, sLdA 2 1),
  (437, sCallV 146 11 0),
  (440, sCmpeq 1195),
  (443, sPush (.int 0) 1),
  (444, sRetI),
  (445, sLdA 1 1),
  (446, sLdA 0 1),
  (447, sLdI 3 1),
  (448, sPush (.int 1) 1),
  (449, sIadd),
  (450, sScrLd L xs),
  (451, sCallV 53 10 1),
  (454, sLdA 2 1),
  (455, sLdA 0 1),
  (456, sLdI 3 1),
  (457, sPush (.int 1) 1),
  (458, sIadd),
  (459, sScrLd L xs),
  (460, sCallV 147 11 1),
  (463, sCmpeq 1195),
  (466, sPush (.int 0) 1),
  (467, sRetI),
  (468, sLdA 1 1),
  (469, sLdA 0 1),
  (470, sLdI 3 1),
  (471, sPush (.int 1) 1),
  (472, sIadd),
  (473, sScrLd L xs),
  (474, sLdA 0 1),
  (475, sLdI 3 1),
  (476, sPush (.int 2) 1),
  (477, sIadd),
  (478, sScrLd L xs),
  (479, sLdA 0 1),
  (480, sLdI 3 1),
  (481, sPush (.int 3) 1),
  (482, sIadd),
  (483, sScrLd L xs),
  (484, sCallV 54 10 3),
  (487, sLdA 2 1),
  (488, sLdA 0 1),
  (489, sLdI 3 1),
  (490, sPush (.int 1) 1),
  (491, sIadd),
  (492, sScrLd L xs),
  (493, sLdA 0 1),
  (494, sLdI 3 1),
  (495, sPush (.int 2) 1),
  (496, sIadd),
  (497, sScrLd L xs),
  (498, sLdA 0 1),
  (499, sLdI 3 1),
  (500, sPush (.int 3) 1),
  (501, sIadd),
  (502, sScrLd L xs),
  (503, sCallV 160 11 3),
  (506, sCmpeq 1195),
  (509, sPush (.int 0) 1),
  (510, sRetI),
  (511, sLdA 1 1),
  (512, sLdA 0 1),
  (513, sLdI 3 1),
  (514, sPush (.int 1) 1),
  (515, sIadd),
  (516, sScrLd L xs),
  (517, sLdA 0 1),
  (518, sLdI 3 1),
  (519, sPush (.int 2) 1),
  (520, sIadd),
  (521, sScrLd L xs),
  (522, sCallV 55 10 2),
  (525, sLdA 2 1),
  (526, sLdA 0 1),
  (527, sLdI 3 1),
  (528, sPush (.int 1) 1),
  (529, sIadd),
  (530, sScrLd L xs),
  (531, sLdA 0 1),
  (532, sLdI 3 1),
  (533, sPush (.int 2) 1),
  (534, sIadd),
  (535, sScrLd L xs),
  (536, sCallV 162 11 2),
  (539, sCmpeq 1195),
  (542, sPush (.int 0) 1),
  (543, sRetI),
  (544, sLdA 1 1),
  (545, sCallV 56 10 0)]
theorem kLaw2 (L : Nat) (xs : Nat → Int32) : ∀ q ∈ pLaw2 L xs, gSnd R_law code 4 (some (L, xs)) q.1 q.2 := by
  simp only [pLaw2, List.forall_mem_cons]
  exact ⟨gs_scrLd rfl (by decide +kernel),
    gs_aload_n (k := 0) (by decide +kernel) rfl,
    gs_iload_n (k := 3) (by decide +kernel) rfl,
    gs_iconst (n := 3) (by decide +kernel) (by decide),
    gs_iadd (by decide +kernel),
    gs_scrLd rfl (by decide +kernel),
    gs_callV (by decide +kernel) rfl rfl wd_1018 wd_1021 wd_1019 wd_1020 wd_12 mp_145 (by decide),
    gs_icmp_eq (off := 768) (by decide +kernel) (by decide),
    gs_iconst (n := 0) (by decide +kernel) (by decide),
    gs_iret (by decide +kernel),
    gs_aload_n (k := 1) (by decide +kernel) rfl,
    gs_callV (by decide +kernel) rfl rfl wd_414 wd_417 wd_415 wd_416 wd_1 mp_52 (by decide),
    gs_aload_n (k := 2) (by decide +kernel) rfl,
    gs_callV (by decide +kernel) rfl rfl wd_1031 wd_1034 wd_1032 wd_1033 wd_12 mp_146 (by decide),
    gs_icmp_eq (off := 755) (by decide +kernel) (by decide),
    gs_iconst (n := 0) (by decide +kernel) (by decide),
    gs_iret (by decide +kernel),
    gs_aload_n (k := 1) (by decide +kernel) rfl,
    gs_aload_n (k := 0) (by decide +kernel) rfl,
    gs_iload_n (k := 3) (by decide +kernel) rfl,
    gs_iconst (n := 1) (by decide +kernel) (by decide),
    gs_iadd (by decide +kernel),
    gs_scrLd rfl (by decide +kernel),
    gs_callV (by decide +kernel) rfl rfl wd_422 wd_425 wd_423 wd_424 wd_1 mp_53 (by decide),
    gs_aload_n (k := 2) (by decide +kernel) rfl,
    gs_aload_n (k := 0) (by decide +kernel) rfl,
    gs_iload_n (k := 3) (by decide +kernel) rfl,
    gs_iconst (n := 1) (by decide +kernel) (by decide),
    gs_iadd (by decide +kernel),
    gs_scrLd rfl (by decide +kernel),
    gs_callV (by decide +kernel) rfl rfl wd_1035 wd_1038 wd_1036 wd_1037 wd_12 mp_147 (by decide),
    gs_icmp_eq (off := 732) (by decide +kernel) (by decide),
    gs_iconst (n := 0) (by decide +kernel) (by decide),
    gs_iret (by decide +kernel),
    gs_aload_n (k := 1) (by decide +kernel) rfl,
    gs_aload_n (k := 0) (by decide +kernel) rfl,
    gs_iload_n (k := 3) (by decide +kernel) rfl,
    gs_iconst (n := 1) (by decide +kernel) (by decide),
    gs_iadd (by decide +kernel),
    gs_scrLd rfl (by decide +kernel),
    gs_aload_n (k := 0) (by decide +kernel) rfl,
    gs_iload_n (k := 3) (by decide +kernel) rfl,
    gs_iconst (n := 2) (by decide +kernel) (by decide),
    gs_iadd (by decide +kernel),
    gs_scrLd rfl (by decide +kernel),
    gs_aload_n (k := 0) (by decide +kernel) rfl,
    gs_iload_n (k := 3) (by decide +kernel) rfl,
    gs_iconst (n := 3) (by decide +kernel) (by decide),
    gs_iadd (by decide +kernel),
    gs_scrLd rfl (by decide +kernel),
    gs_callV (by decide +kernel) rfl rfl wd_445 wd_448 wd_446 wd_447 wd_1 mp_54 (by decide),
    gs_aload_n (k := 2) (by decide +kernel) rfl,
    gs_aload_n (k := 0) (by decide +kernel) rfl,
    gs_iload_n (k := 3) (by decide +kernel) rfl,
    gs_iconst (n := 1) (by decide +kernel) (by decide),
    gs_iadd (by decide +kernel),
    gs_scrLd rfl (by decide +kernel),
    gs_aload_n (k := 0) (by decide +kernel) rfl,
    gs_iload_n (k := 3) (by decide +kernel) rfl,
    gs_iconst (n := 2) (by decide +kernel) (by decide),
    gs_iadd (by decide +kernel),
    gs_scrLd rfl (by decide +kernel),
    gs_aload_n (k := 0) (by decide +kernel) rfl,
    gs_iload_n (k := 3) (by decide +kernel) rfl,
    gs_iconst (n := 3) (by decide +kernel) (by decide),
    gs_iadd (by decide +kernel),
    gs_scrLd rfl (by decide +kernel),
    gs_callV (by decide +kernel) rfl rfl wd_1040 wd_1043 wd_1041 wd_1042 wd_12 mp_160 (by decide),
    gs_icmp_eq (off := 689) (by decide +kernel) (by decide),
    gs_iconst (n := 0) (by decide +kernel) (by decide),
    gs_iret (by decide +kernel),
    gs_aload_n (k := 1) (by decide +kernel) rfl,
    gs_aload_n (k := 0) (by decide +kernel) rfl,
    gs_iload_n (k := 3) (by decide +kernel) rfl,
    gs_iconst (n := 1) (by decide +kernel) (by decide),
    gs_iadd (by decide +kernel),
    gs_scrLd rfl (by decide +kernel),
    gs_aload_n (k := 0) (by decide +kernel) rfl,
    gs_iload_n (k := 3) (by decide +kernel) rfl,
    gs_iconst (n := 2) (by decide +kernel) (by decide),
    gs_iadd (by decide +kernel),
    gs_scrLd rfl (by decide +kernel),
    gs_callV (by decide +kernel) rfl rfl wd_477 wd_480 wd_478 wd_479 wd_1 mp_55 (by decide),
    gs_aload_n (k := 2) (by decide +kernel) rfl,
    gs_aload_n (k := 0) (by decide +kernel) rfl,
    gs_iload_n (k := 3) (by decide +kernel) rfl,
    gs_iconst (n := 1) (by decide +kernel) (by decide),
    gs_iadd (by decide +kernel),
    gs_scrLd rfl (by decide +kernel),
    gs_aload_n (k := 0) (by decide +kernel) rfl,
    gs_iload_n (k := 3) (by decide +kernel) rfl,
    gs_iconst (n := 2) (by decide +kernel) (by decide),
    gs_iadd (by decide +kernel),
    gs_scrLd rfl (by decide +kernel),
    gs_callV (by decide +kernel) rfl rfl wd_1093 wd_1096 wd_1094 wd_1095 wd_12 mp_162 (by decide),
    gs_icmp_eq (off := 656) (by decide +kernel) (by decide),
    gs_iconst (n := 0) (by decide +kernel) (by decide),
    gs_iret (by decide +kernel),
    gs_aload_n (k := 1) (by decide +kernel) rfl,
    gs_callV (by decide +kernel) rfl rfl wd_540 wd_543 wd_541 wd_542 wd_1 mp_56 (by decide),
    fun _ h => absurd h List.not_mem_nil⟩
def pLaw3 (L : Nat) (xs : Nat → Int32) : gProg := [(548, sLdA 2 1),
  (549, sCallV 164 11 0),
  (552, sCmpeq 1195),
  (555, sPush (.int 0) 1),
  (556, sRetI),
  (557, sLdA 1 1),
  (558, sCallV 57 10 0),
  (561, sLdA 2 1),
  (562, sCallV 166 11 0),
  (565, sCmpeq 1195),
  (568, sPush (.int 0) 1),
  (569, sRetI),
  (570, sLdA 1 1),
  (571, sCallV 58 10 0),
  (574, sLdA 2 1),
  (575, sCallV 168 11 0),
  (578, sCmpeq 1195),
  (581, sPush (.int 0) 1),
  (582, sRetI),
  (583, sLdA 1 1),
  (584, sLdA 0 1),
  (585, sLdI 3 1),
  (586, sPush (.int 1) 1),
  (587, sIadd),
  (588, sScrLd L xs),
  (589, sCallV 59 10 1),
  (592, sLdA 2 1),
  (593, sLdA 0 1),
  (594, sLdI 3 1),
  (595, sPush (.int 1) 1),
  (596, sIadd),
  (597, sScrLd L xs),
  (598, sCallV 170 11 1),
  (601, sCmpeq 1195),
  (604, sPush (.int 0) 1),
  (605, sRetI),
  (606, sLdA 1 1),
  (607, sLdA 0 1),
  (608, sLdI 3 1),
  (609, sPush (.int 1) 1),
  (610, sIadd),
  (611, sScrLd L xs),
  (612, sCallV 60 10 1),
  (615, sLdA 2 1),
  (616, sLdA 0 1),
  (617, sLdI 3 1),
  (618, sPush (.int 1) 1),
  (619, sIadd),
  (620, sScrLd L xs),
  (621, sCallV 172 11 1),
  (624, sCmpeq 1195),
  (627, sPush (.int 0) 1),
  (628, sRetI),
  (629, sLdA 1 1),
  (630, sLdA 0 1),
  (631, sLdI 3 1),
  (632, sPush (.int 1) 1),
  (633, sIadd),
  (634, sScrLd L xs),
  (635, sCallV 61 10 1),
  (638, sLdA 2 1),
  (639, sLdA 0 1),
  (640, sLdI 3 1),
  (641, sPush (.int 1) 1),
  (642, sIadd),
  (643, sScrLd L xs),
  (644, sCallV 174 11 1),
  (647, sCmpeq 1195),
  (650, sPush (.int 0) 1),
  (651, sRetI),
  (652, sLdA 1 1),
  (653, sLdA 0 1),
  (654, sLdI 3 1),
  (655, sPush (.int 1) 1),
  (656, sIadd),
  (657, sScrLd L xs),
  (658, sCallV 62 10 1),
  (661, sLdA 2 1),
  (662, sLdA 0 1),
  (663, sLdI 3 1),
  (664, sPush (.int 1) 1),
  (665, sIadd),
  (666, sScrLd L xs),
  (667, sCallV 177 11 1),
  (670, sCmpeq 1195),
  (673, sPush (.int 0) 1),
  (674, sRetI),
  (675, sLdA 1 1),
  (676, sLdA 0 1),
  (677, sLdI 3 1),
  (678, sPush (.int 1) 1),
  (679, sIadd),
  (680, sScrLd L xs),
  (681, sCallV 63 10 1),
  (684, sLdA 2 1),
  (685, sLdA 0 1),
  (686, sLdI 3 1),
  (687, sPush (.int 1) 1),
  (688, sIadd),
  (689, sScrLd L xs)]
theorem kLaw3 (L : Nat) (xs : Nat → Int32) : ∀ q ∈ pLaw3 L xs, gSnd R_law code 4 (some (L, xs)) q.1 q.2 := by
  simp only [pLaw3, List.forall_mem_cons]
  exact ⟨gs_aload_n (k := 2) (by decide +kernel) rfl,
    gs_callV (by decide +kernel) rfl rfl wd_1101 wd_1104 wd_1102 wd_1103 wd_12 mp_164 (by decide),
    gs_icmp_eq (off := 643) (by decide +kernel) (by decide),
    gs_iconst (n := 0) (by decide +kernel) (by decide),
    gs_iret (by decide +kernel),
    gs_aload_n (k := 1) (by decide +kernel) rfl,
    gs_callV (by decide +kernel) rfl rfl wd_544 wd_547 wd_545 wd_546 wd_1 mp_57 (by decide),
    gs_aload_n (k := 2) (by decide +kernel) rfl,
    gs_callV (by decide +kernel) rfl rfl wd_1109 wd_1112 wd_1110 wd_1111 wd_12 mp_166 (by decide),
    gs_icmp_eq (off := 630) (by decide +kernel) (by decide),
    gs_iconst (n := 0) (by decide +kernel) (by decide),
    gs_iret (by decide +kernel),
    gs_aload_n (k := 1) (by decide +kernel) rfl,
    gs_callV (by decide +kernel) rfl rfl wd_548 wd_551 wd_549 wd_550 wd_1 mp_58 (by decide),
    gs_aload_n (k := 2) (by decide +kernel) rfl,
    gs_callV (by decide +kernel) rfl rfl wd_1117 wd_1120 wd_1118 wd_1119 wd_12 mp_168 (by decide),
    gs_icmp_eq (off := 617) (by decide +kernel) (by decide),
    gs_iconst (n := 0) (by decide +kernel) (by decide),
    gs_iret (by decide +kernel),
    gs_aload_n (k := 1) (by decide +kernel) rfl,
    gs_aload_n (k := 0) (by decide +kernel) rfl,
    gs_iload_n (k := 3) (by decide +kernel) rfl,
    gs_iconst (n := 1) (by decide +kernel) (by decide),
    gs_iadd (by decide +kernel),
    gs_scrLd rfl (by decide +kernel),
    gs_callV (by decide +kernel) rfl rfl wd_552 wd_555 wd_553 wd_554 wd_1 mp_59 (by decide),
    gs_aload_n (k := 2) (by decide +kernel) rfl,
    gs_aload_n (k := 0) (by decide +kernel) rfl,
    gs_iload_n (k := 3) (by decide +kernel) rfl,
    gs_iconst (n := 1) (by decide +kernel) (by decide),
    gs_iadd (by decide +kernel),
    gs_scrLd rfl (by decide +kernel),
    gs_callV (by decide +kernel) rfl rfl wd_1125 wd_1128 wd_1126 wd_1127 wd_12 mp_170 (by decide),
    gs_icmp_eq (off := 594) (by decide +kernel) (by decide),
    gs_iconst (n := 0) (by decide +kernel) (by decide),
    gs_iret (by decide +kernel),
    gs_aload_n (k := 1) (by decide +kernel) rfl,
    gs_aload_n (k := 0) (by decide +kernel) rfl,
    gs_iload_n (k := 3) (by decide +kernel) rfl,
    gs_iconst (n := 1) (by decide +kernel) (by decide),
    gs_iadd (by decide +kernel),
    gs_scrLd rfl (by decide +kernel),
    gs_callV (by decide +kernel) rfl rfl wd_563 wd_566 wd_564 wd_565 wd_1 mp_60 (by decide),
    gs_aload_n (k := 2) (by decide +kernel) rfl,
    gs_aload_n (k := 0) (by decide +kernel) rfl,
    gs_iload_n (k := 3) (by decide +kernel) rfl,
    gs_iconst (n := 1) (by decide +kernel) (by decide),
    gs_iadd (by decide +kernel),
    gs_scrLd rfl (by decide +kernel),
    gs_callV (by decide +kernel) rfl rfl wd_1136 wd_1139 wd_1137 wd_1138 wd_12 mp_172 (by decide),
    gs_icmp_eq (off := 571) (by decide +kernel) (by decide),
    gs_iconst (n := 0) (by decide +kernel) (by decide),
    gs_iret (by decide +kernel),
    gs_aload_n (k := 1) (by decide +kernel) rfl,
    gs_aload_n (k := 0) (by decide +kernel) rfl,
    gs_iload_n (k := 3) (by decide +kernel) rfl,
    gs_iconst (n := 1) (by decide +kernel) (by decide),
    gs_iadd (by decide +kernel),
    gs_scrLd rfl (by decide +kernel),
    gs_callV (by decide +kernel) rfl rfl wd_571 wd_574 wd_572 wd_573 wd_1 mp_61 (by decide),
    gs_aload_n (k := 2) (by decide +kernel) rfl,
    gs_aload_n (k := 0) (by decide +kernel) rfl,
    gs_iload_n (k := 3) (by decide +kernel) rfl,
    gs_iconst (n := 1) (by decide +kernel) (by decide),
    gs_iadd (by decide +kernel),
    gs_scrLd rfl (by decide +kernel),
    gs_callV (by decide +kernel) rfl rfl wd_1150 wd_1153 wd_1151 wd_1152 wd_12 mp_174 (by decide),
    gs_icmp_eq (off := 548) (by decide +kernel) (by decide),
    gs_iconst (n := 0) (by decide +kernel) (by decide),
    gs_iret (by decide +kernel),
    gs_aload_n (k := 1) (by decide +kernel) rfl,
    gs_aload_n (k := 0) (by decide +kernel) rfl,
    gs_iload_n (k := 3) (by decide +kernel) rfl,
    gs_iconst (n := 1) (by decide +kernel) (by decide),
    gs_iadd (by decide +kernel),
    gs_scrLd rfl (by decide +kernel),
    gs_callV (by decide +kernel) rfl rfl wd_583 wd_586 wd_584 wd_585 wd_1 mp_62 (by decide),
    gs_aload_n (k := 2) (by decide +kernel) rfl,
    gs_aload_n (k := 0) (by decide +kernel) rfl,
    gs_iload_n (k := 3) (by decide +kernel) rfl,
    gs_iconst (n := 1) (by decide +kernel) (by decide),
    gs_iadd (by decide +kernel),
    gs_scrLd rfl (by decide +kernel),
    gs_callV (by decide +kernel) rfl rfl wd_1158 wd_1161 wd_1159 wd_1160 wd_12 mp_177 (by decide),
    gs_icmp_eq (off := 525) (by decide +kernel) (by decide),
    gs_iconst (n := 0) (by decide +kernel) (by decide),
    gs_iret (by decide +kernel),
    gs_aload_n (k := 1) (by decide +kernel) rfl,
    gs_aload_n (k := 0) (by decide +kernel) rfl,
    gs_iload_n (k := 3) (by decide +kernel) rfl,
    gs_iconst (n := 1) (by decide +kernel) (by decide),
    gs_iadd (by decide +kernel),
    gs_scrLd rfl (by decide +kernel),
    gs_callV (by decide +kernel) rfl rfl wd_594 wd_597 wd_595 wd_596 wd_1 mp_63 (by decide),
    gs_aload_n (k := 2) (by decide +kernel) rfl,
    gs_aload_n (k := 0) (by decide +kernel) rfl,
    gs_iload_n (k := 3) (by decide +kernel) rfl,
    gs_iconst (n := 1) (by decide +kernel) (by decide),
    gs_iadd (by decide +kernel),
    gs_scrLd rfl (by decide +kernel),
    fun _ h => absurd h List.not_mem_nil⟩
def pLaw4 (L : Nat) (xs : Nat → Int32) : gProg := [(690, sCallV 179 11 1),
  (693, sCmpeq 1195),
  (696, sPush (.int 0) 1),
  (697, sRetI),
  (698, sLdA 1 1),
  (699, sLdA 0 1),
  (700, sLdI 3 1),
  (701, sPush (.int 1) 1),
  (702, sIadd),
  (703, sScrLd L xs),
  (704, sLdA 0 1),
  (705, sLdI 3 1),
  (706, sPush (.int 2) 1),
  (707, sIadd),
  (708, sScrLd L xs),
  (709, sLdA 0 1),
  (710, sLdI 3 1),
  (711, sPush (.int 3) 1),
  (712, sIadd),
  (713, sScrLd L xs),
  (714, sCallV 64 10 3),
  (717, sLdA 2 1),
  (718, sLdA 0 1),
  (719, sLdI 3 1),
  (720, sPush (.int 1) 1),
  (721, sIadd),
  (722, sScrLd L xs),
  (723, sLdA 0 1),
  (724, sLdI 3 1),
  (725, sPush (.int 2) 1),
  (726, sIadd),
  (727, sScrLd L xs),
  (728, sLdA 0 1),
  (729, sLdI 3 1),
  (730, sPush (.int 3) 1),
  (731, sIadd),
  (732, sScrLd L xs),
  (733, sCallV 180 11 3),
  (736, sCmpeq 1195),
  (739, sPush (.int 0) 1),
  (740, sRetI),
  (741, sLdA 1 1),
  (742, sCallV 65 10 0),
  (745, sLdA 2 1),
  (746, sCallV 181 11 0),
  (749, sCmpeq 1195),
  (752, sPush (.int 0) 1),
  (753, sRetI),
  (754, sLdA 1 1),
  (755, sCallV 66 10 0),
  (758, sLdA 2 1),
  (759, sCallV 184 11 0),
  (762, sCmpeq 1195),
  (765, sPush (.int 0) 1),
  (766, sRetI),
  (767, sLdA 1 1),
  (768, sLdA 0 1),
  (769, sLdI 3 1),
  (770, sPush (.int 1) 1),
  (771, sIadd),
  (772, sScrLd L xs),
  (773, sLdA 0 1),
  (774, sLdI 3 1),
  (775, sPush (.int 2) 1),
  (776, sIadd),
  (777, sScrLd L xs),
  (778, sCallV 67 10 2),
  (781, sLdA 2 1),
  (782, sLdA 0 1),
  (783, sLdI 3 1),
  (784, sPush (.int 1) 1),
  (785, sIadd),
  (786, sScrLd L xs),
  (787, sLdA 0 1),
  (788, sLdI 3 1),
  (789, sPush (.int 2) 1),
  (790, sIadd),
  (791, sScrLd L xs),
  (792, sCallV 188 11 2),
  (795, sCmpeq 1195),
  (798, sPush (.int 0) 1),
  (799, sRetI),
  (800, sLdA 1 1),
  (801, sLdA 0 1),
  (802, sLdI 3 1),
  (803, sPush (.int 1) 1),
  (804, sIadd),
  (805, sScrLd L xs),
  (806, sCallV 68 10 1),
  (809, sLdA 2 1),
  (810, sLdA 0 1),
  (811, sLdI 3 1),
  (812, sPush (.int 1) 1),
  (813, sIadd),
  (814, sScrLd L xs),
  (815, sCallV 190 11 1),
  (818, sCmpeq 1195),
  (821, sPush (.int 0) 1),
  (822, sRetI),
  (823, sLdA 1 1)]
theorem kLaw4 (L : Nat) (xs : Nat → Int32) : ∀ q ∈ pLaw4 L xs, gSnd R_law code 4 (some (L, xs)) q.1 q.2 := by
  simp only [pLaw4, List.forall_mem_cons]
  exact ⟨gs_callV (by decide +kernel) rfl rfl wd_1171 wd_1174 wd_1172 wd_1173 wd_12 mp_179 (by decide),
    gs_icmp_eq (off := 502) (by decide +kernel) (by decide),
    gs_iconst (n := 0) (by decide +kernel) (by decide),
    gs_iret (by decide +kernel),
    gs_aload_n (k := 1) (by decide +kernel) rfl,
    gs_aload_n (k := 0) (by decide +kernel) rfl,
    gs_iload_n (k := 3) (by decide +kernel) rfl,
    gs_iconst (n := 1) (by decide +kernel) (by decide),
    gs_iadd (by decide +kernel),
    gs_scrLd rfl (by decide +kernel),
    gs_aload_n (k := 0) (by decide +kernel) rfl,
    gs_iload_n (k := 3) (by decide +kernel) rfl,
    gs_iconst (n := 2) (by decide +kernel) (by decide),
    gs_iadd (by decide +kernel),
    gs_scrLd rfl (by decide +kernel),
    gs_aload_n (k := 0) (by decide +kernel) rfl,
    gs_iload_n (k := 3) (by decide +kernel) rfl,
    gs_iconst (n := 3) (by decide +kernel) (by decide),
    gs_iadd (by decide +kernel),
    gs_scrLd rfl (by decide +kernel),
    gs_callV (by decide +kernel) rfl rfl wd_602 wd_605 wd_603 wd_604 wd_1 mp_64 (by decide),
    gs_aload_n (k := 2) (by decide +kernel) rfl,
    gs_aload_n (k := 0) (by decide +kernel) rfl,
    gs_iload_n (k := 3) (by decide +kernel) rfl,
    gs_iconst (n := 1) (by decide +kernel) (by decide),
    gs_iadd (by decide +kernel),
    gs_scrLd rfl (by decide +kernel),
    gs_aload_n (k := 0) (by decide +kernel) rfl,
    gs_iload_n (k := 3) (by decide +kernel) rfl,
    gs_iconst (n := 2) (by decide +kernel) (by decide),
    gs_iadd (by decide +kernel),
    gs_scrLd rfl (by decide +kernel),
    gs_aload_n (k := 0) (by decide +kernel) rfl,
    gs_iload_n (k := 3) (by decide +kernel) rfl,
    gs_iconst (n := 3) (by decide +kernel) (by decide),
    gs_iadd (by decide +kernel),
    gs_scrLd rfl (by decide +kernel),
    gs_callV (by decide +kernel) rfl rfl wd_1179 wd_1182 wd_1180 wd_1181 wd_12 mp_180 (by decide),
    gs_icmp_eq (off := 459) (by decide +kernel) (by decide),
    gs_iconst (n := 0) (by decide +kernel) (by decide),
    gs_iret (by decide +kernel),
    gs_aload_n (k := 1) (by decide +kernel) rfl,
    gs_callV (by decide +kernel) rfl rfl wd_610 wd_613 wd_611 wd_612 wd_1 mp_65 (by decide),
    gs_aload_n (k := 2) (by decide +kernel) rfl,
    gs_callV (by decide +kernel) rfl rfl wd_1184 wd_1187 wd_1185 wd_1186 wd_12 mp_181 (by decide),
    gs_icmp_eq (off := 446) (by decide +kernel) (by decide),
    gs_iconst (n := 0) (by decide +kernel) (by decide),
    gs_iret (by decide +kernel),
    gs_aload_n (k := 1) (by decide +kernel) rfl,
    gs_callV (by decide +kernel) rfl rfl wd_618 wd_621 wd_619 wd_620 wd_1 mp_66 (by decide),
    gs_aload_n (k := 2) (by decide +kernel) rfl,
    gs_callV (by decide +kernel) rfl rfl wd_1188 wd_1191 wd_1189 wd_1190 wd_12 mp_184 (by decide),
    gs_icmp_eq (off := 433) (by decide +kernel) (by decide),
    gs_iconst (n := 0) (by decide +kernel) (by decide),
    gs_iret (by decide +kernel),
    gs_aload_n (k := 1) (by decide +kernel) rfl,
    gs_aload_n (k := 0) (by decide +kernel) rfl,
    gs_iload_n (k := 3) (by decide +kernel) rfl,
    gs_iconst (n := 1) (by decide +kernel) (by decide),
    gs_iadd (by decide +kernel),
    gs_scrLd rfl (by decide +kernel),
    gs_aload_n (k := 0) (by decide +kernel) rfl,
    gs_iload_n (k := 3) (by decide +kernel) rfl,
    gs_iconst (n := 2) (by decide +kernel) (by decide),
    gs_iadd (by decide +kernel),
    gs_scrLd rfl (by decide +kernel),
    gs_callV (by decide +kernel) rfl rfl wd_628 wd_631 wd_629 wd_630 wd_1 mp_67 (by decide),
    gs_aload_n (k := 2) (by decide +kernel) rfl,
    gs_aload_n (k := 0) (by decide +kernel) rfl,
    gs_iload_n (k := 3) (by decide +kernel) rfl,
    gs_iconst (n := 1) (by decide +kernel) (by decide),
    gs_iadd (by decide +kernel),
    gs_scrLd rfl (by decide +kernel),
    gs_aload_n (k := 0) (by decide +kernel) rfl,
    gs_iload_n (k := 3) (by decide +kernel) rfl,
    gs_iconst (n := 2) (by decide +kernel) (by decide),
    gs_iadd (by decide +kernel),
    gs_scrLd rfl (by decide +kernel),
    gs_callV (by decide +kernel) rfl rfl wd_1200 wd_1203 wd_1201 wd_1202 wd_12 mp_188 (by decide),
    gs_icmp_eq (off := 400) (by decide +kernel) (by decide),
    gs_iconst (n := 0) (by decide +kernel) (by decide),
    gs_iret (by decide +kernel),
    gs_aload_n (k := 1) (by decide +kernel) rfl,
    gs_aload_n (k := 0) (by decide +kernel) rfl,
    gs_iload_n (k := 3) (by decide +kernel) rfl,
    gs_iconst (n := 1) (by decide +kernel) (by decide),
    gs_iadd (by decide +kernel),
    gs_scrLd rfl (by decide +kernel),
    gs_callV (by decide +kernel) rfl rfl wd_641 wd_644 wd_642 wd_643 wd_1 mp_68 (by decide),
    gs_aload_n (k := 2) (by decide +kernel) rfl,
    gs_aload_n (k := 0) (by decide +kernel) rfl,
    gs_iload_n (k := 3) (by decide +kernel) rfl,
    gs_iconst (n := 1) (by decide +kernel) (by decide),
    gs_iadd (by decide +kernel),
    gs_scrLd rfl (by decide +kernel),
    gs_callV (by decide +kernel) rfl rfl wd_1216 wd_1219 wd_1217 wd_1218 wd_12 mp_190 (by decide),
    gs_icmp_eq (off := 377) (by decide +kernel) (by decide),
    gs_iconst (n := 0) (by decide +kernel) (by decide),
    gs_iret (by decide +kernel),
    gs_aload_n (k := 1) (by decide +kernel) rfl,
    fun _ h => absurd h List.not_mem_nil⟩
def pLaw5 (L : Nat) (xs : Nat → Int32) : gProg := [(824, sLdA 0 1),
  (825, sLdI 3 1),
  (826, sPush (.int 1) 1),
  (827, sIadd),
  (828, sScrLd L xs),
  (829, sLdA 0 1),
  (830, sLdI 3 1),
  (831, sPush (.int 2) 1),
  (832, sIadd),
  (833, sScrLd L xs),
  (834, sLdA 0 1),
  (835, sLdI 3 1),
  (836, sPush (.int 3) 1),
  (837, sIadd),
  (838, sScrLd L xs),
  (839, sCallV 69 10 3),
  (842, sLdA 2 1),
  (843, sLdA 0 1),
  (844, sLdI 3 1),
  (845, sPush (.int 1) 1),
  (846, sIadd),
  (847, sScrLd L xs),
  (848, sLdA 0 1),
  (849, sLdI 3 1),
  (850, sPush (.int 2) 1),
  (851, sIadd),
  (852, sScrLd L xs),
  (853, sLdA 0 1),
  (854, sLdI 3 1),
  (855, sPush (.int 3) 1),
  (856, sIadd),
  (857, sScrLd L xs),
  (858, sCallV 192 11 3),
  (861, sLcmp),
  (862, sIfeq 1195),
  (865, sPush (.int 0) 1),
  (866, sRetI),
  (867, sLdA 1 1),
  (868, sLdA 0 1),
  (869, sLdI 3 1),
  (870, sPush (.int 1) 1),
  (871, sIadd),
  (872, sScrLd L xs),
  (873, sLdA 0 1),
  (874, sLdI 3 1),
  (875, sPush (.int 2) 1),
  (876, sIadd),
  (877, sScrLd L xs),
  (878, sLdA 0 1),
  (879, sLdI 3 1),
  (880, sPush (.int 3) 1),
  (881, sIadd),
  (882, sScrLd L xs),
  (883, sCallV 70 10 3),
  (886, sLdA 2 1),
  (887, sLdA 0 1),
  (888, sLdI 3 1),
  (889, sPush (.int 1) 1),
  (890, sIadd),
  (891, sScrLd L xs),
  (892, sLdA 0 1),
  (893, sLdI 3 1),
  (894, sPush (.int 2) 1),
  (895, sIadd),
  (896, sScrLd L xs),
  (897, sLdA 0 1),
  (898, sLdI 3 1),
  (899, sPush (.int 3) 1),
  (900, sIadd),
  (901, sScrLd L xs),
  (902, sCallV 195 11 3),
  (905, sCmpeq 1195),
  (908, sPush (.int 0) 1),
  (909, sRetI),
  (910, sLdA 1 1),
  (911, sLdA 0 1),
  (912, sLdI 3 1),
  (913, sPush (.int 1) 1),
  (914, sIadd),
  (915, sScrLd L xs),
  (916, sLdA 0 1),
  (917, sLdI 3 1),
  (918, sPush (.int 2) 1),
  (919, sIadd),
  (920, sScrLd L xs),
  (921, sLdA 0 1),
  (922, sLdI 3 1),
  (923, sPush (.int 3) 1),
  (924, sIadd),
  (925, sScrLd L xs),
  (926, sCallV 71 10 3),
  (929, sLdA 2 1),
  (930, sLdA 0 1),
  (931, sLdI 3 1),
  (932, sPush (.int 1) 1),
  (933, sIadd),
  (934, sScrLd L xs),
  (935, sLdA 0 1),
  (936, sLdI 3 1),
  (937, sPush (.int 2) 1)]
theorem kLaw5 (L : Nat) (xs : Nat → Int32) : ∀ q ∈ pLaw5 L xs, gSnd R_law code 4 (some (L, xs)) q.1 q.2 := by
  simp only [pLaw5, List.forall_mem_cons]
  exact ⟨gs_aload_n (k := 0) (by decide +kernel) rfl,
    gs_iload_n (k := 3) (by decide +kernel) rfl,
    gs_iconst (n := 1) (by decide +kernel) (by decide),
    gs_iadd (by decide +kernel),
    gs_scrLd rfl (by decide +kernel),
    gs_aload_n (k := 0) (by decide +kernel) rfl,
    gs_iload_n (k := 3) (by decide +kernel) rfl,
    gs_iconst (n := 2) (by decide +kernel) (by decide),
    gs_iadd (by decide +kernel),
    gs_scrLd rfl (by decide +kernel),
    gs_aload_n (k := 0) (by decide +kernel) rfl,
    gs_iload_n (k := 3) (by decide +kernel) rfl,
    gs_iconst (n := 3) (by decide +kernel) (by decide),
    gs_iadd (by decide +kernel),
    gs_scrLd rfl (by decide +kernel),
    gs_callV (by decide +kernel) rfl rfl wd_651 wd_654 wd_652 wd_653 wd_1 mp_69 (by decide),
    gs_aload_n (k := 2) (by decide +kernel) rfl,
    gs_aload_n (k := 0) (by decide +kernel) rfl,
    gs_iload_n (k := 3) (by decide +kernel) rfl,
    gs_iconst (n := 1) (by decide +kernel) (by decide),
    gs_iadd (by decide +kernel),
    gs_scrLd rfl (by decide +kernel),
    gs_aload_n (k := 0) (by decide +kernel) rfl,
    gs_iload_n (k := 3) (by decide +kernel) rfl,
    gs_iconst (n := 2) (by decide +kernel) (by decide),
    gs_iadd (by decide +kernel),
    gs_scrLd rfl (by decide +kernel),
    gs_aload_n (k := 0) (by decide +kernel) rfl,
    gs_iload_n (k := 3) (by decide +kernel) rfl,
    gs_iconst (n := 3) (by decide +kernel) (by decide),
    gs_iadd (by decide +kernel),
    gs_scrLd rfl (by decide +kernel),
    gs_callV (by decide +kernel) rfl rfl wd_1224 wd_1227 wd_1225 wd_1226 wd_12 mp_192 (by decide),
    gs_lcmp (by decide +kernel),
    gs_if_eq (off := 333) (by decide +kernel) (by decide),
    gs_iconst (n := 0) (by decide +kernel) (by decide),
    gs_iret (by decide +kernel),
    gs_aload_n (k := 1) (by decide +kernel) rfl,
    gs_aload_n (k := 0) (by decide +kernel) rfl,
    gs_iload_n (k := 3) (by decide +kernel) rfl,
    gs_iconst (n := 1) (by decide +kernel) (by decide),
    gs_iadd (by decide +kernel),
    gs_scrLd rfl (by decide +kernel),
    gs_aload_n (k := 0) (by decide +kernel) rfl,
    gs_iload_n (k := 3) (by decide +kernel) rfl,
    gs_iconst (n := 2) (by decide +kernel) (by decide),
    gs_iadd (by decide +kernel),
    gs_scrLd rfl (by decide +kernel),
    gs_aload_n (k := 0) (by decide +kernel) rfl,
    gs_iload_n (k := 3) (by decide +kernel) rfl,
    gs_iconst (n := 3) (by decide +kernel) (by decide),
    gs_iadd (by decide +kernel),
    gs_scrLd rfl (by decide +kernel),
    gs_callV (by decide +kernel) rfl rfl wd_678 wd_681 wd_679 wd_680 wd_1 mp_70 (by decide),
    gs_aload_n (k := 2) (by decide +kernel) rfl,
    gs_aload_n (k := 0) (by decide +kernel) rfl,
    gs_iload_n (k := 3) (by decide +kernel) rfl,
    gs_iconst (n := 1) (by decide +kernel) (by decide),
    gs_iadd (by decide +kernel),
    gs_scrLd rfl (by decide +kernel),
    gs_aload_n (k := 0) (by decide +kernel) rfl,
    gs_iload_n (k := 3) (by decide +kernel) rfl,
    gs_iconst (n := 2) (by decide +kernel) (by decide),
    gs_iadd (by decide +kernel),
    gs_scrLd rfl (by decide +kernel),
    gs_aload_n (k := 0) (by decide +kernel) rfl,
    gs_iload_n (k := 3) (by decide +kernel) rfl,
    gs_iconst (n := 3) (by decide +kernel) (by decide),
    gs_iadd (by decide +kernel),
    gs_scrLd rfl (by decide +kernel),
    gs_callV (by decide +kernel) rfl rfl wd_1240 wd_1243 wd_1241 wd_1242 wd_12 mp_195 (by decide),
    gs_icmp_eq (off := 290) (by decide +kernel) (by decide),
    gs_iconst (n := 0) (by decide +kernel) (by decide),
    gs_iret (by decide +kernel),
    gs_aload_n (k := 1) (by decide +kernel) rfl,
    gs_aload_n (k := 0) (by decide +kernel) rfl,
    gs_iload_n (k := 3) (by decide +kernel) rfl,
    gs_iconst (n := 1) (by decide +kernel) (by decide),
    gs_iadd (by decide +kernel),
    gs_scrLd rfl (by decide +kernel),
    gs_aload_n (k := 0) (by decide +kernel) rfl,
    gs_iload_n (k := 3) (by decide +kernel) rfl,
    gs_iconst (n := 2) (by decide +kernel) (by decide),
    gs_iadd (by decide +kernel),
    gs_scrLd rfl (by decide +kernel),
    gs_aload_n (k := 0) (by decide +kernel) rfl,
    gs_iload_n (k := 3) (by decide +kernel) rfl,
    gs_iconst (n := 3) (by decide +kernel) (by decide),
    gs_iadd (by decide +kernel),
    gs_scrLd rfl (by decide +kernel),
    gs_callV (by decide +kernel) rfl rfl wd_695 wd_698 wd_696 wd_697 wd_1 mp_71 (by decide),
    gs_aload_n (k := 2) (by decide +kernel) rfl,
    gs_aload_n (k := 0) (by decide +kernel) rfl,
    gs_iload_n (k := 3) (by decide +kernel) rfl,
    gs_iconst (n := 1) (by decide +kernel) (by decide),
    gs_iadd (by decide +kernel),
    gs_scrLd rfl (by decide +kernel),
    gs_aload_n (k := 0) (by decide +kernel) rfl,
    gs_iload_n (k := 3) (by decide +kernel) rfl,
    gs_iconst (n := 2) (by decide +kernel) (by decide),
    fun _ h => absurd h List.not_mem_nil⟩
def pLaw6 (L : Nat) (xs : Nat → Int32) : gProg := [(938, sIadd),
  (939, sScrLd L xs),
  (940, sLdA 0 1),
  (941, sLdI 3 1),
  (942, sPush (.int 3) 1),
  (943, sIadd),
  (944, sScrLd L xs),
  (945, sCallV 121 11 3),
  (948, sCmpeq 1195),
  (951, sPush (.int 0) 1),
  (952, sRetI),
  (953, sLdA 1 1),
  (954, sLdA 0 1),
  (955, sLdI 3 1),
  (956, sPush (.int 1) 1),
  (957, sIadd),
  (958, sScrLd L xs),
  (959, sCallV 72 10 1),
  (962, sLdA 2 1),
  (963, sLdA 0 1),
  (964, sLdI 3 1),
  (965, sPush (.int 1) 1),
  (966, sIadd),
  (967, sScrLd L xs),
  (968, sCallV 122 11 1),
  (971, sCmpeq 1195),
  (974, sPush (.int 0) 1),
  (975, sRetI),
  (976, sLdA 1 1),
  (977, sLdA 0 1),
  (978, sLdI 3 1),
  (979, sPush (.int 1) 1),
  (980, sIadd),
  (981, sScrLd L xs),
  (982, sLdA 0 1),
  (983, sLdI 3 1),
  (984, sPush (.int 2) 1),
  (985, sIadd),
  (986, sScrLd L xs),
  (987, sLdA 0 1),
  (988, sLdI 3 1),
  (989, sPush (.int 3) 1),
  (990, sIadd),
  (991, sScrLd L xs),
  (992, sLdA 0 1),
  (993, sLdI 3 1),
  (994, sPush (.int 4) 1),
  (995, sIadd),
  (996, sScrLd L xs),
  (997, sCallV 73 10 4),
  (1000, sLdA 2 1),
  (1001, sLdA 0 1),
  (1002, sLdI 3 1),
  (1003, sPush (.int 1) 1),
  (1004, sIadd),
  (1005, sScrLd L xs),
  (1006, sLdA 0 1),
  (1007, sLdI 3 1),
  (1008, sPush (.int 2) 1),
  (1009, sIadd),
  (1010, sScrLd L xs),
  (1011, sLdA 0 1),
  (1012, sLdI 3 1),
  (1013, sPush (.int 3) 1),
  (1014, sIadd),
  (1015, sScrLd L xs),
  (1016, sLdA 0 1),
  (1017, sLdI 3 1),
  (1018, sPush (.int 4) 1),
  (1019, sIadd),
  (1020, sScrLd L xs),
  (1021, sCallV 125 11 4),
  (1024, sCmpeq 1195),
  (1027, sPush (.int 0) 1),
  (1028, sRetI),
  (1029, sLdA 1 1),
  (1030, sLdA 0 1),
  (1031, sLdI 3 1),
  (1032, sPush (.int 1) 1),
  (1033, sIadd),
  (1034, sScrLd L xs),
  (1035, sLdA 0 1),
  (1036, sLdI 3 1),
  (1037, sPush (.int 2) 1),
  (1038, sIadd),
  (1039, sScrLd L xs),
  (1040, sLdA 0 1),
  (1041, sLdI 3 1),
  (1042, sPush (.int 3) 1),
  (1043, sIadd),
  (1044, sScrLd L xs),
  (1045, sCallV 74 10 3),
  (1048, sLdA 2 1),
  (1049, sLdA 0 1),
  (1050, sLdI 3 1),
  (1051, sPush (.int 1) 1),
  (1052, sIadd),
  (1053, sScrLd L xs),
  (1054, sLdA 0 1),
  (1055, sLdI 3 1)]
theorem kLaw6 (L : Nat) (xs : Nat → Int32) : ∀ q ∈ pLaw6 L xs, gSnd R_law code 4 (some (L, xs)) q.1 q.2 := by
  simp only [pLaw6, List.forall_mem_cons]
  exact ⟨gs_iadd (by decide +kernel),
    gs_scrLd rfl (by decide +kernel),
    gs_aload_n (k := 0) (by decide +kernel) rfl,
    gs_iload_n (k := 3) (by decide +kernel) rfl,
    gs_iconst (n := 3) (by decide +kernel) (by decide),
    gs_iadd (by decide +kernel),
    gs_scrLd rfl (by decide +kernel),
    gs_callV (by decide +kernel) rfl rfl wd_908 wd_911 wd_909 wd_910 wd_12 mp_121 (by decide),
    gs_icmp_eq (off := 247) (by decide +kernel) (by decide),
    gs_iconst (n := 0) (by decide +kernel) (by decide),
    gs_iret (by decide +kernel),
    gs_aload_n (k := 1) (by decide +kernel) rfl,
    gs_aload_n (k := 0) (by decide +kernel) rfl,
    gs_iload_n (k := 3) (by decide +kernel) rfl,
    gs_iconst (n := 1) (by decide +kernel) (by decide),
    gs_iadd (by decide +kernel),
    gs_scrLd rfl (by decide +kernel),
    gs_callV (by decide +kernel) rfl rfl wd_707 wd_710 wd_708 wd_709 wd_1 mp_72 (by decide),
    gs_aload_n (k := 2) (by decide +kernel) rfl,
    gs_aload_n (k := 0) (by decide +kernel) rfl,
    gs_iload_n (k := 3) (by decide +kernel) rfl,
    gs_iconst (n := 1) (by decide +kernel) (by decide),
    gs_iadd (by decide +kernel),
    gs_scrLd rfl (by decide +kernel),
    gs_callV (by decide +kernel) rfl rfl wd_924 wd_927 wd_925 wd_926 wd_12 mp_122 (by decide),
    gs_icmp_eq (off := 224) (by decide +kernel) (by decide),
    gs_iconst (n := 0) (by decide +kernel) (by decide),
    gs_iret (by decide +kernel),
    gs_aload_n (k := 1) (by decide +kernel) rfl,
    gs_aload_n (k := 0) (by decide +kernel) rfl,
    gs_iload_n (k := 3) (by decide +kernel) rfl,
    gs_iconst (n := 1) (by decide +kernel) (by decide),
    gs_iadd (by decide +kernel),
    gs_scrLd rfl (by decide +kernel),
    gs_aload_n (k := 0) (by decide +kernel) rfl,
    gs_iload_n (k := 3) (by decide +kernel) rfl,
    gs_iconst (n := 2) (by decide +kernel) (by decide),
    gs_iadd (by decide +kernel),
    gs_scrLd rfl (by decide +kernel),
    gs_aload_n (k := 0) (by decide +kernel) rfl,
    gs_iload_n (k := 3) (by decide +kernel) rfl,
    gs_iconst (n := 3) (by decide +kernel) (by decide),
    gs_iadd (by decide +kernel),
    gs_scrLd rfl (by decide +kernel),
    gs_aload_n (k := 0) (by decide +kernel) rfl,
    gs_iload_n (k := 3) (by decide +kernel) rfl,
    gs_iconst (n := 4) (by decide +kernel) (by decide),
    gs_iadd (by decide +kernel),
    gs_scrLd rfl (by decide +kernel),
    gs_callV (by decide +kernel) rfl rfl wd_715 wd_718 wd_716 wd_717 wd_1 mp_73 (by decide),
    gs_aload_n (k := 2) (by decide +kernel) rfl,
    gs_aload_n (k := 0) (by decide +kernel) rfl,
    gs_iload_n (k := 3) (by decide +kernel) rfl,
    gs_iconst (n := 1) (by decide +kernel) (by decide),
    gs_iadd (by decide +kernel),
    gs_scrLd rfl (by decide +kernel),
    gs_aload_n (k := 0) (by decide +kernel) rfl,
    gs_iload_n (k := 3) (by decide +kernel) rfl,
    gs_iconst (n := 2) (by decide +kernel) (by decide),
    gs_iadd (by decide +kernel),
    gs_scrLd rfl (by decide +kernel),
    gs_aload_n (k := 0) (by decide +kernel) rfl,
    gs_iload_n (k := 3) (by decide +kernel) rfl,
    gs_iconst (n := 3) (by decide +kernel) (by decide),
    gs_iadd (by decide +kernel),
    gs_scrLd rfl (by decide +kernel),
    gs_aload_n (k := 0) (by decide +kernel) rfl,
    gs_iload_n (k := 3) (by decide +kernel) rfl,
    gs_iconst (n := 4) (by decide +kernel) (by decide),
    gs_iadd (by decide +kernel),
    gs_scrLd rfl (by decide +kernel),
    gs_callV (by decide +kernel) rfl rfl wd_928 wd_931 wd_929 wd_930 wd_12 mp_125 (by decide),
    gs_icmp_eq (off := 171) (by decide +kernel) (by decide),
    gs_iconst (n := 0) (by decide +kernel) (by decide),
    gs_iret (by decide +kernel),
    gs_aload_n (k := 1) (by decide +kernel) rfl,
    gs_aload_n (k := 0) (by decide +kernel) rfl,
    gs_iload_n (k := 3) (by decide +kernel) rfl,
    gs_iconst (n := 1) (by decide +kernel) (by decide),
    gs_iadd (by decide +kernel),
    gs_scrLd rfl (by decide +kernel),
    gs_aload_n (k := 0) (by decide +kernel) rfl,
    gs_iload_n (k := 3) (by decide +kernel) rfl,
    gs_iconst (n := 2) (by decide +kernel) (by decide),
    gs_iadd (by decide +kernel),
    gs_scrLd rfl (by decide +kernel),
    gs_aload_n (k := 0) (by decide +kernel) rfl,
    gs_iload_n (k := 3) (by decide +kernel) rfl,
    gs_iconst (n := 3) (by decide +kernel) (by decide),
    gs_iadd (by decide +kernel),
    gs_scrLd rfl (by decide +kernel),
    gs_callV (by decide +kernel) rfl rfl wd_731 wd_734 wd_732 wd_733 wd_1 mp_74 (by decide),
    gs_aload_n (k := 2) (by decide +kernel) rfl,
    gs_aload_n (k := 0) (by decide +kernel) rfl,
    gs_iload_n (k := 3) (by decide +kernel) rfl,
    gs_iconst (n := 1) (by decide +kernel) (by decide),
    gs_iadd (by decide +kernel),
    gs_scrLd rfl (by decide +kernel),
    gs_aload_n (k := 0) (by decide +kernel) rfl,
    gs_iload_n (k := 3) (by decide +kernel) rfl,
    fun _ h => absurd h List.not_mem_nil⟩
def pLaw7 (L : Nat) (xs : Nat → Int32) : gProg := [(1056, sPush (.int 2) 1),
  (1057, sIadd),
  (1058, sScrLd L xs),
  (1059, sLdA 0 1),
  (1060, sLdI 3 1),
  (1061, sPush (.int 3) 1),
  (1062, sIadd),
  (1063, sScrLd L xs),
  (1064, sCallV 126 11 3),
  (1067, sCmpeq 1195),
  (1070, sPush (.int 0) 1),
  (1071, sRetI),
  (1072, sLdA 1 1),
  (1073, sLdA 0 1),
  (1074, sLdI 3 1),
  (1075, sPush (.int 1) 1),
  (1076, sIadd),
  (1077, sScrLd L xs),
  (1078, sLdA 0 1),
  (1079, sLdI 3 1),
  (1080, sPush (.int 2) 1),
  (1081, sIadd),
  (1082, sScrLd L xs),
  (1083, sLdA 0 1),
  (1084, sLdI 3 1),
  (1085, sPush (.int 3) 1),
  (1086, sIadd),
  (1087, sScrLd L xs),
  (1088, sLdA 0 1),
  (1089, sLdI 3 1),
  (1090, sPush (.int 4) 1),
  (1091, sIadd),
  (1092, sScrLd L xs),
  (1093, sLdA 0 1),
  (1094, sLdI 3 1),
  (1095, sPush (.int 5) 1),
  (1096, sIadd),
  (1097, sScrLd L xs),
  (1098, sCallV 75 10 5),
  (1101, sLdA 2 1),
  (1102, sLdA 0 1),
  (1103, sLdI 3 1),
  (1104, sPush (.int 1) 1),
  (1105, sIadd),
  (1106, sScrLd L xs),
  (1107, sLdA 0 1),
  (1108, sLdI 3 1),
  (1109, sPush (.int 2) 1),
  (1110, sIadd),
  (1111, sScrLd L xs),
  (1112, sLdA 0 1),
  (1113, sLdI 3 1),
  (1114, sPush (.int 3) 1),
  (1115, sIadd),
  (1116, sScrLd L xs),
  (1117, sLdA 0 1),
  (1118, sLdI 3 1),
  (1119, sPush (.int 4) 1),
  (1120, sIadd),
  (1121, sScrLd L xs),
  (1122, sLdA 0 1),
  (1123, sLdI 3 1),
  (1124, sPush (.int 5) 1),
  (1125, sIadd),
  (1126, sScrLd L xs),
  (1127, sCallV 127 11 5),
  (1130, sCmpeq 1195),
  (1133, sPush (.int 0) 1),
  (1134, sRetI),
  (1135, sLdA 1 1),
  (1136, sLdA 0 1),
  (1137, sLdI 3 1),
  (1138, sPush (.int 1) 1),
  (1139, sIadd),
  (1140, sScrLd L xs),
  (1141, sCallV 76 10 1),
  (1144, sLdA 2 1),
  (1145, sLdA 0 1),
  (1146, sLdI 3 1),
  (1147, sPush (.int 1) 1),
  (1148, sIadd),
  (1149, sScrLd L xs),
  (1150, sCallV 196 11 1),
  (1153, sCmpeq 1195),
  (1156, sPush (.int 0) 1),
  (1157, sRetI),
  (1158, sLdA 1 1),
  (1159, sLdA 0 1),
  (1160, sLdI 3 1),
  (1161, sPush (.int 1) 1),
  (1162, sIadd),
  (1163, sScrLd L xs),
  (1164, sCallV 77 10 1),
  (1167, sLdA 2 1),
  (1168, sLdA 0 1),
  (1169, sLdI 3 1),
  (1170, sPush (.int 1) 1),
  (1171, sIadd),
  (1172, sScrLd L xs),
  (1173, sCallV 198 11 1)]
theorem kLaw7 (L : Nat) (xs : Nat → Int32) : ∀ q ∈ pLaw7 L xs, gSnd R_law code 4 (some (L, xs)) q.1 q.2 := by
  simp only [pLaw7, List.forall_mem_cons]
  exact ⟨gs_iconst (n := 2) (by decide +kernel) (by decide),
    gs_iadd (by decide +kernel),
    gs_scrLd rfl (by decide +kernel),
    gs_aload_n (k := 0) (by decide +kernel) rfl,
    gs_iload_n (k := 3) (by decide +kernel) rfl,
    gs_iconst (n := 3) (by decide +kernel) (by decide),
    gs_iadd (by decide +kernel),
    gs_scrLd rfl (by decide +kernel),
    gs_callV (by decide +kernel) rfl rfl wd_939 wd_942 wd_940 wd_941 wd_12 mp_126 (by decide),
    gs_icmp_eq (off := 128) (by decide +kernel) (by decide),
    gs_iconst (n := 0) (by decide +kernel) (by decide),
    gs_iret (by decide +kernel),
    gs_aload_n (k := 1) (by decide +kernel) rfl,
    gs_aload_n (k := 0) (by decide +kernel) rfl,
    gs_iload_n (k := 3) (by decide +kernel) rfl,
    gs_iconst (n := 1) (by decide +kernel) (by decide),
    gs_iadd (by decide +kernel),
    gs_scrLd rfl (by decide +kernel),
    gs_aload_n (k := 0) (by decide +kernel) rfl,
    gs_iload_n (k := 3) (by decide +kernel) rfl,
    gs_iconst (n := 2) (by decide +kernel) (by decide),
    gs_iadd (by decide +kernel),
    gs_scrLd rfl (by decide +kernel),
    gs_aload_n (k := 0) (by decide +kernel) rfl,
    gs_iload_n (k := 3) (by decide +kernel) rfl,
    gs_iconst (n := 3) (by decide +kernel) (by decide),
    gs_iadd (by decide +kernel),
    gs_scrLd rfl (by decide +kernel),
    gs_aload_n (k := 0) (by decide +kernel) rfl,
    gs_iload_n (k := 3) (by decide +kernel) rfl,
    gs_iconst (n := 4) (by decide +kernel) (by decide),
    gs_iadd (by decide +kernel),
    gs_scrLd rfl (by decide +kernel),
    gs_aload_n (k := 0) (by decide +kernel) rfl,
    gs_iload_n (k := 3) (by decide +kernel) rfl,
    gs_iconst (n := 5) (by decide +kernel) (by decide),
    gs_iadd (by decide +kernel),
    gs_scrLd rfl (by decide +kernel),
    gs_callV (by decide +kernel) rfl rfl wd_736 wd_739 wd_737 wd_738 wd_1 mp_75 (by decide),
    gs_aload_n (k := 2) (by decide +kernel) rfl,
    gs_aload_n (k := 0) (by decide +kernel) rfl,
    gs_iload_n (k := 3) (by decide +kernel) rfl,
    gs_iconst (n := 1) (by decide +kernel) (by decide),
    gs_iadd (by decide +kernel),
    gs_scrLd rfl (by decide +kernel),
    gs_aload_n (k := 0) (by decide +kernel) rfl,
    gs_iload_n (k := 3) (by decide +kernel) rfl,
    gs_iconst (n := 2) (by decide +kernel) (by decide),
    gs_iadd (by decide +kernel),
    gs_scrLd rfl (by decide +kernel),
    gs_aload_n (k := 0) (by decide +kernel) rfl,
    gs_iload_n (k := 3) (by decide +kernel) rfl,
    gs_iconst (n := 3) (by decide +kernel) (by decide),
    gs_iadd (by decide +kernel),
    gs_scrLd rfl (by decide +kernel),
    gs_aload_n (k := 0) (by decide +kernel) rfl,
    gs_iload_n (k := 3) (by decide +kernel) rfl,
    gs_iconst (n := 4) (by decide +kernel) (by decide),
    gs_iadd (by decide +kernel),
    gs_scrLd rfl (by decide +kernel),
    gs_aload_n (k := 0) (by decide +kernel) rfl,
    gs_iload_n (k := 3) (by decide +kernel) rfl,
    gs_iconst (n := 5) (by decide +kernel) (by decide),
    gs_iadd (by decide +kernel),
    gs_scrLd rfl (by decide +kernel),
    gs_callV (by decide +kernel) rfl rfl wd_944 wd_947 wd_945 wd_946 wd_12 mp_127 (by decide),
    gs_icmp_eq (off := 65) (by decide +kernel) (by decide),
    gs_iconst (n := 0) (by decide +kernel) (by decide),
    gs_iret (by decide +kernel),
    gs_aload_n (k := 1) (by decide +kernel) rfl,
    gs_aload_n (k := 0) (by decide +kernel) rfl,
    gs_iload_n (k := 3) (by decide +kernel) rfl,
    gs_iconst (n := 1) (by decide +kernel) (by decide),
    gs_iadd (by decide +kernel),
    gs_scrLd rfl (by decide +kernel),
    gs_callV (by decide +kernel) rfl rfl wd_743 wd_746 wd_744 wd_745 wd_1 mp_76 (by decide),
    gs_aload_n (k := 2) (by decide +kernel) rfl,
    gs_aload_n (k := 0) (by decide +kernel) rfl,
    gs_iload_n (k := 3) (by decide +kernel) rfl,
    gs_iconst (n := 1) (by decide +kernel) (by decide),
    gs_iadd (by decide +kernel),
    gs_scrLd rfl (by decide +kernel),
    gs_callV (by decide +kernel) rfl rfl wd_1254 wd_1257 wd_1255 wd_1256 wd_12 mp_196 (by decide),
    gs_icmp_eq (off := 42) (by decide +kernel) (by decide),
    gs_iconst (n := 0) (by decide +kernel) (by decide),
    gs_iret (by decide +kernel),
    gs_aload_n (k := 1) (by decide +kernel) rfl,
    gs_aload_n (k := 0) (by decide +kernel) rfl,
    gs_iload_n (k := 3) (by decide +kernel) rfl,
    gs_iconst (n := 1) (by decide +kernel) (by decide),
    gs_iadd (by decide +kernel),
    gs_scrLd rfl (by decide +kernel),
    gs_callV (by decide +kernel) rfl rfl wd_748 wd_751 wd_749 wd_750 wd_1 mp_77 (by decide),
    gs_aload_n (k := 2) (by decide +kernel) rfl,
    gs_aload_n (k := 0) (by decide +kernel) rfl,
    gs_iload_n (k := 3) (by decide +kernel) rfl,
    gs_iconst (n := 1) (by decide +kernel) (by decide),
    gs_iadd (by decide +kernel),
    gs_scrLd rfl (by decide +kernel),
    gs_callV (by decide +kernel) rfl rfl wd_1258 wd_1261 wd_1259 wd_1260 wd_12 mp_198 (by decide),
    fun _ h => absurd h List.not_mem_nil⟩
def pLaw8 (L : Nat) (xs : Nat → Int32) : gProg := [(1176, sCmpeq 1195),
  (1179, sPush (.int 0) 1),
  (1180, sRetI),
  (1181, sLdA 1 1),
  (1182, sCallV 78 10 0),
  (1185, sLdA 2 1),
  (1186, sCallV 201 11 0),
  (1189, sLcmp),
  (1190, sIfeq 1195),
  (1193, sPush (.int 0) 1),
  (1194, sRetI),
  (1195, sInc 3 6),
  (1198, sGoto 18),
  (1201, sPush (.int 1) 1),
  (1202, sRetI)]
theorem kLaw8 (L : Nat) (xs : Nat → Int32) : ∀ q ∈ pLaw8 L xs, gSnd R_law code 4 (some (L, xs)) q.1 q.2 := by
  simp only [pLaw8, List.forall_mem_cons]
  exact ⟨gs_icmp_eq (off := 19) (by decide +kernel) (by decide),
    gs_iconst (n := 0) (by decide +kernel) (by decide),
    gs_iret (by decide +kernel),
    gs_aload_n (k := 1) (by decide +kernel) rfl,
    gs_callV (by decide +kernel) rfl rfl wd_757 wd_760 wd_758 wd_759 wd_1 mp_78 (by decide),
    gs_aload_n (k := 2) (by decide +kernel) rfl,
    gs_callV (by decide +kernel) rfl rfl wd_1266 wd_1269 wd_1267 wd_1268 wd_12 mp_201 (by decide),
    gs_lcmp (by decide +kernel),
    gs_if_eq (off := 5) (by decide +kernel) (by decide),
    gs_iconst (n := 0) (by decide +kernel) (by decide),
    gs_iret (by decide +kernel),
    gs_iinc (n := 6) (by decide +kernel) (by decide),
    gs_goto (off := -1180) (by decide +kernel) (by decide),
    gs_iconst (n := 1) (by decide +kernel) (by decide),
    gs_iret (by decide +kernel),
    fun _ h => absurd h List.not_mem_nil⟩
end
section
theorem gFind_mem : ∀ {P : gProg} {pc : Nat} {sem : gSem}, gFind P pc = some sem → (pc, sem) ∈ P
  | [], pc, sem, h => by simp [gFind] at h
  | (a, t) :: P, pc, sem, h => by
    simp only [gFind] at h
    cases hq : Nat.beq pc a with
    | true =>
      rw [hq] at h
      have := Nat.eq_of_beq_eq_true hq
      subst this
      simp only [cond_true, Option.some.injEq] at h
      subst h
      exact List.mem_cons_self
    | false =>
      rw [hq] at h
      exact List.mem_cons_of_mem _ (gFind_mem (P := P) h)
def gPs0 : List gProg := [pX0_size, pX0_has, pX0_kindOf, pX0_beginOf, pX0_sparksOf, pX1_follow, pX1_beginIn, pX1_stateIn, pX2_add, pX2_dropLast, pX2_clear, pX2_holding, pX2_hindering, pX3_grow, pX3_yellowIn, pX3_seemingIn, pX4_size, pX4_has, pX4_monthOf, pX4_bushOf, pX5_draw, pX6_reckon, pX6_runWith, pX6_countFires, pX6_gatherLooks, pX6_worthOf, pX6_behind, pX6_bounded, pX7_add, pX7_clear, pX7_comeOut, pX8_isLost, pX8_renew, pX8_discard, pX8_hasItems, pX8_item, pX8_put, pX8_narrowed, pX9_put, pX9_clear]
set_option maxRecDepth 100000 in
theorem kAll0 : ∀ x ∈ gMs0.zip gPs0, ∀ q ∈ x.2, gSnd x.1.1.cls x.1.2.1 x.1.2.2.1 none q.1 q.2 := by
  simp only [gMs0, gPs0, List.zip_cons_cons, List.zip_nil_left, List.forall_mem_cons]
  exact ⟨kX0_size, kX0_has, kX0_kindOf, kX0_beginOf, kX0_sparksOf, kX1_follow, kX1_beginIn, kX1_stateIn, kX2_add, kX2_dropLast, kX2_clear, kX2_holding, kX2_hindering, kX3_grow, kX3_yellowIn, kX3_seemingIn, kX4_size, kX4_has, kX4_monthOf, kX4_bushOf, kX5_draw, kX6_reckon, kX6_runWith, kX6_countFires, kX6_gatherLooks, kX6_worthOf, kX6_behind, kX6_bounded, kX7_add, kX7_clear, kX7_comeOut, kX8_isLost, kX8_renew, kX8_discard, kX8_hasItems, kX8_item, kX8_put, kX8_narrowed, kX9_put, kX9_clear, fun _ h => absurd h List.not_mem_nil⟩
def gPs1 : List gProg := [pX9_drop, pX9_parse, pX9_firstFault, pX9_mayStand, pX10_type, pX10_wipe, pX10_undo, pX10_fault, pX10_bush, pX10_look, pX10_set, pX10_event, pX10_back, pX10_read, pX10_at, pX10_hill, pX10_bare, pX10_run, pX10_fake, pX10_last, pX10_plant, pX10_send, pX10_save, pX10_deal, pX10_seen, pX10_forget, pX10_never, pX10_was, pX10_ask, pX10_luck, pX10_century, pX10_sheet, pX10_lose, pX10_lay, pX10_get, pX10_copy, pX10_write, pX10_count, pX10_digest, pX10_digestOfCounts]
set_option maxRecDepth 100000 in
theorem kAll1 : ∀ x ∈ gMs1.zip gPs1, ∀ q ∈ x.2, gSnd x.1.1.cls x.1.2.1 x.1.2.2.1 none q.1 q.2 := by
  simp only [gMs1, gPs1, List.zip_cons_cons, List.zip_nil_left, List.forall_mem_cons]
  exact ⟨kX9_drop, kX9_parse, kX9_firstFault, kX9_mayStand, kX10_type, kX10_wipe, kX10_undo, kX10_fault, kX10_bush, kX10_look, kX10_set, kX10_event, kX10_back, kX10_read, kX10_at, kX10_hill, kX10_bare, kX10_run, kX10_fake, kX10_last, kX10_plant, kX10_send, kX10_save, kX10_deal, kX10_seen, kX10_forget, kX10_never, kX10_was, kX10_ask, kX10_luck, kX10_century, kX10_sheet, kX10_lose, kX10_lay, kX10_get, kX10_copy, kX10_write, kX10_count, kX10_digest, kX10_digestOfCounts, fun _ h => absurd h List.not_mem_nil⟩
def gPs2 : List gProg := [pX10_digestOfMonths, pX10_digestOfLooks, pX10_digestOfBush, pX10_digestOfBushIn, pX10_digestOfHill, pX10_digestOfPlans, pX10_digestOfLuck, pX10_allYellow, pX10_bareIfPlanted, pX10_bestSend, pX10_bestDeal, pX10_fewestToLose, pX10_placeOfBit, pX10_beginsThatFit, pX10_kindsThatFit, pX10_greatestAlike, pX10_bareShares, pX10_gatherHinderers, pX10_hindersAll, pX10_shareOf, pX10_drawEvents, pX10_finding, pX10_findingOfItem, pX10_textOf, pX10_isText, pX10_isMonth, pX10_isSheet, pX10_isForm, pX10_mayBeEvent, pX10_within, pX10_bit, pX11_in, pX11_no, pX11_isTwo, pX11_isIn, pX11_ones, pX11_lesser, pX11_greater, pX11_part, pX11_finds]
set_option maxRecDepth 100000 in
theorem kAll2 : ∀ x ∈ gMs2.zip gPs2, ∀ q ∈ x.2, gSnd x.1.1.cls x.1.2.1 x.1.2.2.1 none q.1 q.2 := by
  simp only [gMs2, gPs2, List.zip_cons_cons, List.zip_nil_left, List.forall_mem_cons]
  exact ⟨kX10_digestOfMonths, kX10_digestOfLooks, kX10_digestOfBush, kX10_digestOfBushIn, kX10_digestOfHill, kX10_digestOfPlans, kX10_digestOfLuck, kX10_allYellow, kX10_bareIfPlanted, kX10_bestSend, kX10_bestDeal, kX10_fewestToLose, kX10_placeOfBit, kX10_beginsThatFit, kX10_kindsThatFit, kX10_greatestAlike, kX10_bareShares, kX10_gatherHinderers, kX10_hindersAll, kX10_shareOf, kX10_drawEvents, kX10_finding, kX10_findingOfItem, kX10_textOf, kX10_isText, kX10_isMonth, kX10_isSheet, kX10_isForm, kX10_mayBeEvent, kX10_within, kX10_bit, kX11_in, kX11_no, kX11_isTwo, kX11_isIn, kX11_ones, kX11_lesser, kX11_greater, kX11_part, kX11_finds, fun _ h => absurd h List.not_mem_nil⟩
def gPs3 : List gProg := [pX11_isSheet, pX11_sheet, pX11_lose, pX11_lacks, pX11_cut, pX11_lay, pX11_get, pX11_copy, pX11_type, pX11_wipe, pX11_undo, pX11_kindOf, pX11_bushOf, pX11_readsBushes, pX11_lookOf, pX11_readsLooks, pX11_readsText, pX11_fault, pX11_isBush, pX11_isMonth, pX11_bush, pX11_lookBy, pX11_look, pX11_set, pX11_puts, pX11_event, pX11_back, pX11_read, pX11_lasts, pX11_isOn, pX11_isSeason, pX11_stateOf, pX11_grows, pX11_isSeeming, pX11_kept, pX11_looked, pX11_believes, pX11_lives, pX11_find, pX11_atBy]
set_option maxRecDepth 100000 in
theorem kAll3 : ∀ x ∈ gMs3.zip gPs3, ∀ q ∈ x.2, gSnd x.1.1.cls x.1.2.1 x.1.2.2.1 none q.1 q.2 := by
  simp only [gMs3, gPs3, List.zip_cons_cons, List.zip_nil_left, List.forall_mem_cons]
  exact ⟨kX11_isSheet, kX11_sheet, kX11_lose, kX11_lacks, kX11_cut, kX11_lay, kX11_get, kX11_copy, kX11_type, kX11_wipe, kX11_undo, kX11_kindOf, kX11_bushOf, kX11_readsBushes, kX11_lookOf, kX11_readsLooks, kX11_readsText, kX11_fault, kX11_isBush, kX11_isMonth, kX11_bush, kX11_lookBy, kX11_look, kX11_set, kX11_puts, kX11_event, kX11_back, kX11_read, kX11_lasts, kX11_isOn, kX11_isSeason, kX11_stateOf, kX11_grows, kX11_isSeeming, kX11_kept, kX11_looked, kX11_believes, kX11_lives, kX11_find, kX11_atBy, fun _ h => absurd h List.not_mem_nil⟩
def gPs4 : List gProg := [pX11_at, pX11_hillBy, pX11_hill, pX11_bareNow, pX11_bare, pX11_runNow, pX11_run, pX11_fakeNow, pX11_fake, pX11_lastBy, pX11_last, pX11_plantBy, pX11_plant, pX11_sendBy, pX11_send, pX11_isSaved, pX11_saveOf, pX11_save, pX11_dealBy, pX11_deal, pX11_seen, pX11_forget, pX11_isSeen, pX11_neverNow, pX11_never, pX11_beganOf, pX11_sortOf, pX11_wasOf, pX11_was, pX11_askOf, pX11_ask, pX11_luckOf, pX11_luck, pX11_lot, pX11_centuryOf, pX11_century, pX11_write, pX11_allYellow, pX11_count, pX11_tellsMonth]
set_option maxRecDepth 100000 in
theorem kAll4 : ∀ x ∈ gMs4.zip gPs4, ∀ q ∈ x.2, gSnd x.1.1.cls x.1.2.1 x.1.2.2.1 none q.1 q.2 := by
  simp only [gMs4, gPs4, List.zip_cons_cons, List.zip_nil_left, List.forall_mem_cons]
  exact ⟨kX11_at, kX11_hillBy, kX11_hill, kX11_bareNow, kX11_bare, kX11_runNow, kX11_run, kX11_fakeNow, kX11_fake, kX11_lastBy, kX11_last, kX11_plantBy, kX11_plant, kX11_sendBy, kX11_send, kX11_isSaved, kX11_saveOf, kX11_save, kX11_dealBy, kX11_deal, kX11_seen, kX11_forget, kX11_isSeen, kX11_neverNow, kX11_never, kX11_beganOf, kX11_sortOf, kX11_wasOf, kX11_was, kX11_askOf, kX11_ask, kX11_luckOf, kX11_luck, kX11_lot, kX11_centuryOf, kX11_century, kX11_write, kX11_allYellow, kX11_count, kX11_tellsMonth, fun _ h => absurd h List.not_mem_nil⟩
def gPs5 : List gProg := [pX11_tellsBush, pX11_digest, pJ6_bitCount_0f7a4, pJ7_fill_53178]
set_option maxRecDepth 100000 in
theorem kAll5 : ∀ x ∈ gMs5.zip gPs5, ∀ q ∈ x.2, gSnd x.1.1.cls x.1.2.1 x.1.2.2.1 none q.1 q.2 := by
  simp only [gMs5, gPs5, List.zip_cons_cons, List.zip_nil_left, List.forall_mem_cons]
  exact ⟨kX11_tellsBush, kX11_digest, kJ6_bitCount_0f7a4, kJ7_fill_53178, fun _ h => absurd h List.not_mem_nil⟩
def gPs : List gProg := gPs0 ++ (gPs1 ++ (gPs2 ++ (gPs3 ++ (gPs4 ++ (gPs5)))))
def gPT (mid : Nat) : gProg := (gAt gPs mid).getD []
theorem gZip_app {α β : Type} {Φ : α × β → Prop} {a c : List α} {b d : List β} (h : a.length = b.length) (h1 : ∀ x ∈ a.zip b, Φ x) (h2 : ∀ x ∈ c.zip d, Φ x) : ∀ x ∈ (a ++ c).zip (b ++ d), Φ x := by
  rw [List.zip_append h]
  intro x hx
  rcases List.mem_append.mp hx with h | h
  · exact h1 x h
  · exact h2 x h
theorem kAll : ∀ x ∈ gMs.zip gPs, ∀ q ∈ x.2, gSnd x.1.1.cls x.1.2.1 x.1.2.2.1 none q.1 q.2 := gZip_app rfl kAll0 (gZip_app rfl kAll1 (gZip_app rfl kAll2 (gZip_app rfl kAll3 (gZip_app rfl kAll4 (kAll5)))))
theorem gPT_len : gMs.length = gPs.length := by decide +kernel
theorem gPT_ok : gProgOK gPT := by
  intro mid hmid pc sem h
  have h1 := gFind_mem h
  have hz : (gM mid, gPT mid) ∈ gMs.zip gPs := by
    have e1 : gMs[mid]? = some (gM mid) := by
      unfold gM
      rw [gAt_eq, List.getElem?_eq_getElem hmid]; rfl
    have hp : mid < gPs.length := by rw [← gPT_len]; exact hmid
    have e2 : gPs[mid]? = some (gPT mid) := by
      unfold gPT
      rw [gAt_eq, List.getElem?_eq_getElem hp]; rfl
    refine List.mem_of_getElem? (i := mid) ?_
    rw [List.getElem?_zip_eq_some]
    exact ⟨e1, e2⟩
  exact kAll _ hz _ h1
/-- what a call comes to -/
def gC (d mid : Nat) (as : List Value) (σ : gS) (Φ : Option Value → gS → Prop) : Prop := ∃ (v : Option Value) (σ' : gS), gEV gPT d mid as σ v σ' ∧ Φ v σ'
theorem gEV_up {PT : Nat → gProg} : ∀ (d : Nat) (mid : Nat) (as : List Value) (σ : gS) (v : Option Value) (σ' : gS), gEV PT d mid as σ v σ' → gEV PT (d + 1) mid as σ v σ'
  | 0, _, _, _, _, _, h => h.elim
  | d + 1, mid, as, σ, v, σ', h => by
    obtain ⟨h1, h2, h3, n, h4⟩ := h
    refine ⟨h1, h2, h3, n, ?_⟩
    have key : ∀ (n : Nat) (σ : gS) (f : gF), gRn (PT mid) (gEV PT d) (fun w τ => w = v ∧ τ = σ') n σ f → gRn (PT mid) (gEV PT (d + 1)) (fun w τ => w = v ∧ τ = σ') n σ f := by
      intro n
      induction n with
      | zero => intro σ f h; exact h
      | succ n ih =>
        intro σ f h
        rcases h with ⟨lv', a, b⟩ | h
        · exact Or.inl ⟨lv', a, ih _ _ b⟩
        · refine Or.inr ?_
          match hr : gStep (PT mid) σ f with
          | none => rw [hr] at h; exact h.elim
          | some (.inl (b, s1, none)) => rw [hr] at h; exact ⟨fun z => ih _ _ (h.1 z), h.2⟩
          | some (.inl (b, s1, some s2)) => rw [hr] at h; exact ⟨fun z => ih _ _ (h.1 z), fun z => ih _ _ (h.2 z)⟩
          | some (.inr (.inl (mid2, as2, f2))) =>
            rw [hr] at h
            obtain ⟨w, τ, he, hw⟩ := h
            exact ⟨w, τ, gEV_up d _ _ _ _ _ he, ih _ _ hw⟩
          | some (.inr (.inr w)) => rw [hr] at h; exact h
    exact key n _ _ h4
theorem gC.up {d d' mid : Nat} {as : List Value} {σ : gS} {Φ : Option Value → gS → Prop} (h : gC d mid as σ Φ) (hd : d ≤ d') : gC d' mid as σ Φ := by
  obtain ⟨v, σ', h1, h2⟩ := h
  refine ⟨v, σ', ?_, h2⟩
  obtain ⟨k, rfl⟩ := Nat.exists_eq_add_of_le hd
  clear h2 hd
  induction k with
  | zero => exact h1
  | succ k ih => exact gEV_up _ _ _ _ _ _ ih
/-- a method's law out of a run of its program -/
theorem gC.of {d mid : Nat} {as : List Value} {σ : gS} {Φ : Option Value → gS → Prop} {P : gProg} {nL : Nat} {rt : Option FieldType} {lv : gL} (hm : mid < gMs.length) (hP : gPT mid = P) (hn : (gM mid).2.2.1 = nL) (hr : (gM mid).2.2.2 = rt) (he : (gEnt as).length ≤ nL) (hl : gEntry nL as = lv)
    (h : gR P (gEV gPT d) (fun v τ => gRetOk rt v ∧ Φ v τ) σ (0, lv, [])) : gC (d + 1) mid as σ Φ := by
  obtain ⟨n, h⟩ := h
  obtain ⟨v, σ', ⟨h1, h2⟩, h3⟩ := gRn.ends n _ _ h
  subst hP; subst hn; subst hr; subst hl
  exact ⟨v, σ', ⟨hm, h1, he, n, h3⟩, h2⟩
theorem gR.call' {P : gProg} {d mid : Nat} {as : List Value} {Fin : Option Value → gS → Prop} {Φ : Option Value → gS → Prop} {σ : gS} {f f1 : gF} (h : gStep P σ f = some (.inr (.inl (mid, as, f1)))) (he : gC d mid as σ Φ) (hn : ∀ v σ1, Φ v σ1 → gR P (gEV gPT d) Fin σ1 (f1.1, f1.2.1, v.toList ++ f1.2.2)) : gR P (gEV gPT d) Fin σ f := by
  obtain ⟨v, σ1, h1, h2⟩ := he
  exact gR.call h h1 (hn v σ1 h2)
theorem gC.mono {d mid : Nat} {as : List Value} {σ : gS} {Φ Ψ : Option Value → gS → Prop} (h : gC d mid as σ Φ) (hm : ∀ v τ, Φ v τ → Ψ v τ) : gC d mid as σ Ψ := by
  obtain ⟨v, σ', h1, h2⟩ := h
  exact ⟨v, σ', h1, hm _ _ h2⟩
def pLaw (L : Nat) (xs : Nat → Int32) : gProg := pLaw0 L xs ++ (pLaw1 L xs ++ (pLaw2 L xs ++ (pLaw3 L xs ++ (pLaw4 L xs ++ (pLaw5 L xs ++ (pLaw6 L xs ++ (pLaw7 L xs ++ (pLaw8 L xs))))))))
theorem kLaw (L : Nat) (xs : Nat → Int32) : ∀ q ∈ pLaw L xs, gSnd R_law code 4 (some (L, xs)) q.1 q.2 := List.forall_mem_append.mpr ⟨kLaw0 L xs, List.forall_mem_append.mpr ⟨kLaw1 L xs, List.forall_mem_append.mpr ⟨kLaw2 L xs, List.forall_mem_append.mpr ⟨kLaw3 L xs, List.forall_mem_append.mpr ⟨kLaw4 L xs, List.forall_mem_append.mpr ⟨kLaw5 L xs, List.forall_mem_append.mpr ⟨kLaw6 L xs, List.forall_mem_append.mpr ⟨kLaw7 L xs, kLaw8 L xs⟩⟩⟩⟩⟩⟩⟩⟩
theorem kLaw_ok (L : Nat) (xs : Nat → Int32) : ∀ pc sem, gFind (pLaw L xs) pc = some sem → gSnd R_law code 4 (some (L, xs)) pc sem := fun _ _ h => kLaw L xs _ (gFind_mem h)
end
