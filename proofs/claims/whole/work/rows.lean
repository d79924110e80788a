section
-- ===== PART A: goes FIRST, ahead of the names: the tables' words, and 'selects' of the private methods out of them =====
/-- a private method of a class that the tables say can be made, by its rows of tables_1 -/
def lw_okq (q : MethodName × Nat) : Prop := (q.1.cls ≠ "java/lang/invoke/MethodHandle" ∧ q.1.cls ≠ "java/lang/invoke/VarHandle") ∧ Cond.instantiable q.1.cls q.2 ∈ tables_1 ∧ Cond.privateMethod q.1 ∈ tables_1 ∧ Cond.instanceMethod q.1 ∈ tables_1
theorem lw_p0 : lw_okq (⟨"GorseGold", "textOf", "(I)LGorseGold$Text;"⟩, 13) := ⟨⟨by decide +kernel, by decide +kernel⟩, List.mem_of_getElem? (i := 18) (by decide +kernel), List.mem_of_getElem? (i := 314) (by decide +kernel), List.mem_of_getElem? (i := 315) (by decide +kernel)⟩
theorem lw_p1 : lw_okq (⟨"GorseGold$Text", "parse", "()V"⟩, 8) := ⟨⟨by decide +kernel, by decide +kernel⟩, List.mem_of_getElem? (i := 44) (by decide +kernel), List.mem_of_getElem? (i := 322) (by decide +kernel), List.mem_of_getElem? (i := 323) (by decide +kernel)⟩
theorem lw_p2 : lw_okq (⟨"GorseGold$Text", "firstFault", "()I"⟩, 8) := ⟨⟨by decide +kernel, by decide +kernel⟩, List.mem_of_getElem? (i := 44) (by decide +kernel), List.mem_of_getElem? (i := 326) (by decide +kernel), List.mem_of_getElem? (i := 327) (by decide +kernel)⟩
theorem lw_p3 : lw_okq (⟨"GorseGold$Text", "mayStand", "(III)Z"⟩, 8) := ⟨⟨by decide +kernel, by decide +kernel⟩, List.mem_of_getElem? (i := 44) (by decide +kernel), List.mem_of_getElem? (i := 330) (by decide +kernel), List.mem_of_getElem? (i := 331) (by decide +kernel)⟩
theorem lw_p4 : lw_okq (⟨"GorseGold", "finding", "(I)I"⟩, 13) := ⟨⟨by decide +kernel, by decide +kernel⟩, List.mem_of_getElem? (i := 18) (by decide +kernel), List.mem_of_getElem? (i := 434) (by decide +kernel), List.mem_of_getElem? (i := 435) (by decide +kernel)⟩
theorem lw_p5 : lw_okq (⟨"GorseGold$Market", "countFires", "(LGorseGold$Events;)V"⟩, 10) := ⟨⟨by decide +kernel, by decide +kernel⟩, List.mem_of_getElem? (i := 26) (by decide +kernel), List.mem_of_getElem? (i := 498) (by decide +kernel), List.mem_of_getElem? (i := 499) (by decide +kernel)⟩
theorem lw_p6 : lw_okq (⟨"GorseGold$Market", "gatherLooks", "()V"⟩, 10) := ⟨⟨by decide +kernel, by decide +kernel⟩, List.mem_of_getElem? (i := 26) (by decide +kernel), List.mem_of_getElem? (i := 504) (by decide +kernel), List.mem_of_getElem? (i := 505) (by decide +kernel)⟩
theorem lw_p7 : lw_okq (⟨"GorseGold$Market", "worthOf", "(II)I"⟩, 10) := ⟨⟨by decide +kernel, by decide +kernel⟩, List.mem_of_getElem? (i := 26) (by decide +kernel), List.mem_of_getElem? (i := 511) (by decide +kernel), List.mem_of_getElem? (i := 512) (by decide +kernel)⟩
theorem lw_p8 : lw_okq (⟨"GorseGold$Market", "behind", "(III)I"⟩, 10) := ⟨⟨by decide +kernel, by decide +kernel⟩, List.mem_of_getElem? (i := 26) (by decide +kernel), List.mem_of_getElem? (i := 517) (by decide +kernel), List.mem_of_getElem? (i := 518) (by decide +kernel)⟩
theorem lw_p9 : lw_okq (⟨"GorseGold", "bareIfPlanted", "(III)I"⟩, 13) := ⟨⟨by decide +kernel, by decide +kernel⟩, List.mem_of_getElem? (i := 18) (by decide +kernel), List.mem_of_getElem? (i := 568) (by decide +kernel), List.mem_of_getElem? (i := 569) (by decide +kernel)⟩
theorem lw_p10 : lw_okq (⟨"GorseGold", "bestSend", "()I"⟩, 13) := ⟨⟨by decide +kernel, by decide +kernel⟩, List.mem_of_getElem? (i := 18) (by decide +kernel), List.mem_of_getElem? (i := 576) (by decide +kernel), List.mem_of_getElem? (i := 577) (by decide +kernel)⟩
theorem lw_p11 : lw_okq (⟨"GorseGold", "fewestToLose", "()I"⟩, 13) := ⟨⟨by decide +kernel, by decide +kernel⟩, List.mem_of_getElem? (i := 18) (by decide +kernel), List.mem_of_getElem? (i := 588) (by decide +kernel), List.mem_of_getElem? (i := 589) (by decide +kernel)⟩
theorem lw_p12 : lw_okq (⟨"GorseGold", "bestDeal", "()I"⟩, 13) := ⟨⟨by decide +kernel, by decide +kernel⟩, List.mem_of_getElem? (i := 18) (by decide +kernel), List.mem_of_getElem? (i := 599) (by decide +kernel), List.mem_of_getElem? (i := 600) (by decide +kernel)⟩
theorem lw_p13 : lw_okq (⟨"GorseGold", "beginsThatFit", "(I)I"⟩, 13) := ⟨⟨by decide +kernel, by decide +kernel⟩, List.mem_of_getElem? (i := 18) (by decide +kernel), List.mem_of_getElem? (i := 633) (by decide +kernel), List.mem_of_getElem? (i := 634) (by decide +kernel)⟩
theorem lw_p14 : lw_okq (⟨"GorseGold", "kindsThatFit", "(I)I"⟩, 13) := ⟨⟨by decide +kernel, by decide +kernel⟩, List.mem_of_getElem? (i := 18) (by decide +kernel), List.mem_of_getElem? (i := 638) (by decide +kernel), List.mem_of_getElem? (i := 639) (by decide +kernel)⟩
theorem lw_p15 : lw_okq (⟨"GorseGold", "greatestAlike", "(III)I"⟩, 13) := ⟨⟨by decide +kernel, by decide +kernel⟩, List.mem_of_getElem? (i := 18) (by decide +kernel), List.mem_of_getElem? (i := 646) (by decide +kernel), List.mem_of_getElem? (i := 647) (by decide +kernel)⟩
def lw_privs_1 : List (MethodName × Nat) := [(⟨"GorseGold", "textOf", "(I)LGorseGold$Text;"⟩, 13), (⟨"GorseGold$Text", "parse", "()V"⟩, 8), (⟨"GorseGold$Text", "firstFault", "()I"⟩, 8), (⟨"GorseGold$Text", "mayStand", "(III)Z"⟩, 8), (⟨"GorseGold", "finding", "(I)I"⟩, 13), (⟨"GorseGold$Market", "countFires", "(LGorseGold$Events;)V"⟩, 10), (⟨"GorseGold$Market", "gatherLooks", "()V"⟩, 10), (⟨"GorseGold$Market", "worthOf", "(II)I"⟩, 10), (⟨"GorseGold$Market", "behind", "(III)I"⟩, 10), (⟨"GorseGold", "bareIfPlanted", "(III)I"⟩, 13), (⟨"GorseGold", "bestSend", "()I"⟩, 13), (⟨"GorseGold", "fewestToLose", "()I"⟩, 13), (⟨"GorseGold", "bestDeal", "()I"⟩, 13), (⟨"GorseGold", "beginsThatFit", "(I)I"⟩, 13), (⟨"GorseGold", "kindsThatFit", "(I)I"⟩, 13), (⟨"GorseGold", "greatestAlike", "(III)I"⟩, 13)]
theorem lw_r1 : ∀ q ∈ lw_privs_1, lw_okq q := List.forall_mem_cons.mpr ⟨lw_p0, List.forall_mem_cons.mpr ⟨lw_p1, List.forall_mem_cons.mpr ⟨lw_p2, List.forall_mem_cons.mpr ⟨lw_p3, List.forall_mem_cons.mpr ⟨lw_p4, List.forall_mem_cons.mpr ⟨lw_p5, List.forall_mem_cons.mpr ⟨lw_p6, List.forall_mem_cons.mpr ⟨lw_p7, List.forall_mem_cons.mpr ⟨lw_p8, List.forall_mem_cons.mpr ⟨lw_p9, List.forall_mem_cons.mpr ⟨lw_p10, List.forall_mem_cons.mpr ⟨lw_p11, List.forall_mem_cons.mpr ⟨lw_p12, List.forall_mem_cons.mpr ⟨lw_p13, List.forall_mem_cons.mpr ⟨lw_p14, List.forall_mem_cons.mpr ⟨lw_p15, fun _ h => absurd h List.not_mem_nil⟩⟩⟩⟩⟩⟩⟩⟩⟩⟩⟩⟩⟩⟩⟩⟩
theorem lw_p16 : lw_okq (⟨"GorseGold", "bareShares", "(II)J"⟩, 13) := ⟨⟨by decide +kernel, by decide +kernel⟩, List.mem_of_getElem? (i := 18) (by decide +kernel), List.mem_of_getElem? (i := 657) (by decide +kernel), List.mem_of_getElem? (i := 658) (by decide +kernel)⟩
theorem lw_p17 : lw_okq (⟨"GorseGold", "gatherHinderers", "(I)I"⟩, 13) := ⟨⟨by decide +kernel, by decide +kernel⟩, List.mem_of_getElem? (i := 18) (by decide +kernel), List.mem_of_getElem? (i := 661) (by decide +kernel), List.mem_of_getElem? (i := 662) (by decide +kernel)⟩
theorem lw_p18 : lw_okq (⟨"GorseGold", "hindersAll", "(II)Z"⟩, 13) := ⟨⟨by decide +kernel, by decide +kernel⟩, List.mem_of_getElem? (i := 18) (by decide +kernel), List.mem_of_getElem? (i := 671) (by decide +kernel), List.mem_of_getElem? (i := 672) (by decide +kernel)⟩
theorem lw_p19 : lw_okq (⟨"GorseGold", "shareOf", "(II)J"⟩, 13) := ⟨⟨by decide +kernel, by decide +kernel⟩, List.mem_of_getElem? (i := 18) (by decide +kernel), List.mem_of_getElem? (i := 675) (by decide +kernel), List.mem_of_getElem? (i := 676) (by decide +kernel)⟩
theorem lw_p20 : lw_okq (⟨"GorseGold", "drawEvents", "(II)V"⟩, 13) := ⟨⟨by decide +kernel, by decide +kernel⟩, List.mem_of_getElem? (i := 18) (by decide +kernel), List.mem_of_getElem? (i := 683) (by decide +kernel), List.mem_of_getElem? (i := 684) (by decide +kernel)⟩
theorem lw_p21 : lw_okq (⟨"GorseGold$Sheet", "narrowed", "(I)I"⟩, 3) := ⟨⟨by decide +kernel, by decide +kernel⟩, List.mem_of_getElem? (i := 245) (by decide +kernel), List.mem_of_getElem? (i := 728) (by decide +kernel), List.mem_of_getElem? (i := 729) (by decide +kernel)⟩
theorem lw_p22 : lw_okq (⟨"GorseGold", "allYellow", "()I"⟩, 13) := ⟨⟨by decide +kernel, by decide +kernel⟩, List.mem_of_getElem? (i := 18) (by decide +kernel), List.mem_of_getElem? (i := 754) (by decide +kernel), List.mem_of_getElem? (i := 755) (by decide +kernel)⟩
theorem lw_p23 : lw_okq (⟨"GorseGold", "digestOfCounts", "(J)J"⟩, 13) := ⟨⟨by decide +kernel, by decide +kernel⟩, List.mem_of_getElem? (i := 18) (by decide +kernel), List.mem_of_getElem? (i := 763) (by decide +kernel), List.mem_of_getElem? (i := 764) (by decide +kernel)⟩
theorem lw_p24 : lw_okq (⟨"GorseGold", "digestOfMonths", "(J)J"⟩, 13) := ⟨⟨by decide +kernel, by decide +kernel⟩, List.mem_of_getElem? (i := 18) (by decide +kernel), List.mem_of_getElem? (i := 770) (by decide +kernel), List.mem_of_getElem? (i := 771) (by decide +kernel)⟩
theorem lw_p25 : lw_okq (⟨"GorseGold", "digestOfLooks", "(J)J"⟩, 13) := ⟨⟨by decide +kernel, by decide +kernel⟩, List.mem_of_getElem? (i := 18) (by decide +kernel), List.mem_of_getElem? (i := 775) (by decide +kernel), List.mem_of_getElem? (i := 776) (by decide +kernel)⟩
theorem lw_p26 : lw_okq (⟨"GorseGold", "digestOfBush", "(JI)J"⟩, 13) := ⟨⟨by decide +kernel, by decide +kernel⟩, List.mem_of_getElem? (i := 18) (by decide +kernel), List.mem_of_getElem? (i := 780) (by decide +kernel), List.mem_of_getElem? (i := 781) (by decide +kernel)⟩
theorem lw_p27 : lw_okq (⟨"GorseGold", "digestOfBushIn", "(JII)J"⟩, 13) := ⟨⟨by decide +kernel, by decide +kernel⟩, List.mem_of_getElem? (i := 18) (by decide +kernel), List.mem_of_getElem? (i := 785) (by decide +kernel), List.mem_of_getElem? (i := 786) (by decide +kernel)⟩
theorem lw_p28 : lw_okq (⟨"GorseGold", "digestOfHill", "(J)J"⟩, 13) := ⟨⟨by decide +kernel, by decide +kernel⟩, List.mem_of_getElem? (i := 18) (by decide +kernel), List.mem_of_getElem? (i := 792) (by decide +kernel), List.mem_of_getElem? (i := 793) (by decide +kernel)⟩
theorem lw_p29 : lw_okq (⟨"GorseGold", "digestOfPlans", "(J)J"⟩, 13) := ⟨⟨by decide +kernel, by decide +kernel⟩, List.mem_of_getElem? (i := 18) (by decide +kernel), List.mem_of_getElem? (i := 799) (by decide +kernel), List.mem_of_getElem? (i := 800) (by decide +kernel)⟩
theorem lw_p30 : lw_okq (⟨"GorseGold", "digestOfLuck", "(J)J"⟩, 13) := ⟨⟨by decide +kernel, by decide +kernel⟩, List.mem_of_getElem? (i := 18) (by decide +kernel), List.mem_of_getElem? (i := 807) (by decide +kernel), List.mem_of_getElem? (i := 808) (by decide +kernel)⟩
theorem lw_p31 : lw_okq (⟨"GorseGoldModel", "finds", "(I)I"⟩, 29) := ⟨⟨by decide +kernel, by decide +kernel⟩, List.mem_of_getElem? (i := 814) (by decide +kernel), List.mem_of_getElem? (i := 921) (by decide +kernel), List.mem_of_getElem? (i := 922) (by decide +kernel)⟩
def lw_privs_2 : List (MethodName × Nat) := [(⟨"GorseGold", "bareShares", "(II)J"⟩, 13), (⟨"GorseGold", "gatherHinderers", "(I)I"⟩, 13), (⟨"GorseGold", "hindersAll", "(II)Z"⟩, 13), (⟨"GorseGold", "shareOf", "(II)J"⟩, 13), (⟨"GorseGold", "drawEvents", "(II)V"⟩, 13), (⟨"GorseGold$Sheet", "narrowed", "(I)I"⟩, 3), (⟨"GorseGold", "allYellow", "()I"⟩, 13), (⟨"GorseGold", "digestOfCounts", "(J)J"⟩, 13), (⟨"GorseGold", "digestOfMonths", "(J)J"⟩, 13), (⟨"GorseGold", "digestOfLooks", "(J)J"⟩, 13), (⟨"GorseGold", "digestOfBush", "(JI)J"⟩, 13), (⟨"GorseGold", "digestOfBushIn", "(JII)J"⟩, 13), (⟨"GorseGold", "digestOfHill", "(J)J"⟩, 13), (⟨"GorseGold", "digestOfPlans", "(J)J"⟩, 13), (⟨"GorseGold", "digestOfLuck", "(J)J"⟩, 13), (⟨"GorseGoldModel", "finds", "(I)I"⟩, 29)]
theorem lw_r2 : ∀ q ∈ lw_privs_2, lw_okq q := List.forall_mem_cons.mpr ⟨lw_p16, List.forall_mem_cons.mpr ⟨lw_p17, List.forall_mem_cons.mpr ⟨lw_p18, List.forall_mem_cons.mpr ⟨lw_p19, List.forall_mem_cons.mpr ⟨lw_p20, List.forall_mem_cons.mpr ⟨lw_p21, List.forall_mem_cons.mpr ⟨lw_p22, List.forall_mem_cons.mpr ⟨lw_p23, List.forall_mem_cons.mpr ⟨lw_p24, List.forall_mem_cons.mpr ⟨lw_p25, List.forall_mem_cons.mpr ⟨lw_p26, List.forall_mem_cons.mpr ⟨lw_p27, List.forall_mem_cons.mpr ⟨lw_p28, List.forall_mem_cons.mpr ⟨lw_p29, List.forall_mem_cons.mpr ⟨lw_p30, List.forall_mem_cons.mpr ⟨lw_p31, fun _ h => absurd h List.not_mem_nil⟩⟩⟩⟩⟩⟩⟩⟩⟩⟩⟩⟩⟩⟩⟩⟩
theorem lw_p32 : lw_okq (⟨"GorseGoldModel", "lacks", "(III)I"⟩, 29) := ⟨⟨by decide +kernel, by decide +kernel⟩, List.mem_of_getElem? (i := 814) (by decide +kernel), List.mem_of_getElem? (i := 933) (by decide +kernel), List.mem_of_getElem? (i := 934) (by decide +kernel)⟩
theorem lw_p33 : lw_okq (⟨"GorseGoldModel", "readsText", "(I)I"⟩, 29) := ⟨⟨by decide +kernel, by decide +kernel⟩, List.mem_of_getElem? (i := 814) (by decide +kernel), List.mem_of_getElem? (i := 969) (by decide +kernel), List.mem_of_getElem? (i := 970) (by decide +kernel)⟩
theorem lw_p34 : lw_okq (⟨"GorseGoldModel", "readsBushes", "()I"⟩, 29) := ⟨⟨by decide +kernel, by decide +kernel⟩, List.mem_of_getElem? (i := 814) (by decide +kernel), List.mem_of_getElem? (i := 973) (by decide +kernel), List.mem_of_getElem? (i := 974) (by decide +kernel)⟩
theorem lw_p35 : lw_okq (⟨"GorseGoldModel", "readsLooks", "()I"⟩, 29) := ⟨⟨by decide +kernel, by decide +kernel⟩, List.mem_of_getElem? (i := 814) (by decide +kernel), List.mem_of_getElem? (i := 987) (by decide +kernel), List.mem_of_getElem? (i := 988) (by decide +kernel)⟩
theorem lw_p36 : lw_okq (⟨"GorseGoldModel", "isBush", "(I)Z"⟩, 29) := ⟨⟨by decide +kernel, by decide +kernel⟩, List.mem_of_getElem? (i := 814) (by decide +kernel), List.mem_of_getElem? (i := 1000) (by decide +kernel), List.mem_of_getElem? (i := 1001) (by decide +kernel)⟩
theorem lw_p37 : lw_okq (⟨"GorseGoldModel", "lookBy", "(II)I"⟩, 29) := ⟨⟨by decide +kernel, by decide +kernel⟩, List.mem_of_getElem? (i := 814) (by decide +kernel), List.mem_of_getElem? (i := 1009) (by decide +kernel), List.mem_of_getElem? (i := 1010) (by decide +kernel)⟩
theorem lw_p38 : lw_okq (⟨"GorseGoldModel", "puts", "(III)V"⟩, 29) := ⟨⟨by decide +kernel, by decide +kernel⟩, List.mem_of_getElem? (i := 814) (by decide +kernel), List.mem_of_getElem? (i := 1028) (by decide +kernel), List.mem_of_getElem? (i := 1029) (by decide +kernel)⟩
theorem lw_p39 : lw_okq (⟨"GorseGoldModel", "find", "()V"⟩, 29) := ⟨⟨by decide +kernel, by decide +kernel⟩, List.mem_of_getElem? (i := 814) (by decide +kernel), List.mem_of_getElem? (i := 1045) (by decide +kernel), List.mem_of_getElem? (i := 1046) (by decide +kernel)⟩
theorem lw_p40 : lw_okq (⟨"GorseGoldModel", "lives", "()V"⟩, 29) := ⟨⟨by decide +kernel, by decide +kernel⟩, List.mem_of_getElem? (i := 814) (by decide +kernel), List.mem_of_getElem? (i := 1049) (by decide +kernel), List.mem_of_getElem? (i := 1050) (by decide +kernel)⟩
theorem lw_p41 : lw_okq (⟨"GorseGoldModel", "grows", "()V"⟩, 29) := ⟨⟨by decide +kernel, by decide +kernel⟩, List.mem_of_getElem? (i := 814) (by decide +kernel), List.mem_of_getElem? (i := 1053) (by decide +kernel), List.mem_of_getElem? (i := 1054) (by decide +kernel)⟩
theorem lw_p42 : lw_okq (⟨"GorseGoldModel", "stateOf", "(II)I"⟩, 29) := ⟨⟨by decide +kernel, by decide +kernel⟩, List.mem_of_getElem? (i := 814) (by decide +kernel), List.mem_of_getElem? (i := 1057) (by decide +kernel), List.mem_of_getElem? (i := 1058) (by decide +kernel)⟩
theorem lw_p43 : lw_okq (⟨"GorseGoldModel", "isOn", "(III)Z"⟩, 29) := ⟨⟨by decide +kernel, by decide +kernel⟩, List.mem_of_getElem? (i := 814) (by decide +kernel), List.mem_of_getElem? (i := 1061) (by decide +kernel), List.mem_of_getElem? (i := 1062) (by decide +kernel)⟩
theorem lw_p44 : lw_okq (⟨"GorseGoldModel", "isSeason", "(II)Z"⟩, 29) := ⟨⟨by decide +kernel, by decide +kernel⟩, List.mem_of_getElem? (i := 814) (by decide +kernel), List.mem_of_getElem? (i := 1071) (by decide +kernel), List.mem_of_getElem? (i := 1072) (by decide +kernel)⟩
theorem lw_p45 : lw_okq (⟨"GorseGoldModel", "isSeeming", "(II)Z"⟩, 29) := ⟨⟨by decide +kernel, by decide +kernel⟩, List.mem_of_getElem? (i := 814) (by decide +kernel), List.mem_of_getElem? (i := 1075) (by decide +kernel), List.mem_of_getElem? (i := 1076) (by decide +kernel)⟩
theorem lw_p46 : lw_okq (⟨"GorseGoldModel", "believes", "()V"⟩, 29) := ⟨⟨by decide +kernel, by decide +kernel⟩, List.mem_of_getElem? (i := 814) (by decide +kernel), List.mem_of_getElem? (i := 1079) (by decide +kernel), List.mem_of_getElem? (i := 1080) (by decide +kernel)⟩
theorem lw_p47 : lw_okq (⟨"GorseGoldModel", "looked", "(III)I"⟩, 29) := ⟨⟨by decide +kernel, by decide +kernel⟩, List.mem_of_getElem? (i := 814) (by decide +kernel), List.mem_of_getElem? (i := 1086) (by decide +kernel), List.mem_of_getElem? (i := 1087) (by decide +kernel)⟩
def lw_privs_3 : List (MethodName × Nat) := [(⟨"GorseGoldModel", "lacks", "(III)I"⟩, 29), (⟨"GorseGoldModel", "readsText", "(I)I"⟩, 29), (⟨"GorseGoldModel", "readsBushes", "()I"⟩, 29), (⟨"GorseGoldModel", "readsLooks", "()I"⟩, 29), (⟨"GorseGoldModel", "isBush", "(I)Z"⟩, 29), (⟨"GorseGoldModel", "lookBy", "(II)I"⟩, 29), (⟨"GorseGoldModel", "puts", "(III)V"⟩, 29), (⟨"GorseGoldModel", "find", "()V"⟩, 29), (⟨"GorseGoldModel", "lives", "()V"⟩, 29), (⟨"GorseGoldModel", "grows", "()V"⟩, 29), (⟨"GorseGoldModel", "stateOf", "(II)I"⟩, 29), (⟨"GorseGoldModel", "isOn", "(III)Z"⟩, 29), (⟨"GorseGoldModel", "isSeason", "(II)Z"⟩, 29), (⟨"GorseGoldModel", "isSeeming", "(II)Z"⟩, 29), (⟨"GorseGoldModel", "believes", "()V"⟩, 29), (⟨"GorseGoldModel", "looked", "(III)I"⟩, 29)]
theorem lw_r3 : ∀ q ∈ lw_privs_3, lw_okq q := List.forall_mem_cons.mpr ⟨lw_p32, List.forall_mem_cons.mpr ⟨lw_p33, List.forall_mem_cons.mpr ⟨lw_p34, List.forall_mem_cons.mpr ⟨lw_p35, List.forall_mem_cons.mpr ⟨lw_p36, List.forall_mem_cons.mpr ⟨lw_p37, List.forall_mem_cons.mpr ⟨lw_p38, List.forall_mem_cons.mpr ⟨lw_p39, List.forall_mem_cons.mpr ⟨lw_p40, List.forall_mem_cons.mpr ⟨lw_p41, List.forall_mem_cons.mpr ⟨lw_p42, List.forall_mem_cons.mpr ⟨lw_p43, List.forall_mem_cons.mpr ⟨lw_p44, List.forall_mem_cons.mpr ⟨lw_p45, List.forall_mem_cons.mpr ⟨lw_p46, List.forall_mem_cons.mpr ⟨lw_p47, fun _ h => absurd h List.not_mem_nil⟩⟩⟩⟩⟩⟩⟩⟩⟩⟩⟩⟩⟩⟩⟩⟩
theorem lw_p48 : lw_okq (⟨"GorseGoldModel", "atBy", "(III)I"⟩, 29) := ⟨⟨by decide +kernel, by decide +kernel⟩, List.mem_of_getElem? (i := 814) (by decide +kernel), List.mem_of_getElem? (i := 1090) (by decide +kernel), List.mem_of_getElem? (i := 1091) (by decide +kernel)⟩
theorem lw_p49 : lw_okq (⟨"GorseGoldModel", "hillBy", "(II)I"⟩, 29) := ⟨⟨by decide +kernel, by decide +kernel⟩, List.mem_of_getElem? (i := 814) (by decide +kernel), List.mem_of_getElem? (i := 1098) (by decide +kernel), List.mem_of_getElem? (i := 1099) (by decide +kernel)⟩
theorem lw_p50 : lw_okq (⟨"GorseGoldModel", "bareNow", "()I"⟩, 29) := ⟨⟨by decide +kernel, by decide +kernel⟩, List.mem_of_getElem? (i := 814) (by decide +kernel), List.mem_of_getElem? (i := 1106) (by decide +kernel), List.mem_of_getElem? (i := 1107) (by decide +kernel)⟩
theorem lw_p51 : lw_okq (⟨"GorseGoldModel", "runNow", "()I"⟩, 29) := ⟨⟨by decide +kernel, by decide +kernel⟩, List.mem_of_getElem? (i := 814) (by decide +kernel), List.mem_of_getElem? (i := 1114) (by decide +kernel), List.mem_of_getElem? (i := 1115) (by decide +kernel)⟩
theorem lw_p52 : lw_okq (⟨"GorseGoldModel", "fakeNow", "()I"⟩, 29) := ⟨⟨by decide +kernel, by decide +kernel⟩, List.mem_of_getElem? (i := 814) (by decide +kernel), List.mem_of_getElem? (i := 1122) (by decide +kernel), List.mem_of_getElem? (i := 1123) (by decide +kernel)⟩
theorem lw_p53 : lw_okq (⟨"GorseGoldModel", "lastBy", "(I)I"⟩, 29) := ⟨⟨by decide +kernel, by decide +kernel⟩, List.mem_of_getElem? (i := 814) (by decide +kernel), List.mem_of_getElem? (i := 1130) (by decide +kernel), List.mem_of_getElem? (i := 1131) (by decide +kernel)⟩
theorem lw_p54 : lw_okq (⟨"GorseGoldModel", "plantBy", "(I)I"⟩, 29) := ⟨⟨by decide +kernel, by decide +kernel⟩, List.mem_of_getElem? (i := 814) (by decide +kernel), List.mem_of_getElem? (i := 1141) (by decide +kernel), List.mem_of_getElem? (i := 1142) (by decide +kernel)⟩
theorem lw_p55 : lw_okq (⟨"GorseGoldModel", "sendBy", "(I)I"⟩, 29) := ⟨⟨by decide +kernel, by decide +kernel⟩, List.mem_of_getElem? (i := 814) (by decide +kernel), List.mem_of_getElem? (i := 1155) (by decide +kernel), List.mem_of_getElem? (i := 1156) (by decide +kernel)⟩
theorem lw_p56 : lw_okq (⟨"GorseGoldModel", "saveOf", "(I)I"⟩, 29) := ⟨⟨by decide +kernel, by decide +kernel⟩, List.mem_of_getElem? (i := 814) (by decide +kernel), List.mem_of_getElem? (i := 1164) (by decide +kernel), List.mem_of_getElem? (i := 1165) (by decide +kernel)⟩
theorem lw_p57 : lw_okq (⟨"GorseGoldModel", "isSaved", "(I)Z"⟩, 29) := ⟨⟨by decide +kernel, by decide +kernel⟩, List.mem_of_getElem? (i := 814) (by decide +kernel), List.mem_of_getElem? (i := 1168) (by decide +kernel), List.mem_of_getElem? (i := 1169) (by decide +kernel)⟩
theorem lw_p58 : lw_okq (⟨"GorseGoldModel", "dealBy", "(I)I"⟩, 29) := ⟨⟨by decide +kernel, by decide +kernel⟩, List.mem_of_getElem? (i := 814) (by decide +kernel), List.mem_of_getElem? (i := 1176) (by decide +kernel), List.mem_of_getElem? (i := 1177) (by decide +kernel)⟩
theorem lw_p59 : lw_okq (⟨"GorseGoldModel", "neverNow", "()I"⟩, 29) := ⟨⟨by decide +kernel, by decide +kernel⟩, List.mem_of_getElem? (i := 814) (by decide +kernel), List.mem_of_getElem? (i := 1193) (by decide +kernel), List.mem_of_getElem? (i := 1194) (by decide +kernel)⟩
theorem lw_p60 : lw_okq (⟨"GorseGoldModel", "isSeen", "()Z"⟩, 29) := ⟨⟨by decide +kernel, by decide +kernel⟩, List.mem_of_getElem? (i := 814) (by decide +kernel), List.mem_of_getElem? (i := 1197) (by decide +kernel), List.mem_of_getElem? (i := 1198) (by decide +kernel)⟩
theorem lw_p61 : lw_okq (⟨"GorseGoldModel", "wasOf", "(II)I"⟩, 29) := ⟨⟨by decide +kernel, by decide +kernel⟩, List.mem_of_getElem? (i := 814) (by decide +kernel), List.mem_of_getElem? (i := 1205) (by decide +kernel), List.mem_of_getElem? (i := 1206) (by decide +kernel)⟩
theorem lw_p62 : lw_okq (⟨"GorseGoldModel", "beganOf", "(I)I"⟩, 29) := ⟨⟨by decide +kernel, by decide +kernel⟩, List.mem_of_getElem? (i := 814) (by decide +kernel), List.mem_of_getElem? (i := 1209) (by decide +kernel), List.mem_of_getElem? (i := 1210) (by decide +kernel)⟩
theorem lw_p63 : lw_okq (⟨"GorseGoldModel", "sortOf", "(I)I"⟩, 29) := ⟨⟨by decide +kernel, by decide +kernel⟩, List.mem_of_getElem? (i := 814) (by decide +kernel), List.mem_of_getElem? (i := 1213) (by decide +kernel), List.mem_of_getElem? (i := 1214) (by decide +kernel)⟩
def lw_privs_4 : List (MethodName × Nat) := [(⟨"GorseGoldModel", "atBy", "(III)I"⟩, 29), (⟨"GorseGoldModel", "hillBy", "(II)I"⟩, 29), (⟨"GorseGoldModel", "bareNow", "()I"⟩, 29), (⟨"GorseGoldModel", "runNow", "()I"⟩, 29), (⟨"GorseGoldModel", "fakeNow", "()I"⟩, 29), (⟨"GorseGoldModel", "lastBy", "(I)I"⟩, 29), (⟨"GorseGoldModel", "plantBy", "(I)I"⟩, 29), (⟨"GorseGoldModel", "sendBy", "(I)I"⟩, 29), (⟨"GorseGoldModel", "saveOf", "(I)I"⟩, 29), (⟨"GorseGoldModel", "isSaved", "(I)Z"⟩, 29), (⟨"GorseGoldModel", "dealBy", "(I)I"⟩, 29), (⟨"GorseGoldModel", "neverNow", "()I"⟩, 29), (⟨"GorseGoldModel", "isSeen", "()Z"⟩, 29), (⟨"GorseGoldModel", "wasOf", "(II)I"⟩, 29), (⟨"GorseGoldModel", "beganOf", "(I)I"⟩, 29), (⟨"GorseGoldModel", "sortOf", "(I)I"⟩, 29)]
theorem lw_r4 : ∀ q ∈ lw_privs_4, lw_okq q := List.forall_mem_cons.mpr ⟨lw_p48, List.forall_mem_cons.mpr ⟨lw_p49, List.forall_mem_cons.mpr ⟨lw_p50, List.forall_mem_cons.mpr ⟨lw_p51, List.forall_mem_cons.mpr ⟨lw_p52, List.forall_mem_cons.mpr ⟨lw_p53, List.forall_mem_cons.mpr ⟨lw_p54, List.forall_mem_cons.mpr ⟨lw_p55, List.forall_mem_cons.mpr ⟨lw_p56, List.forall_mem_cons.mpr ⟨lw_p57, List.forall_mem_cons.mpr ⟨lw_p58, List.forall_mem_cons.mpr ⟨lw_p59, List.forall_mem_cons.mpr ⟨lw_p60, List.forall_mem_cons.mpr ⟨lw_p61, List.forall_mem_cons.mpr ⟨lw_p62, List.forall_mem_cons.mpr ⟨lw_p63, fun _ h => absurd h List.not_mem_nil⟩⟩⟩⟩⟩⟩⟩⟩⟩⟩⟩⟩⟩⟩⟩⟩
theorem lw_p64 : lw_okq (⟨"GorseGoldModel", "askOf", "(I)I"⟩, 29) := ⟨⟨by decide +kernel, by decide +kernel⟩, List.mem_of_getElem? (i := 814) (by decide +kernel), List.mem_of_getElem? (i := 1221) (by decide +kernel), List.mem_of_getElem? (i := 1222) (by decide +kernel)⟩
theorem lw_p65 : lw_okq (⟨"GorseGoldModel", "luckOf", "(III)J"⟩, 29) := ⟨⟨by decide +kernel, by decide +kernel⟩, List.mem_of_getElem? (i := 814) (by decide +kernel), List.mem_of_getElem? (i := 1230) (by decide +kernel), List.mem_of_getElem? (i := 1231) (by decide +kernel)⟩
theorem lw_p66 : lw_okq (⟨"GorseGoldModel", "centuryOf", "(III)I"⟩, 29) := ⟨⟨by decide +kernel, by decide +kernel⟩, List.mem_of_getElem? (i := 814) (by decide +kernel), List.mem_of_getElem? (i := 1246) (by decide +kernel), List.mem_of_getElem? (i := 1247) (by decide +kernel)⟩
theorem lw_p67 : lw_okq (⟨"GorseGoldModel", "lot", "(I)I"⟩, 29) := ⟨⟨by decide +kernel, by decide +kernel⟩, List.mem_of_getElem? (i := 814) (by decide +kernel), List.mem_of_getElem? (i := 1250) (by decide +kernel), List.mem_of_getElem? (i := 1251) (by decide +kernel)⟩
theorem lw_p68 : lw_okq (⟨"GorseGoldModel", "allYellow", "()I"⟩, 29) := ⟨⟨by decide +kernel, by decide +kernel⟩, List.mem_of_getElem? (i := 814) (by decide +kernel), List.mem_of_getElem? (i := 1263) (by decide +kernel), List.mem_of_getElem? (i := 1264) (by decide +kernel)⟩
theorem lw_p69 : lw_okq (⟨"GorseGoldModel", "tellsBush", "(JI)J"⟩, 29) := ⟨⟨by decide +kernel, by decide +kernel⟩, List.mem_of_getElem? (i := 814) (by decide +kernel), List.mem_of_getElem? (i := 1274) (by decide +kernel), List.mem_of_getElem? (i := 1275) (by decide +kernel)⟩
theorem lw_p70 : lw_okq (⟨"GorseGoldModel", "tellsMonth", "(JII)J"⟩, 29) := ⟨⟨by decide +kernel, by decide +kernel⟩, List.mem_of_getElem? (i := 814) (by decide +kernel), List.mem_of_getElem? (i := 1278) (by decide +kernel), List.mem_of_getElem? (i := 1279) (by decide +kernel)⟩
def lw_privs_5 : List (MethodName × Nat) := [(⟨"GorseGoldModel", "askOf", "(I)I"⟩, 29), (⟨"GorseGoldModel", "luckOf", "(III)J"⟩, 29), (⟨"GorseGoldModel", "centuryOf", "(III)I"⟩, 29), (⟨"GorseGoldModel", "lot", "(I)I"⟩, 29), (⟨"GorseGoldModel", "allYellow", "()I"⟩, 29), (⟨"GorseGoldModel", "tellsBush", "(JI)J"⟩, 29), (⟨"GorseGoldModel", "tellsMonth", "(JII)J"⟩, 29)]
theorem lw_r5 : ∀ q ∈ lw_privs_5, lw_okq q := List.forall_mem_cons.mpr ⟨lw_p64, List.forall_mem_cons.mpr ⟨lw_p65, List.forall_mem_cons.mpr ⟨lw_p66, List.forall_mem_cons.mpr ⟨lw_p67, List.forall_mem_cons.mpr ⟨lw_p68, List.forall_mem_cons.mpr ⟨lw_p69, List.forall_mem_cons.mpr ⟨lw_p70, fun _ h => absurd h List.not_mem_nil⟩⟩⟩⟩⟩⟩⟩
def lw_privs : List (MethodName × Nat) := lw_privs_1 ++ (lw_privs_2 ++ (lw_privs_3 ++ (lw_privs_4 ++ (lw_privs_5))))
def lw_tbl : List Cond := k2_sels lw_privs ++ tables_1
theorem lw_privs_ok : ∀ q ∈ lw_privs, lw_okq q := by
  show ∀ q ∈ lw_privs_1 ++ (lw_privs_2 ++ (lw_privs_3 ++ (lw_privs_4 ++ (lw_privs_5)))), lw_okq q
  exact List.forall_mem_append.mpr ⟨lw_r1, List.forall_mem_append.mpr ⟨lw_r2, List.forall_mem_append.mpr ⟨lw_r3, List.forall_mem_append.mpr ⟨lw_r4, lw_r5⟩⟩⟩⟩
def RX0 : String := "GorseGold$Bushes"
def TX0 : u_T := fun k => match k with
  | _ => ("GorseGold$Bushes", "text", "LGorseGold$Text;", true)
def tyX0 : Nat → FieldType := fun k => match k with
  | _ => .object "GorseGold$Text"
abbrev wsX00 : List Cond := u_ws RX0 TX0 1
theorem nmX0 : ∀ a, a < 1 → ∀ b, b < 1 → a ≠ b → (TX0 a).2.1 ≠ (TX0 b).2.1 := by decide +kernel
theorem tyX0_ok : ∀ k, k < 1 → parseFieldDescriptor (TX0 k).2.2.1 = some (tyX0 k) := by decide +kernel
abbrev cX0_init : ByteArray := prog_2_method_1_code
def yX0_init : MethodName := ⟨RX0, "<init>", "()V"⟩
abbrev cX0_size : ByteArray := prog_2_method_2_code
def yX0_size : MethodName := ⟨RX0, "size", "()I"⟩
abbrev cX0_has : ByteArray := prog_2_method_3_code
def yX0_has : MethodName := ⟨RX0, "has", "(I)Z"⟩
abbrev cX0_kindOf : ByteArray := prog_2_method_4_code
def yX0_kindOf : MethodName := ⟨RX0, "kindOf", "(I)I"⟩
abbrev cX0_beginOf : ByteArray := prog_2_method_5_code
def yX0_beginOf : MethodName := ⟨RX0, "beginOf", "(I)I"⟩
abbrev cX0_sparksOf : ByteArray := prog_2_method_6_code
def yX0_sparksOf : MethodName := ⟨RX0, "sparksOf", "(I)I"⟩
def RX1 : String := "GorseGold$Course"
def TX1 : u_T := fun k => match k with
  | 0 => ("GorseGold$Course", "held", "[I", true)
  | 1 => ("GorseGold$Course", "season", "I", false)
  | 2 => ("GorseGold$Course", "blooming", "I", false)
  | _ => ("GorseGold$Course", "seeming", "I", false)
def tyX1 : Nat → FieldType := fun k => match k with
  | 0 => .array .int
  | 1 => .int
  | 2 => .int
  | _ => .int
abbrev wsX10 : List Cond := u_ws RX1 TX1 4
theorem nmX1 : ∀ a, a < 4 → ∀ b, b < 4 → a ≠ b → (TX1 a).2.1 ≠ (TX1 b).2.1 := by decide +kernel
theorem tyX1_ok : ∀ k, k < 4 → parseFieldDescriptor (TX1 k).2.2.1 = some (tyX1 k) := by decide +kernel
abbrev cX1_init : ByteArray := prog_3_method_1_code
def yX1_init : MethodName := ⟨RX1, "<init>", "()V"⟩
abbrev cX1_follow : ByteArray := prog_3_method_2_code
def yX1_follow : MethodName := ⟨RX1, "follow", "(LGorseGold$Events;IIII)V"⟩
abbrev cX1_beginIn : ByteArray := prog_3_method_3_code
def yX1_beginIn : MethodName := ⟨RX1, "beginIn", "(II)V"⟩
abbrev cX1_stateIn : ByteArray := prog_3_method_4_code
def yX1_stateIn : MethodName := ⟨RX1, "stateIn", "(I)I"⟩
def RX2 : String := "GorseGold$Events"
def TX2 : u_T := fun k => match k with
  | 0 => ("GorseGold$Events", "kinds", "[I", true)
  | 1 => ("GorseGold$Events", "months", "[I", true)
  | 2 => ("GorseGold$Events", "bushes", "[I", true)
  | _ => ("GorseGold$Events", "size", "I", false)
def tyX2 : Nat → FieldType := fun k => match k with
  | 0 => .array .int
  | 1 => .array .int
  | 2 => .array .int
  | _ => .int
abbrev wsX20 : List Cond := u_ws RX2 TX2 4
theorem nmX2 : ∀ a, a < 4 → ∀ b, b < 4 → a ≠ b → (TX2 a).2.1 ≠ (TX2 b).2.1 := by decide +kernel
theorem tyX2_ok : ∀ k, k < 4 → parseFieldDescriptor (TX2 k).2.2.1 = some (tyX2 k) := by decide +kernel
abbrev cX2_init : ByteArray := prog_4_method_1_code
def yX2_init : MethodName := ⟨RX2, "<init>", "()V"⟩
abbrev cX2_add : ByteArray := prog_4_method_2_code
def yX2_add : MethodName := ⟨RX2, "add", "(III)I"⟩
abbrev cX2_dropLast : ByteArray := prog_4_method_3_code
def yX2_dropLast : MethodName := ⟨RX2, "dropLast", "()I"⟩
abbrev cX2_clear : ByteArray := prog_4_method_4_code
def yX2_clear : MethodName := ⟨RX2, "clear", "()V"⟩
abbrev cX2_holding : ByteArray := prog_4_method_5_code
def yX2_holding : MethodName := ⟨RX2, "holding", "(III)I"⟩
abbrev cX2_hindering : ByteArray := prog_4_method_6_code
def yX2_hindering : MethodName := ⟨RX2, "hindering", "(III)I"⟩
def RX3 : String := "GorseGold$Hill"
def TX3 : u_T := fun k => match k with
  | 0 => ("GorseGold$Hill", "bushes", "LGorseGold$Bushes;", true)
  | _ => ("GorseGold$Hill", "courses", "[LGorseGold$Course;", true)
def tyX3 : Nat → FieldType := fun k => match k with
  | 0 => .object "GorseGold$Bushes"
  | _ => .array (.object "GorseGold$Course")
abbrev wsX30 : List Cond := u_ws RX3 TX3 2
theorem nmX3 : ∀ a, a < 2 → ∀ b, b < 2 → a ≠ b → (TX3 a).2.1 ≠ (TX3 b).2.1 := by decide +kernel
theorem tyX3_ok : ∀ k, k < 2 → parseFieldDescriptor (TX3 k).2.2.1 = some (tyX3 k) := by decide +kernel
abbrev cX3_init : ByteArray := prog_5_method_1_code
def yX3_init : MethodName := ⟨RX3, "<init>", "()V"⟩
abbrev cX3_grow : ByteArray := prog_5_method_2_code
def yX3_grow : MethodName := ⟨RX3, "grow", "(LGorseGold$Events;I)I"⟩
abbrev cX3_yellowIn : ByteArray := prog_5_method_3_code
def yX3_yellowIn : MethodName := ⟨RX3, "yellowIn", "(I)I"⟩
abbrev cX3_seemingIn : ByteArray := prog_5_method_4_code
def yX3_seemingIn : MethodName := ⟨RX3, "seemingIn", "(I)I"⟩
def RX4 : String := "GorseGold$Looks"
def TX4 : u_T := fun k => match k with
  | _ => ("GorseGold$Looks", "text", "LGorseGold$Text;", true)
def tyX4 : Nat → FieldType := fun k => match k with
  | _ => .object "GorseGold$Text"
abbrev wsX40 : List Cond := u_ws RX4 TX4 1
theorem nmX4 : ∀ a, a < 1 → ∀ b, b < 1 → a ≠ b → (TX4 a).2.1 ≠ (TX4 b).2.1 := by decide +kernel
theorem tyX4_ok : ∀ k, k < 1 → parseFieldDescriptor (TX4 k).2.2.1 = some (tyX4 k) := by decide +kernel
abbrev cX4_init : ByteArray := prog_6_method_1_code
def yX4_init : MethodName := ⟨RX4, "<init>", "()V"⟩
abbrev cX4_size : ByteArray := prog_6_method_2_code
def yX4_size : MethodName := ⟨RX4, "size", "()I"⟩
abbrev cX4_has : ByteArray := prog_6_method_3_code
def yX4_has : MethodName := ⟨RX4, "has", "(I)Z"⟩
abbrev cX4_monthOf : ByteArray := prog_6_method_4_code
def yX4_monthOf : MethodName := ⟨RX4, "monthOf", "(I)I"⟩
abbrev cX4_bushOf : ByteArray := prog_6_method_5_code
def yX4_bushOf : MethodName := ⟨RX4, "bushOf", "(I)I"⟩
def RX5 : String := "GorseGold$Lots"
def TX5 : u_T := fun k => match k with
  | _ => ("GorseGold$Lots", "seed", "I", false)
def tyX5 : Nat → FieldType := fun k => match k with
  | _ => .int
abbrev wsX50 : List Cond := u_ws RX5 TX5 1
theorem nmX5 : ∀ a, a < 1 → ∀ b, b < 1 → a ≠ b → (TX5 a).2.1 ≠ (TX5 b).2.1 := by decide +kernel
theorem tyX5_ok : ∀ k, k < 1 → parseFieldDescriptor (TX5 k).2.2.1 = some (tyX5 k) := by decide +kernel
abbrev cX5_init : ByteArray := prog_7_method_1_code
def yX5_init : MethodName := ⟨RX5, "<init>", "()V"⟩
abbrev cX5_draw : ByteArray := prog_7_method_2_code
def yX5_draw : MethodName := ⟨RX5, "draw", "(I)I"⟩
def RX6 : String := "GorseGold$Market"
def TX6 : u_T := fun k => match k with
  | 0 => ("GorseGold$Market", "hill", "LGorseGold$Hill;", true)
  | 1 => ("GorseGold$Market", "looks", "LGorseGold$Looks;", true)
  | 2 => ("GorseGold$Market", "fires", "[I", true)
  | 3 => ("GorseGold$Market", "lookMonths", "[I", true)
  | 4 => ("GorseGold$Market", "lookWorths", "[I", true)
  | 5 => ("GorseGold$Market", "belief", "[I", true)
  | 6 => ("GorseGold$Market", "looksThatCount", "I", false)
  | 7 => ("GorseGold$Market", "runMonth", "I", false)
  | 8 => ("GorseGold$Market", "faith", "I", false)
  | _ => ("GorseGold$Market", "doubt", "I", false)
def tyX6 : Nat → FieldType := fun k => match k with
  | 0 => .object "GorseGold$Hill"
  | 1 => .object "GorseGold$Looks"
  | 2 => .array .int
  | 3 => .array .int
  | 4 => .array .int
  | 5 => .array .int
  | 6 => .int
  | 7 => .int
  | 8 => .int
  | _ => .int
abbrev wsX60 : List Cond := u_ws RX6 TX6 10
theorem nmX6 : ∀ a, a < 10 → ∀ b, b < 10 → a ≠ b → (TX6 a).2.1 ≠ (TX6 b).2.1 := by decide +kernel
theorem tyX6_ok : ∀ k, k < 10 → parseFieldDescriptor (TX6 k).2.2.1 = some (tyX6 k) := by decide +kernel
abbrev cX6_init : ByteArray := prog_8_method_1_code
def yX6_init : MethodName := ⟨RX6, "<init>", "()V"⟩
abbrev cX6_reckon : ByteArray := prog_8_method_2_code
def yX6_reckon : MethodName := ⟨RX6, "reckon", "(LGorseGold$Events;)V"⟩
abbrev cX6_runWith : ByteArray := prog_8_method_3_code
def yX6_runWith : MethodName := ⟨RX6, "runWith", "(II)I"⟩
abbrev cX6_countFires : ByteArray := prog_8_method_4_code
def yX6_countFires : MethodName := ⟨RX6, "countFires", "(LGorseGold$Events;)V"⟩
abbrev cX6_gatherLooks : ByteArray := prog_8_method_5_code
def yX6_gatherLooks : MethodName := ⟨RX6, "gatherLooks", "()V"⟩
abbrev cX6_worthOf : ByteArray := prog_8_method_6_code
def yX6_worthOf : MethodName := ⟨RX6, "worthOf", "(II)I"⟩
abbrev cX6_behind : ByteArray := prog_8_method_7_code
def yX6_behind : MethodName := ⟨RX6, "behind", "(III)I"⟩
abbrev cX6_bounded : ByteArray := prog_8_method_8_code
def yX6_bounded : MethodName := ⟨RX6, "bounded", "(I)I"⟩
def RX7 : String := "GorseGold$Seen"
def TX7 : u_T := fun k => match k with
  | 0 => ("GorseGold$Seen", "months", "[I", true)
  | 1 => ("GorseGold$Seen", "bushes", "[I", true)
  | 2 => ("GorseGold$Seen", "states", "[I", true)
  | _ => ("GorseGold$Seen", "size", "I", false)
def tyX7 : Nat → FieldType := fun k => match k with
  | 0 => .array .int
  | 1 => .array .int
  | 2 => .array .int
  | _ => .int
abbrev wsX70 : List Cond := u_ws RX7 TX7 4
theorem nmX7 : ∀ a, a < 4 → ∀ b, b < 4 → a ≠ b → (TX7 a).2.1 ≠ (TX7 b).2.1 := by decide +kernel
theorem tyX7_ok : ∀ k, k < 4 → parseFieldDescriptor (TX7 k).2.2.1 = some (tyX7 k) := by decide +kernel
abbrev cX7_init : ByteArray := prog_9_method_1_code
def yX7_init : MethodName := ⟨RX7, "<init>", "()V"⟩
abbrev cX7_add : ByteArray := prog_9_method_2_code
def yX7_add : MethodName := ⟨RX7, "add", "(III)I"⟩
abbrev cX7_clear : ByteArray := prog_9_method_3_code
def yX7_clear : MethodName := ⟨RX7, "clear", "()I"⟩
abbrev cX7_comeOut : ByteArray := prog_9_method_4_code
def yX7_comeOut : MethodName := ⟨RX7, "comeOut", "(LGorseGold$Hill;)Z"⟩
def RX8 : String := "GorseGold$Sheet"
def TX8 : u_T := fun k => match k with
  | 0 => ("GorseGold$Sheet", "items", "[I", true)
  | 1 => ("GorseGold$Sheet", "form", "I", false)
  | _ => ("GorseGold$Sheet", "size", "I", false)
def tyX8 : Nat → FieldType := fun k => match k with
  | 0 => .array .int
  | 1 => .int
  | _ => .int
abbrev wsX80 : List Cond := u_ws RX8 TX8 3
theorem nmX8 : ∀ a, a < 3 → ∀ b, b < 3 → a ≠ b → (TX8 a).2.1 ≠ (TX8 b).2.1 := by decide +kernel
theorem tyX8_ok : ∀ k, k < 3 → parseFieldDescriptor (TX8 k).2.2.1 = some (tyX8 k) := by decide +kernel
abbrev cX8_init : ByteArray := prog_10_method_1_code
def yX8_init : MethodName := ⟨RX8, "<init>", "()V"⟩
abbrev cX8_isLost : ByteArray := prog_10_method_2_code
def yX8_isLost : MethodName := ⟨RX8, "isLost", "()Z"⟩
abbrev cX8_renew : ByteArray := prog_10_method_3_code
def yX8_renew : MethodName := ⟨RX8, "renew", "(II)V"⟩
abbrev cX8_discard : ByteArray := prog_10_method_4_code
def yX8_discard : MethodName := ⟨RX8, "discard", "()I"⟩
abbrev cX8_hasItems : ByteArray := prog_10_method_5_code
def yX8_hasItems : MethodName := ⟨RX8, "hasItems", "(II)Z"⟩
abbrev cX8_item : ByteArray := prog_10_method_6_code
def yX8_item : MethodName := ⟨RX8, "item", "(I)I"⟩
abbrev cX8_put : ByteArray := prog_10_method_7_code
def yX8_put : MethodName := ⟨RX8, "put", "(II)V"⟩
abbrev cX8_narrowed : ByteArray := prog_10_method_8_code
def yX8_narrowed : MethodName := ⟨RX8, "narrowed", "(I)I"⟩
def RX9 : String := "GorseGold$Text"
def TX9 : u_T := fun k => match k with
  | 0 => ("GorseGold$Text", "bytes", "[I", true)
  | 1 => ("GorseGold$Text", "lows", "[I", true)
  | 2 => ("GorseGold$Text", "highs", "[I", true)
  | 3 => ("GorseGold$Text", "mostItems", "I", true)
  | 4 => ("GorseGold$Text", "step", "I", true)
  | 5 => ("GorseGold$Text", "length", "I", false)
  | 6 => ("GorseGold$Text", "faultPlace", "I", false)
  | _ => ("GorseGold$Text", "items", "I", false)
def tyX9 : Nat → FieldType := fun k => match k with
  | 0 => .array .int
  | 1 => .array .int
  | 2 => .array .int
  | 3 => .int
  | 4 => .int
  | 5 => .int
  | 6 => .int
  | _ => .int
abbrev wsX90 : List Cond := u_ws RX9 TX9 8
theorem nmX9 : ∀ a, a < 8 → ∀ b, b < 8 → a ≠ b → (TX9 a).2.1 ≠ (TX9 b).2.1 := by decide +kernel
theorem tyX9_ok : ∀ k, k < 8 → parseFieldDescriptor (TX9 k).2.2.1 = some (tyX9 k) := by decide +kernel
abbrev cX9_init : ByteArray := prog_11_method_1_code
def yX9_init : MethodName := ⟨RX9, "<init>", "(II[I[I)V"⟩
abbrev cX9_put : ByteArray := prog_11_method_2_code
def yX9_put : MethodName := ⟨RX9, "put", "(I)I"⟩
abbrev cX9_clear : ByteArray := prog_11_method_3_code
def yX9_clear : MethodName := ⟨RX9, "clear", "()I"⟩
abbrev cX9_drop : ByteArray := prog_11_method_4_code
def yX9_drop : MethodName := ⟨RX9, "drop", "()I"⟩
abbrev cX9_parse : ByteArray := prog_11_method_5_code
def yX9_parse : MethodName := ⟨RX9, "parse", "()V"⟩
abbrev cX9_firstFault : ByteArray := prog_11_method_6_code
def yX9_firstFault : MethodName := ⟨RX9, "firstFault", "()I"⟩
abbrev cX9_mayStand : ByteArray := prog_11_method_7_code
def yX9_mayStand : MethodName := ⟨RX9, "mayStand", "(III)Z"⟩
def RX10 : String := "GorseGold"
def TX10 : u_T := fun k => match k with
  | 0 => ("GorseGold", "market", "LGorseGold$Market;", true)
  | 1 => ("GorseGold", "hill", "LGorseGold$Hill;", true)
  | 2 => ("GorseGold", "bushes", "LGorseGold$Bushes;", true)
  | 3 => ("GorseGold", "looks", "LGorseGold$Looks;", true)
  | 4 => ("GorseGold", "events", "LGorseGold$Events;", true)
  | 5 => ("GorseGold", "drawn", "LGorseGold$Events;", true)
  | 6 => ("GorseGold", "lone", "LGorseGold$Course;", true)
  | 7 => ("GorseGold", "sights", "LGorseGold$Seen;", true)
  | 8 => ("GorseGold", "lots", "LGorseGold$Lots;", true)
  | 9 => ("GorseGold", "sheets", "[LGorseGold$Sheet;", true)
  | 10 => ("GorseGold", "hinderers", "[I", true)
  | 11 => ("GorseGold", "alike", "[I", true)
  | _ => ("GorseGold", "latestFinding", "I", false)
def tyX10 : Nat → FieldType := fun k => match k with
  | 0 => .object "GorseGold$Market"
  | 1 => .object "GorseGold$Hill"
  | 2 => .object "GorseGold$Bushes"
  | 3 => .object "GorseGold$Looks"
  | 4 => .object "GorseGold$Events"
  | 5 => .object "GorseGold$Events"
  | 6 => .object "GorseGold$Course"
  | 7 => .object "GorseGold$Seen"
  | 8 => .object "GorseGold$Lots"
  | 9 => .array (.object "GorseGold$Sheet")
  | 10 => .array .int
  | 11 => .array .int
  | _ => .int
abbrev wsX100 : List Cond := u_ws RX10 TX10 13
theorem nmX10 : ∀ a, a < 13 → ∀ b, b < 13 → a ≠ b → (TX10 a).2.1 ≠ (TX10 b).2.1 := by decide +kernel
theorem tyX10_ok : ∀ k, k < 13 → parseFieldDescriptor (TX10 k).2.2.1 = some (tyX10 k) := by decide +kernel
abbrev cX10_init : ByteArray := prog_1_method_1_code
def yX10_init : MethodName := ⟨RX10, "<init>", "()V"⟩
abbrev cX10_type : ByteArray := prog_1_method_2_code
def yX10_type : MethodName := ⟨RX10, "type", "(II)I"⟩
abbrev cX10_wipe : ByteArray := prog_1_method_3_code
def yX10_wipe : MethodName := ⟨RX10, "wipe", "(I)I"⟩
abbrev cX10_undo : ByteArray := prog_1_method_4_code
def yX10_undo : MethodName := ⟨RX10, "undo", "(I)I"⟩
abbrev cX10_fault : ByteArray := prog_1_method_5_code
def yX10_fault : MethodName := ⟨RX10, "fault", "(I)I"⟩
abbrev cX10_bush : ByteArray := prog_1_method_6_code
def yX10_bush : MethodName := ⟨RX10, "bush", "(II)I"⟩
abbrev cX10_look : ByteArray := prog_1_method_7_code
def yX10_look : MethodName := ⟨RX10, "look", "(II)I"⟩
abbrev cX10_set : ByteArray := prog_1_method_8_code
def yX10_set : MethodName := ⟨RX10, "set", "(II)I"⟩
abbrev cX10_event : ByteArray := prog_1_method_9_code
def yX10_event : MethodName := ⟨RX10, "event", "(III)I"⟩
abbrev cX10_back : ByteArray := prog_1_method_10_code
def yX10_back : MethodName := ⟨RX10, "back", "()I"⟩
abbrev cX10_read : ByteArray := prog_1_method_11_code
def yX10_read : MethodName := ⟨RX10, "read", "(I)I"⟩
abbrev cX10_at : ByteArray := prog_1_method_12_code
def yX10_at : MethodName := ⟨RX10, "at", "(III)I"⟩
abbrev cX10_hill : ByteArray := prog_1_method_13_code
def yX10_hill : MethodName := ⟨RX10, "hill", "(II)I"⟩
abbrev cX10_bare : ByteArray := prog_1_method_14_code
def yX10_bare : MethodName := ⟨RX10, "bare", "()I"⟩
abbrev cX10_run : ByteArray := prog_1_method_15_code
def yX10_run : MethodName := ⟨RX10, "run", "()I"⟩
abbrev cX10_fake : ByteArray := prog_1_method_16_code
def yX10_fake : MethodName := ⟨RX10, "fake", "()I"⟩
abbrev cX10_last : ByteArray := prog_1_method_17_code
def yX10_last : MethodName := ⟨RX10, "last", "(I)I"⟩
abbrev cX10_plant : ByteArray := prog_1_method_18_code
def yX10_plant : MethodName := ⟨RX10, "plant", "(I)I"⟩
abbrev cX10_send : ByteArray := prog_1_method_19_code
def yX10_send : MethodName := ⟨RX10, "send", "(I)I"⟩
abbrev cX10_save : ByteArray := prog_1_method_20_code
def yX10_save : MethodName := ⟨RX10, "save", "(I)I"⟩
abbrev cX10_deal : ByteArray := prog_1_method_21_code
def yX10_deal : MethodName := ⟨RX10, "deal", "(I)I"⟩
abbrev cX10_seen : ByteArray := prog_1_method_22_code
def yX10_seen : MethodName := ⟨RX10, "seen", "(III)I"⟩
abbrev cX10_forget : ByteArray := prog_1_method_23_code
def yX10_forget : MethodName := ⟨RX10, "forget", "()I"⟩
abbrev cX10_never : ByteArray := prog_1_method_24_code
def yX10_never : MethodName := ⟨RX10, "never", "()I"⟩
abbrev cX10_was : ByteArray := prog_1_method_25_code
def yX10_was : MethodName := ⟨RX10, "was", "(II)I"⟩
abbrev cX10_ask : ByteArray := prog_1_method_26_code
def yX10_ask : MethodName := ⟨RX10, "ask", "(I)I"⟩
abbrev cX10_luck : ByteArray := prog_1_method_27_code
def yX10_luck : MethodName := ⟨RX10, "luck", "(III)J"⟩
abbrev cX10_century : ByteArray := prog_1_method_28_code
def yX10_century : MethodName := ⟨RX10, "century", "(III)I"⟩
abbrev cX10_sheet : ByteArray := prog_1_method_29_code
def yX10_sheet : MethodName := ⟨RX10, "sheet", "(III)I"⟩
abbrev cX10_lose : ByteArray := prog_1_method_30_code
def yX10_lose : MethodName := ⟨RX10, "lose", "(I)I"⟩
abbrev cX10_lay : ByteArray := prog_1_method_31_code
def yX10_lay : MethodName := ⟨RX10, "lay", "(IIII)I"⟩
abbrev cX10_get : ByteArray := prog_1_method_32_code
def yX10_get : MethodName := ⟨RX10, "get", "(III)I"⟩
abbrev cX10_copy : ByteArray := prog_1_method_33_code
def yX10_copy : MethodName := ⟨RX10, "copy", "(IIIII)I"⟩
abbrev cX10_write : ByteArray := prog_1_method_34_code
def yX10_write : MethodName := ⟨RX10, "write", "(I)I"⟩
abbrev cX10_count : ByteArray := prog_1_method_35_code
def yX10_count : MethodName := ⟨RX10, "count", "(I)I"⟩
abbrev cX10_digest : ByteArray := prog_1_method_36_code
def yX10_digest : MethodName := ⟨RX10, "digest", "()J"⟩
abbrev cX10_digestOfCounts : ByteArray := prog_1_method_37_code
def yX10_digestOfCounts : MethodName := ⟨RX10, "digestOfCounts", "(J)J"⟩
abbrev cX10_digestOfMonths : ByteArray := prog_1_method_38_code
def yX10_digestOfMonths : MethodName := ⟨RX10, "digestOfMonths", "(J)J"⟩
abbrev cX10_digestOfLooks : ByteArray := prog_1_method_39_code
def yX10_digestOfLooks : MethodName := ⟨RX10, "digestOfLooks", "(J)J"⟩
abbrev cX10_digestOfBush : ByteArray := prog_1_method_40_code
def yX10_digestOfBush : MethodName := ⟨RX10, "digestOfBush", "(JI)J"⟩
abbrev cX10_digestOfBushIn : ByteArray := prog_1_method_41_code
def yX10_digestOfBushIn : MethodName := ⟨RX10, "digestOfBushIn", "(JII)J"⟩
abbrev cX10_digestOfHill : ByteArray := prog_1_method_42_code
def yX10_digestOfHill : MethodName := ⟨RX10, "digestOfHill", "(J)J"⟩
abbrev cX10_digestOfPlans : ByteArray := prog_1_method_43_code
def yX10_digestOfPlans : MethodName := ⟨RX10, "digestOfPlans", "(J)J"⟩
abbrev cX10_digestOfLuck : ByteArray := prog_1_method_44_code
def yX10_digestOfLuck : MethodName := ⟨RX10, "digestOfLuck", "(J)J"⟩
abbrev cX10_allYellow : ByteArray := prog_1_method_45_code
def yX10_allYellow : MethodName := ⟨RX10, "allYellow", "()I"⟩
abbrev cX10_bareIfPlanted : ByteArray := prog_1_method_46_code
def yX10_bareIfPlanted : MethodName := ⟨RX10, "bareIfPlanted", "(III)I"⟩
abbrev cX10_bestSend : ByteArray := prog_1_method_47_code
def yX10_bestSend : MethodName := ⟨RX10, "bestSend", "()I"⟩
abbrev cX10_bestDeal : ByteArray := prog_1_method_48_code
def yX10_bestDeal : MethodName := ⟨RX10, "bestDeal", "()I"⟩
abbrev cX10_fewestToLose : ByteArray := prog_1_method_49_code
def yX10_fewestToLose : MethodName := ⟨RX10, "fewestToLose", "()I"⟩
abbrev cX10_placeOfBit : ByteArray := prog_1_method_50_code
def yX10_placeOfBit : MethodName := ⟨RX10, "placeOfBit", "(II)I"⟩
abbrev cX10_beginsThatFit : ByteArray := prog_1_method_51_code
def yX10_beginsThatFit : MethodName := ⟨RX10, "beginsThatFit", "(I)I"⟩
abbrev cX10_kindsThatFit : ByteArray := prog_1_method_52_code
def yX10_kindsThatFit : MethodName := ⟨RX10, "kindsThatFit", "(I)I"⟩
abbrev cX10_greatestAlike : ByteArray := prog_1_method_53_code
def yX10_greatestAlike : MethodName := ⟨RX10, "greatestAlike", "(III)I"⟩
abbrev cX10_bareShares : ByteArray := prog_1_method_54_code
def yX10_bareShares : MethodName := ⟨RX10, "bareShares", "(II)J"⟩
abbrev cX10_gatherHinderers : ByteArray := prog_1_method_55_code
def yX10_gatherHinderers : MethodName := ⟨RX10, "gatherHinderers", "(I)I"⟩
abbrev cX10_hindersAll : ByteArray := prog_1_method_56_code
def yX10_hindersAll : MethodName := ⟨RX10, "hindersAll", "(II)Z"⟩
abbrev cX10_shareOf : ByteArray := prog_1_method_57_code
def yX10_shareOf : MethodName := ⟨RX10, "shareOf", "(II)J"⟩
abbrev cX10_drawEvents : ByteArray := prog_1_method_58_code
def yX10_drawEvents : MethodName := ⟨RX10, "drawEvents", "(II)V"⟩
abbrev cX10_finding : ByteArray := prog_1_method_59_code
def yX10_finding : MethodName := ⟨RX10, "finding", "(I)I"⟩
abbrev cX10_findingOfItem : ByteArray := prog_1_method_60_code
def yX10_findingOfItem : MethodName := ⟨RX10, "findingOfItem", "(LGorseGold$Sheet;II)I"⟩
abbrev cX10_textOf : ByteArray := prog_1_method_61_code
def yX10_textOf : MethodName := ⟨RX10, "textOf", "(I)LGorseGold$Text;"⟩
abbrev cX10_isText : ByteArray := prog_1_method_62_code
def yX10_isText : MethodName := ⟨RX10, "isText", "(I)Z"⟩
abbrev cX10_isMonth : ByteArray := prog_1_method_63_code
def yX10_isMonth : MethodName := ⟨RX10, "isMonth", "(I)Z"⟩
abbrev cX10_isSheet : ByteArray := prog_1_method_64_code
def yX10_isSheet : MethodName := ⟨RX10, "isSheet", "(I)Z"⟩
abbrev cX10_isForm : ByteArray := prog_1_method_65_code
def yX10_isForm : MethodName := ⟨RX10, "isForm", "(I)Z"⟩
abbrev cX10_mayBeEvent : ByteArray := prog_1_method_66_code
def yX10_mayBeEvent : MethodName := ⟨RX10, "mayBeEvent", "(III)Z"⟩
abbrev cX10_within : ByteArray := prog_1_method_67_code
def yX10_within : MethodName := ⟨RX10, "within", "(III)Z"⟩
abbrev cX10_bit : ByteArray := prog_1_method_68_code
def yX10_bit : MethodName := ⟨RX10, "bit", "(II)I"⟩
def RX11 : String := "GorseGoldModel"
def TX11 : u_T := fun k => match k with
  | 0 => ("GorseGoldModel", "forms", "[I", true)
  | 1 => ("GorseGoldModel", "sizes", "[I", true)
  | 2 => ("GorseGoldModel", "items", "[I", true)
  | 3 => ("GorseGoldModel", "moved", "[I", true)
  | 4 => ("GorseGoldModel", "latest", "I", false)
  | 5 => ("GorseGoldModel", "bytes", "[I", true)
  | 6 => ("GorseGoldModel", "typed", "[I", true)
  | 7 => ("GorseGoldModel", "bushes", "I", false)
  | 8 => ("GorseGoldModel", "bush", "[I", true)
  | 9 => ("GorseGoldModel", "looks", "I", false)
  | 10 => ("GorseGoldModel", "look", "[I", true)
  | 11 => ("GorseGoldModel", "faith", "I", false)
  | 12 => ("GorseGoldModel", "doubt", "I", false)
  | 13 => ("GorseGoldModel", "events", "I", false)
  | 14 => ("GorseGoldModel", "event", "[I", true)
  | 15 => ("GorseGoldModel", "gone", "I", false)
  | 16 => ("GorseGoldModel", "state", "[I", true)
  | 17 => ("GorseGoldModel", "painted", "[Z", true)
  | 18 => ("GorseGoldModel", "yellow", "[I", true)
  | 19 => ("GorseGoldModel", "belief", "[I", true)
  | 20 => ("GorseGoldModel", "seems", "[I", true)
  | 21 => ("GorseGoldModel", "hasMore", "Z", false)
  | 22 => ("GorseGoldModel", "oddMonth", "I", false)
  | 23 => ("GorseGoldModel", "oddBush", "I", false)
  | 24 => ("GorseGoldModel", "sights", "I", false)
  | 25 => ("GorseGoldModel", "sight", "[I", true)
  | 26 => ("GorseGoldModel", "alike", "[I", true)
  | 27 => ("GorseGoldModel", "drawn", "I", false)
  | _ => ("GorseGoldModel", "told", "[I", true)
def tyX11 : Nat → FieldType := fun k => match k with
  | 0 => .array .int
  | 1 => .array .int
  | 2 => .array .int
  | 3 => .array .int
  | 4 => .int
  | 5 => .array .int
  | 6 => .array .int
  | 7 => .int
  | 8 => .array .int
  | 9 => .int
  | 10 => .array .int
  | 11 => .int
  | 12 => .int
  | 13 => .int
  | 14 => .array .int
  | 15 => .int
  | 16 => .array .int
  | 17 => .array .boolean
  | 18 => .array .int
  | 19 => .array .int
  | 20 => .array .int
  | 21 => .boolean
  | 22 => .int
  | 23 => .int
  | 24 => .int
  | 25 => .array .int
  | 26 => .array .int
  | 27 => .int
  | _ => .array .int
abbrev wsX110 : List Cond := u_ws RX11 TX11 29
theorem nmX11 : ∀ a, a < 29 → ∀ b, b < 29 → a ≠ b → (TX11 a).2.1 ≠ (TX11 b).2.1 := by decide +kernel
theorem tyX11_ok : ∀ k, k < 29 → parseFieldDescriptor (TX11 k).2.2.1 = some (tyX11 k) := by decide +kernel
abbrev cX11_init : ByteArray := prog_13_method_1_code
def yX11_init : MethodName := ⟨RX11, "<init>", "()V"⟩
abbrev cX11_in : ByteArray := prog_13_method_3_code
def yX11_in : MethodName := ⟨RX11, "in", "(JJJ)Z"⟩
abbrev cX11_no : ByteArray := prog_13_method_4_code
def yX11_no : MethodName := ⟨RX11, "no", "(I)J"⟩
abbrev cX11_isTwo : ByteArray := prog_13_method_5_code
def yX11_isTwo : MethodName := ⟨RX11, "isTwo", "(I)Z"⟩
abbrev cX11_isIn : ByteArray := prog_13_method_6_code
def yX11_isIn : MethodName := ⟨RX11, "isIn", "(II)Z"⟩
abbrev cX11_ones : ByteArray := prog_13_method_7_code
def yX11_ones : MethodName := ⟨RX11, "ones", "(I)I"⟩
abbrev cX11_lesser : ByteArray := prog_13_method_8_code
def yX11_lesser : MethodName := ⟨RX11, "lesser", "(II)I"⟩
abbrev cX11_greater : ByteArray := prog_13_method_9_code
def yX11_greater : MethodName := ⟨RX11, "greater", "(II)I"⟩
abbrev cX11_part : ByteArray := prog_13_method_10_code
def yX11_part : MethodName := ⟨RX11, "part", "(JJI)J"⟩
abbrev cX11_finds : ByteArray := prog_13_method_11_code
def yX11_finds : MethodName := ⟨RX11, "finds", "(I)I"⟩
abbrev cX11_isSheet : ByteArray := prog_13_method_12_code
def yX11_isSheet : MethodName := ⟨RX11, "isSheet", "(I)Z"⟩
abbrev cX11_sheet : ByteArray := prog_13_method_13_code
def yX11_sheet : MethodName := ⟨RX11, "sheet", "(III)I"⟩
abbrev cX11_lose : ByteArray := prog_13_method_14_code
def yX11_lose : MethodName := ⟨RX11, "lose", "(I)I"⟩
abbrev cX11_lacks : ByteArray := prog_13_method_15_code
def yX11_lacks : MethodName := ⟨RX11, "lacks", "(III)I"⟩
abbrev cX11_cut : ByteArray := prog_13_method_16_code
def yX11_cut : MethodName := ⟨RX11, "cut", "(II)I"⟩
abbrev cX11_lay : ByteArray := prog_13_method_17_code
def yX11_lay : MethodName := ⟨RX11, "lay", "(IIII)I"⟩
abbrev cX11_get : ByteArray := prog_13_method_18_code
def yX11_get : MethodName := ⟨RX11, "get", "(III)I"⟩
abbrev cX11_copy : ByteArray := prog_13_method_19_code
def yX11_copy : MethodName := ⟨RX11, "copy", "(IIIII)I"⟩
abbrev cX11_type : ByteArray := prog_13_method_20_code
def yX11_type : MethodName := ⟨RX11, "type", "(II)I"⟩
abbrev cX11_wipe : ByteArray := prog_13_method_21_code
def yX11_wipe : MethodName := ⟨RX11, "wipe", "(I)I"⟩
abbrev cX11_undo : ByteArray := prog_13_method_22_code
def yX11_undo : MethodName := ⟨RX11, "undo", "(I)I"⟩
abbrev cX11_kindOf : ByteArray := prog_13_method_23_code
def yX11_kindOf : MethodName := ⟨RX11, "kindOf", "(I)I"⟩
abbrev cX11_bushOf : ByteArray := prog_13_method_24_code
def yX11_bushOf : MethodName := ⟨RX11, "bushOf", "(II)I"⟩
abbrev cX11_readsBushes : ByteArray := prog_13_method_25_code
def yX11_readsBushes : MethodName := ⟨RX11, "readsBushes", "()I"⟩
abbrev cX11_lookOf : ByteArray := prog_13_method_26_code
def yX11_lookOf : MethodName := ⟨RX11, "lookOf", "(II)I"⟩
abbrev cX11_readsLooks : ByteArray := prog_13_method_27_code
def yX11_readsLooks : MethodName := ⟨RX11, "readsLooks", "()I"⟩
abbrev cX11_readsText : ByteArray := prog_13_method_28_code
def yX11_readsText : MethodName := ⟨RX11, "readsText", "(I)I"⟩
abbrev cX11_fault : ByteArray := prog_13_method_29_code
def yX11_fault : MethodName := ⟨RX11, "fault", "(I)I"⟩
abbrev cX11_isBush : ByteArray := prog_13_method_30_code
def yX11_isBush : MethodName := ⟨RX11, "isBush", "(I)Z"⟩
abbrev cX11_isMonth : ByteArray := prog_13_method_31_code
def yX11_isMonth : MethodName := ⟨RX11, "isMonth", "(I)Z"⟩
abbrev cX11_bush : ByteArray := prog_13_method_32_code
def yX11_bush : MethodName := ⟨RX11, "bush", "(II)I"⟩
abbrev cX11_lookBy : ByteArray := prog_13_method_33_code
def yX11_lookBy : MethodName := ⟨RX11, "lookBy", "(II)I"⟩
abbrev cX11_look : ByteArray := prog_13_method_34_code
def yX11_look : MethodName := ⟨RX11, "look", "(II)I"⟩
abbrev cX11_set : ByteArray := prog_13_method_35_code
def yX11_set : MethodName := ⟨RX11, "set", "(II)I"⟩
abbrev cX11_puts : ByteArray := prog_13_method_36_code
def yX11_puts : MethodName := ⟨RX11, "puts", "(III)V"⟩
abbrev cX11_event : ByteArray := prog_13_method_37_code
def yX11_event : MethodName := ⟨RX11, "event", "(III)I"⟩
abbrev cX11_back : ByteArray := prog_13_method_38_code
def yX11_back : MethodName := ⟨RX11, "back", "()I"⟩
abbrev cX11_read : ByteArray := prog_13_method_39_code
def yX11_read : MethodName := ⟨RX11, "read", "(I)I"⟩
abbrev cX11_lasts : ByteArray := prog_13_method_40_code
def yX11_lasts : MethodName := ⟨RX11, "lasts", "(II)I"⟩
abbrev cX11_isOn : ByteArray := prog_13_method_41_code
def yX11_isOn : MethodName := ⟨RX11, "isOn", "(III)Z"⟩
abbrev cX11_isSeason : ByteArray := prog_13_method_42_code
def yX11_isSeason : MethodName := ⟨RX11, "isSeason", "(II)Z"⟩
abbrev cX11_stateOf : ByteArray := prog_13_method_43_code
def yX11_stateOf : MethodName := ⟨RX11, "stateOf", "(II)I"⟩
abbrev cX11_grows : ByteArray := prog_13_method_44_code
def yX11_grows : MethodName := ⟨RX11, "grows", "()V"⟩
abbrev cX11_isSeeming : ByteArray := prog_13_method_45_code
def yX11_isSeeming : MethodName := ⟨RX11, "isSeeming", "(II)Z"⟩
abbrev cX11_kept : ByteArray := prog_13_method_46_code
def yX11_kept : MethodName := ⟨RX11, "kept", "(I)I"⟩
abbrev cX11_looked : ByteArray := prog_13_method_47_code
def yX11_looked : MethodName := ⟨RX11, "looked", "(III)I"⟩
abbrev cX11_believes : ByteArray := prog_13_method_48_code
def yX11_believes : MethodName := ⟨RX11, "believes", "()V"⟩
abbrev cX11_lives : ByteArray := prog_13_method_49_code
def yX11_lives : MethodName := ⟨RX11, "lives", "()V"⟩
abbrev cX11_find : ByteArray := prog_13_method_50_code
def yX11_find : MethodName := ⟨RX11, "find", "()V"⟩
abbrev cX11_atBy : ByteArray := prog_13_method_51_code
def yX11_atBy : MethodName := ⟨RX11, "atBy", "(III)I"⟩
abbrev cX11_at : ByteArray := prog_13_method_52_code
def yX11_at : MethodName := ⟨RX11, "at", "(III)I"⟩
abbrev cX11_hillBy : ByteArray := prog_13_method_53_code
def yX11_hillBy : MethodName := ⟨RX11, "hillBy", "(II)I"⟩
abbrev cX11_hill : ByteArray := prog_13_method_54_code
def yX11_hill : MethodName := ⟨RX11, "hill", "(II)I"⟩
abbrev cX11_bareNow : ByteArray := prog_13_method_55_code
def yX11_bareNow : MethodName := ⟨RX11, "bareNow", "()I"⟩
abbrev cX11_bare : ByteArray := prog_13_method_56_code
def yX11_bare : MethodName := ⟨RX11, "bare", "()I"⟩
abbrev cX11_runNow : ByteArray := prog_13_method_57_code
def yX11_runNow : MethodName := ⟨RX11, "runNow", "()I"⟩
abbrev cX11_run : ByteArray := prog_13_method_58_code
def yX11_run : MethodName := ⟨RX11, "run", "()I"⟩
abbrev cX11_fakeNow : ByteArray := prog_13_method_59_code
def yX11_fakeNow : MethodName := ⟨RX11, "fakeNow", "()I"⟩
abbrev cX11_fake : ByteArray := prog_13_method_60_code
def yX11_fake : MethodName := ⟨RX11, "fake", "()I"⟩
abbrev cX11_lastBy : ByteArray := prog_13_method_61_code
def yX11_lastBy : MethodName := ⟨RX11, "lastBy", "(I)I"⟩
abbrev cX11_last : ByteArray := prog_13_method_62_code
def yX11_last : MethodName := ⟨RX11, "last", "(I)I"⟩
abbrev cX11_plantBy : ByteArray := prog_13_method_63_code
def yX11_plantBy : MethodName := ⟨RX11, "plantBy", "(I)I"⟩
abbrev cX11_plant : ByteArray := prog_13_method_64_code
def yX11_plant : MethodName := ⟨RX11, "plant", "(I)I"⟩
abbrev cX11_sendBy : ByteArray := prog_13_method_65_code
def yX11_sendBy : MethodName := ⟨RX11, "sendBy", "(I)I"⟩
abbrev cX11_send : ByteArray := prog_13_method_66_code
def yX11_send : MethodName := ⟨RX11, "send", "(I)I"⟩
abbrev cX11_isSaved : ByteArray := prog_13_method_67_code
def yX11_isSaved : MethodName := ⟨RX11, "isSaved", "(I)Z"⟩
abbrev cX11_saveOf : ByteArray := prog_13_method_68_code
def yX11_saveOf : MethodName := ⟨RX11, "saveOf", "(I)I"⟩
abbrev cX11_save : ByteArray := prog_13_method_69_code
def yX11_save : MethodName := ⟨RX11, "save", "(I)I"⟩
abbrev cX11_dealBy : ByteArray := prog_13_method_70_code
def yX11_dealBy : MethodName := ⟨RX11, "dealBy", "(I)I"⟩
abbrev cX11_deal : ByteArray := prog_13_method_71_code
def yX11_deal : MethodName := ⟨RX11, "deal", "(I)I"⟩
abbrev cX11_seen : ByteArray := prog_13_method_72_code
def yX11_seen : MethodName := ⟨RX11, "seen", "(III)I"⟩
abbrev cX11_forget : ByteArray := prog_13_method_73_code
def yX11_forget : MethodName := ⟨RX11, "forget", "()I"⟩
abbrev cX11_isSeen : ByteArray := prog_13_method_74_code
def yX11_isSeen : MethodName := ⟨RX11, "isSeen", "()Z"⟩
abbrev cX11_neverNow : ByteArray := prog_13_method_75_code
def yX11_neverNow : MethodName := ⟨RX11, "neverNow", "()I"⟩
abbrev cX11_never : ByteArray := prog_13_method_76_code
def yX11_never : MethodName := ⟨RX11, "never", "()I"⟩
abbrev cX11_beganOf : ByteArray := prog_13_method_77_code
def yX11_beganOf : MethodName := ⟨RX11, "beganOf", "(I)I"⟩
abbrev cX11_sortOf : ByteArray := prog_13_method_78_code
def yX11_sortOf : MethodName := ⟨RX11, "sortOf", "(I)I"⟩
abbrev cX11_wasOf : ByteArray := prog_13_method_79_code
def yX11_wasOf : MethodName := ⟨RX11, "wasOf", "(II)I"⟩
abbrev cX11_was : ByteArray := prog_13_method_80_code
def yX11_was : MethodName := ⟨RX11, "was", "(II)I"⟩
abbrev cX11_askOf : ByteArray := prog_13_method_81_code
def yX11_askOf : MethodName := ⟨RX11, "askOf", "(I)I"⟩
abbrev cX11_ask : ByteArray := prog_13_method_82_code
def yX11_ask : MethodName := ⟨RX11, "ask", "(I)I"⟩
abbrev cX11_luckOf : ByteArray := prog_13_method_83_code
def yX11_luckOf : MethodName := ⟨RX11, "luckOf", "(III)J"⟩
abbrev cX11_luck : ByteArray := prog_13_method_84_code
def yX11_luck : MethodName := ⟨RX11, "luck", "(III)J"⟩
abbrev cX11_lot : ByteArray := prog_13_method_85_code
def yX11_lot : MethodName := ⟨RX11, "lot", "(I)I"⟩
abbrev cX11_centuryOf : ByteArray := prog_13_method_86_code
def yX11_centuryOf : MethodName := ⟨RX11, "centuryOf", "(III)I"⟩
abbrev cX11_century : ByteArray := prog_13_method_87_code
def yX11_century : MethodName := ⟨RX11, "century", "(III)I"⟩
abbrev cX11_write : ByteArray := prog_13_method_88_code
def yX11_write : MethodName := ⟨RX11, "write", "(I)I"⟩
abbrev cX11_allYellow : ByteArray := prog_13_method_89_code
def yX11_allYellow : MethodName := ⟨RX11, "allYellow", "()I"⟩
abbrev cX11_count : ByteArray := prog_13_method_90_code
def yX11_count : MethodName := ⟨RX11, "count", "(I)I"⟩
abbrev cX11_tellsMonth : ByteArray := prog_13_method_91_code
def yX11_tellsMonth : MethodName := ⟨RX11, "tellsMonth", "(JII)J"⟩
abbrev cX11_tellsBush : ByteArray := prog_13_method_92_code
def yX11_tellsBush : MethodName := ⟨RX11, "tellsBush", "(JI)J"⟩
abbrev cX11_digest : ByteArray := prog_13_method_93_code
def yX11_digest : MethodName := ⟨RX11, "digest", "()J"⟩
def RJ6 : String := "java/lang/Integer"
abbrev cJ6_bitCount_0f7a4 : ByteArray := prog_14_method_49_code
def yJ6_bitCount_0f7a4 : MethodName := ⟨RJ6, "bitCount", "(I)I"⟩
def RJ9 : String := "java/lang/Math"
abbrev cJ9_max_7cf53 : ByteArray := prog_15_method_65_code
def yJ9_max_7cf53 : MethodName := ⟨RJ9, "max", "(II)I"⟩
abbrev cJ9_min_7cf53 : ByteArray := prog_15_method_69_code
def yJ9_min_7cf53 : MethodName := ⟨RJ9, "min", "(II)I"⟩
def RJ10 : String := "java/lang/System"
def RJ7 : String := "java/util/Arrays"
abbrev cJ7_fill_53178 : ByteArray := prog_17_method_103_code
def yJ7_fill_53178 : MethodName := ⟨RJ7, "fill", "([II)V"⟩
abbrev vwCl : List vw_C := [(RX0, TX0, 1), (RX1, TX1, 4), (RX2, TX2, 4), (RX3, TX3, 2), (RX4, TX4, 1), (RX5, TX5, 1), (RX6, TX6, 10), (RX7, TX7, 4), (RX8, TX8, 3), (RX9, TX9, 8), (RX10, TX10, 13), (RX11, TX11, 29)]
def R_law : String := "GorseGoldLaw"
def lw_P (b : Addr) (xs : List Int32) (args : Array Value) (s : State) : Prop := args = #[.ref b] ∧ s.IntsAt b xs ∧ xs.length ≤ 3072 ∧ (Jvm.Cond.and given_1 narrow_1).before args s = true
def lw_Q (_ : Array Value) (s : State) (o : Outcome) (t : State) : Prop := o = .returned (some (.int 1)) ∧ Framed s o t [] 600000 7302250
def lw_Z (below : List Frame) (a : Array Value) (s : State) : State → Prop := fun t => ∃ o, t.status = .running ∧ Ended t below o ∧ lw_Q a s o t
/-- the law's own end, with 1 on the stack, nothing written that was there before, its room as the claim has it -/
theorem lw_ret {p : Program} {l : Launch} {e : Env} {s : State} {m : MethodId} {below : List Frame} {meth : Method} {c : Code} {b : Nat} (hx : p.tables.exec = Jvm.exec) (hb : c.code = code) (hr : meth.sig.returnType = ret) (hlocks : meth.locks = false) {pc : Nat} {H : Heap} {ls : Array Slot} (hdg : decode code pc = .ok (.ireturn, 1)) : W p l e room_1 s m #[Value.ref b] below meth c H [] 600000 7302250 (lw_Z below #[Value.ref b] s) (F0 m pc ls [.int 1]) := by
  intro T hT X
  obtain ⟨fs, hret, hrun, hended, hW, hframe⟩ := X.leave (v := some (.int 1)) (hlocks := hlocks) (fun h => by rw [hr] at h; cases h)
  have hmeth' : T.vm.method? m = some meth := X.method'
  refine ⟨T.setFrames fs, ?_, .returned (some (.int 1)), hrun, hended, rfl, ⟨_, rfl⟩, hW, hframe⟩
  jvm_step X.here [X.here.top, hx, hb, hdg, hmeth', hr, ret, narrow_b1]
  (try refine ⟨rfl, ?_⟩); (try refine ⟨rfl, ?_⟩)
  first | (intro acts; rw [hret _ acts rfl rfl rfl]) | rw [hret _ _ rfl rfl rfl]
  exact Steps.refl _
/-- what holds at the law's entry: the machine, the code, the tables' words (any of lw_tbl by 'hts w (by decide +kernel)'), the script of L ints xs at the cell b, what the Statement gives of the start (any of its parts by flat_of_before) -/
def lw_At (p : Program) (s : State) (m : MethodId) (meth : Method) (c : Code) (b L : Nat) (xs : Nat → Int32) : Prop :=
  p.tables.exec = Jvm.exec ∧ c.code = code ∧ meth.sig.returnType = ret ∧ c.maxLocals = 4 ∧ s.vm.findClass R_law = some m.cls ∧ (∀ w ∈ lw_tbl, w.before #[Value.ref b] s = true) ∧ va_X b L xs s s.heap ∧ b < s.heap.size ∧ meth.locks = false ∧ (Jvm.Cond.and given_1 narrow_1).before #[Value.ref b] s = true
end
section
/-! THE PURE MACHINE: memory is a function of cell and slot; a method is a list of its instructions' meanings. -/
abbrev gS : Type := Nat → Nat → Int32
abbrev gL : Type := List (Option Value)
abbrev gF : Type := Nat × gL × List Value
abbrev gRes : Type := (Bool × (gS × gF) × Option (gS × gF)) ⊕ ((Nat × List Value × gF) ⊕ Option Value)
abbrev gSem : Type := gS → Nat → gL → List Value → Option gRes
/-- a cell's shape: an object (class, its fields: a fixed reference or an int), an array of ints or booleans, an array of fixed references -/
abbrev gShp : Type := (Nat × List (Option Nat)) ⊕ ((Nat × Nat) ⊕ (Nat × Nat × (Nat → Option Nat)))
def gAt {α : Type} : List α → Nat → Option α
  | [], _ => none
  | a :: _, 0 => some a
  | _ :: l, n + 1 => gAt l n
theorem gAt_eq {α : Type} : ∀ (l : List α) (n : Nat), gAt l n = l[n]?
  | [], _ => by simp [gAt]
  | a :: l, 0 => by simp [gAt]
  | a :: l, n + 1 => by simp [gAt, gAt_eq l n]
def gCourse (j : Nat) : gShp := .inl (1, [some (60 + j), none, none, none])
def gSheet (j : Nat) : gShp := .inl (8, [some (74 + j), none, none])
def gInts (n : Nat) : gShp := .inr (.inl (0, n))
def gShapes : List gShp := [
  .inl (11, [some 1, some 2, some 3, some 4, none, some 5, some 6, none, some 7, none, some 8, none, none, none, some 9, none, some 10, some 11, some 12, some 13, some 14, none, none, none, none, some 15, some 16, none, some 17]),
  gInts 4, gInts 4, gInts 240, gInts 60, gInts 80, gInts 2, gInts 33, gInts 24, gInts 24, gInts 264, .inr (.inl (1, 264)), gInts 24, gInts 24, gInts 24, gInts 24, gInts 120, gInts 24,
  .inl (10, [some 19, some 20, some 21, some 24, some 27, some 31, some 35, some 37, some 41, some 42, some 43, some 44, none]),
  .inl (6, [some 20, some 24, some 46, some 47, some 48, some 49, none, none, none, none]),
  .inl (3, [some 21, some 45]),
  .inl (0, [some 22]),
  .inl (9, [some 23, some 1000, some 1001, none, none, none, none, none]),
  gInts 39,
  .inl (4, [some 25]),
  .inl (9, [some 26, some 1002, some 1003, none, none, none, none, none]),
  gInts 35,
  .inl (2, [some 28, some 29, some 30, none]), gInts 8, gInts 8, gInts 8,
  .inl (2, [some 32, some 33, some 34, none]), gInts 8, gInts 8, gInts 8,
  .inl (1, [some 36, none, none, none]), gInts 4,
  .inl (7, [some 38, some 39, some 40, none]), gInts 8, gInts 8, gInts 8,
  .inl (5, [none]),
  .inr (.inr (3, 4, fun j => some (70 + j))),
  gInts 10, gInts 5,
  .inr (.inr (2, 10, fun j => some (50 + j))),
  gInts 24, gInts 12, gInts 12, gInts 24,
  gCourse 0, gCourse 1, gCourse 2, gCourse 3, gCourse 4, gCourse 5, gCourse 6, gCourse 7, gCourse 8, gCourse 9,
  gInts 4, gInts 4, gInts 4, gInts 4, gInts 4, gInts 4, gInts 4, gInts 4, gInts 4, gInts 4,
  gSheet 0, gSheet 1, gSheet 2, gSheet 3,
  gInts 60, gInts 60, gInts 60, gInts 60]
def gNC : Nat := 78
theorem gShapes_len : gShapes.length = gNC := by decide +kernel
def gShape (q : Nat) : Option gShp := gAt gShapes q
/-- the fixed tables of the class -/
def gRoL : List (Nat × String × List Int32) := [(3, "BUSH_LOWS", [99, 97, 49]), (3, "BUSH_HIGHS", [101, 108, 57]), (2, "LOOK_LOWS", [97, 48]), (2, "LOOK_HIGHS", [120, 57]), (3, "KIND_OF_SIGN", [0, 2, 1]), (3, "SEASON_OF_KIND", [6, 4, 3]), (12, "LASTING", [9, 12, 12, 2, 2, 3, 1, 2, 0, 3, 3, 3])]
def gRo (q : Nat) : Option (Nat × String × List Int32) := bif Nat.ble 1000 q then gAt gRoL (q - 1000) else none
def gUp (σ : gS) (q k : Nat) (v : Int32) : gS := fun q' => if q' = q then upd (σ q) k v else σ q'
def gUpA (σ : gS) (q : Nat) (f : Nat → Int32) : gS := fun q' => if q' = q then f else σ q'
def gIn (i : Int32) (n : Nat) : Bool := !(decide (i < 0) || decide (n ≤ i.toNatClampNeg))
theorem gIn_in {i : Int32} {n : Nat} (h : gIn i n = true) : vp_in i n := by
  simpa [gIn, vp_in] using h
theorem gIn_of {i : Int32} {n : Nat} (h : vp_in i n) : gIn i n = true := by
  simpa [gIn, vp_in] using h
def gCats : List Value → Nat
  | [] => 0
  | v :: l => v.category + gCats l
theorem gCats_eq : ∀ l : List Value, gCats l = (l.map fun v => v.category).sum
  | [] => rfl
  | v :: l => by simp [gCats, gCats_eq l]
/-- locals -/
def gNth (l : gL) (i : Nat) : Option Value := match gAt l i with
  | some (some v) => some v
  | _ => none
def gPrev (l : gL) : Nat → Bool
  | 0 => true
  | j + 1 => match gAt l j with
    | some (some (.long _)) => false
    | some (some (.double _)) => false
    | _ => true
def gGo (σ : gS) (pc : Nat) (lv : gL) (st : List Value) : Option gRes := some (.inl (true, (σ, pc, lv, st), none))
def gChk (b : Bool) (σ : gS) (pc : Nat) (lv : gL) (st : List Value) : Option gRes := some (.inl (b, (σ, pc, lv, st), none))
def gBr (b : Bool) (σ : gS) (pc1 pc2 : Nat) (lv : gL) (st : List Value) : Option gRes := some (.inl (b, (σ, pc1, lv, st), some (σ, pc2, lv, st)))
-- the meanings
def sPush (v : Value) (len : Nat) : gSem := fun σ pc lv st => gGo σ (pc + len) lv (v :: st)
def sLdI (i len : Nat) : gSem := fun σ pc lv st => match gNth lv i with
  | some (.int x) => gGo σ (pc + len) lv (.int x :: st)
  | _ => none
def sLdL (i len : Nat) : gSem := fun σ pc lv st => match gNth lv i with
  | some (.long x) => gGo σ (pc + len) lv (.long x :: st)
  | _ => none
def sLdA (i len : Nat) : gSem := fun σ pc lv st => match gNth lv i with
  | some (.ref x) => gGo σ (pc + len) lv (.ref x :: st)
  | _ => none
def sStI (i len : Nat) : gSem := fun σ pc lv st => match st with
  | .int x :: r => bif Nat.blt i lv.length && gPrev lv i then gGo σ (pc + len) (lv.set i (some (.int x))) r else none
  | _ => none
def sStA (i len : Nat) : gSem := fun σ pc lv st => match st with
  | .ref x :: r => bif Nat.blt i lv.length && gPrev lv i then gGo σ (pc + len) (lv.set i (some (.ref x))) r else none
  | _ => none
def sStL (i len : Nat) : gSem := fun σ pc lv st => match st with
  | .long x :: r => bif Nat.blt (i + 1) lv.length && gPrev lv i then gGo σ (pc + len) ((lv.set i (some (.long x))).set (i + 1) none) r else none
  | _ => none
def sInc (i : Nat) (n : Int32) : gSem := fun σ pc lv _st => match gNth lv i with
  | some (.int x) => bif Nat.blt i lv.length && gPrev lv i then gGo σ (pc + 3) (lv.set i (some (.int (x + n)))) _st else none
  | _ => none
def sBin (f : Int32 → Int32 → Int32) : gSem := fun σ pc lv st => match st with
  | .int y :: .int x :: r => gGo σ (pc + 1) lv (.int (f x y) :: r)
  | _ => none
def sBinL (f : Int64 → Int64 → Int64) : gSem := fun σ pc lv st => match st with
  | .long y :: .long x :: r => gGo σ (pc + 1) lv (.long (f x y) :: r)
  | _ => none
def sShL (f : Int64 → Int32 → Int64) : gSem := fun σ pc lv st => match st with
  | .int y :: .long x :: r => gGo σ (pc + 1) lv (.long (f x y) :: r)
  | _ => none
def sDiv (f : Int32 → Int32 → Int32) : gSem := fun σ pc lv st => match st with
  | .int y :: .int x :: r => gChk (decide (¬ y = 0)) σ (pc + 1) lv (.int (f x y) :: r)
  | _ => none
def sDivL (f : Int64 → Int64 → Int64) : gSem := fun σ pc lv st => match st with
  | .long y :: .long x :: r => gChk (decide (¬ y = 0)) σ (pc + 1) lv (.long (f x y) :: r)
  | _ => none
def sUn (f : Int32 → Int32) : gSem := fun σ pc lv st => match st with
  | .int x :: r => gGo σ (pc + 1) lv (.int (f x) :: r)
  | _ => none
def sI2L : gSem := fun σ pc lv st => match st with
  | .int x :: r => gGo σ (pc + 1) lv (.long x.toInt64 :: r)
  | _ => none
def sLcmp : gSem := fun σ pc lv st => match st with
  | .long y :: .long x :: r => gGo σ (pc + 1) lv (.int (lg_cmp x y) :: r)
  | _ => none
def sDup : gSem := fun σ pc lv st => match st with
  | v :: r => bif Nat.beq v.category 1 then gGo σ (pc + 1) lv (v :: v :: r) else none
  | _ => none
def sPop : gSem := fun σ pc lv st => match st with
  | v :: r => bif Nat.beq v.category 1 then gGo σ (pc + 1) lv r else none
  | _ => none
def sDup2 : gSem := fun σ pc lv st => match st with
  | v :: w :: r => bif Nat.beq v.category 1 && Nat.beq w.category 1 then gGo σ (pc + 1) lv (v :: w :: v :: w :: r) else none
  | _ => none
def sIf1 (t : Int32 → Bool) (tgt : Nat) : gSem := fun σ pc lv st => match st with
  | .int x :: r => gBr (t x) σ tgt (pc + 3) lv r
  | _ => none
def sIf2 (t : Int32 → Int32 → Bool) (tgt : Nat) : gSem := fun σ pc lv st => match st with
  | .int y :: .int x :: r => gBr (t x y) σ tgt (pc + 3) lv r
  | _ => none
def sGoto (tgt : Nat) : gSem := fun σ _ lv st => gGo σ tgt lv st
/-- a table of targets from lo on, and the target elsewhere -/
def gTgt (lo : Int) (ts : List Nat) (dflt : Nat) (x : Int32) : Nat := if x.toInt < lo then dflt else match gAt ts (x.toInt - lo).toNat with
  | some t => t
  | none => dflt
def sSw (lo : Int) (ts : List Nat) (dflt : Nat) : gSem := fun σ _ lv st => match st with
  | .int x :: r => gGo σ (gTgt lo ts dflt x) lv r
  | _ => none
def sGet (ci k : Nat) : gSem := fun σ pc lv st => match st with
  | .ref q :: r => match gShape q with
    | some (.inl (cj, ks)) => bif Nat.beq ci cj then (match gAt ks k with
      | some (some t) => gGo σ (pc + 3) lv (.ref t :: r)
      | some none => gGo σ (pc + 3) lv (.int (σ q k) :: r)
      | none => none) else none
    | _ => none
  | _ => none
def sPut (ci k : Nat) : gSem := fun σ pc lv st => match st with
  | .int v :: .ref q :: r => match gShape q with
    | some (.inl (cj, ks)) => bif Nat.beq ci cj then (match gAt ks k with
      | some none => gGo (gUp σ q k v) (pc + 3) lv r
      | _ => none) else none
    | _ => none
  | _ => none
def sPutZ (ci k : Nat) : gSem := fun σ pc lv st => match st with
  | .int v :: .ref q :: r => match gShape q with
    | some (.inl (cj, ks)) => bif Nat.beq ci cj then (match gAt ks k with
      | some none => gChk (decide (v = 0) || decide (v = 1)) (gUp σ q k v) (pc + 3) lv r
      | _ => none) else none
    | _ => none
  | _ => none
def sRo (q : Nat) : gSem := fun σ pc lv st => gGo σ (pc + 3) lv (.ref q :: st)
def sIald : gSem := fun σ pc lv st => match st with
  | .int i :: .ref q :: r => match gShape q with
    | some (.inr (.inl (0, n))) => gChk (gIn i n) σ (pc + 1) lv (.int (σ q i.toNatClampNeg) :: r)
    | none => match gRo q with
      | some (n, _, xs) => gChk (gIn i n) σ (pc + 1) lv (.int (xs.getD i.toNatClampNeg 0) :: r)
      | none => none
    | _ => none
  | _ => none
def sZald : gSem := fun σ pc lv st => match st with
  | .int i :: .ref q :: r => match gShape q with
    | some (.inr (.inl (1, n))) => gChk (gIn i n) σ (pc + 1) lv (.int (σ q i.toNatClampNeg) :: r)
    | _ => none
  | _ => none
def sAald : gSem := fun σ pc lv st => match st with
  | .int i :: .ref q :: r => match gShape q with
    | some (.inr (.inr (_, n, f))) => match f i.toNatClampNeg with
      | some t => gChk (gIn i n) σ (pc + 1) lv (.ref t :: r)
      | none => none
    | _ => none
  | _ => none
def sIast : gSem := fun σ pc lv st => match st with
  | .int x :: .int i :: .ref q :: r => match gShape q with
    | some (.inr (.inl (0, n))) => gChk (gIn i n) (gUp σ q i.toNatClampNeg x) (pc + 1) lv r
    | _ => none
  | _ => none
def sZast : gSem := fun σ pc lv st => match st with
  | .int x :: .int i :: .ref q :: r => match gShape q with
    | some (.inr (.inl (1, n))) => gChk (gIn i n && (decide (x = 0) || decide (x = 1))) (gUp σ q i.toNatClampNeg x) (pc + 1) lv r
    | _ => none
  | _ => none
def sAlen : gSem := fun σ pc lv st => match st with
  | .ref q :: r => match gShape q with
    | some (.inr (.inl (_, n))) => gGo σ (pc + 1) lv (.int (Int32.ofNat n) :: r)
    | none => match gRo q with
      | some (n, _, _) => gGo σ (pc + 1) lv (.int (Int32.ofNat n) :: r)
      | none => none
    | _ => none
  | _ => none
/-- the script, in the law alone -/
def sScrLd (L : Nat) (xs : Nat → Int32) : gSem := fun σ pc lv st => match st with
  | .int i :: .ref q :: r => bif Nat.beq q 1007 then gChk (gIn i L) σ (pc + 1) lv (.int (xs i.toNatClampNeg) :: r) else none
  | _ => none
def sScrLen (L : Nat) : gSem := fun σ pc lv st => match st with
  | .ref q :: r => bif Nat.beq q 1007 then gGo σ (pc + 1) lv (.int (Int32.ofNat L) :: r) else none
  | _ => none
def sCopy : gSem := fun σ pc lv st => match st with
  | .int n :: .int dp :: .ref b :: .int sp :: .ref a :: r => match gShape a, gShape b with
    | some (.inr (.inl (0, n0))), some (.inr (.inl (0, n1))) => bif Nat.ble (gCats r) 8 then gChk (!decide (sp < 0) && !decide (dp < 0) && !decide (n < 0) && decide (sp.toNatClampNeg + n.toNatClampNeg ≤ n0) && decide (dp.toNatClampNeg + n.toNatClampNeg ≤ n1)) (gUpA σ b (va_cpy (σ a) (σ b) sp.toNatClampNeg dp.toNatClampNeg n.toNatClampNeg)) (pc + 3) lv r else none
    | _, _ => none
  | _ => none
def sMM (f : Int32 → Int32 → Int32) : gSem := fun σ pc lv st => match st with
  | .int y :: .int x :: r => bif Nat.ble (gCats r) 8 then gGo σ (pc + 3) lv (.int (f x y) :: r) else none
  | _ => none
def sCallS (mid n : Nat) : gSem := fun _ pc lv st => bif Nat.ble n st.length && Nat.ble (gCats (st.drop n)) 8 then some (.inr (.inl (mid, (st.take n).reverse, (pc + 3, lv, st.drop n)))) else none
def gIsO (ci : Nat) (v : Value) : Bool := match v with
  | .ref q => (match gShape q with
    | some (.inl (cj, _)) => Nat.beq ci cj
    | _ => false)
  | _ => false
def sCallV (mid ci n : Nat) : gSem := fun _ pc lv st => match st.drop n with
  | v :: r => bif gIsO ci v && Nat.ble n st.length && Nat.ble (gCats r) 8 then some (.inr (.inl (mid, v :: (st.take n).reverse, (pc + 3, lv, r)))) else none
  | [] => none
def sRetV : gSem := fun _ _ _ st => match st with
  | [] => some (.inr (.inr none))
  | _ => none
def sRetI : gSem := fun _ _ _ st => match st with
  | [.int v] => some (.inr (.inr (some (.int v))))
  | _ => none
def sRetL : gSem := fun _ _ _ st => match st with
  | [.long v] => some (.inr (.inr (some (.long v))))
  | _ => none
def sRetA : gSem := fun _ _ _ st => match st with
  | [.ref v] => some (.inr (.inr (some (.ref v))))
  | _ => none
abbrev gProg : Type := List (Nat × gSem)
def gFind : gProg → Nat → Option gSem
  | [], _ => none
  | (a, s) :: l, n => bif Nat.beq n a then some s else gFind l n
def gStep (P : gProg) (σ : gS) (f : gF) : Option gRes := match gFind P f.1 with
  | some sem => sem σ f.1 f.2.1 f.2.2
  | none => none
/-- fewer locals known -/
def gLe : gL → gL → Prop
  | [], [] => True
  | none :: a, _ :: b => gLe a b
  | some v :: a, w :: b => w = some v ∧ gLe a b
  | _, _ => False
abbrev gE : Type := Nat → List Value → gS → Option Value → gS → Prop
def gNext (WP : gS → gF → Prop) (E : gE) (Fin : Option Value → gS → Prop) (σ : gS) (r : Option gRes) : Prop := match r with
  | none => False
  | some (.inl (b, s1, o)) => (b = true → WP s1.1 s1.2) ∧ (b = false → match o with
    | none => False
    | some s2 => WP s2.1 s2.2)
  | some (.inr (.inl (mid, as, f))) => ∃ (v : Option Value) (σ' : gS), E mid as σ v σ' ∧ WP σ' (f.1, f.2.1, v.toList ++ f.2.2)
  | some (.inr (.inr v)) => Fin v σ
def gRn (P : gProg) (E : gE) (Fin : Option Value → gS → Prop) : Nat → gS → gF → Prop
  | 0, _, _ => False
  | n + 1, σ, f => (∃ lv' : gL, gLe lv' f.2.1 ∧ gRn P E Fin n σ (f.1, lv', f.2.2)) ∨ gNext (gRn P E Fin n) E Fin σ (gStep P σ f)
/-- from memory σ and frame f the program ends, with Fin of its answer and the memory then -/
def gR (P : gProg) (E : gE) (Fin : Option Value → gS → Prop) (σ : gS) (f : gF) : Prop := ∃ n, gRn P E Fin n σ f
/-- several plain steps at once -/
def gSteps (P : gProg) : Nat → gS × gF → Option (gS × gF)
  | 0, s => some s
  | n + 1, s => match gStep P s.1 s.2 with
    | some (.inl (true, s1, _)) => gSteps P n s1
    | _ => none
section GRULES
variable {P : gProg} {E : gE} {Fin : Option Value → gS → Prop} {σ σ1 σ2 : gS} {f f1 f2 : gF}
theorem gR.of {r : Option gRes} (h : gStep P σ f = r) (hn : ∃ n, gNext (gRn P E Fin n) E Fin σ r) : gR P E Fin σ f := by
  obtain ⟨n, hn⟩ := hn
  exact ⟨n + 1, Or.inr (by rw [h]; exact hn)⟩
theorem gR.steps (k : Nat) (s1 : gS × gF) (h : gSteps P k (σ, f) = some s1) (hn : gR P E Fin s1.1 s1.2) : gR P E Fin σ f := by
  induction k generalizing σ f with
  | zero =>
    cases h
    exact hn
  | succ k ih =>
    simp only [gSteps] at h
    split at h
    next s2 o e1 =>
      obtain ⟨n, h2⟩ := ih (σ := s2.1) (f := s2.2) h
      exact gR.of e1 ⟨n, fun _ => h2, (fun z => Bool.noConfusion z)⟩
    next => cases h
theorem gR.go {o : Option (gS × gF)} (h : gStep P σ f = some (.inl (true, (σ1, f1), o))) (hn : gR P E Fin σ1 f1) : gR P E Fin σ f := by
  obtain ⟨n, hn⟩ := hn
  exact gR.of h ⟨n, fun _ => hn, (fun z => Bool.noConfusion z)⟩
theorem gR.chk {b : Bool} {o : Option (gS × gF)} (h : gStep P σ f = some (.inl (b, (σ1, f1), o))) (hb : b = true) (hn : gR P E Fin σ1 f1) : gR P E Fin σ f := by
  subst hb
  exact gR.go h hn
theorem gR.br {b : Bool} (h : gStep P σ f = some (.inl (b, (σ1, f1), some (σ2, f2)))) (h1 : b = true → gR P E Fin σ1 f1) (h2 : b = false → gR P E Fin σ2 f2) : gR P E Fin σ f := by
  cases b with
  | true => exact gR.go h (h1 rfl)
  | false =>
    obtain ⟨n, hn⟩ := h2 rfl
    exact gR.of h ⟨n, (fun z => Bool.noConfusion z), fun _ => hn⟩
theorem gR.call {mid : Nat} {as : List Value} {v : Option Value} (h : gStep P σ f = some (.inr (.inl (mid, as, f1)))) (he : E mid as σ v σ1) (hn : gR P E Fin σ1 (f1.1, f1.2.1, v.toList ++ f1.2.2)) : gR P E Fin σ f := by
  obtain ⟨n, hn⟩ := hn
  exact gR.of h ⟨n, v, σ1, he, hn⟩
theorem gR.ret {v : Option Value} (h : gStep P σ f = some (.inr (.inr v))) (hn : Fin v σ) : gR P E Fin σ f := gR.of h ⟨0, hn⟩
theorem gR.forget {pc : Nat} {lv : gL} {st : List Value} (lv' : gL) (h : gLe lv' lv) (hn : gR P E Fin σ (pc, lv', st)) : gR P E Fin σ (pc, lv, st) := by
  obtain ⟨n, hn⟩ := hn
  exact ⟨n + 1, Or.inl ⟨lv', h, hn⟩⟩
end GRULES
/-- a run's end is one -/
theorem gRn.ends {P : gProg} {E : gE} {Fin : Option Value → gS → Prop} : ∀ (n : Nat) (σ : gS) (f : gF), gRn P E Fin n σ f → ∃ (v : Option Value) (σ' : gS), Fin v σ' ∧ gRn P E (fun w τ => w = v ∧ τ = σ') n σ f
  | 0, _, _, h => h.elim
  | n + 1, σ, f, h => by
    rcases h with ⟨lv', h1, h2⟩ | h
    · obtain ⟨v, σ', hf, hr⟩ := gRn.ends n _ _ h2
      exact ⟨v, σ', hf, Or.inl ⟨lv', h1, hr⟩⟩
    · match hr : gStep P σ f with
      | none => rw [hr] at h; exact h.elim
      | some (.inl (b, s1, o)) =>
        rw [hr] at h
        cases b with
        | true =>
          obtain ⟨v, σ', hf, h2⟩ := gRn.ends n _ _ (h.1 rfl)
          exact ⟨v, σ', hf, Or.inr (by rw [hr]; exact ⟨fun _ => h2, (fun z => Bool.noConfusion z)⟩)⟩
        | false =>
          cases o with
          | none => exact (h.2 rfl).elim
          | some s2 =>
            obtain ⟨v, σ', hf, h2⟩ := gRn.ends n _ _ (h.2 rfl)
            exact ⟨v, σ', hf, Or.inr (by rw [hr]; exact ⟨(fun z => Bool.noConfusion z), fun _ => h2⟩)⟩
      | some (.inr (.inl (mid, as, f'))) =>
        rw [hr] at h
        obtain ⟨w, τ, he, h1⟩ := h
        obtain ⟨v, σ', hf, h2⟩ := gRn.ends n _ _ h1
        exact ⟨v, σ', hf, Or.inr (by rw [hr]; exact ⟨w, τ, he, h2⟩)⟩
      | some (.inr (.inr v)) =>
        rw [hr] at h
        exact ⟨v, σ, h, Or.inr (by rw [hr]; exact ⟨rfl, rfl⟩)⟩
end
section
/-! SOUNDNESS: the pure machine's runs are the machine's. The world: 78 cells at addresses ad 0 .. ad 77 (ad 1000 .. : the class's tables, ad 1007 the script). -/
def gv (ad : Nat → Nat) : Value → Value
  | .ref i => .ref (ad i)
  | v => v
theorem gv_cat (ad : Nat → Nat) (v : Value) : (gv ad v).category = v.category := by cases v <;> rfl
def gAs (ad : Nat → Nat) : Nat → gL → List (Nat × Value)
  | _, [] => []
  | k, none :: l => gAs ad (k + 1) l
  | k, some v :: l => (k, gv ad v) :: gAs ad (k + 1) l
theorem gAs_mem (ad : Nat → Nat) : ∀ (l : gL) (k : Nat) (q : Nat × Value), q ∈ gAs ad k l ↔ ∃ (j : Nat) (v : Value), l[j]? = some (some v) ∧ q = (k + j, gv ad v)
  | [], k, q => by simp [gAs]
  | none :: l, k, q => by
    rw [gAs, gAs_mem ad l (k + 1) q]
    constructor
    · rintro ⟨j, v, h1, h2⟩
      exact ⟨j + 1, v, by simpa using h1, by rw [h2]; congr 1; omega⟩
    · rintro ⟨j, v, h1, h2⟩
      cases j with
      | zero => simp at h1
      | succ j => exact ⟨j, v, by simpa using h1, by rw [h2]; congr 1; omega⟩
  | some w :: l, k, q => by
    rw [gAs, List.mem_cons, gAs_mem ad l (k + 1) q]
    constructor
    · rintro (h | ⟨j, v, h1, h2⟩)
      · exact ⟨0, w, by simp, by rw [h]; rfl⟩
      · exact ⟨j + 1, v, by simpa using h1, by rw [h2]; congr 1; omega⟩
    · rintro ⟨j, v, h1, h2⟩
      cases j with
      | zero =>
        simp at h1
        subst h1
        exact Or.inl (by rw [h2]; rfl)
      | succ j => exact Or.inr ⟨j, v, by simpa using h1, by rw [h2]; congr 1; omega⟩
theorem gNth_at {l : gL} {i : Nat} {v : Value} (h : gNth l i = some v) : l[i]? = some (some v) := by
  unfold gNth at h
  split at h
  next w e => cases h; rw [← gAt_eq, e]
  next => cases h
theorem gAs_get {ad : Nat → Nat} {ls : Array Slot} {nL : Nat} {lv : gL} {i : Nat} {v : Value} (hl : lv_has ls nL (gAs ad 0 lv)) (h : gNth lv i = some v) : ls[i]? = some (.val (gv ad v)) :=
  hl.2.2 (i, gv ad v) ((gAs_mem ad lv 0 _).mpr ⟨i, v, gNth_at h, by simp⟩)
theorem gPrev_ok {l : gL} {i j : Nat} {v : Value} (h : gPrev l i = true) (hj : l[j]? = some (some v)) (hi : j + 1 = i) : v.category = 1 := by
  subst hi
  simp only [gPrev] at h
  rw [gAt_eq, hj] at h
  cases v <;> first | rfl | (simp at h)
theorem gAs_set1 {ad : Nat → Nat} {ls : Array Slot} {nL : Nat} {lv : gL} {i : Nat} {v : Value} (hi : i < lv.length) (hp : gPrev lv i = true)
    (hl : lv_has ls nL ((i, gv ad v) :: (gAs ad 0 lv).filter (fun q => !(q.1 == i) && !(q.1 + 1 == i && q.2.category == 2)))) : lv_has ls nL (gAs ad 0 (lv.set i (some v))) := by
  refine ⟨hl.1, hl.2.1, fun q hq => hl.2.2 q ?_⟩
  obtain ⟨j, w, h1, h2⟩ := (gAs_mem ad _ 0 q).mp hq
  by_cases hj : i = j
  · subst hj
    rw [List.getElem?_set_self hi] at h1
    cases h1
    subst h2
    exact List.mem_cons.mpr (Or.inl (by simp))
  · rw [List.getElem?_set_ne hj] at h1
    refine List.mem_cons.mpr (Or.inr (List.mem_filter.mpr ⟨(gAs_mem ad lv 0 q).mpr ⟨j, w, h1, h2⟩, ?_⟩))
    subst h2
    have hc : j + 1 = i → w.category = 1 := fun z => gPrev_ok hp h1 z
    have hj' : ¬ j = i := fun z => hj z.symm
    by_cases hz : j + 1 = i
    · simp [gv_cat, hj', hc hz]
    · simp [hj', hz]
theorem gAs_set2 {ad : Nat → Nat} {ls : Array Slot} {nL : Nat} {lv : gL} {i : Nat} {v : Value} (hi : i + 1 < lv.length) (hp : gPrev lv i = true)
    (hl : lv_has ls nL ((i, gv ad v) :: (gAs ad 0 lv).filter (fun q => !(q.1 == i) && (!(q.1 == i + 1) && !(q.1 + 1 == i && q.2.category == 2))))) : lv_has ls nL (gAs ad 0 ((lv.set i (some v)).set (i + 1) none)) := by
  refine ⟨hl.1, hl.2.1, fun q hq => hl.2.2 q ?_⟩
  obtain ⟨j, w, h1, h2⟩ := (gAs_mem ad _ 0 q).mp hq
  by_cases hk : i + 1 = j
  · subst hk
    rw [List.getElem?_set_self (by rw [List.length_set]; exact hi)] at h1
    cases h1
  rw [List.getElem?_set_ne hk] at h1
  by_cases hj : i = j
  · subst hj
    rw [List.getElem?_set_self (by omega)] at h1
    cases h1
    subst h2
    exact List.mem_cons.mpr (Or.inl (by simp))
  · rw [List.getElem?_set_ne hj] at h1
    refine List.mem_cons.mpr (Or.inr (List.mem_filter.mpr ⟨(gAs_mem ad lv 0 q).mpr ⟨j, w, h1, h2⟩, ?_⟩))
    subst h2
    have hc : j + 1 = i → w.category = 1 := fun z => gPrev_ok hp h1 z
    have hj' : ¬ j = i := fun z => hj z.symm
    have hk' : ¬ j = i + 1 := fun z => hk z.symm
    by_cases hz : j + 1 = i
    · simp [gv_cat, hj', hk', hc hz]
    · simp [hj', hk', hz]
theorem gLe_at : ∀ {a b : gL}, gLe a b → a.length = b.length ∧ ∀ (j : Nat) (v : Value), a[j]? = some (some v) → b[j]? = some (some v)
  | [], [], _ => ⟨rfl, fun j v h => by simp at h⟩
  | none :: a, w :: b, h => by
    obtain ⟨h1, h2⟩ := gLe_at (a := a) (b := b) h
    refine ⟨by simp [h1], fun j v hj => ?_⟩
    cases j with
    | zero => simp at hj
    | succ j => simpa using h2 j v (by simpa using hj)
  | some v :: a, w :: b, h => by
    obtain ⟨h1, h2⟩ := gLe_at (a := a) (b := b) h.2
    have h0 : w = some v := h.1
    refine ⟨by simp [h1], fun j u hj => ?_⟩
    cases j with
    | zero => subst h0; simpa using hj
    | succ j => simpa using h2 j u (by simpa using hj)
  | [], _ :: _, h => h.elim
  | none :: _, [], h => h.elim
  | some _ :: _, [], h => h.elim
-- the world
def gTys (tc : Nat → ClassId) : List (ClassId × FieldType) := [(tc 0, .int), (tc 1, .boolean), (tc 2, .object "GorseGold$Course"), (tc 3, .object "GorseGold$Sheet")]
def gFs (ad : Nat → Nat) (g : Nat → Int32) : Nat → List (Option Nat) → List Value
  | _, [] => []
  | k, some r :: l => .ref (ad r) :: gFs ad g (k + 1) l
  | k, none :: l => .int (g k) :: gFs ad g (k + 1) l
theorem gFs_len (ad : Nat → Nat) (g : Nat → Int32) : ∀ (l : List (Option Nat)) (k : Nat), (gFs ad g k l).length = l.length
  | [], _ => rfl
  | some _ :: l, k => by simp [gFs, gFs_len ad g l (k + 1)]
  | none :: l, k => by simp [gFs, gFs_len ad g l (k + 1)]
theorem gFs_ref (ad : Nat → Nat) (g : Nat → Int32) : ∀ (l : List (Option Nat)) (k j r : Nat), l[j]? = some (some r) → (gFs ad g k l)[j]? = some (.ref (ad r))
  | [], _, j, r, h => by simp at h
  | o :: l, k, 0, r, h => by
    simp at h; subst h; rfl
  | some _ :: l, k, j + 1, r, h => by simpa [gFs] using gFs_ref ad g l (k + 1) j r (by simpa using h)
  | none :: l, k, j + 1, r, h => by simpa [gFs] using gFs_ref ad g l (k + 1) j r (by simpa using h)
theorem gFs_int (ad : Nat → Nat) (g : Nat → Int32) : ∀ (l : List (Option Nat)) (k j : Nat), l[j]? = some none → (gFs ad g k l)[j]? = some (.int (g (k + j)))
  | [], _, j, h => by simp at h
  | o :: l, k, 0, h => by
    simp at h; subst h; rfl
  | some _ :: l, k, j + 1, h => by
    have := gFs_int ad g l (k + 1) j (by simpa using h)
    simpa [gFs, Nat.add_assoc, Nat.add_comm 1 j] using this
  | none :: l, k, j + 1, h => by
    have := gFs_int ad g l (k + 1) j (by simpa using h)
    simpa [gFs, Nat.add_assoc, Nat.add_comm 1 j] using this
theorem gFs_same (ad : Nat → Nat) (g g' : Nat → Int32) : ∀ (l : List (Option Nat)) (k : Nat), (∀ j, k ≤ j → g' j = g j) → gFs ad g' k l = gFs ad g k l
  | [], _, _ => rfl
  | some _ :: l, k, h => by simp [gFs, gFs_same ad g g' l (k + 1) (fun j hj => h j (by omega))]
  | none :: l, k, h => by simp [gFs, gFs_same ad g g' l (k + 1) (fun j hj => h j (by omega)), h k (Nat.le_refl k)]
theorem gFs_set (ad : Nat → Nat) (g : Nat → Int32) (v : Int32) : ∀ (l : List (Option Nat)) (k j : Nat), l[j]? = some none → (gFs ad g k l).set j (.int v) = gFs ad (upd g (k + j) v) k l
  | [], _, j, h => by simp at h
  | o :: l, k, 0, h => by
    simp at h; subst h
    simp only [gFs, List.set_cons_zero, Nat.add_zero]
    rw [gFs_same ad g (upd g k v) l (k + 1) (fun j hj => by simp only [upd]; rw [if_neg (by omega)])]
    simp [upd]
  | some _ :: l, k, j + 1, h => by
    have := gFs_set ad g v l (k + 1) j (by simpa using h)
    simp only [gFs, List.set_cons_succ, this]
    congr 3; omega
  | none :: l, k, j + 1, h => by
    have := gFs_set ad g v l (k + 1) j (by simpa using h)
    simp only [gFs, List.set_cons_succ, this]
    have e : k + 1 + j = k + (j + 1) := by omega
    rw [e]
    congr 1
    simp only [upd]; rw [if_neg (by omega)]
def gCell (ad : Nat → Nat) (tc : Nat → ClassId) (σ : gS) (i : Nat) : va_E := match gShape i with
  | some (.inl (ci, ks)) => .inr (ci, gFs ad (σ i) 0 ks)
  | some (.inr (.inl (t, n))) => .inl (tc t, n, .inl (σ i))
  | some (.inr (.inr (t, n, f))) => .inl (tc t, n, .inr (.inr (.inr (.inr (fun j => (f j).map ad)))))
  | none => .inr (0, [])
def gWs (ad : Nat → Nat) (tc : Nat → ClassId) (σ : gS) : va_W := (List.range gNC).map (fun i => (ad i, gCell ad tc σ i))
theorem gShape_lt {q : Nat} {x : gShp} (h : gShape q = some x) : q < gNC := by
  rw [gShape, gAt_eq] at h
  have := (List.getElem?_eq_some_iff.mp h).1
  rw [gShapes_len] at this
  exact this
theorem gWs_at {ad : Nat → Nat} {tc : Nat → ClassId} {σ : gS} {i : Nat} (h : i < gNC) : (gWs ad tc σ)[i]? = some (ad i, gCell ad tc σ i) := by
  simp [gWs, h]
theorem gWs_set {ad : Nat → Nat} {tc : Nat → ClassId} {σ σ' : gS} {q : Nat} {e : va_E} (hq : q < gNC) (he : gCell ad tc σ' q = e) (ho : ∀ i, i ≠ q → σ' i = σ i) : (gWs ad tc σ).set q (ad q, e) = gWs ad tc σ' := by
  apply List.ext_getElem?
  intro i
  by_cases h : q = i
  · subst h
    rw [List.getElem?_set_self (by simpa [gWs] using hq), gWs_at hq, he]
  · rw [List.getElem?_set_ne h]
    by_cases hi : i < gNC
    · rw [gWs_at hi, gWs_at hi]
      congr 2
      simp only [gCell, ho i (fun z => h z.symm)]
    · simp [gWs, hi]
def gApart (ad : Nat → Nat) (A : Nat → Prop) : Prop := (∀ i j, i < gNC → j < gNC → ad i = ad j → i = j) ∧ ∀ i, i < gNC → A (ad i)
theorem gApart.D {ad : Nat → Nat} {A : Nat → Prop} (h : gApart ad A) (tc : Nat → ClassId) (σ : gS) : va_D A (gWs ad tc σ) := by
  have key : ∀ (k : Nat) (q : Nat × va_E), (gWs ad tc σ)[k]? = some q → k < gNC ∧ q.1 = ad k := by
    intro k q hk
    have hl : k < gNC := by simpa [gWs] using (List.getElem?_eq_some_iff.mp hk).1
    rw [gWs_at hl] at hk
    cases hk
    exact ⟨hl, rfl⟩
  refine ⟨fun i j x y hi hj hxy => ?_, fun k q hk => ?_⟩
  · obtain ⟨a1, a2⟩ := key i x hi
    obtain ⟨b1, b2⟩ := key j y hj
    exact h.1 i j a1 b1 (by rw [← a2, ← b2]; exact hxy)
  · obtain ⟨a1, a2⟩ := key k q hk
    rw [a2]
    exact h.2 k a1
theorem gApart.of {ad : Nat → Nat} {A : Nat → Prop} {tc : Nat → ClassId} {σ : gS} (h : va_D A (gWs ad tc σ)) : gApart ad A :=
  ⟨fun i j hi hj e => h.1 i j _ _ (gWs_at hi) (gWs_at hj) e, fun i hi => h.2 i _ (gWs_at hi)⟩
theorem gWs_A {ad : Nat → Nat} {tc : Nat → ClassId} {σ : gS} {sz q : Nat} : va_A (gWs ad tc σ) sz q ↔ (∃ i, i < gNC ∧ q = ad i) ∨ sz ≤ q := by
  unfold va_A
  constructor
  · rintro (⟨k, e, h⟩ | h)
    · have hl : k < gNC := by simpa [gWs] using (List.getElem?_eq_some_iff.mp h).1
      rw [gWs_at hl] at h
      cases h
      exact Or.inl ⟨k, hl, rfl⟩
    · exact Or.inr h
  · rintro (⟨i, h1, h2⟩ | h)
    · exact Or.inl ⟨i, _, by rw [gWs_at h1, h2]⟩
    · exact Or.inr h
-- words
def gW : List Cond := lw_tbl.filter goodWord
def gIsNest : Cond → Bool
  | .fieldLinkNest .. => true
  | .methodLinkNest .. => true
  | _ => false
def gNest : List Cond := lw_tbl.filter gIsNest
theorem gNest_warm {s U : State} (hW : s.WarmedH U.vm) (h : ∀ w ∈ gNest, va_Nw w s) : ∀ w ∈ gNest, va_Nw w U := by
  intro w hw
  have h1 := h w hw
  have h2 := (List.mem_filter.mp hw).2
  cases w <;> first | exact va_Nw.warmF hW h1 | exact va_Nw.warmM hW h1 | (simp [gIsNest] at h2)
theorem gNest_same {s U : State} (hW : s.vm = U.vm) (h : ∀ w ∈ gNest, va_Nw w s) : ∀ w ∈ gNest, va_Nw w U := by
  intro w hw
  have h1 := h w hw
  have h2 := (List.mem_filter.mp hw).2
  cases w <;> first | exact va_Nw.same rfl hW h1 | (simp [gIsNest] at h2)
theorem gNest_use {w : Cond} {args : Array Value} {s : State} (h : va_Nw w s) (hw : gIsNest w = true) : w.before args s = true := by
  cases w <;> first | exact va_Nw.use rfl h | (simp [gIsNest] at hw)
theorem gW_good : GoodIn gW gW := fun w hw => ⟨hw, good_of_word (List.mem_filter.mp hw).2⟩
/-- the class's tables, untouched -/
def gRoH (ad : Nat → Nat) (A : Nat → Prop) (U : State) (H : Heap) : Prop := ∀ (j n : Nat) (nm : String) (xs : List Int32), gAt gRoL j = some (n, nm, xs) → va_X (ad (1000 + j)) n (fun i => xs.getD i 0) U H ∧ ad (1000 + j) < H.size ∧ ¬ A (ad (1000 + j)) ∧ va_Z "GorseGold" nm "[I" (.ref (ad (1000 + j))) A U H
def gScr (scr : Option (Nat × (Nat → Int32))) (ad : Nat → Nat) (A : Nat → Prop) (U : State) (H : Heap) : Prop := match scr with
  | none => True
  | some x => va_X (ad 1007) x.1 x.2 U H ∧ ad 1007 < H.size ∧ ¬ A (ad 1007)
def gCtx (own : String) (cc : ByteArray) (nL : Nat) (scr : Option (Nat × (Nat → Int32))) (p : Program) (R : Room) (s : State) (m : MethodId) (args : Array Value) (c : Code) (cells slots : Nat) (ad : Nat → Nat) (dC : Nat → ClassId) (dI : Nat → Nat → Nat) (tc : Nat → ClassId) (A : Nat → Prop) (d : Nat) : Prop :=
  p.tables.exec = Jvm.exec ∧ c.code = cc ∧ c.maxLocals = nL ∧ s.vm.findClass own = some m.cls ∧ (∀ w ∈ gW, w.before args s = true) ∧ (∀ w ∈ gNest, va_Nw w s) ∧ va_K (dC, dI) vwCl (gTys tc) s ∧ (∀ q, s.heap.size ≤ q → A q) ∧ gApart ad A ∧ gRoH ad A s s.heap ∧ gScr scr ad A s s.heap ∧ d + 1 ≤ R.frames ∧ 40 * (d + 1) ≤ R.locals ∧ cells ≤ R.cells ∧ slots ≤ R.slots
def gWP (p : Program) (l : Launch) (e : Env) (R : Room) (s : State) (m : MethodId) (args : Array Value) (below : List Frame) (meth : Method) (c : Code) (cells slots : Nat) (Q : State → Prop) (ad : Nat → Nat) (dC : Nat → ClassId) (dI : Nat → Nat → Nat) (tc : Nat → ClassId) (A : Nat → Prop) (nL : Nat) (σ : gS) (f : gF) : Prop :=
  ∀ (H : Heap) (locs : List Loc) (ls : Array Slot), va_P (dC, dI) vwCl (gWs ad tc σ) H → va_S A s.heap H locs → f.2.1.length = nL → lv_has ls nL (gAs ad 0 f.2.1) → W p l e R s m args below meth c H locs cells slots Q (F0 m f.1 ls (f.2.2.map (gv ad)))
def gRetI : Option Value → Instr
  | none => .return_
  | some (.int _) => .ireturn
  | some (.long _) => .lreturn
  | some _ => .areturn
def gFin (cc : ByteArray) (p : Program) (l : Launch) (e : Env) (R : Room) (s : State) (m : MethodId) (args : Array Value) (below : List Frame) (meth : Method) (c : Code) (cells slots : Nat) (Q : State → Prop) (ad : Nat → Nat) (dC : Nat → ClassId) (dI : Nat → Nat → Nat) (tc : Nat → ClassId) (A : Nat → Prop) (v : Option Value) (σ : gS) : Prop :=
  ∀ (pc : Nat) (H : Heap) (locs : List Loc) (ls : Array Slot), va_P (dC, dI) vwCl (gWs ad tc σ) H → va_S A s.heap H locs → decode cc pc = .ok (gRetI v, 1) → W p l e R s m args below meth c H locs cells slots Q (F0 m pc ls (v.toList.map (gv ad)))
def gPc (ad : Nat → Nat) (dC : Nat → ClassId) (dI : Nat → Nat → Nat) (tc : Nat → ClassId) (σ : gS) (sz : Nat) (as : List Value) : Array Value → State → Prop :=
  va_Pc (as.map (gv ad)) (fun U => U.heap.size = sz ∧ va_P (dC, dI) vwCl (gWs ad tc σ) U.heap ∧ va_K (dC, dI) vwCl (gTys tc) U ∧ va_D (fun _ => True) (gWs ad tc σ) ∧ gRoH ad (va_A (gWs ad tc σ) sz) U U.heap ∧ ∀ w ∈ gNest, va_Nw w U)
def gQc (ad : Nat → Nat) (dC : Nat → ClassId) (dI : Nat → Nat → Nat) (tc : Nat → ClassId) (σ' : gS) (A1 : Nat → Prop) (v : Option Value) : Array Value → State → Outcome → State → Prop :=
  fun _ st oc t => oc = .returned (v.map (gv ad)) ∧ va_P (dC, dI) vwCl (gWs ad tc σ') t.heap ∧ va_F A1 st t
end
section
/-- the methods: name, code, locals, type of the answer -/
def gMs0 : List (MethodName × ByteArray × Nat × Option FieldType) := [(yX0_size, cX0_size, 1, (some (.int))),
  (yX0_has, cX0_has, 2, (some (.boolean))),
  (yX0_kindOf, cX0_kindOf, 2, (some (.int))),
  (yX0_beginOf, cX0_beginOf, 2, (some (.int))),
  (yX0_sparksOf, cX0_sparksOf, 2, (some (.int))),
  (yX1_follow, cX1_follow, 7, none),
  (yX1_beginIn, cX1_beginIn, 5, none),
  (yX1_stateIn, cX1_stateIn, 3, (some (.int))),
  (yX2_add, cX2_add, 4, (some (.int))),
  (yX2_dropLast, cX2_dropLast, 1, (some (.int))),
  (yX2_clear, cX2_clear, 1, none),
  (yX2_holding, cX2_holding, 5, (some (.int))),
  (yX2_hindering, cX2_hindering, 6, (some (.int))),
  (yX3_grow, cX3_grow, 6, (some (.int))),
  (yX3_yellowIn, cX3_yellowIn, 4, (some (.int))),
  (yX3_seemingIn, cX3_seemingIn, 4, (some (.int))),
  (yX4_size, cX4_size, 1, (some (.int))),
  (yX4_has, cX4_has, 2, (some (.boolean))),
  (yX4_monthOf, cX4_monthOf, 2, (some (.int))),
  (yX4_bushOf, cX4_bushOf, 2, (some (.int))),
  (yX5_draw, cX5_draw, 2, (some (.int))),
  (yX6_reckon, cX6_reckon, 4, none),
  (yX6_runWith, cX6_runWith, 6, (some (.int))),
  (yX6_countFires, cX6_countFires, 3, none),
  (yX6_gatherLooks, cX6_gatherLooks, 4, none),
  (yX6_worthOf, cX6_worthOf, 4, (some (.int))),
  (yX6_behind, cX6_behind, 7, (some (.int))),
  (yX6_bounded, cX6_bounded, 1, (some (.int))),
  (yX7_add, cX7_add, 4, (some (.int))),
  (yX7_clear, cX7_clear, 2, (some (.int))),
  (yX7_comeOut, cX7_comeOut, 4, (some (.boolean))),
  (yX8_isLost, cX8_isLost, 1, (some (.boolean))),
  (yX8_renew, cX8_renew, 3, none),
  (yX8_discard, cX8_discard, 2, (some (.int))),
  (yX8_hasItems, cX8_hasItems, 3, (some (.boolean))),
  (yX8_item, cX8_item, 2, (some (.int))),
  (yX8_put, cX8_put, 3, none),
  (yX8_narrowed, cX8_narrowed, 2, (some (.int))),
  (yX9_put, cX9_put, 2, (some (.int))),
  (yX9_clear, cX9_clear, 2, (some (.int)))]
def gMs1 : List (MethodName × ByteArray × Nat × Option FieldType) := [(yX9_drop, cX9_drop, 1, (some (.int))),
  (yX9_parse, cX9_parse, 1, none),
  (yX9_firstFault, cX9_firstFault, 2, (some (.int))),
  (yX9_mayStand, cX9_mayStand, 4, (some (.boolean))),
  (yX10_type, cX10_type, 3, (some (.int))),
  (yX10_wipe, cX10_wipe, 2, (some (.int))),
  (yX10_undo, cX10_undo, 2, (some (.int))),
  (yX10_fault, cX10_fault, 2, (some (.int))),
  (yX10_bush, cX10_bush, 3, (some (.int))),
  (yX10_look, cX10_look, 3, (some (.int))),
  (yX10_set, cX10_set, 4, (some (.int))),
  (yX10_event, cX10_event, 4, (some (.int))),
  (yX10_back, cX10_back, 1, (some (.int))),
  (yX10_read, cX10_read, 8, (some (.int))),
  (yX10_at, cX10_at, 4, (some (.int))),
  (yX10_hill, cX10_hill, 3, (some (.int))),
  (yX10_bare, cX10_bare, 1, (some (.int))),
  (yX10_run, cX10_run, 1, (some (.int))),
  (yX10_fake, cX10_fake, 5, (some (.int))),
  (yX10_last, cX10_last, 6, (some (.int))),
  (yX10_plant, cX10_plant, 7, (some (.int))),
  (yX10_send, cX10_send, 5, (some (.int))),
  (yX10_save, cX10_save, 3, (some (.int))),
  (yX10_deal, cX10_deal, 5, (some (.int))),
  (yX10_seen, cX10_seen, 4, (some (.int))),
  (yX10_forget, cX10_forget, 1, (some (.int))),
  (yX10_never, cX10_never, 3, (some (.int))),
  (yX10_was, cX10_was, 3, (some (.int))),
  (yX10_ask, cX10_ask, 7, (some (.int))),
  (yX10_luck, cX10_luck, 9, (some (.long))),
  (yX10_century, cX10_century, 4, (some (.int))),
  (yX10_sheet, cX10_sheet, 4, (some (.int))),
  (yX10_lose, cX10_lose, 2, (some (.int))),
  (yX10_lay, cX10_lay, 6, (some (.int))),
  (yX10_get, cX10_get, 5, (some (.int))),
  (yX10_copy, cX10_copy, 8, (some (.int))),
  (yX10_write, cX10_write, 5, (some (.int))),
  (yX10_count, cX10_count, 2, (some (.int))),
  (yX10_digest, cX10_digest, 4, (some (.long))),
  (yX10_digestOfCounts, cX10_digestOfCounts, 4, (some (.long)))]
def gMs2 : List (MethodName × ByteArray × Nat × Option FieldType) := [(yX10_digestOfMonths, cX10_digestOfMonths, 5, (some (.long))),
  (yX10_digestOfLooks, cX10_digestOfLooks, 4, (some (.long))),
  (yX10_digestOfBush, cX10_digestOfBush, 5, (some (.long))),
  (yX10_digestOfBushIn, cX10_digestOfBushIn, 6, (some (.long))),
  (yX10_digestOfHill, cX10_digestOfHill, 3, (some (.long))),
  (yX10_digestOfPlans, cX10_digestOfPlans, 4, (some (.long))),
  (yX10_digestOfLuck, cX10_digestOfLuck, 3, (some (.long))),
  (yX10_allYellow, cX10_allYellow, 3, (some (.int))),
  (yX10_bareIfPlanted, cX10_bareIfPlanted, 4, (some (.int))),
  (yX10_bestSend, cX10_bestSend, 6, (some (.int))),
  (yX10_bestDeal, cX10_bestDeal, 6, (some (.int))),
  (yX10_fewestToLose, cX10_fewestToLose, 3, (some (.int))),
  (yX10_placeOfBit, cX10_placeOfBit, 4, (some (.int))),
  (yX10_beginsThatFit, cX10_beginsThatFit, 6, (some (.int))),
  (yX10_kindsThatFit, cX10_kindsThatFit, 5, (some (.int))),
  (yX10_greatestAlike, cX10_greatestAlike, 9, (some (.int))),
  (yX10_bareShares, cX10_bareShares, 7, (some (.long))),
  (yX10_gatherHinderers, cX10_gatherHinderers, 4, (some (.int))),
  (yX10_hindersAll, cX10_hindersAll, 4, (some (.boolean))),
  (yX10_shareOf, cX10_shareOf, 6, (some (.long))),
  (yX10_drawEvents, cX10_drawEvents, 7, none),
  (yX10_finding, cX10_finding, 2, (some (.int))),
  (yX10_findingOfItem, cX10_findingOfItem, 3, (some (.int))),
  (yX10_textOf, cX10_textOf, 2, (some (.object "GorseGold$Text"))),
  (yX10_isText, cX10_isText, 1, (some (.boolean))),
  (yX10_isMonth, cX10_isMonth, 1, (some (.boolean))),
  (yX10_isSheet, cX10_isSheet, 1, (some (.boolean))),
  (yX10_isForm, cX10_isForm, 1, (some (.boolean))),
  (yX10_mayBeEvent, cX10_mayBeEvent, 3, (some (.boolean))),
  (yX10_within, cX10_within, 3, (some (.boolean))),
  (yX10_bit, cX10_bit, 2, (some (.int))),
  (yX11_in, cX11_in, 6, (some (.boolean))),
  (yX11_no, cX11_no, 1, (some (.long))),
  (yX11_isTwo, cX11_isTwo, 1, (some (.boolean))),
  (yX11_isIn, cX11_isIn, 2, (some (.boolean))),
  (yX11_ones, cX11_ones, 3, (some (.int))),
  (yX11_lesser, cX11_lesser, 2, (some (.int))),
  (yX11_greater, cX11_greater, 2, (some (.int))),
  (yX11_part, cX11_part, 11, (some (.long))),
  (yX11_finds, cX11_finds, 2, (some (.int)))]
def gMs3 : List (MethodName × ByteArray × Nat × Option FieldType) := [(yX11_isSheet, cX11_isSheet, 1, (some (.boolean))),
  (yX11_sheet, cX11_sheet, 5, (some (.int))),
  (yX11_lose, cX11_lose, 2, (some (.int))),
  (yX11_lacks, cX11_lacks, 4, (some (.int))),
  (yX11_cut, cX11_cut, 2, (some (.int))),
  (yX11_lay, cX11_lay, 6, (some (.int))),
  (yX11_get, cX11_get, 4, (some (.int))),
  (yX11_copy, cX11_copy, 7, (some (.int))),
  (yX11_type, cX11_type, 3, (some (.int))),
  (yX11_wipe, cX11_wipe, 3, (some (.int))),
  (yX11_undo, cX11_undo, 2, (some (.int))),
  (yX11_kindOf, cX11_kindOf, 1, (some (.int))),
  (yX11_bushOf, cX11_bushOf, 2, (some (.int))),
  (yX11_readsBushes, cX11_readsBushes, 5, (some (.int))),
  (yX11_lookOf, cX11_lookOf, 2, (some (.int))),
  (yX11_readsLooks, cX11_readsLooks, 5, (some (.int))),
  (yX11_readsText, cX11_readsText, 2, (some (.int))),
  (yX11_fault, cX11_fault, 2, (some (.int))),
  (yX11_isBush, cX11_isBush, 2, (some (.boolean))),
  (yX11_isMonth, cX11_isMonth, 1, (some (.boolean))),
  (yX11_bush, cX11_bush, 3, (some (.int))),
  (yX11_lookBy, cX11_lookBy, 3, (some (.int))),
  (yX11_look, cX11_look, 3, (some (.int))),
  (yX11_set, cX11_set, 4, (some (.int))),
  (yX11_puts, cX11_puts, 4, none),
  (yX11_event, cX11_event, 4, (some (.int))),
  (yX11_back, cX11_back, 1, (some (.int))),
  (yX11_read, cX11_read, 5, (some (.int))),
  (yX11_lasts, cX11_lasts, 2, (some (.int))),
  (yX11_isOn, cX11_isOn, 8, (some (.boolean))),
  (yX11_isSeason, cX11_isSeason, 4, (some (.boolean))),
  (yX11_stateOf, cX11_stateOf, 3, (some (.int))),
  (yX11_grows, cX11_grows, 4, none),
  (yX11_isSeeming, cX11_isSeeming, 3, (some (.boolean))),
  (yX11_kept, cX11_kept, 1, (some (.int))),
  (yX11_looked, cX11_looked, 4, (some (.int))),
  (yX11_believes, cX11_believes, 5, none),
  (yX11_lives, cX11_lives, 1, none),
  (yX11_find, cX11_find, 1, none),
  (yX11_atBy, cX11_atBy, 4, (some (.int)))]
def gMs4 : List (MethodName × ByteArray × Nat × Option FieldType) := [(yX11_at, cX11_at, 4, (some (.int))),
  (yX11_hillBy, cX11_hillBy, 3, (some (.int))),
  (yX11_hill, cX11_hill, 3, (some (.int))),
  (yX11_bareNow, cX11_bareNow, 3, (some (.int))),
  (yX11_bare, cX11_bare, 1, (some (.int))),
  (yX11_runNow, cX11_runNow, 3, (some (.int))),
  (yX11_run, cX11_run, 1, (some (.int))),
  (yX11_fakeNow, cX11_fakeNow, 5, (some (.int))),
  (yX11_fake, cX11_fake, 1, (some (.int))),
  (yX11_lastBy, cX11_lastBy, 7, (some (.int))),
  (yX11_last, cX11_last, 2, (some (.int))),
  (yX11_plantBy, cX11_plantBy, 7, (some (.int))),
  (yX11_plant, cX11_plant, 2, (some (.int))),
  (yX11_sendBy, cX11_sendBy, 6, (some (.int))),
  (yX11_send, cX11_send, 2, (some (.int))),
  (yX11_isSaved, cX11_isSaved, 2, (some (.boolean))),
  (yX11_saveOf, cX11_saveOf, 4, (some (.int))),
  (yX11_save, cX11_save, 2, (some (.int))),
  (yX11_dealBy, cX11_dealBy, 7, (some (.int))),
  (yX11_deal, cX11_deal, 2, (some (.int))),
  (yX11_seen, cX11_seen, 4, (some (.int))),
  (yX11_forget, cX11_forget, 2, (some (.int))),
  (yX11_isSeen, cX11_isSeen, 4, (some (.boolean))),
  (yX11_neverNow, cX11_neverNow, 3, (some (.int))),
  (yX11_never, cX11_never, 1, (some (.int))),
  (yX11_beganOf, cX11_beganOf, 5, (some (.int))),
  (yX11_sortOf, cX11_sortOf, 5, (some (.int))),
  (yX11_wasOf, cX11_wasOf, 3, (some (.int))),
  (yX11_was, cX11_was, 3, (some (.int))),
  (yX11_askOf, cX11_askOf, 9, (some (.int))),
  (yX11_ask, cX11_ask, 2, (some (.int))),
  (yX11_luckOf, cX11_luckOf, 11, (some (.long))),
  (yX11_luck, cX11_luck, 4, (some (.long))),
  (yX11_lot, cX11_lot, 2, (some (.int))),
  (yX11_centuryOf, cX11_centuryOf, 8, (some (.int))),
  (yX11_century, cX11_century, 4, (some (.int))),
  (yX11_write, cX11_write, 4, (some (.int))),
  (yX11_allYellow, cX11_allYellow, 3, (some (.int))),
  (yX11_count, cX11_count, 2, (some (.int))),
  (yX11_tellsMonth, cX11_tellsMonth, 8, (some (.long)))]
def gMs5 : List (MethodName × ByteArray × Nat × Option FieldType) := [(yX11_tellsBush, cX11_tellsBush, 7, (some (.long))),
  (yX11_digest, cX11_digest, 5, (some (.long))),
  (yJ6_bitCount_0f7a4, cJ6_bitCount_0f7a4, 1, (some (.int))),
  (yJ7_fill_53178, cJ7_fill_53178, 4, none)]
def gMs : List (MethodName × ByteArray × Nat × Option FieldType) := gMs0 ++ (gMs1 ++ (gMs2 ++ (gMs3 ++ (gMs4 ++ (gMs5)))))
def gM (mid : Nat) : MethodName × ByteArray × Nat × Option FieldType := (gAt gMs mid).getD (⟨"", "", ""⟩, ⟨#[]⟩, 0, none)
def gCallOK (l : Launch) (d : Nat) (E : gE) : Prop := ∀ (mid : Nat) (as : List Value) (σ : gS) (v : Option Value) (σ' : gS), E mid as σ v σ' → ∀ (ad : Nat → Nat) (dC : Nat → ClassId) (dI : Nat → Nat → Nat) (tc : Nat → ClassId) (sz : Nat),
  Met l (gM mid).1 (Cond.code (gM mid).1 (gM mid).2.1 (gM mid).2.2.1 (gM mid).2.2.2 :: gW) ({ frames := d, cells := 0, slots := 0, locals := 40 * d }) (gPc ad dC dI tc σ sz as) (gQc ad dC dI tc σ' (va_A (gWs ad tc σ) sz) v) 0 0 (va_A (gWs ad tc σ) sz)
def gSnd (own : String) (cc : ByteArray) (nL : Nat) (scr : Option (Nat × (Nat → Int32))) (pc : Nat) (sem : gSem) : Prop :=
  ∀ (p : Program) (l : Launch) (e : Env) (R : Room) (s : State) (m : MethodId) (args : Array Value) (below : List Frame) (meth : Method) (c : Code) (cells slots : Nat) (Q : State → Prop) (ad : Nat → Nat) (dC : Nat → ClassId) (dI : Nat → Nat → Nat) (tc : Nat → ClassId) (A : Nat → Prop) (d : Nat) (E : gE),
  gCtx own cc nL scr p R s m args c cells slots ad dC dI tc A d → gCallOK l d E →
  ∀ (σ : gS) (lv : gL) (st : List Value), gNext (gWP p l e R s m args below meth c cells slots Q ad dC dI tc A nL) E (gFin cc p l e R s m args below meth c cells slots Q ad dC dI tc A) σ (sem σ pc lv st) → gWP p l e R s m args below meth c cells slots Q ad dC dI tc A nL σ (pc, lv, st)
end
section
section GSOUND
variable {own : String} {cc : ByteArray} {nL : Nat} {scr : Option (Nat × (Nat → Int32))} {pc : Nat}
theorem gs_iconst {n : Int} {v : Int32} (hd : decode cc pc = .ok (.iconst n, 1)) (hv : Int32.ofInt n = v) : gSnd own cc nL scr pc (sPush (.int v) 1) := by
  intro p l e R s m args below meth c cells slots Q ad dC dI tc A d E C hE σ lv st h H locs ls hP hS hlen hl
  obtain ⟨hx, hb, hml, hown, hts, hnw, hK, hA, hap, hro, hsc, hfr, hlo, hce, hsl⟩ := C
  exact lv_iconst hx hb hd hv (h.1 rfl H locs ls hP hS hlen hl)
theorem gs_bipush {n : Int} {v : Int32} (hd : decode cc pc = .ok (.bipush n, 2)) (hv : (Int8.ofInt n).toInt32 = v) : gSnd own cc nL scr pc (sPush (.int v) 2) := by
  intro p l e R s m args below meth c cells slots Q ad dC dI tc A d E C hE σ lv st h H locs ls hP hS hlen hl
  obtain ⟨hx, hb, hml, hown, hts, hnw, hK, hA, hap, hro, hsc, hfr, hlo, hce, hsl⟩ := C
  exact lv_bipush hx hb hd hv (h.1 rfl H locs ls hP hS hlen hl)
theorem gs_sipush {n : Int} {v : Int32} (hd : decode cc pc = .ok (.sipush n, 3)) (hv : (Int16.ofInt n).toInt32 = v) : gSnd own cc nL scr pc (sPush (.int v) 3) := by
  intro p l e R s m args below meth c cells slots Q ad dC dI tc A d E C hE σ lv st h H locs ls hP hS hlen hl
  obtain ⟨hx, hb, hml, hown, hts, hnw, hK, hA, hap, hro, hsc, hfr, hlo, hce, hsl⟩ := C
  exact lv_sipush hx hb hd hv (h.1 rfl H locs ls hP hS hlen hl)
theorem gs_lconst {n : _root_.Fin 2} {v : Int64} (hd : decode cc pc = .ok (.lconst n, 1)) (hv : Int64.ofNat (n : Nat) = v) : gSnd own cc nL scr pc (sPush (.long v) 1) := by
  intro p l e R s m args below meth c cells slots Q ad dC dI tc A d E C hE σ lv st h H locs ls hP hS hlen hl
  obtain ⟨hx, hb, hml, hown, hts, hnw, hK, hA, hap, hro, hsc, hfr, hlo, hce, hsl⟩ := C
  exact lv_lconst hx hb hd hv (h.1 rfl H locs ls hP hS hlen hl)
theorem gs_ldc {idx : Nat} {v : Int32} (hd : decode cc pc = .ok (.ldc idx, 2)) (hv : Cond.constant own idx v ∈ gW) : gSnd own cc nL scr pc (sPush (.int v) 2) := by
  intro p l e R s m args below meth c cells slots Q ad dC dI tc A d E C hE σ lv st h H locs ls hP hS hlen hl
  obtain ⟨hx, hb, hml, hown, hts, hnw, hK, hA, hap, hro, hsc, hfr, hlo, hce, hsl⟩ := C
  exact lv_ldc hx hb hown (hts _ hv) hd (h.1 rfl H locs ls hP hS hlen hl)
theorem gs_ldcw {idx : Nat} {v : Int32} (hd : decode cc pc = .ok (.ldc_w idx, 3)) (hv : Cond.constant own idx v ∈ gW) : gSnd own cc nL scr pc (sPush (.int v) 3) := by
  intro p l e R s m args below meth c cells slots Q ad dC dI tc A d E C hE σ lv st h H locs ls hP hS hlen hl
  obtain ⟨hx, hb, hml, hown, hts, hnw, hK, hA, hap, hro, hsc, hfr, hlo, hce, hsl⟩ := C
  exact lv_ldcw hx hb hown (hts _ hv) hd (h.1 rfl H locs ls hP hS hlen hl)
theorem gs_ldc2 {idx : Nat} {v : Int64} (hd : decode cc pc = .ok (.ldc2_w idx, 3)) (hv : Cond.constantLong own idx v ∈ gW) : gSnd own cc nL scr pc (sPush (.long v) 3) := by
  intro p l e R s m args below meth c cells slots Q ad dC dI tc A d E C hE σ lv st h H locs ls hP hS hlen hl
  obtain ⟨hx, hb, hml, hown, hts, hnw, hK, hA, hap, hro, hsc, hfr, hlo, hce, hsl⟩ := C
  exact lv_ldc2 hx hb hown (hts _ hv) hd (h.1 rfl H locs ls hP hS hlen hl)
theorem gs_iload_n {k : _root_.Fin 4} {i : Nat} (hd : decode cc pc = .ok (.iload_n k, 1)) (hi : (k : Nat) = i) : gSnd own cc nL scr pc (sLdI i 1) := by
  intro p l e R s m args below meth c cells slots Q ad dC dI tc A d E C hE σ lv st h H locs ls hP hS hlen hl
  obtain ⟨hx, hb, hml, hown, hts, hnw, hK, hA, hap, hro, hsc, hfr, hlo, hce, hsl⟩ := C
  simp only [sLdI] at h
  split at h
  next x hq => exact lv_iload_n hx hb hd hi (gAs_get hl hq) (h.1 rfl H locs ls hP hS hlen hl)
  next => exact h.elim
theorem gs_iload {i : Nat} (hd : decode cc pc = .ok (.iload i, 2)) : gSnd own cc nL scr pc (sLdI i 2) := by
  intro p l e R s m args below meth c cells slots Q ad dC dI tc A d E C hE σ lv st h H locs ls hP hS hlen hl
  obtain ⟨hx, hb, hml, hown, hts, hnw, hK, hA, hap, hro, hsc, hfr, hlo, hce, hsl⟩ := C
  simp only [sLdI] at h
  split at h
  next x hq => exact lv_iload hx hb hd (gAs_get hl hq) (h.1 rfl H locs ls hP hS hlen hl)
  next => exact h.elim
theorem gs_lload_n {k : _root_.Fin 4} {i : Nat} (hd : decode cc pc = .ok (.lload_n k, 1)) (hi : (k : Nat) = i) : gSnd own cc nL scr pc (sLdL i 1) := by
  intro p l e R s m args below meth c cells slots Q ad dC dI tc A d E C hE σ lv st h H locs ls hP hS hlen hl
  obtain ⟨hx, hb, hml, hown, hts, hnw, hK, hA, hap, hro, hsc, hfr, hlo, hce, hsl⟩ := C
  simp only [sLdL] at h
  split at h
  next x hq => exact lv_lload_n hx hb hd hi (gAs_get hl hq) (h.1 rfl H locs ls hP hS hlen hl)
  next => exact h.elim
theorem gs_lload {i : Nat} (hd : decode cc pc = .ok (.lload i, 2)) : gSnd own cc nL scr pc (sLdL i 2) := by
  intro p l e R s m args below meth c cells slots Q ad dC dI tc A d E C hE σ lv st h H locs ls hP hS hlen hl
  obtain ⟨hx, hb, hml, hown, hts, hnw, hK, hA, hap, hro, hsc, hfr, hlo, hce, hsl⟩ := C
  simp only [sLdL] at h
  split at h
  next x hq => exact lv_lload hx hb hd (gAs_get hl hq) (h.1 rfl H locs ls hP hS hlen hl)
  next => exact h.elim
theorem gs_aload_n {k : _root_.Fin 4} {i : Nat} (hd : decode cc pc = .ok (.aload_n k, 1)) (hi : (k : Nat) = i) : gSnd own cc nL scr pc (sLdA i 1) := by
  intro p l e R s m args below meth c cells slots Q ad dC dI tc A d E C hE σ lv st h H locs ls hP hS hlen hl
  obtain ⟨hx, hb, hml, hown, hts, hnw, hK, hA, hap, hro, hsc, hfr, hlo, hce, hsl⟩ := C
  simp only [sLdA] at h
  split at h
  next x hq => exact lv_aload_n hx hb hd hi (gAs_get hl hq) (h.1 rfl H locs ls hP hS hlen hl)
  next => exact h.elim
theorem gs_aload {i : Nat} (hd : decode cc pc = .ok (.aload i, 2)) : gSnd own cc nL scr pc (sLdA i 2) := by
  intro p l e R s m args below meth c cells slots Q ad dC dI tc A d E C hE σ lv st h H locs ls hP hS hlen hl
  obtain ⟨hx, hb, hml, hown, hts, hnw, hK, hA, hap, hro, hsc, hfr, hlo, hce, hsl⟩ := C
  simp only [sLdA] at h
  split at h
  next x hq => exact lv_aload hx hb hd (gAs_get hl hq) (h.1 rfl H locs ls hP hS hlen hl)
  next => exact h.elim
theorem gs_istore_n {k : _root_.Fin 4} {i : Nat} (hd : decode cc pc = .ok (.istore_n k, 1)) (hi : (k : Nat) = i) : gSnd own cc nL scr pc (sStI i 1) := by
  intro p l e R s m args below meth c cells slots Q ad dC dI tc A d E C hE σ lv st h H locs ls hP hS hlen hl
  obtain ⟨hx, hb, hml, hown, hts, hnw, hK, hA, hap, hro, hsc, hfr, hlo, hce, hsl⟩ := C
  simp only [sStI] at h
  split at h
  next x r =>
    cases hq : (Nat.blt i lv.length && gPrev lv i) with
    | false => rw [hq] at h; exact h.elim
    | true =>
      rw [hq] at h
      simp only [Bool.and_eq_true, Nat.blt_eq] at hq
      exact lv_istore_n hx hb hd hi hl (by rw [← hlen]; exact hq.1) rfl (fun ls' hl' => h.1 rfl H locs ls' hP hS (by simpa using hlen) (gAs_set1 (v := .int x) hq.1 hq.2 hl'))
  next => exact h.elim
theorem gs_istore {i : Nat} (hd : decode cc pc = .ok (.istore i, 2)) : gSnd own cc nL scr pc (sStI i 2) := by
  intro p l e R s m args below meth c cells slots Q ad dC dI tc A d E C hE σ lv st h H locs ls hP hS hlen hl
  obtain ⟨hx, hb, hml, hown, hts, hnw, hK, hA, hap, hro, hsc, hfr, hlo, hce, hsl⟩ := C
  simp only [sStI] at h
  split at h
  next x r =>
    cases hq : (Nat.blt i lv.length && gPrev lv i) with
    | false => rw [hq] at h; exact h.elim
    | true =>
      rw [hq] at h
      simp only [Bool.and_eq_true, Nat.blt_eq] at hq
      exact lv_istore hx hb hd hl (by rw [← hlen]; exact hq.1) rfl (fun ls' hl' => h.1 rfl H locs ls' hP hS (by simpa using hlen) (gAs_set1 (v := .int x) hq.1 hq.2 hl'))
  next => exact h.elim
theorem gs_astore_n {k : _root_.Fin 4} {i : Nat} (hd : decode cc pc = .ok (.astore_n k, 1)) (hi : (k : Nat) = i) : gSnd own cc nL scr pc (sStA i 1) := by
  intro p l e R s m args below meth c cells slots Q ad dC dI tc A d E C hE σ lv st h H locs ls hP hS hlen hl
  obtain ⟨hx, hb, hml, hown, hts, hnw, hK, hA, hap, hro, hsc, hfr, hlo, hce, hsl⟩ := C
  simp only [sStA] at h
  split at h
  next x r =>
    cases hq : (Nat.blt i lv.length && gPrev lv i) with
    | false => rw [hq] at h; exact h.elim
    | true =>
      rw [hq] at h
      simp only [Bool.and_eq_true, Nat.blt_eq] at hq
      exact lv_astore_n hx hb hd hi hl (by rw [← hlen]; exact hq.1) rfl (fun ls' hl' => h.1 rfl H locs ls' hP hS (by simpa using hlen) (gAs_set1 (v := .ref x) hq.1 hq.2 hl'))
  next => exact h.elim
theorem gs_astore {i : Nat} (hd : decode cc pc = .ok (.astore i, 2)) : gSnd own cc nL scr pc (sStA i 2) := by
  intro p l e R s m args below meth c cells slots Q ad dC dI tc A d E C hE σ lv st h H locs ls hP hS hlen hl
  obtain ⟨hx, hb, hml, hown, hts, hnw, hK, hA, hap, hro, hsc, hfr, hlo, hce, hsl⟩ := C
  simp only [sStA] at h
  split at h
  next x r =>
    cases hq : (Nat.blt i lv.length && gPrev lv i) with
    | false => rw [hq] at h; exact h.elim
    | true =>
      rw [hq] at h
      simp only [Bool.and_eq_true, Nat.blt_eq] at hq
      exact lv_astore hx hb hd hl (by rw [← hlen]; exact hq.1) rfl (fun ls' hl' => h.1 rfl H locs ls' hP hS (by simpa using hlen) (gAs_set1 (v := .ref x) hq.1 hq.2 hl'))
  next => exact h.elim
theorem gs_lstore_n {k : _root_.Fin 4} {i : Nat} (hd : decode cc pc = .ok (.lstore_n k, 1)) (hi : (k : Nat) = i) : gSnd own cc nL scr pc (sStL i 1) := by
  intro p l e R s m args below meth c cells slots Q ad dC dI tc A d E C hE σ lv st h H locs ls hP hS hlen hl
  obtain ⟨hx, hb, hml, hown, hts, hnw, hK, hA, hap, hro, hsc, hfr, hlo, hce, hsl⟩ := C
  simp only [sStL] at h
  split at h
  next x r =>
    cases hq : (Nat.blt (i + 1) lv.length && gPrev lv i) with
    | false => rw [hq] at h; exact h.elim
    | true =>
      rw [hq] at h
      simp only [Bool.and_eq_true, Nat.blt_eq] at hq
      exact lv_lstore_n hx hb hd hi hl (by rw [← hlen]; exact hq.1) rfl (fun ls' hl' => h.1 rfl H locs ls' hP hS (by simpa using hlen) (gAs_set2 (v := .long x) hq.1 hq.2 hl'))
  next => exact h.elim
theorem gs_lstore {i : Nat} (hd : decode cc pc = .ok (.lstore i, 2)) : gSnd own cc nL scr pc (sStL i 2) := by
  intro p l e R s m args below meth c cells slots Q ad dC dI tc A d E C hE σ lv st h H locs ls hP hS hlen hl
  obtain ⟨hx, hb, hml, hown, hts, hnw, hK, hA, hap, hro, hsc, hfr, hlo, hce, hsl⟩ := C
  simp only [sStL] at h
  split at h
  next x r =>
    cases hq : (Nat.blt (i + 1) lv.length && gPrev lv i) with
    | false => rw [hq] at h; exact h.elim
    | true =>
      rw [hq] at h
      simp only [Bool.and_eq_true, Nat.blt_eq] at hq
      exact lv_lstore hx hb hd hl (by rw [← hlen]; exact hq.1) rfl (fun ls' hl' => h.1 rfl H locs ls' hP hS (by simpa using hlen) (gAs_set2 (v := .long x) hq.1 hq.2 hl'))
  next => exact h.elim
theorem gs_iinc {i : Nat} {n : Int} {v : Int32} (hd : decode cc pc = .ok (.iinc i n, 3)) (hv : Int32.ofInt n = v) : gSnd own cc nL scr pc (sInc i v) := by
  intro p l e R s m args below meth c cells slots Q ad dC dI tc A d E C hE σ lv st h H locs ls hP hS hlen hl
  obtain ⟨hx, hb, hml, hown, hts, hnw, hK, hA, hap, hro, hsc, hfr, hlo, hce, hsl⟩ := C
  simp only [sInc] at h
  split at h
  next x hx2 =>
    cases hq : (Nat.blt i lv.length && gPrev lv i) with
    | false => rw [hq] at h; exact h.elim
    | true =>
      rw [hq] at h
      simp only [Bool.and_eq_true, Nat.blt_eq] at hq
      obtain ⟨k, hk⟩ := List.getElem?_of_mem ((gAs_mem ad lv 0 (i, Value.int x)).mpr ⟨i, .int x, gNth_at hx2, by simp [gv]⟩)
      exact lv_iinc hx hb hd hl hk (by rw [hv]) (by rw [← hlen]; exact hq.1) rfl (fun ls' hl' => h.1 rfl H locs ls' hP hS (by simpa using hlen) (gAs_set1 (v := .int (x + v)) hq.1 hq.2 hl'))
  next => exact h.elim
theorem gs_iadd (hd : decode cc pc = .ok (.iadd, 1)) : gSnd own cc nL scr pc (sBin (fun x y => x + y)) := by
  intro p l e R s m args below meth c cells slots Q ad dC dI tc A d E C hE σ lv st h H locs ls hP hS hlen hl
  obtain ⟨hx, hb, hml, hown, hts, hnw, hK, hA, hap, hro, hsc, hfr, hlo, hce, hsl⟩ := C
  simp only [sBin] at h
  split at h
  · exact lv_iadd hx hb hd (h.1 rfl H locs ls hP hS hlen hl)
  · exact h.elim
theorem gs_isub (hd : decode cc pc = .ok (.isub, 1)) : gSnd own cc nL scr pc (sBin (fun x y => x - y)) := by
  intro p l e R s m args below meth c cells slots Q ad dC dI tc A d E C hE σ lv st h H locs ls hP hS hlen hl
  obtain ⟨hx, hb, hml, hown, hts, hnw, hK, hA, hap, hro, hsc, hfr, hlo, hce, hsl⟩ := C
  simp only [sBin] at h
  split at h
  · exact lv_isub hx hb hd (h.1 rfl H locs ls hP hS hlen hl)
  · exact h.elim
theorem gs_imul (hd : decode cc pc = .ok (.imul, 1)) : gSnd own cc nL scr pc (sBin (fun x y => x * y)) := by
  intro p l e R s m args below meth c cells slots Q ad dC dI tc A d E C hE σ lv st h H locs ls hP hS hlen hl
  obtain ⟨hx, hb, hml, hown, hts, hnw, hK, hA, hap, hro, hsc, hfr, hlo, hce, hsl⟩ := C
  simp only [sBin] at h
  split at h
  · exact lv_imul hx hb hd (h.1 rfl H locs ls hP hS hlen hl)
  · exact h.elim
theorem gs_iand (hd : decode cc pc = .ok (.iand, 1)) : gSnd own cc nL scr pc (sBin (fun x y => x &&& y)) := by
  intro p l e R s m args below meth c cells slots Q ad dC dI tc A d E C hE σ lv st h H locs ls hP hS hlen hl
  obtain ⟨hx, hb, hml, hown, hts, hnw, hK, hA, hap, hro, hsc, hfr, hlo, hce, hsl⟩ := C
  simp only [sBin] at h
  split at h
  · exact lv_iand hx hb hd (h.1 rfl H locs ls hP hS hlen hl)
  · exact h.elim
theorem gs_ior (hd : decode cc pc = .ok (.ior, 1)) : gSnd own cc nL scr pc (sBin (fun x y => x ||| y)) := by
  intro p l e R s m args below meth c cells slots Q ad dC dI tc A d E C hE σ lv st h H locs ls hP hS hlen hl
  obtain ⟨hx, hb, hml, hown, hts, hnw, hK, hA, hap, hro, hsc, hfr, hlo, hce, hsl⟩ := C
  simp only [sBin] at h
  split at h
  · exact lv_ior hx hb hd (h.1 rfl H locs ls hP hS hlen hl)
  · exact h.elim
theorem gs_ixor (hd : decode cc pc = .ok (.ixor, 1)) : gSnd own cc nL scr pc (sBin (fun x y => x ^^^ y)) := by
  intro p l e R s m args below meth c cells slots Q ad dC dI tc A d E C hE σ lv st h H locs ls hP hS hlen hl
  obtain ⟨hx, hb, hml, hown, hts, hnw, hK, hA, hap, hro, hsc, hfr, hlo, hce, hsl⟩ := C
  simp only [sBin] at h
  split at h
  · exact lv_ixor hx hb hd (h.1 rfl H locs ls hP hS hlen hl)
  · exact h.elim
theorem gs_ishl (hd : decode cc pc = .ok (.ishl, 1)) : gSnd own cc nL scr pc (sBin (fun x y => x <<< (y &&& 31))) := by
  intro p l e R s m args below meth c cells slots Q ad dC dI tc A d E C hE σ lv st h H locs ls hP hS hlen hl
  obtain ⟨hx, hb, hml, hown, hts, hnw, hK, hA, hap, hro, hsc, hfr, hlo, hce, hsl⟩ := C
  simp only [sBin] at h
  split at h
  · exact lv_ishl hx hb hd (h.1 rfl H locs ls hP hS hlen hl)
  · exact h.elim
theorem gs_ishr (hd : decode cc pc = .ok (.ishr, 1)) : gSnd own cc nL scr pc (sBin (fun x y => x >>> (y &&& 31))) := by
  intro p l e R s m args below meth c cells slots Q ad dC dI tc A d E C hE σ lv st h H locs ls hP hS hlen hl
  obtain ⟨hx, hb, hml, hown, hts, hnw, hK, hA, hap, hro, hsc, hfr, hlo, hce, hsl⟩ := C
  simp only [sBin] at h
  split at h
  · exact lv_ishr hx hb hd (h.1 rfl H locs ls hP hS hlen hl)
  · exact h.elim
theorem gs_iushr (hd : decode cc pc = .ok (.iushr, 1)) : gSnd own cc nL scr pc (sBin (fun x y => (x.toUInt32 >>> (y.toUInt32 &&& Int32.toUInt32 31)).toInt32)) := by
  intro p l e R s m args below meth c cells slots Q ad dC dI tc A d E C hE σ lv st h H locs ls hP hS hlen hl
  obtain ⟨hx, hb, hml, hown, hts, hnw, hK, hA, hap, hro, hsc, hfr, hlo, hce, hsl⟩ := C
  simp only [sBin] at h
  split at h
  · exact lv_iushr hx hb hd rfl (h.1 rfl H locs ls hP hS hlen hl)
  · exact h.elim
theorem gs_ladd (hd : decode cc pc = .ok (.ladd, 1)) : gSnd own cc nL scr pc (sBinL (fun x y => x + y)) := by
  intro p l e R s m args below meth c cells slots Q ad dC dI tc A d E C hE σ lv st h H locs ls hP hS hlen hl
  obtain ⟨hx, hb, hml, hown, hts, hnw, hK, hA, hap, hro, hsc, hfr, hlo, hce, hsl⟩ := C
  simp only [sBinL] at h
  split at h
  · exact lv_ladd hx hb hd (h.1 rfl H locs ls hP hS hlen hl)
  · exact h.elim
theorem gs_lsub (hd : decode cc pc = .ok (.lsub, 1)) : gSnd own cc nL scr pc (sBinL (fun x y => x - y)) := by
  intro p l e R s m args below meth c cells slots Q ad dC dI tc A d E C hE σ lv st h H locs ls hP hS hlen hl
  obtain ⟨hx, hb, hml, hown, hts, hnw, hK, hA, hap, hro, hsc, hfr, hlo, hce, hsl⟩ := C
  simp only [sBinL] at h
  split at h
  · exact lv_lsub hx hb hd (h.1 rfl H locs ls hP hS hlen hl)
  · exact h.elim
theorem gs_lmul (hd : decode cc pc = .ok (.lmul, 1)) : gSnd own cc nL scr pc (sBinL (fun x y => x * y)) := by
  intro p l e R s m args below meth c cells slots Q ad dC dI tc A d E C hE σ lv st h H locs ls hP hS hlen hl
  obtain ⟨hx, hb, hml, hown, hts, hnw, hK, hA, hap, hro, hsc, hfr, hlo, hce, hsl⟩ := C
  simp only [sBinL] at h
  split at h
  · exact lv_lmul hx hb hd (h.1 rfl H locs ls hP hS hlen hl)
  · exact h.elim
theorem gs_land (hd : decode cc pc = .ok (.land, 1)) : gSnd own cc nL scr pc (sBinL (fun x y => x &&& y)) := by
  intro p l e R s m args below meth c cells slots Q ad dC dI tc A d E C hE σ lv st h H locs ls hP hS hlen hl
  obtain ⟨hx, hb, hml, hown, hts, hnw, hK, hA, hap, hro, hsc, hfr, hlo, hce, hsl⟩ := C
  simp only [sBinL] at h
  split at h
  · exact lv_land hx hb hd (h.1 rfl H locs ls hP hS hlen hl)
  · exact h.elim
theorem gs_lor (hd : decode cc pc = .ok (.lor, 1)) : gSnd own cc nL scr pc (sBinL (fun x y => x ||| y)) := by
  intro p l e R s m args below meth c cells slots Q ad dC dI tc A d E C hE σ lv st h H locs ls hP hS hlen hl
  obtain ⟨hx, hb, hml, hown, hts, hnw, hK, hA, hap, hro, hsc, hfr, hlo, hce, hsl⟩ := C
  simp only [sBinL] at h
  split at h
  · exact lv_lor hx hb hd (h.1 rfl H locs ls hP hS hlen hl)
  · exact h.elim
theorem gs_lshl (hd : decode cc pc = .ok (.lshl, 1)) : gSnd own cc nL scr pc (sShL (fun x y => x <<< (y.toInt64 &&& 63))) := by
  intro p l e R s m args below meth c cells slots Q ad dC dI tc A d E C hE σ lv st h H locs ls hP hS hlen hl
  obtain ⟨hx, hb, hml, hown, hts, hnw, hK, hA, hap, hro, hsc, hfr, hlo, hce, hsl⟩ := C
  simp only [sShL] at h
  split at h
  · exact lv_lshl hx hb hd rfl (h.1 rfl H locs ls hP hS hlen hl)
  · exact h.elim
theorem gs_lshr (hd : decode cc pc = .ok (.lshr, 1)) : gSnd own cc nL scr pc (sShL (fun x y => x >>> (y.toInt64 &&& 63))) := by
  intro p l e R s m args below meth c cells slots Q ad dC dI tc A d E C hE σ lv st h H locs ls hP hS hlen hl
  obtain ⟨hx, hb, hml, hown, hts, hnw, hK, hA, hap, hro, hsc, hfr, hlo, hce, hsl⟩ := C
  simp only [sShL] at h
  split at h
  · exact lv_lshr hx hb hd rfl (h.1 rfl H locs ls hP hS hlen hl)
  · exact h.elim
theorem gs_idiv (hd : decode cc pc = .ok (.idiv, 1)) : gSnd own cc nL scr pc (sDiv (fun x y => x / y)) := by
  intro p l e R s m args below meth c cells slots Q ad dC dI tc A d E C hE σ lv st h H locs ls hP hS hlen hl
  obtain ⟨hx, hb, hml, hown, hts, hnw, hK, hA, hap, hro, hsc, hfr, hlo, hce, hsl⟩ := C
  simp only [sDiv] at h
  split at h
  next y x r =>
    by_cases hz : y = 0
    · exact (h.2 (decide_eq_false (fun z => z hz))).elim
    · exact lv_idiv hx hb hd hz (h.1 (decide_eq_true hz) H locs ls hP hS hlen hl)
  next => exact h.elim
theorem gs_irem (hd : decode cc pc = .ok (.irem, 1)) : gSnd own cc nL scr pc (sDiv (fun x y => x - x / y * y)) := by
  intro p l e R s m args below meth c cells slots Q ad dC dI tc A d E C hE σ lv st h H locs ls hP hS hlen hl
  obtain ⟨hx, hb, hml, hown, hts, hnw, hK, hA, hap, hro, hsc, hfr, hlo, hce, hsl⟩ := C
  simp only [sDiv] at h
  split at h
  next y x r =>
    by_cases hz : y = 0
    · exact (h.2 (decide_eq_false (fun z => z hz))).elim
    · exact lv_irem hx hb hd hz (h.1 (decide_eq_true hz) H locs ls hP hS hlen hl)
  next => exact h.elim
theorem gs_ldiv (hd : decode cc pc = .ok (.ldiv, 1)) : gSnd own cc nL scr pc (sDivL (fun x y => x / y)) := by
  intro p l e R s m args below meth c cells slots Q ad dC dI tc A d E C hE σ lv st h H locs ls hP hS hlen hl
  obtain ⟨hx, hb, hml, hown, hts, hnw, hK, hA, hap, hro, hsc, hfr, hlo, hce, hsl⟩ := C
  simp only [sDivL] at h
  split at h
  next y x r =>
    by_cases hz : y = 0
    · exact (h.2 (decide_eq_false (fun z => z hz))).elim
    · exact lv_ldiv hx hb hd hz (h.1 (decide_eq_true hz) H locs ls hP hS hlen hl)
  next => exact h.elim
theorem gs_lrem (hd : decode cc pc = .ok (.lrem, 1)) : gSnd own cc nL scr pc (sDivL (fun x y => x - x / y * y)) := by
  intro p l e R s m args below meth c cells slots Q ad dC dI tc A d E C hE σ lv st h H locs ls hP hS hlen hl
  obtain ⟨hx, hb, hml, hown, hts, hnw, hK, hA, hap, hro, hsc, hfr, hlo, hce, hsl⟩ := C
  simp only [sDivL] at h
  split at h
  next y x r =>
    by_cases hz : y = 0
    · exact (h.2 (decide_eq_false (fun z => z hz))).elim
    · exact lv_lrem hx hb hd hz (h.1 (decide_eq_true hz) H locs ls hP hS hlen hl)
  next => exact h.elim
theorem gs_i2b (hd : decode cc pc = .ok (.i2b, 1)) : gSnd own cc nL scr pc (sUn (fun x => x.toInt8.toInt32)) := by
  intro p l e R s m args below meth c cells slots Q ad dC dI tc A d E C hE σ lv st h H locs ls hP hS hlen hl
  obtain ⟨hx, hb, hml, hown, hts, hnw, hK, hA, hap, hro, hsc, hfr, hlo, hce, hsl⟩ := C
  simp only [sUn] at h
  split at h
  · exact lv_i2b hx hb hd rfl (h.1 rfl H locs ls hP hS hlen hl)
  · exact h.elim
theorem gs_i2s (hd : decode cc pc = .ok (.i2s, 1)) : gSnd own cc nL scr pc (sUn (fun x => x.toInt16.toInt32)) := by
  intro p l e R s m args below meth c cells slots Q ad dC dI tc A d E C hE σ lv st h H locs ls hP hS hlen hl
  obtain ⟨hx, hb, hml, hown, hts, hnw, hK, hA, hap, hro, hsc, hfr, hlo, hce, hsl⟩ := C
  simp only [sUn] at h
  split at h
  · exact lv_i2s hx hb hd rfl (h.1 rfl H locs ls hP hS hlen hl)
  · exact h.elim
theorem gs_i2l (hd : decode cc pc = .ok (.i2l, 1)) : gSnd own cc nL scr pc (sI2L) := by
  intro p l e R s m args below meth c cells slots Q ad dC dI tc A d E C hE σ lv st h H locs ls hP hS hlen hl
  obtain ⟨hx, hb, hml, hown, hts, hnw, hK, hA, hap, hro, hsc, hfr, hlo, hce, hsl⟩ := C
  simp only [sI2L] at h
  split at h
  · exact lv_i2l hx hb hd rfl (h.1 rfl H locs ls hP hS hlen hl)
  · exact h.elim
theorem gs_lcmp (hd : decode cc pc = .ok (.lcmp, 1)) : gSnd own cc nL scr pc (sLcmp) := by
  intro p l e R s m args below meth c cells slots Q ad dC dI tc A d E C hE σ lv st h H locs ls hP hS hlen hl
  obtain ⟨hx, hb, hml, hown, hts, hnw, hK, hA, hap, hro, hsc, hfr, hlo, hce, hsl⟩ := C
  simp only [sLcmp] at h
  split at h
  · exact W.lcmp hx hb hd (h.1 rfl H locs ls hP hS hlen hl)
  · exact h.elim
theorem gs_dup (hd : decode cc pc = .ok (.dup, 1)) : gSnd own cc nL scr pc (sDup) := by
  intro p l e R s m args below meth c cells slots Q ad dC dI tc A d E C hE σ lv st h H locs ls hP hS hlen hl
  obtain ⟨hx, hb, hml, hown, hts, hnw, hK, hA, hap, hro, hsc, hfr, hlo, hce, hsl⟩ := C
  simp only [sDup] at h
  split at h
  next v r =>
    cases hq : Nat.beq v.category 1 with
    | false => rw [hq] at h; exact h.elim
    | true => rw [hq] at h; exact lv_dup hx hb hd (by rw [gv_cat]; exact Nat.eq_of_beq_eq_true hq) (h.1 rfl H locs ls hP hS hlen hl)
  next => exact h.elim
theorem gs_pop (hd : decode cc pc = .ok (.pop, 1)) : gSnd own cc nL scr pc (sPop) := by
  intro p l e R s m args below meth c cells slots Q ad dC dI tc A d E C hE σ lv st h H locs ls hP hS hlen hl
  obtain ⟨hx, hb, hml, hown, hts, hnw, hK, hA, hap, hro, hsc, hfr, hlo, hce, hsl⟩ := C
  simp only [sPop] at h
  split at h
  next v r =>
    cases hq : Nat.beq v.category 1 with
    | false => rw [hq] at h; exact h.elim
    | true => rw [hq] at h; exact lv_pop hx hb hd (by rw [gv_cat]; exact Nat.eq_of_beq_eq_true hq) (h.1 rfl H locs ls hP hS hlen hl)
  next => exact h.elim
theorem gs_dup2 (hd : decode cc pc = .ok (.dup2, 1)) : gSnd own cc nL scr pc (sDup2) := by
  intro p l e R s m args below meth c cells slots Q ad dC dI tc A d E C hE σ lv st h H locs ls hP hS hlen hl
  obtain ⟨hx, hb, hml, hown, hts, hnw, hK, hA, hap, hro, hsc, hfr, hlo, hce, hsl⟩ := C
  simp only [sDup2] at h
  split at h
  next v w r =>
    cases hq : (Nat.beq v.category 1 && Nat.beq w.category 1) with
    | false => rw [hq] at h; exact h.elim
    | true =>
      rw [hq] at h
      simp only [Bool.and_eq_true] at hq
      exact lv_dup2_11 hx hb hd (by rw [gv_cat]; exact Nat.eq_of_beq_eq_true hq.1) (by rw [gv_cat]; exact Nat.eq_of_beq_eq_true hq.2) (h.1 rfl H locs ls hP hS hlen hl)
  next => exact h.elim
theorem gs_if_eq {off : Int} {tgt : Nat} (hd : decode cc pc = .ok (.ifCond .eq off, 3)) (ht : (pc : Int) + off = (tgt : Int)) : gSnd own cc nL scr pc (sIf1 (fun x => decide (x = 0)) tgt) := by
  intro p l e R s m args below meth c cells slots Q ad dC dI tc A d E C hE σ lv st h H locs ls hP hS hlen hl
  obtain ⟨hx, hb, hml, hown, hts, hnw, hK, hA, hap, hro, hsc, hfr, hlo, hce, hsl⟩ := C
  simp only [sIf1] at h
  split at h
  · exact lv_if_eq hx hb hd ht (fun z => h.1 (decide_eq_true z) H locs ls hP hS hlen hl) (fun z => h.2 (decide_eq_false z) H locs ls hP hS hlen hl)
  · exact h.elim
theorem gs_icmp_eq {off : Int} {tgt : Nat} (hd : decode cc pc = .ok (.if_icmp .eq off, 3)) (ht : (pc : Int) + off = (tgt : Int)) : gSnd own cc nL scr pc (sIf2 (fun x y => decide (x = y)) tgt) := by
  intro p l e R s m args below meth c cells slots Q ad dC dI tc A d E C hE σ lv st h H locs ls hP hS hlen hl
  obtain ⟨hx, hb, hml, hown, hts, hnw, hK, hA, hap, hro, hsc, hfr, hlo, hce, hsl⟩ := C
  simp only [sIf2] at h
  split at h
  · exact lv_icmp_eq hx hb hd ht (fun z => h.1 (decide_eq_true z) H locs ls hP hS hlen hl) (fun z => h.2 (decide_eq_false z) H locs ls hP hS hlen hl)
  · exact h.elim
theorem gs_if_ne {off : Int} {tgt : Nat} (hd : decode cc pc = .ok (.ifCond .ne off, 3)) (ht : (pc : Int) + off = (tgt : Int)) : gSnd own cc nL scr pc (sIf1 (fun x => decide (¬ x = 0)) tgt) := by
  intro p l e R s m args below meth c cells slots Q ad dC dI tc A d E C hE σ lv st h H locs ls hP hS hlen hl
  obtain ⟨hx, hb, hml, hown, hts, hnw, hK, hA, hap, hro, hsc, hfr, hlo, hce, hsl⟩ := C
  simp only [sIf1] at h
  split at h
  · exact lv_if_ne hx hb hd ht (fun z => h.1 (decide_eq_true z) H locs ls hP hS hlen hl) (fun z => h.2 (decide_eq_false (fun w => w z)) H locs ls hP hS hlen hl)
  · exact h.elim
theorem gs_icmp_ne {off : Int} {tgt : Nat} (hd : decode cc pc = .ok (.if_icmp .ne off, 3)) (ht : (pc : Int) + off = (tgt : Int)) : gSnd own cc nL scr pc (sIf2 (fun x y => decide (¬ x = y)) tgt) := by
  intro p l e R s m args below meth c cells slots Q ad dC dI tc A d E C hE σ lv st h H locs ls hP hS hlen hl
  obtain ⟨hx, hb, hml, hown, hts, hnw, hK, hA, hap, hro, hsc, hfr, hlo, hce, hsl⟩ := C
  simp only [sIf2] at h
  split at h
  · exact lv_icmp_ne hx hb hd ht (fun z => h.1 (decide_eq_true z) H locs ls hP hS hlen hl) (fun z => h.2 (decide_eq_false (fun w => w z)) H locs ls hP hS hlen hl)
  · exact h.elim
theorem gs_if_lt {off : Int} {tgt : Nat} (hd : decode cc pc = .ok (.ifCond .lt off, 3)) (ht : (pc : Int) + off = (tgt : Int)) : gSnd own cc nL scr pc (sIf1 (fun x => decide (x < 0)) tgt) := by
  intro p l e R s m args below meth c cells slots Q ad dC dI tc A d E C hE σ lv st h H locs ls hP hS hlen hl
  obtain ⟨hx, hb, hml, hown, hts, hnw, hK, hA, hap, hro, hsc, hfr, hlo, hce, hsl⟩ := C
  simp only [sIf1] at h
  split at h
  · exact lv_if_lt hx hb hd ht (fun z => h.1 (decide_eq_true z) H locs ls hP hS hlen hl) (fun z => h.2 (decide_eq_false z) H locs ls hP hS hlen hl)
  · exact h.elim
theorem gs_icmp_lt {off : Int} {tgt : Nat} (hd : decode cc pc = .ok (.if_icmp .lt off, 3)) (ht : (pc : Int) + off = (tgt : Int)) : gSnd own cc nL scr pc (sIf2 (fun x y => decide (x < y)) tgt) := by
  intro p l e R s m args below meth c cells slots Q ad dC dI tc A d E C hE σ lv st h H locs ls hP hS hlen hl
  obtain ⟨hx, hb, hml, hown, hts, hnw, hK, hA, hap, hro, hsc, hfr, hlo, hce, hsl⟩ := C
  simp only [sIf2] at h
  split at h
  · exact lv_icmp_lt hx hb hd ht (fun z => h.1 (decide_eq_true z) H locs ls hP hS hlen hl) (fun z => h.2 (decide_eq_false z) H locs ls hP hS hlen hl)
  · exact h.elim
theorem gs_if_ge {off : Int} {tgt : Nat} (hd : decode cc pc = .ok (.ifCond .ge off, 3)) (ht : (pc : Int) + off = (tgt : Int)) : gSnd own cc nL scr pc (sIf1 (fun x => decide (0 ≤ x)) tgt) := by
  intro p l e R s m args below meth c cells slots Q ad dC dI tc A d E C hE σ lv st h H locs ls hP hS hlen hl
  obtain ⟨hx, hb, hml, hown, hts, hnw, hK, hA, hap, hro, hsc, hfr, hlo, hce, hsl⟩ := C
  simp only [sIf1] at h
  split at h
  · exact lv_if_ge hx hb hd ht (fun z => h.1 (decide_eq_true z) H locs ls hP hS hlen hl) (fun z => h.2 (decide_eq_false z) H locs ls hP hS hlen hl)
  · exact h.elim
theorem gs_icmp_ge {off : Int} {tgt : Nat} (hd : decode cc pc = .ok (.if_icmp .ge off, 3)) (ht : (pc : Int) + off = (tgt : Int)) : gSnd own cc nL scr pc (sIf2 (fun x y => decide (y ≤ x)) tgt) := by
  intro p l e R s m args below meth c cells slots Q ad dC dI tc A d E C hE σ lv st h H locs ls hP hS hlen hl
  obtain ⟨hx, hb, hml, hown, hts, hnw, hK, hA, hap, hro, hsc, hfr, hlo, hce, hsl⟩ := C
  simp only [sIf2] at h
  split at h
  · exact lv_icmp_ge hx hb hd ht (fun z => h.1 (decide_eq_true z) H locs ls hP hS hlen hl) (fun z => h.2 (decide_eq_false z) H locs ls hP hS hlen hl)
  · exact h.elim
theorem gs_if_gt {off : Int} {tgt : Nat} (hd : decode cc pc = .ok (.ifCond .gt off, 3)) (ht : (pc : Int) + off = (tgt : Int)) : gSnd own cc nL scr pc (sIf1 (fun x => decide (0 < x)) tgt) := by
  intro p l e R s m args below meth c cells slots Q ad dC dI tc A d E C hE σ lv st h H locs ls hP hS hlen hl
  obtain ⟨hx, hb, hml, hown, hts, hnw, hK, hA, hap, hro, hsc, hfr, hlo, hce, hsl⟩ := C
  simp only [sIf1] at h
  split at h
  · exact lv_if_gt hx hb hd ht (fun z => h.1 (decide_eq_true z) H locs ls hP hS hlen hl) (fun z => h.2 (decide_eq_false z) H locs ls hP hS hlen hl)
  · exact h.elim
theorem gs_icmp_gt {off : Int} {tgt : Nat} (hd : decode cc pc = .ok (.if_icmp .gt off, 3)) (ht : (pc : Int) + off = (tgt : Int)) : gSnd own cc nL scr pc (sIf2 (fun x y => decide (y < x)) tgt) := by
  intro p l e R s m args below meth c cells slots Q ad dC dI tc A d E C hE σ lv st h H locs ls hP hS hlen hl
  obtain ⟨hx, hb, hml, hown, hts, hnw, hK, hA, hap, hro, hsc, hfr, hlo, hce, hsl⟩ := C
  simp only [sIf2] at h
  split at h
  · exact lv_icmp_gt hx hb hd ht (fun z => h.1 (decide_eq_true z) H locs ls hP hS hlen hl) (fun z => h.2 (decide_eq_false z) H locs ls hP hS hlen hl)
  · exact h.elim
theorem gs_if_le {off : Int} {tgt : Nat} (hd : decode cc pc = .ok (.ifCond .le off, 3)) (ht : (pc : Int) + off = (tgt : Int)) : gSnd own cc nL scr pc (sIf1 (fun x => decide (x ≤ 0)) tgt) := by
  intro p l e R s m args below meth c cells slots Q ad dC dI tc A d E C hE σ lv st h H locs ls hP hS hlen hl
  obtain ⟨hx, hb, hml, hown, hts, hnw, hK, hA, hap, hro, hsc, hfr, hlo, hce, hsl⟩ := C
  simp only [sIf1] at h
  split at h
  · exact lv_if_le hx hb hd ht (fun z => h.1 (decide_eq_true z) H locs ls hP hS hlen hl) (fun z => h.2 (decide_eq_false z) H locs ls hP hS hlen hl)
  · exact h.elim
theorem gs_icmp_le {off : Int} {tgt : Nat} (hd : decode cc pc = .ok (.if_icmp .le off, 3)) (ht : (pc : Int) + off = (tgt : Int)) : gSnd own cc nL scr pc (sIf2 (fun x y => decide (x ≤ y)) tgt) := by
  intro p l e R s m args below meth c cells slots Q ad dC dI tc A d E C hE σ lv st h H locs ls hP hS hlen hl
  obtain ⟨hx, hb, hml, hown, hts, hnw, hK, hA, hap, hro, hsc, hfr, hlo, hce, hsl⟩ := C
  simp only [sIf2] at h
  split at h
  · exact lv_icmp_le hx hb hd ht (fun z => h.1 (decide_eq_true z) H locs ls hP hS hlen hl) (fun z => h.2 (decide_eq_false z) H locs ls hP hS hlen hl)
  · exact h.elim
theorem gs_goto {off : Int} {tgt : Nat} (hd : decode cc pc = .ok (.goto off, 3)) (ht : (pc : Int) + off = (tgt : Int)) : gSnd own cc nL scr pc (sGoto tgt) := by
  intro p l e R s m args below meth c cells slots Q ad dC dI tc A d E C hE σ lv st h H locs ls hP hS hlen hl
  obtain ⟨hx, hb, hml, hown, hts, hnw, hK, hA, hap, hro, hsc, hfr, hlo, hce, hsl⟩ := C
  exact lv_goto hx hb hd ht (h.1 rfl H locs ls hP hS hlen hl)
theorem gs_table {dflt lo hi : Int} {offs : Array Int} {len : Nat} {ts : List Nat} {dt : Nat} (hd : decode cc pc = .ok (.tableswitch dflt lo hi offs, len)) (h0 : (pc : Int) + dflt = (dt : Int)) (h1 : hi - lo + 1 = (ts.length : Int)) (h2 : offs.toList.map (fun o => (pc : Int) + o) = ts.map (fun t : Nat => (t : Int))) : gSnd own cc nL scr pc (sSw lo ts dt) := by
  intro p l e R s m args below meth c cells slots Q ad dC dI tc A d E C hE σ lv st h H locs ls hP hS hlen hl
  obtain ⟨hx, hb, hml, hown, hts, hnw, hK, hA, hap, hro, hsc, hfr, hlo, hce, hsl⟩ := C
  simp only [sSw] at h
  split at h
  next x r =>
    have hk := h.1 rfl H locs ls hP hS hlen hl
    unfold gTgt at hk
    by_cases hlo' : x.toInt < lo
    · exact lv_tableOut hx hb hd (Or.inl hlo') h0 (by simpa [hlo'] using hk)
    · by_cases hhi : hi < x.toInt
      · have e : gAt ts (x.toInt - lo).toNat = none := by
          rw [gAt_eq]
          exact List.getElem?_eq_none (by omega)
        exact lv_tableOut hx hb hd (Or.inr hhi) h0 (by simpa [hlo', e] using hk)
      · have hlt : (x.toInt - lo).toNat < ts.length := by omega
        have hlo2 : (x.toInt - lo).toNat < offs.toList.length := by
          have := congrArg List.length h2
          simp only [List.length_map] at this
          omega
        have e : gAt ts (x.toInt - lo).toNat = some ts[(x.toInt - lo).toNat] := by
          rw [gAt_eq]
          exact List.getElem?_eq_getElem hlt
        have e2 : (offs.toList.map (fun o => (pc : Int) + o))[(x.toInt - lo).toNat]? = (ts.map (fun t : Nat => (t : Int)))[(x.toInt - lo).toNat]? := by rw [h2]
        rw [List.getElem?_map, List.getElem?_map, List.getElem?_eq_getElem hlo2, List.getElem?_eq_getElem hlt] at e2
        refine lv_tableIn hx hb hd hlo' hhi (off := offs.toList[(x.toInt - lo).toNat]) (by rw [← Array.getElem?_toList]; exact List.getElem?_eq_getElem hlo2) (Option.some.inj e2) (by simpa [hlo', e] using hk)
  next => exact h.elim
theorem gs_vret (hd : decode cc pc = .ok (.return_, 1)) : gSnd own cc nL scr pc (sRetV) := by
  intro p l e R s m args below meth c cells slots Q ad dC dI tc A d E C hE σ lv st h H locs ls hP hS hlen hl
  obtain ⟨hx, hb, hml, hown, hts, hnw, hK, hA, hap, hro, hsc, hfr, hlo, hce, hsl⟩ := C
  simp only [sRetV] at h
  split at h
  · exact h pc H locs ls hP hS hd
  · exact h.elim
theorem gs_iret (hd : decode cc pc = .ok (.ireturn, 1)) : gSnd own cc nL scr pc (sRetI) := by
  intro p l e R s m args below meth c cells slots Q ad dC dI tc A d E C hE σ lv st h H locs ls hP hS hlen hl
  obtain ⟨hx, hb, hml, hown, hts, hnw, hK, hA, hap, hro, hsc, hfr, hlo, hce, hsl⟩ := C
  simp only [sRetI] at h
  split at h
  · exact h pc H locs ls hP hS hd
  · exact h.elim
theorem gs_lret (hd : decode cc pc = .ok (.lreturn, 1)) : gSnd own cc nL scr pc (sRetL) := by
  intro p l e R s m args below meth c cells slots Q ad dC dI tc A d E C hE σ lv st h H locs ls hP hS hlen hl
  obtain ⟨hx, hb, hml, hown, hts, hnw, hK, hA, hap, hro, hsc, hfr, hlo, hce, hsl⟩ := C
  simp only [sRetL] at h
  split at h
  · exact h pc H locs ls hP hS hd
  · exact h.elim
theorem gs_aret (hd : decode cc pc = .ok (.areturn, 1)) : gSnd own cc nL scr pc (sRetA) := by
  intro p l e R s m args below meth c cells slots Q ad dC dI tc A d E C hE σ lv st h H locs ls hP hS hlen hl
  obtain ⟨hx, hb, hml, hown, hts, hnw, hK, hA, hap, hro, hsc, hfr, hlo, hce, hsl⟩ := C
  simp only [sRetA] at h
  split at h
  · exact h pc H locs ls hP hS hd
  · exact h.elim
end GSOUND
end
section
theorem gShape_obj {ad : Nat → Nat} {tc : Nat → ClassId} {σ : gS} {q ci : Nat} {ks : List (Option Nat)} (h : gShape q = some (.inl (ci, ks))) : (gWs ad tc σ)[q]? = some (ad q, .inr (ci, gFs ad (σ q) 0 ks)) := by
  rw [gWs_at (gShape_lt h), gCell, h]
theorem gShape_arr {ad : Nat → Nat} {tc : Nat → ClassId} {σ : gS} {q t n : Nat} (h : gShape q = some (.inr (.inl (t, n)))) : (gWs ad tc σ)[q]? = some (ad q, .inl (tc t, n, .inl (σ q))) := by
  rw [gWs_at (gShape_lt h), gCell, h]
theorem gShape_refs {ad : Nat → Nat} {tc : Nat → ClassId} {σ : gS} {q t n : Nat} {f : Nat → Option Nat} (h : gShape q = some (.inr (.inr (t, n, f)))) : (gWs ad tc σ)[q]? = some (ad q, .inl (tc t, n, .inr (.inr (.inr (.inr (fun j => (f j).map ad)))))) := by
  rw [gWs_at (gShape_lt h), gCell, h]
theorem gUp_ne {σ : gS} {q k : Nat} {v : Int32} {i : Nat} (h : i ≠ q) : gUp σ q k v i = σ i := by
  simp [gUp, h]
theorem gUp_eq {σ : gS} {q k : Nat} {v : Int32} : gUp σ q k v q = upd (σ q) k v := by
  simp [gUp]
theorem gUpA_ne {σ : gS} {q : Nat} {f : Nat → Int32} {i : Nat} (h : i ≠ q) : gUpA σ q f i = σ i := by
  simp [gUpA, h]
theorem gUpA_eq {σ : gS} {q : Nat} {f : Nat → Int32} : gUpA σ q f q = f := by
  simp [gUpA]
theorem gWs_put {ad : Nat → Nat} {tc : Nat → ClassId} {σ : gS} {q ci k : Nat} {ks : List (Option Nat)} {v : Int32} (h : gShape q = some (.inl (ci, ks))) (hk : ks[k]? = some none) : (gWs ad tc σ).set q (ad q, .inr (ci, (gFs ad (σ q) 0 ks).set k (.int v))) = gWs ad tc (gUp σ q k v) := by
  refine gWs_set (gShape_lt h) ?_ (fun i hi => gUp_ne hi)
  rw [gCell, h]
  show Sum.inr (ci, gFs ad (gUp σ q k v q) 0 ks) = _
  rw [gUp_eq, gFs_set ad (σ q) v ks 0 k hk, Nat.zero_add]
theorem gWs_ast {ad : Nat → Nat} {tc : Nat → ClassId} {σ : gS} {q t n : Nat} {f : Nat → Int32} (h : gShape q = some (.inr (.inl (t, n)))) : (gWs ad tc σ).set q (ad q, .inl (tc t, n, .inl f)) = gWs ad tc (gUpA σ q f) := by
  refine gWs_set (gShape_lt h) ?_ (fun i hi => gUpA_ne hi)
  rw [gCell, h]
  show Sum.inl (tc t, n, Sum.inl (gUpA σ q f q)) = _
  rw [gUpA_eq]
theorem gUp_A (σ : gS) (q k : Nat) (v : Int32) : gUp σ q k v = gUpA σ q (upd (σ q) k v) := rfl
theorem gPD_I : parseFieldDescriptor "I" = some .int := by decide +kernel
theorem gPD_Z : parseFieldDescriptor "Z" = some .boolean := by decide +kernel
section GHEAP
variable {own : String} {cc : ByteArray} {nL : Nat} {scr : Option (Nat × (Nat → Int32))} {pc : Nat}
theorem gs_get {ci k idx N : Nat} {Cn nm ds : String} {T : u_T} (hd : decode cc pc = .ok (.getfield idx, 3)) (hc : vwCl[ci]? = some (Cn, T, N)) (hk : k < N) (hin : ∀ w ∈ u_ws Cn T N, w ∈ gW) (hT : T k = (Cn, nm, ds, (T k).2.2.2)) (hl : Cond.fieldLink own idx Cn nm ds ∈ gW) : gSnd own cc nL scr pc (sGet ci k) := by
  intro p l e R s m args below meth c cells slots Q ad dC dI tc A d E C hE σ lv st h H locs ls hP hS hlen hlv
  obtain ⟨hx, hb, hml, hown, hts, hnw, hK, hA, hap, hro, hsc, hfr, hlo, hce, hsl⟩ := C
  have h1 : (T k).1 = Cn := by rw [hT]
  have h2 : (T k).2.1 = nm := by rw [hT]
  have h3 : (T k).2.2.1 = ds := by rw [hT]
  have hlk : (Cond.fieldLink own idx Cn (T k).2.1 (T k).2.2.1).before args s = true := by rw [h2, h3]; exact hts _ hl
  have hsm : ∀ x, s.fieldFound? (T k).1 (T k).2.1 (T k).2.2.1 = some x → s.fieldFound? Cn (T k).2.1 (T k).2.2.1 = some x := fun x hx => by rw [h1] at hx; exact hx
  simp only [sGet] at h
  split at h
  next q r =>
    split at h
    next cj ks hs =>
      cases hq : Nat.beq ci cj with
      | false => rw [hq] at h; exact h.elim
      | true =>
        rw [hq] at h
        have hcc := Nat.eq_of_beq_eq_true hq
        subst hcc
        have he : (gWs ad tc σ)[q]? = some (ad q, .inr (ci, gFs ad (σ q) 0 ks)) := gShape_obj hs
        simp only [cond_true] at h
        split at h
        next t ht => exact va_get hx hb hts hin hown hK hP q he hc k hk hlk hsm (gFs_ref ad (σ q) ks 0 k t (by rw [← gAt_eq]; exact ht)) hd (h.1 rfl H locs ls hP hS hlen hlv)
        next ht => exact va_get hx hb hts hin hown hK hP q he hc k hk hlk hsm (by have := gFs_int ad (σ q) ks 0 k (by rw [← gAt_eq]; exact ht); rwa [Nat.zero_add] at this) hd (h.1 rfl H locs ls hP hS hlen hlv)
        next => exact h.elim
    next => exact h.elim
  next => exact h.elim
theorem gs_getN {ci k idx N : Nat} {Cn nm ds host : String} {T : u_T} (hd : decode cc pc = .ok (.getfield idx, 3)) (hc : vwCl[ci]? = some (Cn, T, N)) (hk : k < N) (hin : ∀ w ∈ u_ws Cn T N, w ∈ gW) (hT : T k = (Cn, nm, ds, (T k).2.2.2)) (hl : Cond.fieldLinkNest own idx Cn nm ds host ∈ gNest) : gSnd own cc nL scr pc (sGet ci k) := by
  intro p l e R s m args below meth c cells slots Q ad dC dI tc A d E C hE σ lv st h H locs ls hP hS hlen hlv
  obtain ⟨hx, hb, hml, hown, hts, hnw, hK, hA, hap, hro, hsc, hfr, hlo, hce, hsl⟩ := C
  have h1 : (T k).1 = Cn := by rw [hT]
  have h2 : (T k).2.1 = nm := by rw [hT]
  have h3 : (T k).2.2.1 = ds := by rw [hT]
  have hlk : (Cond.fieldLinkNest own idx Cn (T k).2.1 (T k).2.2.1 host).before args s = true := by rw [h2, h3]; exact gNest_use (hnw _ hl) rfl
  have hsm : ∀ x, s.fieldFound? (T k).1 (T k).2.1 (T k).2.2.1 = some x → s.fieldFound? Cn (T k).2.1 (T k).2.2.1 = some x := fun x hx => by rw [h1] at hx; exact hx
  simp only [sGet] at h
  split at h
  next q r =>
    split at h
    next cj ks hs =>
      cases hq : Nat.beq ci cj with
      | false => rw [hq] at h; exact h.elim
      | true =>
        rw [hq] at h
        have hcc := Nat.eq_of_beq_eq_true hq
        subst hcc
        have he : (gWs ad tc σ)[q]? = some (ad q, .inr (ci, gFs ad (σ q) 0 ks)) := gShape_obj hs
        simp only [cond_true] at h
        split at h
        next t ht => exact va_getN hx hb hts hin hown hK hP q he hc k hk hlk hsm (gFs_ref ad (σ q) ks 0 k t (by rw [← gAt_eq]; exact ht)) hd (h.1 rfl H locs ls hP hS hlen hlv)
        next ht => exact va_getN hx hb hts hin hown hK hP q he hc k hk hlk hsm (by have := gFs_int ad (σ q) ks 0 k (by rw [← gAt_eq]; exact ht); rwa [Nat.zero_add] at this) hd (h.1 rfl H locs ls hP hS hlen hlv)
        next => exact h.elim
    next => exact h.elim
  next => exact h.elim
theorem gs_put {ci k idx N : Nat} {Cn nm : String} {T : u_T} {ty0 : Nat → FieldType} (hd : decode cc pc = .ok (.putfield idx, 3)) (hc : vwCl[ci]? = some (Cn, T, N)) (hk : k < N) (hin : ∀ w ∈ u_ws Cn T N, w ∈ gW) (hty : ∀ k, k < N → parseFieldDescriptor (T k).2.2.1 = some (ty0 k)) (hnm : ∀ a, a < N → ∀ b, b < N → a ≠ b → (T a).2.1 ≠ (T b).2.1) (hT : T k = (Cn, nm, "I", false)) (hl : Cond.fieldLink own idx Cn nm "I" ∈ gW) : gSnd own cc nL scr pc (sPut ci k) := by
  intro p l e R s m args below meth c cells slots Q ad dC dI tc A d E C hE σ lv st h H locs ls hP hS hlen hlv
  obtain ⟨hx, hb, hml, hown, hts, hnw, hK, hA, hap, hro, hsc, hfr, hlo, hce, hsl⟩ := C
  have hlk : (Cond.fieldLink own idx Cn (T k).2.1 (T k).2.2.1).before args s = true := by rw [hT]; exact hts _ hl
  have hsm : ∀ x, s.fieldFound? (T k).1 (T k).2.1 (T k).2.2.1 = some x → s.fieldFound? Cn (T k).2.1 (T k).2.2.1 = some x := fun x hx => by rw [hT] at hx ⊢; exact hx
  simp only [sPut] at h
  split at h
  next v q r =>
    split at h
    next cj ks hs =>
      cases hq : Nat.beq ci cj with
      | false => rw [hq] at h; exact h.elim
      | true =>
        rw [hq] at h
        have hcc := Nat.eq_of_beq_eq_true hq
        subst hcc
        have he : (gWs ad tc σ)[q]? = some (ad q, .inr (ci, gFs ad (σ q) 0 ks)) := gShape_obj hs
        simp only [cond_true] at h
        split at h
        next ht =>
          rw [gAt_eq] at ht
          refine va_put (ty := .int) (v := .int v) hx hb hts hin ty0 hty hnm hown hK hP (hap.D tc σ) hS q he hc k hk hlk hsm (by rw [hT]) (by rw [hT]; exact gPD_I) rfl rfl (by rw [gFs_len]; exact (List.getElem?_eq_some_iff.mp ht).1) hd (fun H1 locs1 hP1 _ hS1 => ?_)
          rw [gWs_put hs ht] at hP1
          exact h.1 rfl H1 locs1 ls hP1 hS1 hlen hlv
        next => exact h.elim
    next => exact h.elim
  next => exact h.elim
theorem gs_putN {ci k idx N : Nat} {Cn nm host : String} {T : u_T} {ty0 : Nat → FieldType} (hd : decode cc pc = .ok (.putfield idx, 3)) (hc : vwCl[ci]? = some (Cn, T, N)) (hk : k < N) (hin : ∀ w ∈ u_ws Cn T N, w ∈ gW) (hty : ∀ k, k < N → parseFieldDescriptor (T k).2.2.1 = some (ty0 k)) (hnm : ∀ a, a < N → ∀ b, b < N → a ≠ b → (T a).2.1 ≠ (T b).2.1) (hT : T k = (Cn, nm, "I", false)) (hl : Cond.fieldLinkNest own idx Cn nm "I" host ∈ gNest) : gSnd own cc nL scr pc (sPut ci k) := by
  intro p l e R s m args below meth c cells slots Q ad dC dI tc A d E C hE σ lv st h H locs ls hP hS hlen hlv
  obtain ⟨hx, hb, hml, hown, hts, hnw, hK, hA, hap, hro, hsc, hfr, hlo, hce, hsl⟩ := C
  have hlk : (Cond.fieldLinkNest own idx Cn (T k).2.1 (T k).2.2.1 host).before args s = true := by rw [hT]; exact gNest_use (hnw _ hl) rfl
  have hsm : ∀ x, s.fieldFound? (T k).1 (T k).2.1 (T k).2.2.1 = some x → s.fieldFound? Cn (T k).2.1 (T k).2.2.1 = some x := fun x hx => by rw [hT] at hx ⊢; exact hx
  simp only [sPut] at h
  split at h
  next v q r =>
    split at h
    next cj ks hs =>
      cases hq : Nat.beq ci cj with
      | false => rw [hq] at h; exact h.elim
      | true =>
        rw [hq] at h
        have hcc := Nat.eq_of_beq_eq_true hq
        subst hcc
        have he : (gWs ad tc σ)[q]? = some (ad q, .inr (ci, gFs ad (σ q) 0 ks)) := gShape_obj hs
        simp only [cond_true] at h
        split at h
        next ht =>
          rw [gAt_eq] at ht
          refine va_putN (ty := .int) (v := .int v) hx hb hts hin ty0 hty hnm hown hK hP (hap.D tc σ) hS q he hc k hk hlk hsm (by rw [hT]) (by rw [hT]; exact gPD_I) rfl rfl (by rw [gFs_len]; exact (List.getElem?_eq_some_iff.mp ht).1) hd (fun H1 locs1 hP1 _ hS1 => ?_)
          rw [gWs_put hs ht] at hP1
          exact h.1 rfl H1 locs1 ls hP1 hS1 hlen hlv
        next => exact h.elim
    next => exact h.elim
  next => exact h.elim
theorem gs_putZ {ci k idx N : Nat} {Cn nm : String} {T : u_T} {ty0 : Nat → FieldType} (hd : decode cc pc = .ok (.putfield idx, 3)) (hc : vwCl[ci]? = some (Cn, T, N)) (hk : k < N) (hin : ∀ w ∈ u_ws Cn T N, w ∈ gW) (hty : ∀ k, k < N → parseFieldDescriptor (T k).2.2.1 = some (ty0 k)) (hnm : ∀ a, a < N → ∀ b, b < N → a ≠ b → (T a).2.1 ≠ (T b).2.1) (hT : T k = (Cn, nm, "Z", false)) (hl : Cond.fieldLink own idx Cn nm "Z" ∈ gW) : gSnd own cc nL scr pc (sPutZ ci k) := by
  intro p l e R s m args below meth c cells slots Q ad dC dI tc A d E C hE σ lv st h H locs ls hP hS hlen hlv
  obtain ⟨hx, hb, hml, hown, hts, hnw, hK, hA, hap, hro, hsc, hfr, hlo, hce, hsl⟩ := C
  have hlk : (Cond.fieldLink own idx Cn (T k).2.1 (T k).2.2.1).before args s = true := by rw [hT]; exact hts _ hl
  have hsm : ∀ x, s.fieldFound? (T k).1 (T k).2.1 (T k).2.2.1 = some x → s.fieldFound? Cn (T k).2.1 (T k).2.2.1 = some x := fun x hx => by rw [hT] at hx ⊢; exact hx
  simp only [sPutZ] at h
  split at h
  next v q r =>
    split at h
    next cj ks hs =>
      cases hq : Nat.beq ci cj with
      | false => rw [hq] at h; exact h.elim
      | true =>
        rw [hq] at h
        have hcc := Nat.eq_of_beq_eq_true hq
        subst hcc
        have he : (gWs ad tc σ)[q]? = some (ad q, .inr (ci, gFs ad (σ q) 0 ks)) := gShape_obj hs
        simp only [cond_true] at h
        split at h
        next ht =>
          rw [gAt_eq] at ht
          cases hz : (decide (v = 0) || decide (v = 1)) with
          | false => rw [hz] at h; exact (h.2 rfl).elim
          | true =>
            rw [hz] at h
            have hv : v = 0 ∨ v = 1 := by simpa using hz
            refine va_put (ty := .boolean) (v := .int v) hx hb hts hin ty0 hty hnm hown hK hP (hap.D tc σ) hS q he hc k hk hlk hsm (by rw [hT]) (by rw [hT]; exact gPD_Z) (by rcases hv with rfl | rfl <;> rfl) (by rcases hv with rfl | rfl <;> rfl) (by rw [gFs_len]; exact (List.getElem?_eq_some_iff.mp ht).1) hd (fun H1 locs1 hP1 _ hS1 => ?_)
            rw [gWs_put hs ht] at hP1
            exact h.1 rfl H1 locs1 ls hP1 hS1 hlen hlv
        next => exact h.elim
    next => exact h.elim
  next => exact h.elim
theorem gs_ro {j n idx : Nat} {nm : String} {xs : List Int32} (hd : decode cc pc = .ok (.getstatic idx, 3)) (hj : gAt gRoL j = some (n, nm, xs)) (hl : Cond.fieldLink own idx "GorseGold" nm "[I" ∈ gW) : gSnd own cc nL scr pc (sRo (1000 + j)) := by
  intro p l e R s m args below meth c cells slots Q ad dC dI tc A d E C hE σ lv st h H locs ls hP hS hlen hlv
  obtain ⟨hx, hb, hml, hown, hts, hnw, hK, hA, hap, hro, hsc, hfr, hlo, hce, hsl⟩ := C
  obtain ⟨-, -, -, hZ⟩ := hro j n nm xs hj
  exact va_gets hx hb hZ hS hown (hts _ hl) (fun _ h => h) hd (h.1 rfl H locs ls hP hS hlen hlv)
theorem gs_roN {j n idx : Nat} {nm host : String} {xs : List Int32} (hd : decode cc pc = .ok (.getstatic idx, 3)) (hj : gAt gRoL j = some (n, nm, xs)) (hl : Cond.fieldLinkNest own idx "GorseGold" nm "[I" host ∈ gNest) : gSnd own cc nL scr pc (sRo (1000 + j)) := by
  intro p l e R s m args below meth c cells slots Q ad dC dI tc A d E C hE σ lv st h H locs ls hP hS hlen hlv
  obtain ⟨hx, hb, hml, hown, hts, hnw, hK, hA, hap, hro, hsc, hfr, hlo, hce, hsl⟩ := C
  obtain ⟨-, -, -, hZ⟩ := hro j n nm xs hj
  exact va_getsN hx hb hZ hS hown (gNest_use (hnw _ hl) rfl) (fun _ h => h) hd (h.1 rfl H locs ls hP hS hlen hlv)
theorem gRo_at {q n : Nat} {nm : String} {xs : List Int32} (h : gRo q = some (n, nm, xs)) : ∃ j, q = 1000 + j ∧ gAt gRoL j = some (n, nm, xs) := by
  unfold gRo at h
  cases hq : Nat.ble 1000 q with
  | false => rw [hq] at h; cases h
  | true =>
    rw [hq] at h
    simp only [cond_true] at h
    exact ⟨q - 1000, (Nat.add_sub_cancel' (Nat.le_of_ble_eq_true hq)).symm, h⟩
theorem gs_iaload (hd : decode cc pc = .ok (.iaload, 1)) : gSnd own cc nL scr pc sIald := by
  intro p l e R s m args below meth c cells slots Q ad dC dI tc A d E C hE σ lv st h H locs ls hP hS hlen hlv
  obtain ⟨hx, hb, hml, hown, hts, hnw, hK, hA, hap, hro, hsc, hfr, hlo, hce, hsl⟩ := C
  simp only [sIald] at h
  split at h
  next i q r =>
    split at h
    next n hs =>
      cases hi : gIn i n with
      | false => rw [hi] at h; exact (h.2 rfl).elim
      | true => rw [hi] at h; exact va_iald hx hb hK hP q 0 (gShape_arr hs) rfl (gIn_in hi) hd (h.1 rfl H locs ls hP hS hlen hlv)
    next hs =>
      split at h
      next n nm xs hr =>
        cases hi : gIn i n with
        | false => rw [hi] at h; exact (h.2 rfl).elim
        | true =>
          rw [hi] at h
          obtain ⟨j, rfl, hj⟩ := gRo_at hr
          obtain ⟨hX, hbl, hbA, -⟩ := hro j n nm xs hj
          exact va_sld hx hb hX hbl hbA hS (gIn_in hi) hd (h.1 rfl H locs ls hP hS hlen hlv)
      next => exact h.elim
    next => exact h.elim
  next => exact h.elim
theorem gs_zaload (hd : decode cc pc = .ok (.baload, 1)) : gSnd own cc nL scr pc sZald := by
  intro p l e R s m args below meth c cells slots Q ad dC dI tc A d E C hE σ lv st h H locs ls hP hS hlen hlv
  obtain ⟨hx, hb, hml, hown, hts, hnw, hK, hA, hap, hro, hsc, hfr, hlo, hce, hsl⟩ := C
  simp only [sZald] at h
  split at h
  next i q r =>
    split at h
    next n hs =>
      cases hi : gIn i n with
      | false => rw [hi] at h; exact (h.2 rfl).elim
      | true => rw [hi] at h; exact va_zald hx hb hK hP q 1 (gShape_arr hs) rfl (gIn_in hi) hd (h.1 rfl H locs ls hP hS hlen hlv)
    next => exact h.elim
  next => exact h.elim
/-- an array of references is the courses' or the sheets' -/
theorem gShape_rt {q t n : Nat} {f : Nat → Option Nat} (h : gShape q = some (.inr (.inr (t, n, f)))) : t = 2 ∨ t = 3 := by
  have key : ∀ x ∈ gShapes, (match x with | .inr (.inr (t, _, _)) => t = 2 ∨ t = 3 | _ => True) := by
    simp [gShapes, gCourse, gSheet, gInts]
  rw [gShape, gAt_eq] at h
  exact key _ (List.mem_of_getElem? h)
theorem gs_aaload (hd : decode cc pc = .ok (.aaload, 1)) : gSnd own cc nL scr pc sAald := by
  intro p l e R s m args below meth c cells slots Q ad dC dI tc A d E C hE σ lv st h H locs ls hP hS hlen hlv
  obtain ⟨hx, hb, hml, hown, hts, hnw, hK, hA, hap, hro, hsc, hfr, hlo, hce, hsl⟩ := C
  simp only [sAald] at h
  split at h
  next i q r =>
    split at h
    next t n f hs =>
      split at h
      next t2 hf =>
        cases hi : gIn i n with
        | false => rw [hi] at h; exact (h.2 rfl).elim
        | true =>
          rw [hi] at h
          have hk := h.1 rfl H locs ls hP hS hlen hlv
          have e : va_rf ((fun j => (f j).map ad) i.toNatClampNeg) = .ref (ad t2) := by
            show va_rf ((f i.toNatClampNeg).map ad) = _
            rw [hf]; rfl
          rcases gShape_rt hs with rfl | rfl
          · exact va_aldq hx hb hK hP q 2 (gShape_refs hs) rfl (gIn_in hi) hd (by rw [e]; exact hk)
          · exact va_aldq hx hb hK hP q 3 (gShape_refs hs) rfl (gIn_in hi) hd (by rw [e]; exact hk)
      next => exact h.elim
    next => exact h.elim
  next => exact h.elim
theorem gs_iastore (hd : decode cc pc = .ok (.iastore, 1)) : gSnd own cc nL scr pc sIast := by
  intro p l e R s m args below meth c cells slots Q ad dC dI tc A d E C hE σ lv st h H locs ls hP hS hlen hlv
  obtain ⟨hx, hb, hml, hown, hts, hnw, hK, hA, hap, hro, hsc, hfr, hlo, hce, hsl⟩ := C
  simp only [sIast] at h
  split at h
  next x i q r =>
    split at h
    next n hs =>
      cases hi : gIn i n with
      | false => rw [hi] at h; exact (h.2 rfl).elim
      | true =>
        rw [hi] at h
        refine va_iast hx hb hK hP (hap.D tc σ) hS q 0 (gShape_arr hs) rfl (gIn_in hi) hd (fun H1 locs1 hP1 _ hS1 => ?_)
        rw [gWs_ast hs] at hP1
        exact h.1 rfl H1 locs1 ls hP1 hS1 hlen hlv
    next => exact h.elim
  next => exact h.elim
theorem gs_zastore (hd : decode cc pc = .ok (.bastore, 1)) : gSnd own cc nL scr pc sZast := by
  intro p l e R s m args below meth c cells slots Q ad dC dI tc A d E C hE σ lv st h H locs ls hP hS hlen hlv
  obtain ⟨hx, hb, hml, hown, hts, hnw, hK, hA, hap, hro, hsc, hfr, hlo, hce, hsl⟩ := C
  simp only [sZast] at h
  split at h
  next x i q r =>
    split at h
    next n hs =>
      cases hi : (gIn i n && (decide (x = 0) || decide (x = 1))) with
      | false => rw [hi] at h; exact (h.2 rfl).elim
      | true =>
        rw [hi] at h
        simp only [Bool.and_eq_true, Bool.or_eq_true, decide_eq_true_eq] at hi
        refine va_zast hx hb hK hP (hap.D tc σ) hS q 1 (gShape_arr hs) rfl (gIn_in hi.1) hd (fun H1 locs1 hP1 _ hS1 => ?_)
        have e : vp_nar .boolean x = x := by rcases hi.2 with rfl | rfl <;> rfl
        rw [gWs_ast hs, e] at hP1
        exact h.1 rfl H1 locs1 ls hP1 hS1 hlen hlv
    next => exact h.elim
  next => exact h.elim
theorem gShape_at {q t n : Nat} (h : gShape q = some (.inr (.inl (t, n)))) : t = 0 ∨ t = 1 := by
  have key : ∀ x ∈ gShapes, (match x with | .inr (.inl (t, _)) => t = 0 ∨ t = 1 | _ => True) := by
    simp [gShapes, gCourse, gSheet, gInts]
  rw [gShape, gAt_eq] at h
  exact key _ (List.mem_of_getElem? h)
theorem gs_alen (hd : decode cc pc = .ok (.arraylength, 1)) : gSnd own cc nL scr pc sAlen := by
  intro p l e R s m args below meth c cells slots Q ad dC dI tc A d E C hE σ lv st h H locs ls hP hS hlen hlv
  obtain ⟨hx, hb, hml, hown, hts, hnw, hK, hA, hap, hro, hsc, hfr, hlo, hce, hsl⟩ := C
  simp only [sAlen] at h
  split at h
  next q r =>
    split at h
    next t n hs =>
      rcases gShape_at hs with rfl | rfl
      · exact va_alen hx hb hK hP q 0 (gShape_arr hs) (ty := .int) rfl rfl hd (h.1 rfl H locs ls hP hS hlen hlv)
      · exact va_alen hx hb hK hP q 1 (gShape_arr hs) (ty := .boolean) rfl rfl hd (h.1 rfl H locs ls hP hS hlen hlv)
    next hs =>
      split at h
      next n nm xs hr =>
        obtain ⟨j, rfl, hj⟩ := gRo_at hr
        obtain ⟨hX, hbl, hbA, -⟩ := hro j n nm xs hj
        exact va_slen hx hb hX hbl hbA hS hd (h.1 rfl H locs ls hP hS hlen hlv)
      next => exact h.elim
    next => exact h.elim
  next => exact h.elim
theorem gs_scrLd {L : Nat} {xs : Nat → Int32} (hs : scr = some (L, xs)) (hd : decode cc pc = .ok (.iaload, 1)) : gSnd own cc nL scr pc (sScrLd L xs) := by
  intro p l e R s m args below meth c cells slots Q ad dC dI tc A d E C hE σ lv st h H locs ls hP hS hlen hlv
  obtain ⟨hx, hb, hml, hown, hts, hnw, hK, hA, hap, hro, hsc, hfr, hlo, hce, hsl⟩ := C
  subst hs
  simp only [sScrLd] at h
  split at h
  next i q r =>
    cases hq : Nat.beq q 1007 with
    | false => rw [hq] at h; exact h.elim
    | true =>
      rw [hq] at h
      have hqq := Nat.eq_of_beq_eq_true hq
      subst hqq
      obtain ⟨hX, hbl, hbA⟩ := hsc
      cases hi : gIn i L with
      | false => rw [hi] at h; exact (h.2 rfl).elim
      | true => rw [hi] at h; exact va_sld hx hb hX hbl hbA hS (gIn_in hi) hd (h.1 rfl H locs ls hP hS hlen hlv)
  next => exact h.elim
theorem gs_scrLen {L : Nat} {xs : Nat → Int32} (hs : scr = some (L, xs)) (hd : decode cc pc = .ok (.arraylength, 1)) : gSnd own cc nL scr pc (sScrLen L) := by
  intro p l e R s m args below meth c cells slots Q ad dC dI tc A d E C hE σ lv st h H locs ls hP hS hlen hlv
  obtain ⟨hx, hb, hml, hown, hts, hnw, hK, hA, hap, hro, hsc, hfr, hlo, hce, hsl⟩ := C
  subst hs
  simp only [sScrLen] at h
  split at h
  next q r =>
    cases hq : Nat.beq q 1007 with
    | false => rw [hq] at h; exact h.elim
    | true =>
      rw [hq] at h
      have hqq := Nat.eq_of_beq_eq_true hq
      subst hqq
      obtain ⟨hX, hbl, hbA⟩ := hsc
      exact va_slen hx hb hX hbl hbA hS hd (h.1 rfl H locs ls hP hS hlen hlv)
  next => exact h.elim
theorem gCats_gv (ad : Nat → Nat) (l : List Value) : ((l.map (gv ad)).map fun v => v.category).sum = gCats l := by
  rw [gCats_eq, List.map_map]
  congr 1
  apply List.map_congr_left
  intro v _
  exact gv_cat ad v
theorem gs_copy {idx : Nat} (hd : decode cc pc = .ok (.invokestatic idx, 3)) (hl : Cond.methodLink own idx arraycopyName ∈ gW) (hn : Cond.native arraycopyName ∈ gW) (hst : Cond.static arraycopyName ∈ gW) (hi : Cond.initialized "java/lang/System" ∈ gW) : gSnd own cc nL scr pc sCopy := by
  intro p l e R s m args below meth c cells slots Q ad dC dI tc A d E C hE σ lv st h H locs ls hP hS hlen hlv
  obtain ⟨hx, hb, hml, hown, hts, hnw, hK, hA, hap, hro, hsc, hfr, hlo, hce, hsl⟩ := C
  simp only [sCopy] at h
  split at h
  next n dp b sp a r =>
    split at h
    next n0 n1 hs1 hs2 =>
      cases hq : Nat.ble (gCats r) 8 with
      | false => rw [hq] at h; exact h.elim
      | true =>
        rw [hq] at h
        simp only [cond_true] at h
        cases hi2 : (!decide (sp < 0) && !decide (dp < 0) && !decide (n < 0) && decide (sp.toNatClampNeg + n.toNatClampNeg ≤ n0) && decide (dp.toNatClampNeg + n.toNatClampNeg ≤ n1)) with
        | false => rw [hi2] at h; exact (h.2 rfl).elim
        | true =>
          rw [hi2] at h
          simp only [Bool.and_eq_true, Bool.not_eq_true', decide_eq_false_iff_not, decide_eq_true_eq] at hi2
          obtain ⟨⟨⟨⟨h1, h2⟩, h3⟩, h4⟩, h5⟩ := hi2
          have hg := Nat.le_of_ble_eq_true hq
          refine va_copyi hx hb (by rw [hml]; exact hlv.1.symm) hown (hts _ hl) (hts _ hn) (hts _ hst) (hts _ hi) hK hP (hap.D tc σ) hS a b 0 0 (ty := .int) (gShape_arr hs1) (gShape_arr hs2) rfl rfl rfl h1 h2 h3 h4 h5 (fun _ _ => rfl) (by omega) ?_ hd (fun H1 locs1 hP1 _ hS1 => ?_)
          · rw [gCats_gv]
            have : nativeFrameWords "java/lang/System" "arraycopy" 5 ≤ 21 := by decide +kernel
            omega
          · rw [gWs_ast hs2] at hP1
            exact h.1 rfl H1 locs1 ls hP1 hS1 hlen hlv
    next => exact h.elim
  next => exact h.elim
theorem gs_mmax {idx : Nat} (hd : decode cc pc = .ok (.invokestatic idx, 3)) (hl : Cond.methodLink own idx Lib.Math.max.name ∈ gW) (hst : Cond.static Lib.Math.max.name ∈ gW) (hi : Cond.initialized "java/lang/Math" ∈ gW) (hcd : Cond.code Lib.Math.max.name Lib.Math.max.code 2 (some .int) ∈ gW) : gSnd own cc nL scr pc (sMM (fun x y => if x < y then y else x)) := by
  intro p l e R s m args below meth c cells slots Q ad dC dI tc A d E C hE σ lv st h H locs ls hP hS hlen hlv
  obtain ⟨hx, hb, hml, hown, hts, hnw, hK, hA, hap, hro, hsc, hfr, hlo, hce, hsl⟩ := C
  simp only [sMM] at h
  split at h
  next y x r =>
    cases hq : Nat.ble (gCats r) 8 with
    | false => rw [hq] at h; exact h.elim
    | true =>
      rw [hq] at h
      have hg := Nat.le_of_ble_eq_true hq
      exact va_mmax hx hb (by rw [hml]; exact hlv.1.symm) hown (hts _ hl) (hts _ hst) (hts _ hi) (hts _ hcd) (by omega) (by rw [gCats_gv]; omega) hce hsl hd (h.1 rfl H locs ls hP hS hlen hlv)
  next => exact h.elim
theorem gs_mmin {idx : Nat} (hd : decode cc pc = .ok (.invokestatic idx, 3)) (hl : Cond.methodLink own idx Lib.Math.min.name ∈ gW) (hst : Cond.static Lib.Math.min.name ∈ gW) (hi : Cond.initialized "java/lang/Math" ∈ gW) (hcd : Cond.code Lib.Math.min.name Lib.Math.min.code 2 (some .int) ∈ gW) : gSnd own cc nL scr pc (sMM (fun x y => if y < x then y else x)) := by
  intro p l e R s m args below meth c cells slots Q ad dC dI tc A d E C hE σ lv st h H locs ls hP hS hlen hlv
  obtain ⟨hx, hb, hml, hown, hts, hnw, hK, hA, hap, hro, hsc, hfr, hlo, hce, hsl⟩ := C
  simp only [sMM] at h
  split at h
  next y x r =>
    cases hq : Nat.ble (gCats r) 8 with
    | false => rw [hq] at h; exact h.elim
    | true =>
      rw [hq] at h
      have hg := Nat.le_of_ble_eq_true hq
      exact va_mmin hx hb (by rw [hml]; exact hlv.1.symm) hown (hts _ hl) (hts _ hst) (hts _ hi) (hts _ hcd) (by omega) (by rw [gCats_gv]; omega) hce hsl hd (h.1 rfl H locs ls hP hS hlen hlv)
  next => exact h.elim
end GHEAP
end
section
theorem gNext_mono {WP WP' : gS → gF → Prop} {E : gE} {F F' : Option Value → gS → Prop} {σ : gS} {r : Option gRes} (h1 : ∀ σ f, WP σ f → WP' σ f) (h2 : ∀ v σ, F v σ → F' v σ) (h : gNext WP E F σ r) : gNext WP' E F' σ r := by
  match r, h with
  | none, h => exact h.elim
  | some (.inl (b, s1, none)), h => exact ⟨fun z => h1 _ _ (h.1 z), h.2⟩
  | some (.inl (b, s1, some s2)), h => exact ⟨fun z => h1 _ _ (h.1 z), fun z => h1 _ _ (h.2 z)⟩
  | some (.inr (.inl (mid, as, f))), h =>
    obtain ⟨v, σ', he, hw⟩ := h
    exact ⟨v, σ', he, h1 _ _ hw⟩
  | some (.inr (.inr v)), h => exact h2 _ _ h
theorem gRoH.next {ad : Nat → Nat} {A A1 : Nat → Prop} {s U : State} {H : Heap} {locs : List Loc} (h : gRoH ad A s s.heap) (hS : va_S A s.heap H locs) (hA1 : ∀ q, A1 q → A q) (hU : U.heap = H) (hW : s.vm.Alike U.vm) : gRoH ad A1 U U.heap := by
  intro j n nm xs hj
  obtain ⟨h1, h2, h3, h4⟩ := h j n nm xs hj
  subst hU
  exact ⟨(h1.kept (hS.2.1 _ h2 h3)).moved hW, Nat.lt_of_lt_of_le h2 hS.1, fun z => h3 (hA1 _ z), ((h4.kept hS.2.1).narrow hA1).moved hW⟩
theorem gRoH.same {ad : Nat → Nat} {A : Nat → Prop} {s U : State} {H : Heap} (h : gRoH ad A s H) (hW : s.vm.Alike U.vm) : gRoH ad A U H := by
  intro j n nm xs hj
  obtain ⟨h1, h2, h3, h4⟩ := h j n nm xs hj
  exact ⟨h1.moved hW, h2, h3, h4.moved hW⟩
theorem gPc.blind {ad : Nat → Nat} {dC : Nat → ClassId} {dI : Nat → Nat → Nat} {tc : Nat → ClassId} {σ : gS} {sz : Nat} {as : List Value} : FrameBlind (gPc ad dC dI tc σ sz as) := by
  intro a U g mk q
  obtain ⟨q0, q1, qP, qK, qD, qR, qN⟩ := q
  exact ⟨q0, q1, qP, va_K.moved (u := U) (U := U.calling g mk a) (Vm.Alike.refl U.vm) qK, qD, gRoH.same (s := U) (U := U.calling g mk a) qR (Vm.Alike.refl U.vm), gNest_same (s := U) (U := U.calling g mk a) rfl qN⟩
theorem gW_wsapp {pre : List Cond} {c : Cond} (h1 : ∀ w ∈ pre, w ∈ gW) (hc : c ∈ gW) : GoodIn gW (pre ++ (c :: gW)) := by
  intro w hw
  have : w ∈ gW := by
    rcases List.mem_append.mp hw with h | h
    · exact h1 w h
    · rcases List.mem_cons.mp h with h | h
      · rw [h]; exact hc
      · exact h
  exact gW_good w this
theorem gW_wscode {c : Cond} (hc : c ∈ gW) : GoodIn gW (c :: gW) := gW_wsapp (pre := []) (by simp) hc
section GCALL
variable {p : Program} {l : Launch} {e : Env} {R : Room} {s : State} {m : MethodId} {args : Array Value} {below : List Frame} {meth : Method} {c : Code} {cells slots : Nat} {Q : State → Prop} {H : Heap} {locs : List Loc} {ad : Nat → Nat} {dC : Nat → ClassId} {dI : Nat → Nat → Nat} {tc : Nat → ClassId} {A : Nat → Prop}
theorem g_after {A1 free : Nat → Prop} {pc : Nat} {ls : Array Slot} {st0 rest : List Value} {a : Array Value} {σ' : gS} {v : Option Value} (hr : va_Run p l e R s m args below meth c H locs cells slots 0 0 (F0 m pc ls st0) rest (gQc ad dC dI tc σ' A1 v a) free) (hS : va_S A s.heap H locs) (hA : ∀ q, A1 q → A q) (hf : ∀ q, free q → A q)
    (kk : ∀ (H1 : Heap) (locs1 : List Loc), va_P (dC, dI) vwCl (gWs ad tc σ') H1 → va_S A s.heap H1 locs1 → W p l e R s m args below meth c H1 locs1 cells slots Q (F0 m (pc + 3) ls ((v.map (gv ad)).toList ++ rest))) : W p l e R s m args below meth c H locs cells slots Q (F0 m pc ls st0) := by
  intro T hT X
  obtain ⟨v', st₀, t, T', L, h0, X', hL, e1, e2, ⟨hv, hp, hz, hk⟩, st⟩ := hr T hT X
  cases hv
  rw [h0] at hz hk
  obtain ⟨t2, a1, b1⟩ := kk T'.heap (locs ++ L) (by rw [e1]; exact hp)
    ⟨Nat.le_trans hS.1 (by rw [e1]; exact hz), fun q h1 h2 => by rw [e1, hk q (Nat.lt_of_lt_of_le h1 hS.1) (fun z => h2 (hA q z))]; exact hS.2.1 q h1 h2, fun q hq => by
      rcases List.mem_append.mp hq with h | h
      · exact hS.2.2 q h
      · exact hf _ (hL q h)⟩ T' rfl X'
  exact ⟨t2, st t2 a1, b1⟩
theorem g_pre {σ : gS} {as : List Value} (hP : va_P (dC, dI) vwCl (gWs ad tc σ) H) (hS : va_S A s.heap H locs) (hK : va_K (dC, dI) vwCl (gTys tc) s) (hap : gApart ad A) (hro : gRoH ad A s s.heap) (hnw : ∀ w ∈ gNest, va_Nw w s) (hA1 : ∀ q, va_A (gWs ad tc σ) H.size q → A q) : ∀ U : State, U.heap = H → s.WarmedH U.vm → gPc ad dC dI tc σ H.size as (as.map (gv ad)).toArray U :=
  fun U hU hW => ⟨rfl, by rw [hU], by rw [hU]; exact hP, va_K.moved hW.alike hK, (hap.D tc σ).weaken (fun _ _ _ _ => trivial), gRoH.next hro hS hA1 hU hW.alike, gNest_warm hW hnw⟩
theorem g_A1 {σ : gS} (hS : va_S A s.heap H locs) (hap : gApart ad A) (hA : ∀ q, s.heap.size ≤ q → A q) : ∀ q, va_A (gWs ad tc σ) H.size q → A q := by
  intro q hq
  rcases gWs_A.mp hq with ⟨i, h1, h2⟩ | h
  · rw [h2]; exact hap.2 i h1
  · exact hA q (Nat.le_trans hS.1 h)
end GCALL
theorem g_stack (ad : Nat → Nat) (st : List Value) (n : Nat) : st.map (gv ad) = (((st.take n).reverse).map (gv ad)).reverse ++ (st.drop n).map (gv ad) := by
  rw [← List.map_reverse, List.reverse_reverse, ← List.map_append, List.take_append_drop]
theorem g_toList (ad : Nat → Nat) (v : Option Value) (r : List Value) : (v.map (gv ad)).toList ++ r.map (gv ad) = (v.toList ++ r).map (gv ad) := by
  cases v <;> simp
section GCALLS
variable {own : String} {cc : ByteArray} {nL : Nat} {scr : Option (Nat × (Nat → Int32))} {pc : Nat}
theorem gs_callS {mid n idx ml : Nat} {y : MethodName} {cb : ByteArray} {rt : Option FieldType} (hd : decode cc pc = .ok (.invokestatic idx, 3)) (hm : gM mid = (y, cb, ml, rt)) (hl : Cond.methodLink own idx y ∈ gW) (hcd : Cond.code y cb ml rt ∈ gW) (hst : Cond.static y ∈ gW) (hin : Cond.initialized y.cls ∈ gW)
    (hp : y.cls ≠ "java/lang/invoke/MethodHandle" ∧ y.cls ≠ "java/lang/invoke/VarHandle" ∧ (parseMethodDescriptor y.desc).map (fun d => d.parameters.length) = some n) (hmx : ml ≤ 21) : gSnd own cc nL scr pc (sCallS mid n) := by
  intro p l e R s m args below meth c cells slots Q ad dC dI tc A d E C hE σ lv st h H locs ls hP hS hlen hlv
  obtain ⟨hx, hb, hml, hown, hts, hnw, hK, hA, hap, hro, hsc, hfr, hlo, hce, hsl⟩ := C
  simp only [sCallS] at h
  cases hq : (Nat.ble n st.length && Nat.ble (gCats (st.drop n)) 8) with
  | false => rw [hq] at h; exact h.elim
  | true =>
    rw [hq] at h
    simp only [Bool.and_eq_true] at hq
    obtain ⟨v, σ', he, hw⟩ := h
    have hn := Nat.le_of_ble_eq_true hq.1
    have hg := Nat.le_of_ble_eq_true hq.2
    have hM := hE mid _ σ v σ' he ad dC dI tc H.size
    rw [hm] at hM
    have hA1 := g_A1 (tc := tc) (σ := σ) hS hap hA
    refine g_after (va_runS (As := ((st.take n).reverse).map (gv ad)) (rest := (st.drop n).map (gv ad)) ⟨hx, hb, hml, hown, hts⟩ hM (va_cwS n hts (gW_wsapp (pre := [.methodLink own idx y, .static y, .initialized y.cls]) ?_ hcd) rfl rfl rfl hp ⟨hfr, ?_⟩) ⟨gPc.blind, g_pre hP hS hK hap hro hnw hA1⟩ rfl ?_ hlv.1 (g_stack ad st n) (lv_room ?_) hd ⟨by omega, by omega⟩) hS hA1 hA1 (fun H1 locs1 hP1 hS1 => ?_)
    · intro w hw
      simp only [List.mem_cons, List.not_mem_nil, or_false] at hw
      rcases hw with rfl | rfl | rfl
      · exact hl
      · exact hst
      · exact hin
    · show 8 + (ml + 11) + 40 * d ≤ R.locals
      omega
    · simp; omega
    · rw [gCats_gv]; exact hg
    · rw [g_toList]
      exact hw H1 locs1 ls hP1 hS1 hlen hlv
theorem gs_callSN {mid n idx ml : Nat} {y : MethodName} {cb : ByteArray} {rt : Option FieldType} {host : String} (hd : decode cc pc = .ok (.invokestatic idx, 3)) (hm : gM mid = (y, cb, ml, rt)) (hl : Cond.methodLinkNest own idx y host ∈ gNest) (hcd : Cond.code y cb ml rt ∈ gW) (hst : Cond.static y ∈ gW) (hin : Cond.initialized y.cls ∈ gW)
    (hp : y.cls ≠ "java/lang/invoke/MethodHandle" ∧ y.cls ≠ "java/lang/invoke/VarHandle" ∧ (parseMethodDescriptor y.desc).map (fun d => d.parameters.length) = some n) (hmx : ml ≤ 21) : gSnd own cc nL scr pc (sCallS mid n) := by
  intro p l e R s m args below meth c cells slots Q ad dC dI tc A d E C hE σ lv st h H locs ls hP hS hlen hlv
  obtain ⟨hx, hb, hml, hown, hts, hnw, hK, hA, hap, hro, hsc, hfr, hlo, hce, hsl⟩ := C
  simp only [sCallS] at h
  cases hq : (Nat.ble n st.length && Nat.ble (gCats (st.drop n)) 8) with
  | false => rw [hq] at h; exact h.elim
  | true =>
    rw [hq] at h
    simp only [Bool.and_eq_true] at hq
    obtain ⟨v, σ', he, hw⟩ := h
    have hn := Nat.le_of_ble_eq_true hq.1
    have hg := Nat.le_of_ble_eq_true hq.2
    have hM := hE mid _ σ v σ' he ad dC dI tc H.size
    rw [hm] at hM
    have hA1 := g_A1 (tc := tc) (σ := σ) hS hap hA
    refine g_after (va_runSN (As := ((st.take n).reverse).map (gv ad)) (rest := (st.drop n).map (gv ad)) ⟨hx, hb, hml, hown, hts⟩ hM ⟨va_cnB n hts (gW_wscode hcd) rfl rfl rfl (hnw _ hl) (hts _ hin) hp ⟨hfr, ?_⟩, hts _ hst, trivial⟩ ⟨gPc.blind, g_pre hP hS hK hap hro hnw hA1⟩ rfl ?_ hlv.1 (g_stack ad st n) (lv_room ?_) hd ⟨by omega, by omega⟩) hS hA1 hA1 (fun H1 locs1 hP1 hS1 => ?_)
    · show 8 + (ml + 11) + 40 * d ≤ R.locals
      omega
    · simp; omega
    · rw [gCats_gv]; exact hg
    · rw [g_toList]
      exact hw H1 locs1 ls hP1 hS1 hlen hlv
theorem gs_callV {mid ci n idx ml N : Nat} {y : MethodName} {cb : ByteArray} {rt : Option FieldType} {T : u_T} (hd : decode cc pc = .ok (.invokevirtual idx, 3)) (hm : gM mid = (y, cb, ml, rt)) (hc : vwCl[ci]? = some (y.cls, T, N)) (hl : Cond.methodLink own idx y ∈ gW) (hcd : Cond.code y cb ml rt ∈ gW) (hst : Cond.instanceMethod y ∈ gW) (hse : Cond.selects y.cls y y ∈ gW) (hin : Cond.initialized y.cls ∈ gW)
    (hp : y.cls ≠ "java/lang/invoke/MethodHandle" ∧ y.cls ≠ "java/lang/invoke/VarHandle" ∧ (parseMethodDescriptor y.desc).map (fun d => d.parameters.length) = some n) (hmx : ml ≤ 21) : gSnd own cc nL scr pc (sCallV mid ci n) := by
  intro p l e R s m args below meth c cells slots Q ad dC dI tc A d E C hE σ lv st h H locs ls hP hS hlen hlv
  obtain ⟨hx, hb, hml, hown, hts, hnw, hK, hA, hap, hro, hsc, hfr, hlo, hce, hsl⟩ := C
  simp only [sCallV] at h
  split at h
  next v0 r hdr =>
    cases hq : (gIsO ci v0 && Nat.ble n st.length && Nat.ble (gCats r) 8) with
    | false => rw [hq] at h; exact h.elim
    | true =>
      rw [hq] at h
      simp only [Bool.and_eq_true] at hq
      obtain ⟨v, σ', he, hw⟩ := h
      obtain ⟨⟨ho, hn0⟩, hg0⟩ := hq
      have hn := Nat.le_of_ble_eq_true hn0
      have hg := Nat.le_of_ble_eq_true hg0
      have hM := hE mid _ σ v σ' he ad dC dI tc H.size
      rw [hm] at hM
      have hA1 := g_A1 (tc := tc) (σ := σ) hS hap hA
      unfold gIsO at ho
      split at ho
      next q =>
        split at ho
        next cj ks hs =>
          have hcc := Nat.eq_of_beq_eq_true ho
          subst hcc
          refine g_after (va_runV (C := y.cls) (b := ad q) (As := ((st.take n).reverse).map (gv ad)) (rest := r.map (gv ad)) ⟨hx, hb, hml, hown, hts⟩ hM (cwV n hts (gW_wsapp (pre := [.methodLink own idx y, .instanceMethod y, .selects y.cls y y, .initialized y.cls]) ?_ hcd) rfl rfl rfl ⟨rfl, hp⟩ ⟨hfr, ?_⟩) ⟨gPc.blind, va_recv hK hP hc (gShape_obj hs), g_pre (as := .ref q :: (st.take n).reverse) hP hS hK hap hro hnw hA1⟩ rfl ?_ hlv.1 ?_ (lv_room ?_) hd ⟨by omega, by omega⟩) hS hA1 hA1 (fun H1 locs1 hP1 hS1 => ?_)
          · intro w hw
            simp only [List.mem_cons, List.not_mem_nil, or_false] at hw
            rcases hw with rfl | rfl | rfl | rfl
            · exact hl
            · exact hst
            · exact hse
            · exact hin
          · show 8 + (ml + 11) + 40 * d ≤ R.locals
            omega
          · simp; omega
          · show st.map (gv ad) = _
            rw [g_stack ad st n, hdr]; rfl
          · rw [gCats_gv]; exact hg
          · rw [g_toList]
            exact hw H1 locs1 ls hP1 hS1 hlen hlv
        next => cases ho
      next => cases ho
  next => exact h.elim
end GCALLS
-- a run of the pure machine is one of the machine
section GRUN
variable {p : Program} {l : Launch} {e : Env} {R : Room} {s : State} {m : MethodId} {args : Array Value} {below : List Frame} {meth : Method} {c : Code} {cells slots : Nat} {Q : State → Prop} {ad : Nat → Nat} {dC : Nat → ClassId} {dI : Nat → Nat → Nat} {tc : Nat → ClassId} {A : Nat → Prop} {own : String} {cc : ByteArray} {nL d : Nat} {scr : Option (Nat × (Nat → Int32))} {E : gE} {P : gProg} {Fin : Option Value → gS → Prop}
theorem gRun_sound (C : gCtx own cc nL scr p R s m args c cells slots ad dC dI tc A d) (hE : gCallOK l d E) (hP : ∀ pc sem, gFind P pc = some sem → gSnd own cc nL scr pc sem) (hF : ∀ v τ, Fin v τ → gFin cc p l e R s m args below meth c cells slots Q ad dC dI tc A v τ) : ∀ (n : Nat) (σ : gS) (f : gF), gRn P E Fin n σ f → gWP p l e R s m args below meth c cells slots Q ad dC dI tc A nL σ f := by
  intro n
  induction n with
  | zero => intro σ f h; exact h.elim
  | succ n ih =>
    intro σ f h
    obtain ⟨pc, lv, st⟩ := f
    rcases h with ⟨lv', h1, h2⟩ | h
    · have hw := ih _ _ h2
      intro H locs ls hP1 hS hlen hlv
      obtain ⟨hl1, hl2⟩ := gLe_at h1
      refine hw H locs ls hP1 hS (hl1.trans hlen) ⟨hlv.1, hlv.2.1, fun q hq => hlv.2.2 q ?_⟩
      obtain ⟨j, v, a1, a2⟩ := (gAs_mem ad lv' 0 q).mp hq
      exact (gAs_mem ad lv 0 q).mpr ⟨j, v, hl2 j v a1, a2⟩
    · simp only [gStep] at h
      split at h
      next sem hs => exact hP pc sem hs p l e R s m args below meth c cells slots Q ad dC dI tc A d E C hE σ lv st (gNext_mono ih hF h)
      next => exact h.elim
end GRUN
def gRetOk : Option FieldType → Option Value → Prop
  | none, none => True
  | some .int, some (.int _) => True
  | some .boolean, some (.int x) => x = 0 ∨ x = 1
  | some .long, some (.long _) => True
  | some (.object _), some (.ref _) => True
  | _, _ => False
def gEnt : List Value → gL
  | [] => []
  | v :: l => if v.category = 2 then some v :: none :: gEnt l else some v :: gEnt l
def gEntry (nL : Nat) (as : List Value) : gL := gEnt as ++ List.replicate (nL - (gEnt as).length) none
theorem gEnt_len (ad : Nat → Nat) : ∀ as : List Value, (lg_sl (as.map (gv ad))).length = (gEnt as).length
  | [] => rfl
  | v :: l => by
    have ih := gEnt_len ad l
    simp only [lg_sl] at ih
    simp only [List.map_cons, lg_sl, List.flatMap_cons, List.length_append, gv_cat, gEnt, ih]
    split <;> simp <;> omega
theorem gAs_none (ad : Nat → Nat) (n : Nat) : ∀ k : Nat, gAs ad k (List.replicate n none) = [] := by
  induction n with
  | zero => intro k; rfl
  | succ n ih => intro k; exact ih (k + 1)
theorem gAs_ent (ad : Nat → Nat) (n : Nat) : ∀ (as : List Value) (k : Nat), gAs ad k (gEnt as ++ List.replicate n none) = lv_args k (as.map (gv ad))
  | [], k => gAs_none ad n k
  | v :: l, k => by
    simp only [gEnt, List.map_cons, lv_args, gv_cat]
    split
    next => simp only [List.cons_append, gAs]; rw [gAs_ent ad n l (k + 2)]
    next => simp only [List.cons_append, gAs]; rw [gAs_ent ad n l (k + 1)]
/-- a call of method mid, at most d deep -/
def gEV (PT : Nat → gProg) : Nat → gE
  | 0 => fun _ _ _ _ _ => False
  | d + 1 => fun mid as σ v σ' => mid < gMs.length ∧ gRetOk (gM mid).2.2.2 v ∧ (gEnt as).length ≤ (gM mid).2.2.1 ∧ gR (PT mid) (gEV PT d) (fun w τ => w = v ∧ τ = σ') σ (0, gEntry (gM mid).2.2.1 as, [])
def gProgOK (PT : Nat → gProg) : Prop := ∀ mid, mid < gMs.length → ∀ pc sem, gFind (PT mid) pc = some sem → gSnd (gM mid).1.cls (gM mid).2.1 (gM mid).2.2.1 none pc sem
theorem gPlain : ∀ x ∈ gMs, plainName x.1.cls = true := by decide +kernel
theorem gPlain_at {mid : Nat} (h : mid < gMs.length) : plainName (gM mid).1.cls = true := by
  apply gPlain
  unfold gM
  rw [gAt_eq, List.getElem?_eq_getElem h]
  exact List.getElem_mem h
theorem gEV_sound {PT : Nat → gProg} (hPT : gProgOK PT) (l : Launch) : ∀ d, gCallOK l d (gEV PT d)
  | 0 => fun _ _ _ _ _ h => h.elim
  | d + 1 => by
    have hE := gEV_sound hPT l d
    intro mid as σ v σ' h ad dC dI tc sz
    obtain ⟨hmid, hrt, hen, n, hrun⟩ := h
    have hpl := gPlain_at hmid
    have hprog := hPT mid hmid
    revert hrt hen hrun hpl hprog
    obtain ⟨y, cb, ml, rt⟩ := gM mid
    intro hrt hen hrun hpl hprog
    refine Met.ofW (cc := cb) (maxL := ml) (ret := rt) hpl rfl ?_
    intro p e s m args below meth c s₁ B hml hv
    obtain ⟨rfl, hsz, hP, hK, hD0, hro, hnw⟩ := hv
    have hx := B.exec
    have hb := B.bytes
    have hr := B.returns
    have hts := atoms_spec (ws := Cond.code y cb ml rt :: gW) B.pre
    have hown : s.vm.findClass y.cls = some m.cls := findClass_of_methodNamed B.named
    have hlocks := B.notSynchronized
    subst hsz
    have hap : gApart ad (va_A (gWs ad tc σ) s.heap.size) := gApart.of (hD0.self (sz := s.heap.size))
    generalize hAe : va_A (gWs ad tc σ) s.heap.size = A at hap hro ⊢
    have hA : ∀ q : Nat, s.heap.size ≤ q → A q := fun q h => by rw [← hAe]; exact Or.inr h
    have hS : va_S A s.heap s.heap [] := va_S.rf
    have C : gCtx y.cls cb ml none p ({ frames := d + 1, cells := 0, slots := 0, locals := 40 * (d + 1) } : Room) s m (as.map (gv ad)).toArray c 0 0 ad dC dI tc A d :=
      ⟨hx, hb, hml, hown, fun w hw => hts w (List.mem_cons_of_mem _ hw), hnw, hK, hA, hap, hro, trivial, Nat.le_refl _, Nat.le_refl _, Nat.le_refl _, Nat.le_refl _⟩
    have key := gRun_sound (Q := MQ below (gQc ad dC dI tc σ' A v) (as.map (gv ad)).toArray s 0 0 A) (e := e) (below := below) (meth := meth) C hE hprog (Fin := fun w τ => w = v ∧ τ = σ') ?_ n σ _ hrun
    · have hl := lv_entry (as.map (gv ad)) (n := ml) (by rw [gEnt_len]; exact hen)
      rw [lg_entry_eq]
      refine key s.heap [] _ hP hS ?_ ?_
      · have hen' : (gEnt as).length ≤ ml := hen
        simp [gEntry]; omega
      · show lv_has _ ml (gAs ad 0 (gEnt as ++ List.replicate (ml - (gEnt as).length) none))
        rw [gAs_ent]
        exact hl
    · rintro w τ ⟨rfl, rfl⟩ pc H locs ls hP1 hS1 hd
      match rt, w, hrt with
      | none, none, _ => exact W.vret hx hb hr (fun t ht hW => ⟨rfl, by rw [ht]; exact hP1, hS1.F ht⟩) hS1.2.2 hd
      | some .int, some (.int z), _ => exact W.iret (v := z) hx hb hr (fun t ht hW => ⟨rfl, by rw [ht]; exact hP1, hS1.F ht⟩) hS1.2.2 hd
      | some .boolean, some (.int z), hz => exact W.zret (v := z) (ty := .boolean) hx hb hr (by rcases hz with rfl | rfl <;> rfl) (fun t ht hW => ⟨rfl, by rw [ht]; exact hP1, hS1.F ht⟩) hS1.2.2 hd
      | some .long, some (.long z), _ => exact W.lret (v := z) hx hb hr (fun t ht hW => ⟨rfl, by rw [ht]; exact hP1, hS1.F ht⟩) hS1.2.2 hd
      | some (.object nm), some (.ref z), _ => exact W.aret (v := .ref (ad z)) (rt := .object nm) hx hb hr (Or.inl ⟨nm, rfl⟩) (Or.inr ⟨_, rfl⟩) (fun t ht hW => ⟨rfl, by rw [ht]; exact hP1, hS1.F ht⟩) hS1.2.2 hd
end
