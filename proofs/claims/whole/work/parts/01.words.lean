-- ===== PART A: goes FIRST, ahead of the names: the tables' words, and 'selects' of the private methods out of them =====
/-- a private method of a class that the tables say can be made, by its rows of tables_1 -/
def lw_okq (q : MethodName × Nat) : Prop := (q.1.cls ≠ "java/lang/invoke/MethodHandle" ∧ q.1.cls ≠ "java/lang/invoke/VarHandle") ∧ Cond.instantiable q.1.cls q.2 ∈ tables_1 ∧ Cond.privateMethod q.1 ∈ tables_1 ∧ Cond.instanceMethod q.1 ∈ tables_1
theorem lw_p0 : lw_okq (⟨"VillagePay", "hasEnded", "(I)Z"⟩, 10) := ⟨⟨by decide +kernel, by decide +kernel⟩, List.mem_of_getElem? (i := 22) (by decide +kernel), List.mem_of_getElem? (i := 507) (by decide +kernel), List.mem_of_getElem? (i := 508) (by decide +kernel)⟩
theorem lw_p1 : lw_okq (⟨"VillagePay", "isVillage", "(I)Z"⟩, 10) := ⟨⟨by decide +kernel, by decide +kernel⟩, List.mem_of_getElem? (i := 22) (by decide +kernel), List.mem_of_getElem? (i := 515) (by decide +kernel), List.mem_of_getElem? (i := 516) (by decide +kernel)⟩
theorem lw_p2 : lw_okq (⟨"VillagePay$Land", "endSeason", "(I)V"⟩, 9) := ⟨⟨by decide +kernel, by decide +kernel⟩, List.mem_of_getElem? (i := 36) (by decide +kernel), List.mem_of_getElem? (i := 527) (by decide +kernel), List.mem_of_getElem? (i := 528) (by decide +kernel)⟩
theorem lw_p3 : lw_okq (⟨"VillagePay$Book", "latestOrder", "(IIII)I"⟩, 11) := ⟨⟨by decide +kernel, by decide +kernel⟩, List.mem_of_getElem? (i := 92) (by decide +kernel), List.mem_of_getElem? (i := 559) (by decide +kernel), List.mem_of_getElem? (i := 560) (by decide +kernel)⟩
theorem lw_p4 : lw_okq (⟨"VillagePay", "isOver", "(I)Z"⟩, 10) := ⟨⟨by decide +kernel, by decide +kernel⟩, List.mem_of_getElem? (i := 22) (by decide +kernel), List.mem_of_getElem? (i := 567) (by decide +kernel), List.mem_of_getElem? (i := 568) (by decide +kernel)⟩
theorem lw_p5 : lw_okq (⟨"VillagePay$Scale", "lookAt", "(III)V"⟩, 11) := ⟨⟨by decide +kernel, by decide +kernel⟩, List.mem_of_getElem? (i := 359) (by decide +kernel), List.mem_of_getElem? (i := 579) (by decide +kernel), List.mem_of_getElem? (i := 580) (by decide +kernel)⟩
theorem lw_p6 : lw_okq (⟨"VillagePay$News", "lastWord", "(IIII)I"⟩, 7) := ⟨⟨by decide +kernel, by decide +kernel⟩, List.mem_of_getElem? (i := 233) (by decide +kernel), List.mem_of_getElem? (i := 592) (by decide +kernel), List.mem_of_getElem? (i := 593) (by decide +kernel)⟩
theorem lw_p7 : lw_okq (⟨"VillagePay$Scale", "allHold", "(I)Z"⟩, 11) := ⟨⟨by decide +kernel, by decide +kernel⟩, List.mem_of_getElem? (i := 359) (by decide +kernel), List.mem_of_getElem? (i := 596) (by decide +kernel), List.mem_of_getElem? (i := 597) (by decide +kernel)⟩
theorem lw_p8 : lw_okq (⟨"VillagePay$Scale", "measure", "(I)I"⟩, 11) := ⟨⟨by decide +kernel, by decide +kernel⟩, List.mem_of_getElem? (i := 359) (by decide +kernel), List.mem_of_getElem? (i := 600) (by decide +kernel), List.mem_of_getElem? (i := 601) (by decide +kernel)⟩
theorem lw_p9 : lw_okq (⟨"VillagePay$Scale", "obey", "(II)V"⟩, 11) := ⟨⟨by decide +kernel, by decide +kernel⟩, List.mem_of_getElem? (i := 359) (by decide +kernel), List.mem_of_getElem? (i := 607) (by decide +kernel), List.mem_of_getElem? (i := 608) (by decide +kernel)⟩
theorem lw_p10 : lw_okq (⟨"VillagePay", "isOfficer", "(I)Z"⟩, 10) := ⟨⟨by decide +kernel, by decide +kernel⟩, List.mem_of_getElem? (i := 22) (by decide +kernel), List.mem_of_getElem? (i := 623) (by decide +kernel), List.mem_of_getElem? (i := 624) (by decide +kernel)⟩
theorem lw_p11 : lw_okq (⟨"VillagePay", "isKnownDay", "(I)Z"⟩, 10) := ⟨⟨by decide +kernel, by decide +kernel⟩, List.mem_of_getElem? (i := 22) (by decide +kernel), List.mem_of_getElem? (i := 650) (by decide +kernel), List.mem_of_getElem? (i := 651) (by decide +kernel)⟩
theorem lw_p12 : lw_okq (⟨"VillagePay$Accounts", "markTurns", "(II)V"⟩, 3) := ⟨⟨by decide +kernel, by decide +kernel⟩, List.mem_of_getElem? (i := 404) (by decide +kernel), List.mem_of_getElem? (i := 671) (by decide +kernel), List.mem_of_getElem? (i := 672) (by decide +kernel)⟩
theorem lw_p13 : lw_okq (⟨"VillagePay$Accounts", "markTurn", "(I)V"⟩, 3) := ⟨⟨by decide +kernel, by decide +kernel⟩, List.mem_of_getElem? (i := 404) (by decide +kernel), List.mem_of_getElem? (i := 675) (by decide +kernel), List.mem_of_getElem? (i := 676) (by decide +kernel)⟩
theorem lw_p14 : lw_okq (⟨"VillagePay$Accounts", "daysHeld", "(IIII)I"⟩, 3) := ⟨⟨by decide +kernel, by decide +kernel⟩, List.mem_of_getElem? (i := 404) (by decide +kernel), List.mem_of_getElem? (i := 679) (by decide +kernel), List.mem_of_getElem? (i := 680) (by decide +kernel)⟩
theorem lw_p15 : lw_okq (⟨"VillagePay$Reader", "readToken", "()V"⟩, 7) := ⟨⟨by decide +kernel, by decide +kernel⟩, List.mem_of_getElem? (i := 331) (by decide +kernel), List.mem_of_getElem? (i := 712) (by decide +kernel), List.mem_of_getElem? (i := 713) (by decide +kernel)⟩
def lw_privs_1 : List (MethodName × Nat) := [(⟨"VillagePay", "hasEnded", "(I)Z"⟩, 10), (⟨"VillagePay", "isVillage", "(I)Z"⟩, 10), (⟨"VillagePay$Land", "endSeason", "(I)V"⟩, 9), (⟨"VillagePay$Book", "latestOrder", "(IIII)I"⟩, 11), (⟨"VillagePay", "isOver", "(I)Z"⟩, 10), (⟨"VillagePay$Scale", "lookAt", "(III)V"⟩, 11), (⟨"VillagePay$News", "lastWord", "(IIII)I"⟩, 7), (⟨"VillagePay$Scale", "allHold", "(I)Z"⟩, 11), (⟨"VillagePay$Scale", "measure", "(I)I"⟩, 11), (⟨"VillagePay$Scale", "obey", "(II)V"⟩, 11), (⟨"VillagePay", "isOfficer", "(I)Z"⟩, 10), (⟨"VillagePay", "isKnownDay", "(I)Z"⟩, 10), (⟨"VillagePay$Accounts", "markTurns", "(II)V"⟩, 3), (⟨"VillagePay$Accounts", "markTurn", "(I)V"⟩, 3), (⟨"VillagePay$Accounts", "daysHeld", "(IIII)I"⟩, 3), (⟨"VillagePay$Reader", "readToken", "()V"⟩, 7)]
theorem lw_r1 : ∀ q ∈ lw_privs_1, lw_okq q := List.forall_mem_cons.mpr ⟨lw_p0, List.forall_mem_cons.mpr ⟨lw_p1, List.forall_mem_cons.mpr ⟨lw_p2, List.forall_mem_cons.mpr ⟨lw_p3, List.forall_mem_cons.mpr ⟨lw_p4, List.forall_mem_cons.mpr ⟨lw_p5, List.forall_mem_cons.mpr ⟨lw_p6, List.forall_mem_cons.mpr ⟨lw_p7, List.forall_mem_cons.mpr ⟨lw_p8, List.forall_mem_cons.mpr ⟨lw_p9, List.forall_mem_cons.mpr ⟨lw_p10, List.forall_mem_cons.mpr ⟨lw_p11, List.forall_mem_cons.mpr ⟨lw_p12, List.forall_mem_cons.mpr ⟨lw_p13, List.forall_mem_cons.mpr ⟨lw_p14, List.forall_mem_cons.mpr ⟨lw_p15, fun _ h => absurd h List.not_mem_nil⟩⟩⟩⟩⟩⟩⟩⟩⟩⟩⟩⟩⟩⟩⟩⟩
theorem lw_p16 : lw_okq (⟨"VillagePay$Reader", "readWord", "()V"⟩, 7) := ⟨⟨by decide +kernel, by decide +kernel⟩, List.mem_of_getElem? (i := 331) (by decide +kernel), List.mem_of_getElem? (i := 716) (by decide +kernel), List.mem_of_getElem? (i := 717) (by decide +kernel)⟩
theorem lw_p17 : lw_okq (⟨"VillagePay$Reader", "readNumber", "()V"⟩, 7) := ⟨⟨by decide +kernel, by decide +kernel⟩, List.mem_of_getElem? (i := 331) (by decide +kernel), List.mem_of_getElem? (i := 769) (by decide +kernel), List.mem_of_getElem? (i := 770) (by decide +kernel)⟩
theorem lw_p18 : lw_okq (⟨"VillagePay$Reader", "readLine", "(I)Z"⟩, 7) := ⟨⟨by decide +kernel, by decide +kernel⟩, List.mem_of_getElem? (i := 331) (by decide +kernel), List.mem_of_getElem? (i := 773) (by decide +kernel), List.mem_of_getElem? (i := 774) (by decide +kernel)⟩
theorem lw_p19 : lw_okq (⟨"VillagePay$Reader", "remark", "(I)V"⟩, 7) := ⟨⟨by decide +kernel, by decide +kernel⟩, List.mem_of_getElem? (i := 331) (by decide +kernel), List.mem_of_getElem? (i := 777) (by decide +kernel), List.mem_of_getElem? (i := 778) (by decide +kernel)⟩
theorem lw_p20 : lw_okq (⟨"VillagePay$Reader", "readTests", "(IZ)Z"⟩, 7) := ⟨⟨by decide +kernel, by decide +kernel⟩, List.mem_of_getElem? (i := 331) (by decide +kernel), List.mem_of_getElem? (i := 781) (by decide +kernel), List.mem_of_getElem? (i := 782) (by decide +kernel)⟩
theorem lw_p21 : lw_okq (⟨"VillagePay$Reader", "readTest", "(IZ)Z"⟩, 7) := ⟨⟨by decide +kernel, by decide +kernel⟩, List.mem_of_getElem? (i := 331) (by decide +kernel), List.mem_of_getElem? (i := 785) (by decide +kernel), List.mem_of_getElem? (i := 786) (by decide +kernel)⟩
theorem lw_p22 : lw_okq (⟨"VillagePay$Reader", "pass", "(I)Z"⟩, 7) := ⟨⟨by decide +kernel, by decide +kernel⟩, List.mem_of_getElem? (i := 331) (by decide +kernel), List.mem_of_getElem? (i := 790) (by decide +kernel), List.mem_of_getElem? (i := 791) (by decide +kernel)⟩
theorem lw_p23 : lw_okq (⟨"VillagePay$Reader", "readDeed", "(IZ)Z"⟩, 7) := ⟨⟨by decide +kernel, by decide +kernel⟩, List.mem_of_getElem? (i := 331) (by decide +kernel), List.mem_of_getElem? (i := 794) (by decide +kernel), List.mem_of_getElem? (i := 795) (by decide +kernel)⟩
theorem lw_p24 : lw_okq (⟨"VillagePay$Reader", "isFitNumber", "(I)Z"⟩, 7) := ⟨⟨by decide +kernel, by decide +kernel⟩, List.mem_of_getElem? (i := 331) (by decide +kernel), List.mem_of_getElem? (i := 798) (by decide +kernel), List.mem_of_getElem? (i := 799) (by decide +kernel)⟩
theorem lw_p25 : lw_okq (⟨"VillagePay", "servesToday", "(I)Z"⟩, 10) := ⟨⟨by decide +kernel, by decide +kernel⟩, List.mem_of_getElem? (i := 22) (by decide +kernel), List.mem_of_getElem? (i := 839) (by decide +kernel), List.mem_of_getElem? (i := 840) (by decide +kernel)⟩
theorem lw_p26 : lw_okq (⟨"VillagePay$Dealer", "openTo", "(I)I"⟩, 10) := ⟨⟨by decide +kernel, by decide +kernel⟩, List.mem_of_getElem? (i := 420) (by decide +kernel), List.mem_of_getElem? (i := 849) (by decide +kernel), List.mem_of_getElem? (i := 850) (by decide +kernel)⟩
theorem lw_p27 : lw_okq (⟨"VillagePay", "canBeDealtTo", "(I)Z"⟩, 10) := ⟨⟨by decide +kernel, by decide +kernel⟩, List.mem_of_getElem? (i := 22) (by decide +kernel), List.mem_of_getElem? (i := 879) (by decide +kernel), List.mem_of_getElem? (i := 880) (by decide +kernel)⟩
theorem lw_p28 : lw_okq (⟨"VillagePay$Dealer", "gatherPeople", "(I)V"⟩, 10) := ⟨⟨by decide +kernel, by decide +kernel⟩, List.mem_of_getElem? (i := 420) (by decide +kernel), List.mem_of_getElem? (i := 887) (by decide +kernel), List.mem_of_getElem? (i := 888) (by decide +kernel)⟩
theorem lw_p29 : lw_okq (⟨"VillagePay$Dealer", "gatherLots", "()V"⟩, 10) := ⟨⟨by decide +kernel, by decide +kernel⟩, List.mem_of_getElem? (i := 420) (by decide +kernel), List.mem_of_getElem? (i := 891) (by decide +kernel), List.mem_of_getElem? (i := 892) (by decide +kernel)⟩
theorem lw_p30 : lw_okq (⟨"VillagePay$Dealer", "tryAllWays", "()V"⟩, 10) := ⟨⟨by decide +kernel, by decide +kernel⟩, List.mem_of_getElem? (i := 420) (by decide +kernel), List.mem_of_getElem? (i := 896) (by decide +kernel), List.mem_of_getElem? (i := 897) (by decide +kernel)⟩
theorem lw_p31 : lw_okq (⟨"VillagePay$Dealer", "keepIfLess", "()V"⟩, 10) := ⟨⟨by decide +kernel, by decide +kernel⟩, List.mem_of_getElem? (i := 420) (by decide +kernel), List.mem_of_getElem? (i := 900) (by decide +kernel), List.mem_of_getElem? (i := 901) (by decide +kernel)⟩
def lw_privs_2 : List (MethodName × Nat) := [(⟨"VillagePay$Reader", "readWord", "()V"⟩, 7), (⟨"VillagePay$Reader", "readNumber", "()V"⟩, 7), (⟨"VillagePay$Reader", "readLine", "(I)Z"⟩, 7), (⟨"VillagePay$Reader", "remark", "(I)V"⟩, 7), (⟨"VillagePay$Reader", "readTests", "(IZ)Z"⟩, 7), (⟨"VillagePay$Reader", "readTest", "(IZ)Z"⟩, 7), (⟨"VillagePay$Reader", "pass", "(I)Z"⟩, 7), (⟨"VillagePay$Reader", "readDeed", "(IZ)Z"⟩, 7), (⟨"VillagePay$Reader", "isFitNumber", "(I)Z"⟩, 7), (⟨"VillagePay", "servesToday", "(I)Z"⟩, 10), (⟨"VillagePay$Dealer", "openTo", "(I)I"⟩, 10), (⟨"VillagePay", "canBeDealtTo", "(I)Z"⟩, 10), (⟨"VillagePay$Dealer", "gatherPeople", "(I)V"⟩, 10), (⟨"VillagePay$Dealer", "gatherLots", "()V"⟩, 10), (⟨"VillagePay$Dealer", "tryAllWays", "()V"⟩, 10), (⟨"VillagePay$Dealer", "keepIfLess", "()V"⟩, 10)]
theorem lw_r2 : ∀ q ∈ lw_privs_2, lw_okq q := List.forall_mem_cons.mpr ⟨lw_p16, List.forall_mem_cons.mpr ⟨lw_p17, List.forall_mem_cons.mpr ⟨lw_p18, List.forall_mem_cons.mpr ⟨lw_p19, List.forall_mem_cons.mpr ⟨lw_p20, List.forall_mem_cons.mpr ⟨lw_p21, List.forall_mem_cons.mpr ⟨lw_p22, List.forall_mem_cons.mpr ⟨lw_p23, List.forall_mem_cons.mpr ⟨lw_p24, List.forall_mem_cons.mpr ⟨lw_p25, List.forall_mem_cons.mpr ⟨lw_p26, List.forall_mem_cons.mpr ⟨lw_p27, List.forall_mem_cons.mpr ⟨lw_p28, List.forall_mem_cons.mpr ⟨lw_p29, List.forall_mem_cons.mpr ⟨lw_p30, List.forall_mem_cons.mpr ⟨lw_p31, fun _ h => absurd h List.not_mem_nil⟩⟩⟩⟩⟩⟩⟩⟩⟩⟩⟩⟩⟩⟩⟩⟩
theorem lw_p32 : lw_okq (⟨"VillagePay$Dealer", "goToNextWay", "()Z"⟩, 10) := ⟨⟨by decide +kernel, by decide +kernel⟩, List.mem_of_getElem? (i := 420) (by decide +kernel), List.mem_of_getElem? (i := 907) (by decide +kernel), List.mem_of_getElem? (i := 908) (by decide +kernel)⟩
theorem lw_p33 : lw_okq (⟨"VillagePay$Dealer", "dealByRule", "()V"⟩, 10) := ⟨⟨by decide +kernel, by decide +kernel⟩, List.mem_of_getElem? (i := 420) (by decide +kernel), List.mem_of_getElem? (i := 911) (by decide +kernel), List.mem_of_getElem? (i := 912) (by decide +kernel)⟩
theorem lw_p34 : lw_okq (⟨"VillagePay$Dealer", "greatestLotLeft", "()I"⟩, 10) := ⟨⟨by decide +kernel, by decide +kernel⟩, List.mem_of_getElem? (i := 420) (by decide +kernel), List.mem_of_getElem? (i := 916) (by decide +kernel), List.mem_of_getElem? (i := 917) (by decide +kernel)⟩
theorem lw_p35 : lw_okq (⟨"VillagePay$Moves", "firstLeft", "(Z)I"⟩, 8) := ⟨⟨by decide +kernel, by decide +kernel⟩, List.mem_of_getElem? (i := 262) (by decide +kernel), List.mem_of_getElem? (i := 953) (by decide +kernel), List.mem_of_getElem? (i := 954) (by decide +kernel)⟩
theorem lw_p36 : lw_okq (⟨"VillagePay$Moves", "doMove", "(II)V"⟩, 8) := ⟨⟨by decide +kernel, by decide +kernel⟩, List.mem_of_getElem? (i := 262) (by decide +kernel), List.mem_of_getElem? (i := 957) (by decide +kernel), List.mem_of_getElem? (i := 958) (by decide +kernel)⟩
theorem lw_p37 : lw_okq (⟨"VillagePay$Moves", "takeAll", "(II)V"⟩, 8) := ⟨⟨by decide +kernel, by decide +kernel⟩, List.mem_of_getElem? (i := 262) (by decide +kernel), List.mem_of_getElem? (i := 961) (by decide +kernel), List.mem_of_getElem? (i := 962) (by decide +kernel)⟩
theorem lw_p38 : lw_okq (⟨"VillagePay", "countServing", "()I"⟩, 10) := ⟨⟨by decide +kernel, by decide +kernel⟩, List.mem_of_getElem? (i := 22) (by decide +kernel), List.mem_of_getElem? (i := 1019) (by decide +kernel), List.mem_of_getElem? (i := 1020) (by decide +kernel)⟩
theorem lw_p39 : lw_okq (⟨"VillagePay", "countOfCrown", "()I"⟩, 10) := ⟨⟨by decide +kernel, by decide +kernel⟩, List.mem_of_getElem? (i := 22) (by decide +kernel), List.mem_of_getElem? (i := 1023) (by decide +kernel), List.mem_of_getElem? (i := 1024) (by decide +kernel)⟩
theorem lw_p40 : lw_okq (⟨"VillagePay", "countOver", "()I"⟩, 10) := ⟨⟨by decide +kernel, by decide +kernel⟩, List.mem_of_getElem? (i := 22) (by decide +kernel), List.mem_of_getElem? (i := 1027) (by decide +kernel), List.mem_of_getElem? (i := 1028) (by decide +kernel)⟩
theorem lw_p41 : lw_okq (⟨"VillagePayModel", "ended", "()I"⟩, 26) := ⟨⟨by decide +kernel, by decide +kernel⟩, List.mem_of_getElem? (i := 1073) (by decide +kernel), List.mem_of_getElem? (i := 1169) (by decide +kernel), List.mem_of_getElem? (i := 1170) (by decide +kernel)⟩
theorem lw_p42 : lw_okq (⟨"VillagePayModel", "isOf", "(II)Z"⟩, 26) := ⟨⟨by decide +kernel, by decide +kernel⟩, List.mem_of_getElem? (i := 1073) (by decide +kernel), List.mem_of_getElem? (i := 1177) (by decide +kernel), List.mem_of_getElem? (i := 1178) (by decide +kernel)⟩
theorem lw_p43 : lw_okq (⟨"VillagePayModel", "ends", "(I)V"⟩, 26) := ⟨⟨by decide +kernel, by decide +kernel⟩, List.mem_of_getElem? (i := 1073) (by decide +kernel), List.mem_of_getElem? (i := 1185) (by decide +kernel), List.mem_of_getElem? (i := 1186) (by decide +kernel)⟩
theorem lw_p44 : lw_okq (⟨"VillagePayModel", "gives", "(IIII)I"⟩, 26) := ⟨⟨by decide +kernel, by decide +kernel⟩, List.mem_of_getElem? (i := 1073) (by decide +kernel), List.mem_of_getElem? (i := 1189) (by decide +kernel), List.mem_of_getElem? (i := 1190) (by decide +kernel)⟩
theorem lw_p45 : lw_okq (⟨"VillagePayModel", "comeOf", "(II)I"⟩, 26) := ⟨⟨by decide +kernel, by decide +kernel⟩, List.mem_of_getElem? (i := 1073) (by decide +kernel), List.mem_of_getElem? (i := 1200) (by decide +kernel), List.mem_of_getElem? (i := 1201) (by decide +kernel)⟩
theorem lw_p46 : lw_okq (⟨"VillagePayModel", "its", "(II)I"⟩, 26) := ⟨⟨by decide +kernel, by decide +kernel⟩, List.mem_of_getElem? (i := 1073) (by decide +kernel), List.mem_of_getElem? (i := 1208) (by decide +kernel), List.mem_of_getElem? (i := 1209) (by decide +kernel)⟩
theorem lw_p47 : lw_okq (⟨"VillagePayModel", "held", "(III)I"⟩, 26) := ⟨⟨by decide +kernel, by decide +kernel⟩, List.mem_of_getElem? (i := 1073) (by decide +kernel), List.mem_of_getElem? (i := 1212) (by decide +kernel), List.mem_of_getElem? (i := 1213) (by decide +kernel)⟩
def lw_privs_3 : List (MethodName × Nat) := [(⟨"VillagePay$Dealer", "goToNextWay", "()Z"⟩, 10), (⟨"VillagePay$Dealer", "dealByRule", "()V"⟩, 10), (⟨"VillagePay$Dealer", "greatestLotLeft", "()I"⟩, 10), (⟨"VillagePay$Moves", "firstLeft", "(Z)I"⟩, 8), (⟨"VillagePay$Moves", "doMove", "(II)V"⟩, 8), (⟨"VillagePay$Moves", "takeAll", "(II)V"⟩, 8), (⟨"VillagePay", "countServing", "()I"⟩, 10), (⟨"VillagePay", "countOfCrown", "()I"⟩, 10), (⟨"VillagePay", "countOver", "()I"⟩, 10), (⟨"VillagePayModel", "ended", "()I"⟩, 26), (⟨"VillagePayModel", "isOf", "(II)Z"⟩, 26), (⟨"VillagePayModel", "ends", "(I)V"⟩, 26), (⟨"VillagePayModel", "gives", "(IIII)I"⟩, 26), (⟨"VillagePayModel", "comeOf", "(II)I"⟩, 26), (⟨"VillagePayModel", "its", "(II)I"⟩, 26), (⟨"VillagePayModel", "held", "(III)I"⟩, 26)]
theorem lw_r3 : ∀ q ∈ lw_privs_3, lw_okq q := List.forall_mem_cons.mpr ⟨lw_p32, List.forall_mem_cons.mpr ⟨lw_p33, List.forall_mem_cons.mpr ⟨lw_p34, List.forall_mem_cons.mpr ⟨lw_p35, List.forall_mem_cons.mpr ⟨lw_p36, List.forall_mem_cons.mpr ⟨lw_p37, List.forall_mem_cons.mpr ⟨lw_p38, List.forall_mem_cons.mpr ⟨lw_p39, List.forall_mem_cons.mpr ⟨lw_p40, List.forall_mem_cons.mpr ⟨lw_p41, List.forall_mem_cons.mpr ⟨lw_p42, List.forall_mem_cons.mpr ⟨lw_p43, List.forall_mem_cons.mpr ⟨lw_p44, List.forall_mem_cons.mpr ⟨lw_p45, List.forall_mem_cons.mpr ⟨lw_p46, List.forall_mem_cons.mpr ⟨lw_p47, fun _ h => absurd h List.not_mem_nil⟩⟩⟩⟩⟩⟩⟩⟩⟩⟩⟩⟩⟩⟩⟩⟩
theorem lw_p48 : lw_okq (⟨"VillagePayModel", "latest", "(IIII)I"⟩, 26) := ⟨⟨by decide +kernel, by decide +kernel⟩, List.mem_of_getElem? (i := 1073) (by decide +kernel), List.mem_of_getElem? (i := 1216) (by decide +kernel), List.mem_of_getElem? (i := 1217) (by decide +kernel)⟩
theorem lw_p49 : lw_okq (⟨"VillagePayModel", "written", "(II)I"⟩, 26) := ⟨⟨by decide +kernel, by decide +kernel⟩, List.mem_of_getElem? (i := 1073) (by decide +kernel), List.mem_of_getElem? (i := 1220) (by decide +kernel), List.mem_of_getElem? (i := 1221) (by decide +kernel)⟩
theorem lw_p50 : lw_okq (⟨"VillagePayModel", "serves", "(II)Z"⟩, 26) := ⟨⟨by decide +kernel, by decide +kernel⟩, List.mem_of_getElem? (i := 1073) (by decide +kernel), List.mem_of_getElem? (i := 1224) (by decide +kernel), List.mem_of_getElem? (i := 1225) (by decide +kernel)⟩
theorem lw_p51 : lw_okq (⟨"VillagePayModel", "officer0", "(II)I"⟩, 26) := ⟨⟨by decide +kernel, by decide +kernel⟩, List.mem_of_getElem? (i := 1073) (by decide +kernel), List.mem_of_getElem? (i := 1228) (by decide +kernel), List.mem_of_getElem? (i := 1229) (by decide +kernel)⟩
theorem lw_p52 : lw_okq (⟨"VillagePayModel", "isOver", "(I)Z"⟩, 26) := ⟨⟨by decide +kernel, by decide +kernel⟩, List.mem_of_getElem? (i := 1073) (by decide +kernel), List.mem_of_getElem? (i := 1232) (by decide +kernel), List.mem_of_getElem? (i := 1233) (by decide +kernel)⟩
theorem lw_p53 : lw_okq (⟨"VillagePayModel", "scales", "(III)V"⟩, 26) := ⟨⟨by decide +kernel, by decide +kernel⟩, List.mem_of_getElem? (i := 1073) (by decide +kernel), List.mem_of_getElem? (i := 1236) (by decide +kernel), List.mem_of_getElem? (i := 1237) (by decide +kernel)⟩
theorem lw_p54 : lw_okq (⟨"VillagePayModel", "reignOf", "(I)I"⟩, 26) := ⟨⟨by decide +kernel, by decide +kernel⟩, List.mem_of_getElem? (i := 1073) (by decide +kernel), List.mem_of_getElem? (i := 1240) (by decide +kernel), List.mem_of_getElem? (i := 1241) (by decide +kernel)⟩
theorem lw_p55 : lw_okq (⟨"VillagePayModel", "holds", "(IIII)Z"⟩, 26) := ⟨⟨by decide +kernel, by decide +kernel⟩, List.mem_of_getElem? (i := 1073) (by decide +kernel), List.mem_of_getElem? (i := 1244) (by decide +kernel), List.mem_of_getElem? (i := 1245) (by decide +kernel)⟩
theorem lw_p56 : lw_okq (⟨"VillagePayModel", "asked", "(IIII)I"⟩, 26) := ⟨⟨by decide +kernel, by decide +kernel⟩, List.mem_of_getElem? (i := 1073) (by decide +kernel), List.mem_of_getElem? (i := 1248) (by decide +kernel), List.mem_of_getElem? (i := 1249) (by decide +kernel)⟩
theorem lw_p57 : lw_okq (⟨"VillagePayModel", "isFamished", "(III)Z"⟩, 26) := ⟨⟨by decide +kernel, by decide +kernel⟩, List.mem_of_getElem? (i := 1073) (by decide +kernel), List.mem_of_getElem? (i := 1252) (by decide +kernel), List.mem_of_getElem? (i := 1253) (by decide +kernel)⟩
theorem lw_p58 : lw_okq (⟨"VillagePayModel", "isFamine", "(III)Z"⟩, 26) := ⟨⟨by decide +kernel, by decide +kernel⟩, List.mem_of_getElem? (i := 1073) (by decide +kernel), List.mem_of_getElem? (i := 1256) (by decide +kernel), List.mem_of_getElem? (i := 1257) (by decide +kernel)⟩
theorem lw_p59 : lw_okq (⟨"VillagePayModel", "last", "(IIII)I"⟩, 26) := ⟨⟨by decide +kernel, by decide +kernel⟩, List.mem_of_getElem? (i := 1073) (by decide +kernel), List.mem_of_getElem? (i := 1260) (by decide +kernel), List.mem_of_getElem? (i := 1261) (by decide +kernel)⟩
theorem lw_p60 : lw_okq (⟨"VillagePayModel", "said", "(II)I"⟩, 26) := ⟨⟨by decide +kernel, by decide +kernel⟩, List.mem_of_getElem? (i := 1073) (by decide +kernel), List.mem_of_getElem? (i := 1264) (by decide +kernel), List.mem_of_getElem? (i := 1265) (by decide +kernel)⟩
theorem lw_p61 : lw_okq (⟨"VillagePayModel", "rankOf", "(III)I"⟩, 26) := ⟨⟨by decide +kernel, by decide +kernel⟩, List.mem_of_getElem? (i := 1073) (by decide +kernel), List.mem_of_getElem? (i := 1268) (by decide +kernel), List.mem_of_getElem? (i := 1269) (by decide +kernel)⟩
theorem lw_p62 : lw_okq (⟨"VillagePayModel", "does", "(II)V"⟩, 26) := ⟨⟨by decide +kernel, by decide +kernel⟩, List.mem_of_getElem? (i := 1073) (by decide +kernel), List.mem_of_getElem? (i := 1272) (by decide +kernel), List.mem_of_getElem? (i := 1273) (by decide +kernel)⟩
theorem lw_p63 : lw_okq (⟨"VillagePayModel", "orders", "(IIII)I"⟩, 26) := ⟨⟨by decide +kernel, by decide +kernel⟩, List.mem_of_getElem? (i := 1073) (by decide +kernel), List.mem_of_getElem? (i := 1291) (by decide +kernel), List.mem_of_getElem? (i := 1292) (by decide +kernel)⟩
def lw_privs_4 : List (MethodName × Nat) := [(⟨"VillagePayModel", "latest", "(IIII)I"⟩, 26), (⟨"VillagePayModel", "written", "(II)I"⟩, 26), (⟨"VillagePayModel", "serves", "(II)Z"⟩, 26), (⟨"VillagePayModel", "officer0", "(II)I"⟩, 26), (⟨"VillagePayModel", "isOver", "(I)Z"⟩, 26), (⟨"VillagePayModel", "scales", "(III)V"⟩, 26), (⟨"VillagePayModel", "reignOf", "(I)I"⟩, 26), (⟨"VillagePayModel", "holds", "(IIII)Z"⟩, 26), (⟨"VillagePayModel", "asked", "(IIII)I"⟩, 26), (⟨"VillagePayModel", "isFamished", "(III)Z"⟩, 26), (⟨"VillagePayModel", "isFamine", "(III)Z"⟩, 26), (⟨"VillagePayModel", "last", "(IIII)I"⟩, 26), (⟨"VillagePayModel", "said", "(II)I"⟩, 26), (⟨"VillagePayModel", "rankOf", "(III)I"⟩, 26), (⟨"VillagePayModel", "does", "(II)V"⟩, 26), (⟨"VillagePayModel", "orders", "(IIII)I"⟩, 26)]
theorem lw_r4 : ∀ q ∈ lw_privs_4, lw_okq q := List.forall_mem_cons.mpr ⟨lw_p48, List.forall_mem_cons.mpr ⟨lw_p49, List.forall_mem_cons.mpr ⟨lw_p50, List.forall_mem_cons.mpr ⟨lw_p51, List.forall_mem_cons.mpr ⟨lw_p52, List.forall_mem_cons.mpr ⟨lw_p53, List.forall_mem_cons.mpr ⟨lw_p54, List.forall_mem_cons.mpr ⟨lw_p55, List.forall_mem_cons.mpr ⟨lw_p56, List.forall_mem_cons.mpr ⟨lw_p57, List.forall_mem_cons.mpr ⟨lw_p58, List.forall_mem_cons.mpr ⟨lw_p59, List.forall_mem_cons.mpr ⟨lw_p60, List.forall_mem_cons.mpr ⟨lw_p61, List.forall_mem_cons.mpr ⟨lw_p62, List.forall_mem_cons.mpr ⟨lw_p63, fun _ h => absurd h List.not_mem_nil⟩⟩⟩⟩⟩⟩⟩⟩⟩⟩⟩⟩⟩⟩⟩⟩
theorem lw_p64 : lw_okq (⟨"VillagePayModel", "isKnown", "(I)Z"⟩, 26) := ⟨⟨by decide +kernel, by decide +kernel⟩, List.mem_of_getElem? (i := 1073) (by decide +kernel), List.mem_of_getElem? (i := 1307) (by decide +kernel), List.mem_of_getElem? (i := 1308) (by decide +kernel)⟩
theorem lw_p65 : lw_okq (⟨"VillagePayModel", "hadOf", "(III)I"⟩, 26) := ⟨⟨by decide +kernel, by decide +kernel⟩, List.mem_of_getElem? (i := 1073) (by decide +kernel), List.mem_of_getElem? (i := 1319) (by decide +kernel), List.mem_of_getElem? (i := 1320) (by decide +kernel)⟩
theorem lw_p66 : lw_okq (⟨"VillagePayModel", "changes", "(II)Z"⟩, 26) := ⟨⟨by decide +kernel, by decide +kernel⟩, List.mem_of_getElem? (i := 1073) (by decide +kernel), List.mem_of_getElem? (i := 1323) (by decide +kernel), List.mem_of_getElem? (i := 1324) (by decide +kernel)⟩
theorem lw_p67 : lw_okq (⟨"VillagePayModel", "bitsOf", "(III)I"⟩, 26) := ⟨⟨by decide +kernel, by decide +kernel⟩, List.mem_of_getElem? (i := 1073) (by decide +kernel), List.mem_of_getElem? (i := 1327) (by decide +kernel), List.mem_of_getElem? (i := 1328) (by decide +kernel)⟩
theorem lw_p68 : lw_okq (⟨"VillagePayModel", "advance", "()V"⟩, 26) := ⟨⟨by decide +kernel, by decide +kernel⟩, List.mem_of_getElem? (i := 1073) (by decide +kernel), List.mem_of_getElem? (i := 1343) (by decide +kernel), List.mem_of_getElem? (i := 1344) (by decide +kernel)⟩
theorem lw_p69 : lw_okq (⟨"VillagePayModel", "byteAt", "(I)I"⟩, 26) := ⟨⟨by decide +kernel, by decide +kernel⟩, List.mem_of_getElem? (i := 1073) (by decide +kernel), List.mem_of_getElem? (i := 1347) (by decide +kernel), List.mem_of_getElem? (i := 1348) (by decide +kernel)⟩
theorem lw_p70 : lw_okq (⟨"VillagePayModel", "aLine", "()V"⟩, 26) := ⟨⟨by decide +kernel, by decide +kernel⟩, List.mem_of_getElem? (i := 1073) (by decide +kernel), List.mem_of_getElem? (i := 1377) (by decide +kernel), List.mem_of_getElem? (i := 1378) (by decide +kernel)⟩
theorem lw_p71 : lw_okq (⟨"VillagePayModel", "also", "(II)V"⟩, 26) := ⟨⟨by decide +kernel, by decide +kernel⟩, List.mem_of_getElem? (i := 1073) (by decide +kernel), List.mem_of_getElem? (i := 1381) (by decide +kernel), List.mem_of_getElem? (i := 1382) (by decide +kernel)⟩
theorem lw_p72 : lw_okq (⟨"VillagePayModel", "takes", "(I)Z"⟩, 26) := ⟨⟨by decide +kernel, by decide +kernel⟩, List.mem_of_getElem? (i := 1073) (by decide +kernel), List.mem_of_getElem? (i := 1385) (by decide +kernel), List.mem_of_getElem? (i := 1386) (by decide +kernel)⟩
theorem lw_p73 : lw_okq (⟨"VillagePayModel", "aTest", "()V"⟩, 26) := ⟨⟨by decide +kernel, by decide +kernel⟩, List.mem_of_getElem? (i := 1073) (by decide +kernel), List.mem_of_getElem? (i := 1389) (by decide +kernel), List.mem_of_getElem? (i := 1390) (by decide +kernel)⟩
theorem lw_p74 : lw_okq (⟨"VillagePayModel", "stops", "()V"⟩, 26) := ⟨⟨by decide +kernel, by decide +kernel⟩, List.mem_of_getElem? (i := 1073) (by decide +kernel), List.mem_of_getElem? (i := 1393) (by decide +kernel), List.mem_of_getElem? (i := 1394) (by decide +kernel)⟩
theorem lw_p75 : lw_okq (⟨"VillagePayModel", "numbered", "()I"⟩, 26) := ⟨⟨by decide +kernel, by decide +kernel⟩, List.mem_of_getElem? (i := 1073) (by decide +kernel), List.mem_of_getElem? (i := 1397) (by decide +kernel), List.mem_of_getElem? (i := 1398) (by decide +kernel)⟩
theorem lw_p76 : lw_okq (⟨"VillagePayModel", "puts", "(II)V"⟩, 26) := ⟨⟨by decide +kernel, by decide +kernel⟩, List.mem_of_getElem? (i := 1073) (by decide +kernel), List.mem_of_getElem? (i := 1401) (by decide +kernel), List.mem_of_getElem? (i := 1402) (by decide +kernel)⟩
theorem lw_p77 : lw_okq (⟨"VillagePayModel", "must", "(I)V"⟩, 26) := ⟨⟨by decide +kernel, by decide +kernel⟩, List.mem_of_getElem? (i := 1073) (by decide +kernel), List.mem_of_getElem? (i := 1405) (by decide +kernel), List.mem_of_getElem? (i := 1406) (by decide +kernel)⟩
theorem lw_p78 : lw_okq (⟨"VillagePayModel", "dueOf", "(III)I"⟩, 26) := ⟨⟨by decide +kernel, by decide +kernel⟩, List.mem_of_getElem? (i := 1073) (by decide +kernel), List.mem_of_getElem? (i := 1427) (by decide +kernel), List.mem_of_getElem? (i := 1428) (by decide +kernel)⟩
theorem lw_p79 : lw_okq (⟨"VillagePayModel", "servesNow", "(I)Z"⟩, 26) := ⟨⟨by decide +kernel, by decide +kernel⟩, List.mem_of_getElem? (i := 1073) (by decide +kernel), List.mem_of_getElem? (i := 1447) (by decide +kernel), List.mem_of_getElem? (i := 1448) (by decide +kernel)⟩
def lw_privs_5 : List (MethodName × Nat) := [(⟨"VillagePayModel", "isKnown", "(I)Z"⟩, 26), (⟨"VillagePayModel", "hadOf", "(III)I"⟩, 26), (⟨"VillagePayModel", "changes", "(II)Z"⟩, 26), (⟨"VillagePayModel", "bitsOf", "(III)I"⟩, 26), (⟨"VillagePayModel", "advance", "()V"⟩, 26), (⟨"VillagePayModel", "byteAt", "(I)I"⟩, 26), (⟨"VillagePayModel", "aLine", "()V"⟩, 26), (⟨"VillagePayModel", "also", "(II)V"⟩, 26), (⟨"VillagePayModel", "takes", "(I)Z"⟩, 26), (⟨"VillagePayModel", "aTest", "()V"⟩, 26), (⟨"VillagePayModel", "stops", "()V"⟩, 26), (⟨"VillagePayModel", "numbered", "()I"⟩, 26), (⟨"VillagePayModel", "puts", "(II)V"⟩, 26), (⟨"VillagePayModel", "must", "(I)V"⟩, 26), (⟨"VillagePayModel", "dueOf", "(III)I"⟩, 26), (⟨"VillagePayModel", "servesNow", "(I)Z"⟩, 26)]
theorem lw_r5 : ∀ q ∈ lw_privs_5, lw_okq q := List.forall_mem_cons.mpr ⟨lw_p64, List.forall_mem_cons.mpr ⟨lw_p65, List.forall_mem_cons.mpr ⟨lw_p66, List.forall_mem_cons.mpr ⟨lw_p67, List.forall_mem_cons.mpr ⟨lw_p68, List.forall_mem_cons.mpr ⟨lw_p69, List.forall_mem_cons.mpr ⟨lw_p70, List.forall_mem_cons.mpr ⟨lw_p71, List.forall_mem_cons.mpr ⟨lw_p72, List.forall_mem_cons.mpr ⟨lw_p73, List.forall_mem_cons.mpr ⟨lw_p74, List.forall_mem_cons.mpr ⟨lw_p75, List.forall_mem_cons.mpr ⟨lw_p76, List.forall_mem_cons.mpr ⟨lw_p77, List.forall_mem_cons.mpr ⟨lw_p78, List.forall_mem_cons.mpr ⟨lw_p79, fun _ h => absurd h List.not_mem_nil⟩⟩⟩⟩⟩⟩⟩⟩⟩⟩⟩⟩⟩⟩⟩⟩
theorem lw_p80 : lw_okq (⟨"VillagePayModel", "isCrowns", "(I)Z"⟩, 26) := ⟨⟨by decide +kernel, by decide +kernel⟩, List.mem_of_getElem? (i := 1073) (by decide +kernel), List.mem_of_getElem? (i := 1451) (by decide +kernel), List.mem_of_getElem? (i := 1452) (by decide +kernel)⟩
theorem lw_p81 : lw_okq (⟨"VillagePayModel", "hadByKin", "(II)Z"⟩, 26) := ⟨⟨by decide +kernel, by decide +kernel⟩, List.mem_of_getElem? (i := 1073) (by decide +kernel), List.mem_of_getElem? (i := 1455) (by decide +kernel), List.mem_of_getElem? (i := 1456) (by decide +kernel)⟩
theorem lw_p82 : lw_okq (⟨"VillagePayModel", "dueNow", "(I)I"⟩, 26) := ⟨⟨by decide +kernel, by decide +kernel⟩, List.mem_of_getElem? (i := 1073) (by decide +kernel), List.mem_of_getElem? (i := 1459) (by decide +kernel), List.mem_of_getElem? (i := 1460) (by decide +kernel)⟩
theorem lw_p83 : lw_okq (⟨"VillagePayModel", "paperOf", "(I)I"⟩, 26) := ⟨⟨by decide +kernel, by decide +kernel⟩, List.mem_of_getElem? (i := 1073) (by decide +kernel), List.mem_of_getElem? (i := 1463) (by decide +kernel), List.mem_of_getElem? (i := 1464) (by decide +kernel)⟩
theorem lw_p84 : lw_okq (⟨"VillagePayModel", "begins", "(I)Z"⟩, 26) := ⟨⟨by decide +kernel, by decide +kernel⟩, List.mem_of_getElem? (i := 1073) (by decide +kernel), List.mem_of_getElem? (i := 1472) (by decide +kernel), List.mem_of_getElem? (i := 1473) (by decide +kernel)⟩
theorem lw_p85 : lw_okq (⟨"VillagePayModel", "byBest", "()I"⟩, 26) := ⟨⟨by decide +kernel, by decide +kernel⟩, List.mem_of_getElem? (i := 1073) (by decide +kernel), List.mem_of_getElem? (i := 1476) (by decide +kernel), List.mem_of_getElem? (i := 1477) (by decide +kernel)⟩
theorem lw_p86 : lw_okq (⟨"VillagePayModel", "gapNow", "()I"⟩, 26) := ⟨⟨by decide +kernel, by decide +kernel⟩, List.mem_of_getElem? (i := 1073) (by decide +kernel), List.mem_of_getElem? (i := 1480) (by decide +kernel), List.mem_of_getElem? (i := 1481) (by decide +kernel)⟩
theorem lw_p87 : lw_okq (⟨"VillagePayModel", "goesOn", "()Z"⟩, 26) := ⟨⟨by decide +kernel, by decide +kernel⟩, List.mem_of_getElem? (i := 1073) (by decide +kernel), List.mem_of_getElem? (i := 1484) (by decide +kernel), List.mem_of_getElem? (i := 1485) (by decide +kernel)⟩
theorem lw_p88 : lw_okq (⟨"VillagePayModel", "byRule", "()I"⟩, 26) := ⟨⟨by decide +kernel, by decide +kernel⟩, List.mem_of_getElem? (i := 1073) (by decide +kernel), List.mem_of_getElem? (i := 1488) (by decide +kernel), List.mem_of_getElem? (i := 1489) (by decide +kernel)⟩
theorem lw_p89 : lw_okq (⟨"VillagePayModel", "moves", "()I"⟩, 26) := ⟨⟨by decide +kernel, by decide +kernel⟩, List.mem_of_getElem? (i := 1073) (by decide +kernel), List.mem_of_getElem? (i := 1509) (by decide +kernel), List.mem_of_getElem? (i := 1510) (by decide +kernel)⟩
theorem lw_p90 : lw_okq (⟨"VillagePayModel", "first", "(Z)I"⟩, 26) := ⟨⟨by decide +kernel, by decide +kernel⟩, List.mem_of_getElem? (i := 1073) (by decide +kernel), List.mem_of_getElem? (i := 1513) (by decide +kernel), List.mem_of_getElem? (i := 1514) (by decide +kernel)⟩
theorem lw_p91 : lw_okq (⟨"VillagePayModel", "losesAll", "(I)V"⟩, 26) := ⟨⟨by decide +kernel, by decide +kernel⟩, List.mem_of_getElem? (i := 1073) (by decide +kernel), List.mem_of_getElem? (i := 1517) (by decide +kernel), List.mem_of_getElem? (i := 1518) (by decide +kernel)⟩
theorem lw_p92 : lw_okq (⟨"VillagePayModel", "trustOf", "(II)I"⟩, 26) := ⟨⟨by decide +kernel, by decide +kernel⟩, List.mem_of_getElem? (i := 1073) (by decide +kernel), List.mem_of_getElem? (i := 1533) (by decide +kernel), List.mem_of_getElem? (i := 1534) (by decide +kernel)⟩
theorem lw_p93 : lw_okq (⟨"VillagePayModel", "worthOf", "(I)I"⟩, 26) := ⟨⟨by decide +kernel, by decide +kernel⟩, List.mem_of_getElem? (i := 1073) (by decide +kernel), List.mem_of_getElem? (i := 1537) (by decide +kernel), List.mem_of_getElem? (i := 1538) (by decide +kernel)⟩
theorem lw_p94 : lw_okq (⟨"VillagePayModel", "isAsked", "(III)Z"⟩, 26) := ⟨⟨by decide +kernel, by decide +kernel⟩, List.mem_of_getElem? (i := 1073) (by decide +kernel), List.mem_of_getElem? (i := 1545) (by decide +kernel), List.mem_of_getElem? (i := 1546) (by decide +kernel)⟩
def lw_privs_6 : List (MethodName × Nat) := [(⟨"VillagePayModel", "isCrowns", "(I)Z"⟩, 26), (⟨"VillagePayModel", "hadByKin", "(II)Z"⟩, 26), (⟨"VillagePayModel", "dueNow", "(I)I"⟩, 26), (⟨"VillagePayModel", "paperOf", "(I)I"⟩, 26), (⟨"VillagePayModel", "begins", "(I)Z"⟩, 26), (⟨"VillagePayModel", "byBest", "()I"⟩, 26), (⟨"VillagePayModel", "gapNow", "()I"⟩, 26), (⟨"VillagePayModel", "goesOn", "()Z"⟩, 26), (⟨"VillagePayModel", "byRule", "()I"⟩, 26), (⟨"VillagePayModel", "moves", "()I"⟩, 26), (⟨"VillagePayModel", "first", "(Z)I"⟩, 26), (⟨"VillagePayModel", "losesAll", "(I)V"⟩, 26), (⟨"VillagePayModel", "trustOf", "(II)I"⟩, 26), (⟨"VillagePayModel", "worthOf", "(I)I"⟩, 26), (⟨"VillagePayModel", "isAsked", "(III)Z"⟩, 26)]
theorem lw_r6 : ∀ q ∈ lw_privs_6, lw_okq q := List.forall_mem_cons.mpr ⟨lw_p80, List.forall_mem_cons.mpr ⟨lw_p81, List.forall_mem_cons.mpr ⟨lw_p82, List.forall_mem_cons.mpr ⟨lw_p83, List.forall_mem_cons.mpr ⟨lw_p84, List.forall_mem_cons.mpr ⟨lw_p85, List.forall_mem_cons.mpr ⟨lw_p86, List.forall_mem_cons.mpr ⟨lw_p87, List.forall_mem_cons.mpr ⟨lw_p88, List.forall_mem_cons.mpr ⟨lw_p89, List.forall_mem_cons.mpr ⟨lw_p90, List.forall_mem_cons.mpr ⟨lw_p91, List.forall_mem_cons.mpr ⟨lw_p92, List.forall_mem_cons.mpr ⟨lw_p93, List.forall_mem_cons.mpr ⟨lw_p94, fun _ h => absurd h List.not_mem_nil⟩⟩⟩⟩⟩⟩⟩⟩⟩⟩⟩⟩⟩⟩⟩
def lw_privs : List (MethodName × Nat) := lw_privs_1 ++ (lw_privs_2 ++ (lw_privs_3 ++ (lw_privs_4 ++ (lw_privs_5 ++ (lw_privs_6)))))
def lw_tbl : List Cond := k2_sels lw_privs ++ tables_1
theorem lw_privs_ok : ∀ q ∈ lw_privs, lw_okq q := by
  show ∀ q ∈ lw_privs_1 ++ (lw_privs_2 ++ (lw_privs_3 ++ (lw_privs_4 ++ (lw_privs_5 ++ (lw_privs_6))))), lw_okq q
  exact List.forall_mem_append.mpr ⟨lw_r1, List.forall_mem_append.mpr ⟨lw_r2, List.forall_mem_append.mpr ⟨lw_r3, List.forall_mem_append.mpr ⟨lw_r4, List.forall_mem_append.mpr ⟨lw_r5, lw_r6⟩⟩⟩⟩⟩

/-! ===== the words that every method of the system may use ===== -/
def wt : List Cond := lw_tbl.filter goodWord
theorem wt_of {w : Cond} (h : w ∈ lw_tbl) (g : goodWord w = true) : w ∈ wt := List.mem_filter.mpr ⟨h, g⟩
theorem wt_in {w : Cond} (h : w ∈ wt) : w ∈ lw_tbl := (List.mem_filter.mp h).1
theorem wt_good {w : Cond} (h : w ∈ wt) : goodWord w = true := (List.mem_filter.mp h).2

theorem wt_t1 {w : Cond} (k : Nat) (e : tables_1_1[k]? = some w) (g : goodWord w = true) : w ∈ wt := by
  have h : w ∈ tables_1_1 := List.mem_of_getElem? e
  refine wt_of (List.mem_append_right _ ?_) g
  show w ∈ tables_1_1 ++ (tables_1_2 ++ (tables_1_3 ++ (tables_1_4 ++ (tables_1_5 ++ (tables_1_6 ++ tables_1_7)))))
  exact List.mem_append_left _ h
theorem wt_t2 {w : Cond} (k : Nat) (e : tables_1_2[k]? = some w) (g : goodWord w = true) : w ∈ wt := by
  have h : w ∈ tables_1_2 := List.mem_of_getElem? e
  refine wt_of (List.mem_append_right _ ?_) g
  show w ∈ tables_1_1 ++ (tables_1_2 ++ (tables_1_3 ++ (tables_1_4 ++ (tables_1_5 ++ (tables_1_6 ++ tables_1_7)))))
  exact List.mem_append_right _ (List.mem_append_left _ h)
theorem wt_t3 {w : Cond} (k : Nat) (e : tables_1_3[k]? = some w) (g : goodWord w = true) : w ∈ wt := by
  have h : w ∈ tables_1_3 := List.mem_of_getElem? e
  refine wt_of (List.mem_append_right _ ?_) g
  show w ∈ tables_1_1 ++ (tables_1_2 ++ (tables_1_3 ++ (tables_1_4 ++ (tables_1_5 ++ (tables_1_6 ++ tables_1_7)))))
  exact List.mem_append_right _ (List.mem_append_right _ (List.mem_append_left _ h))
theorem wt_t4 {w : Cond} (k : Nat) (e : tables_1_4[k]? = some w) (g : goodWord w = true) : w ∈ wt := by
  have h : w ∈ tables_1_4 := List.mem_of_getElem? e
  refine wt_of (List.mem_append_right _ ?_) g
  show w ∈ tables_1_1 ++ (tables_1_2 ++ (tables_1_3 ++ (tables_1_4 ++ (tables_1_5 ++ (tables_1_6 ++ tables_1_7)))))
  exact List.mem_append_right _ (List.mem_append_right _ (List.mem_append_right _ (List.mem_append_left _ h)))
theorem wt_t5 {w : Cond} (k : Nat) (e : tables_1_5[k]? = some w) (g : goodWord w = true) : w ∈ wt := by
  have h : w ∈ tables_1_5 := List.mem_of_getElem? e
  refine wt_of (List.mem_append_right _ ?_) g
  show w ∈ tables_1_1 ++ (tables_1_2 ++ (tables_1_3 ++ (tables_1_4 ++ (tables_1_5 ++ (tables_1_6 ++ tables_1_7)))))
  exact List.mem_append_right _ (List.mem_append_right _ (List.mem_append_right _ (List.mem_append_right _ (List.mem_append_left _ h))))
theorem wt_t6 {w : Cond} (k : Nat) (e : tables_1_6[k]? = some w) (g : goodWord w = true) : w ∈ wt := by
  have h : w ∈ tables_1_6 := List.mem_of_getElem? e
  refine wt_of (List.mem_append_right _ ?_) g
  show w ∈ tables_1_1 ++ (tables_1_2 ++ (tables_1_3 ++ (tables_1_4 ++ (tables_1_5 ++ (tables_1_6 ++ tables_1_7)))))
  exact List.mem_append_right _ (List.mem_append_right _ (List.mem_append_right _ (List.mem_append_right _ (List.mem_append_right _ (List.mem_append_left _ h)))))
theorem wt_t7 {w : Cond} (k : Nat) (e : tables_1_7[k]? = some w) (g : goodWord w = true) : w ∈ wt := by
  have h : w ∈ tables_1_7 := List.mem_of_getElem? e
  refine wt_of (List.mem_append_right _ ?_) g
  show w ∈ tables_1_1 ++ (tables_1_2 ++ (tables_1_3 ++ (tables_1_4 ++ (tables_1_5 ++ (tables_1_6 ++ tables_1_7)))))
  exact List.mem_append_right _ (List.mem_append_right _ (List.mem_append_right _ (List.mem_append_right _ (List.mem_append_right _ (List.mem_append_right _ (h))))))
theorem wt_p {q : MethodName × Nat} (k : Nat) (e : lw_privs[k]? = some q) : Cond.selects q.1.cls q.1 q.1 ∈ wt := wt_of (List.mem_append_left _ (List.mem_map.mpr ⟨q, List.mem_of_getElem? e, rfl⟩)) rfl
def vC0 : String := "VillagePay"
def vT0 : u_T := fun k => match k with
  | 0 => ("VillagePay", "now", "LVillagePay$State;", true)
  | 1 => ("VillagePay", "images", "[LVillagePay$State;", true)
  | 2 => ("VillagePay", "reader", "LVillagePay$Reader;", true)
  | 3 => ("VillagePay", "scale", "LVillagePay$Scale;", true)
  | 4 => ("VillagePay", "accounts", "LVillagePay$Accounts;", true)
  | 5 => ("VillagePay", "dealer", "LVillagePay$Dealer;", true)
  | 6 => ("VillagePay", "land", "LVillagePay$Land;", true)
  | 7 => ("VillagePay", "book", "LVillagePay$Book;", true)
  | 8 => ("VillagePay", "news", "LVillagePay$News;", true)
  | _ => ("VillagePay", "moves", "LVillagePay$Moves;", true)
def vY0 : Nat → FieldType := fun k => match k with
  | 0 => .object "VillagePay$State"
  | 1 => .array (.object "VillagePay$State")
  | 2 => .object "VillagePay$Reader"
  | 3 => .object "VillagePay$Scale"
  | 4 => .object "VillagePay$Accounts"
  | 5 => .object "VillagePay$Dealer"
  | 6 => .object "VillagePay$Land"
  | 7 => .object "VillagePay$Book"
  | 8 => .object "VillagePay$News"
  | _ => .object "VillagePay$Moves"
theorem vN0 : ∀ a, a < 10 → ∀ b, b < 10 → a ≠ b → (vT0 a).2.1 ≠ (vT0 b).2.1 := by decide +kernel
theorem vY0_ok : ∀ k, k < 10 → parseFieldDescriptor (vT0 k).2.2.1 = some (vY0 k) := by decide +kernel
def vC1 : String := "VillagePay$State"
def vT1 : u_T := fun k => match k with
  | 0 => ("VillagePay$State", "land", "LVillagePay$Land;", true)
  | 1 => ("VillagePay$State", "book", "LVillagePay$Book;", true)
  | 2 => ("VillagePay$State", "laws", "LVillagePay$Laws;", true)
  | 3 => ("VillagePay$State", "tape", "LVillagePay$Tape;", true)
  | 4 => ("VillagePay$State", "news", "LVillagePay$News;", true)
  | _ => ("VillagePay$State", "moves", "LVillagePay$Moves;", true)
def vY1 : Nat → FieldType := fun k => match k with
  | 0 => .object "VillagePay$Land"
  | 1 => .object "VillagePay$Book"
  | 2 => .object "VillagePay$Laws"
  | 3 => .object "VillagePay$Tape"
  | 4 => .object "VillagePay$News"
  | _ => .object "VillagePay$Moves"
theorem vN1 : ∀ a, a < 6 → ∀ b, b < 6 → a ≠ b → (vT1 a).2.1 ≠ (vT1 b).2.1 := by decide +kernel
theorem vY1_ok : ∀ k, k < 6 → parseFieldDescriptor (vT1 k).2.2.1 = some (vY1 k) := by decide +kernel
def vC2 : String := "VillagePay$Land"
def vT2 : u_T := fun k => match k with
  | 0 => ("VillagePay$Land", "today", "I", false)
  | 1 => ("VillagePay$Land", "villages", "I", false)
  | 2 => ("VillagePay$Land", "worth", "[I", true)
  | 3 => ("VillagePay$Land", "east", "[I", true)
  | 4 => ("VillagePay$Land", "north", "[I", true)
  | 5 => ("VillagePay$Land", "health", "[I", true)
  | 6 => ("VillagePay$Land", "press", "[I", true)
  | 7 => ("VillagePay$Land", "coins", "[I", true)
  | _ => ("VillagePay$Land", "sky", "[I", true)
def vY2 : Nat → FieldType := fun k => match k with
  | 0 => .int
  | 1 => .int
  | 2 => .array .int
  | 3 => .array .int
  | 4 => .array .int
  | 5 => .array .int
  | 6 => .array .int
  | 7 => .array .int
  | _ => .array .int
theorem vN2 : ∀ a, a < 9 → ∀ b, b < 9 → a ≠ b → (vT2 a).2.1 ≠ (vT2 b).2.1 := by decide +kernel
theorem vY2_ok : ∀ k, k < 9 → parseFieldDescriptor (vT2 k).2.2.1 = some (vY2 k) := by decide +kernel
def vC3 : String := "VillagePay$Book"
def vT3 : u_T := fun k => match k with
  | 0 => ("VillagePay$Book", "officers", "I", false)
  | 1 => ("VillagePay$Book", "firstRank", "[I", true)
  | 2 => ("VillagePay$Book", "kin", "[I", true)
  | 3 => ("VillagePay$Book", "came", "[I", true)
  | 4 => ("VillagePay$Book", "death", "[I", true)
  | 5 => ("VillagePay$Book", "orders", "I", false)
  | 6 => ("VillagePay$Book", "kind", "[I", true)
  | 7 => ("VillagePay$Book", "thing", "[I", true)
  | 8 => ("VillagePay$Book", "who", "[I", true)
  | 9 => ("VillagePay$Book", "from", "[I", true)
  | _ => ("VillagePay$Book", "written", "[I", true)
def vY3 : Nat → FieldType := fun k => match k with
  | 0 => .int
  | 1 => .array .int
  | 2 => .array .int
  | 3 => .array .int
  | 4 => .array .int
  | 5 => .int
  | 6 => .array .int
  | 7 => .array .int
  | 8 => .array .int
  | 9 => .array .int
  | _ => .array .int
theorem vN3 : ∀ a, a < 11 → ∀ b, b < 11 → a ≠ b → (vT3 a).2.1 ≠ (vT3 b).2.1 := by decide +kernel
theorem vY3_ok : ∀ k, k < 11 → parseFieldDescriptor (vT3 k).2.2.1 = some (vY3 k) := by decide +kernel
def vC4 : String := "VillagePay$Laws"
def vT4 : u_T := fun k => match k with
  | 0 => ("VillagePay$Laws", "reigns", "I", false)
  | 1 => ("VillagePay$Laws", "begins", "[I", true)
  | 2 => ("VillagePay$Laws", "lines", "[I", true)
  | 3 => ("VillagePay$Laws", "deed", "[I", true)
  | 4 => ("VillagePay$Laws", "amount", "[I", true)
  | 5 => ("VillagePay$Laws", "tests", "[I", true)
  | 6 => ("VillagePay$Laws", "subject", "[I", true)
  | 7 => ("VillagePay$Laws", "sign", "[I", true)
  | 8 => ("VillagePay$Laws", "limit", "[I", true)
  | _ => ("VillagePay$Laws", "negated", "[Z", true)
def vY4 : Nat → FieldType := fun k => match k with
  | 0 => .int
  | 1 => .array .int
  | 2 => .array .int
  | 3 => .array .int
  | 4 => .array .int
  | 5 => .array .int
  | 6 => .array .int
  | 7 => .array .int
  | 8 => .array .int
  | _ => .array .boolean
theorem vN4 : ∀ a, a < 10 → ∀ b, b < 10 → a ≠ b → (vT4 a).2.1 ≠ (vT4 b).2.1 := by decide +kernel
theorem vY4_ok : ∀ k, k < 10 → parseFieldDescriptor (vT4 k).2.2.1 = some (vY4 k) := by decide +kernel
def vC5 : String := "VillagePay$Tape"
def vT5 : u_T := fun k => match k with
  | 0 => ("VillagePay$Tape", "bytes", "[B", true)
  | 1 => ("VillagePay$Tape", "length", "I", false)
  | 2 => ("VillagePay$Tape", "fault", "I", false)
  | _ => ("VillagePay$Tape", "place", "I", false)
def vY5 : Nat → FieldType := fun k => match k with
  | 0 => .array .byte
  | 1 => .int
  | 2 => .int
  | _ => .int
theorem vN5 : ∀ a, a < 4 → ∀ b, b < 4 → a ≠ b → (vT5 a).2.1 ≠ (vT5 b).2.1 := by decide +kernel
theorem vY5_ok : ∀ k, k < 4 → parseFieldDescriptor (vT5 k).2.2.1 = some (vY5 k) := by decide +kernel
def vC6 : String := "VillagePay$News"
def vT6 : u_T := fun k => match k with
  | 0 => ("VillagePay$News", "land", "LVillagePay$Land;", true)
  | 1 => ("VillagePay$News", "words", "I", false)
  | 2 => ("VillagePay$News", "writer", "[I", true)
  | 3 => ("VillagePay$News", "village", "[I", true)
  | 4 => ("VillagePay$News", "season", "[I", true)
  | 5 => ("VillagePay$News", "coins", "[I", true)
  | _ => ("VillagePay$News", "said", "[I", true)
def vY6 : Nat → FieldType := fun k => match k with
  | 0 => .object "VillagePay$Land"
  | 1 => .int
  | 2 => .array .int
  | 3 => .array .int
  | 4 => .array .int
  | 5 => .array .int
  | _ => .array .int
theorem vN6 : ∀ a, a < 7 → ∀ b, b < 7 → a ≠ b → (vT6 a).2.1 ≠ (vT6 b).2.1 := by decide +kernel
theorem vY6_ok : ∀ k, k < 7 → parseFieldDescriptor (vT6 k).2.2.1 = some (vY6 k) := by decide +kernel
def vC7 : String := "VillagePay$Moves"
def vT7 : u_T := fun k => match k with
  | 0 => ("VillagePay$Moves", "size", "I", false)
  | 1 => ("VillagePay$Moves", "mover", "[I", true)
  | 2 => ("VillagePay$Moves", "goal", "[I", true)
  | 3 => ("VillagePay$Moves", "idlers", "I", false)
  | 4 => ("VillagePay$Moves", "row", "[I", true)
  | 5 => ("VillagePay$Moves", "rowLength", "I", false)
  | 6 => ("VillagePay$Moves", "held", "[I", true)
  | _ => ("VillagePay$Moves", "done", "[Z", true)
def vY7 : Nat → FieldType := fun k => match k with
  | 0 => .int
  | 1 => .array .int
  | 2 => .array .int
  | 3 => .int
  | 4 => .array .int
  | 5 => .int
  | 6 => .array .int
  | _ => .array .boolean
theorem vN7 : ∀ a, a < 8 → ∀ b, b < 8 → a ≠ b → (vT7 a).2.1 ≠ (vT7 b).2.1 := by decide +kernel
theorem vY7_ok : ∀ k, k < 8 → parseFieldDescriptor (vT7 k).2.2.1 = some (vY7 k) := by decide +kernel
def vC8 : String := "VillagePay$Reader"
def vT8 : u_T := fun k => match k with
  | 0 => ("VillagePay$Reader", "tape", "LVillagePay$Tape;", true)
  | 1 => ("VillagePay$Reader", "laws", "LVillagePay$Laws;", true)
  | 2 => ("VillagePay$Reader", "at", "I", false)
  | 3 => ("VillagePay$Reader", "token", "I", false)
  | 4 => ("VillagePay$Reader", "start", "I", false)
  | 5 => ("VillagePay$Reader", "number", "I", false)
  | _ => ("VillagePay$Reader", "linesRead", "I", false)
def vY8 : Nat → FieldType := fun k => match k with
  | 0 => .object "VillagePay$Tape"
  | 1 => .object "VillagePay$Laws"
  | 2 => .int
  | 3 => .int
  | 4 => .int
  | 5 => .int
  | _ => .int
theorem vN8 : ∀ a, a < 7 → ∀ b, b < 7 → a ≠ b → (vT8 a).2.1 ≠ (vT8 b).2.1 := by decide +kernel
theorem vY8_ok : ∀ k, k < 7 → parseFieldDescriptor (vT8 k).2.2.1 = some (vY8 k) := by decide +kernel
def vC9 : String := "VillagePay$Scale"
def vT9 : u_T := fun k => match k with
  | 0 => ("VillagePay$Scale", "state", "LVillagePay$State;", true)
  | 1 => ("VillagePay$Scale", "pay", "I", false)
  | 2 => ("VillagePay$Scale", "months", "I", false)
  | 3 => ("VillagePay$Scale", "crown", "I", false)
  | 4 => ("VillagePay$Scale", "take", "I", false)
  | 5 => ("VillagePay$Scale", "rank", "I", false)
  | 6 => ("VillagePay$Scale", "served", "I", false)
  | 7 => ("VillagePay$Scale", "family", "I", false)
  | 8 => ("VillagePay$Scale", "half", "I", false)
  | 9 => ("VillagePay$Scale", "held", "I", false)
  | _ => ("VillagePay$Scale", "starving", "Z", false)
def vY9 : Nat → FieldType := fun k => match k with
  | 0 => .object "VillagePay$State"
  | 1 => .int
  | 2 => .int
  | 3 => .int
  | 4 => .int
  | 5 => .int
  | 6 => .int
  | 7 => .int
  | 8 => .int
  | 9 => .int
  | _ => .boolean
theorem vN9 : ∀ a, a < 11 → ∀ b, b < 11 → a ≠ b → (vT9 a).2.1 ≠ (vT9 b).2.1 := by decide +kernel
theorem vY9_ok : ∀ k, k < 11 → parseFieldDescriptor (vT9 k).2.2.1 = some (vY9 k) := by decide +kernel
def vC10 : String := "VillagePay$Accounts"
def vT10 : u_T := fun k => match k with
  | 0 => ("VillagePay$Accounts", "state", "LVillagePay$State;", true)
  | 1 => ("VillagePay$Accounts", "scale", "LVillagePay$Scale;", true)
  | _ => ("VillagePay$Accounts", "turning", "[Z", true)
def vY10 : Nat → FieldType := fun k => match k with
  | 0 => .object "VillagePay$State"
  | 1 => .object "VillagePay$Scale"
  | _ => .array .boolean
theorem vN10 : ∀ a, a < 3 → ∀ b, b < 3 → a ≠ b → (vT10 a).2.1 ≠ (vT10 b).2.1 := by decide +kernel
theorem vY10_ok : ∀ k, k < 3 → parseFieldDescriptor (vT10 k).2.2.1 = some (vY10 k) := by decide +kernel
def vC11 : String := "VillagePay$Dealer"
def vT11 : u_T := fun k => match k with
  | 0 => ("VillagePay$Dealer", "state", "LVillagePay$State;", true)
  | 1 => ("VillagePay$Dealer", "scale", "LVillagePay$Scale;", true)
  | 2 => ("VillagePay$Dealer", "person", "[I", true)
  | 3 => ("VillagePay$Dealer", "lacks", "[I", true)
  | 4 => ("VillagePay$Dealer", "people", "I", false)
  | 5 => ("VillagePay$Dealer", "lot", "[I", true)
  | 6 => ("VillagePay$Dealer", "choice", "[I", true)
  | 7 => ("VillagePay$Dealer", "bestChoice", "[I", true)
  | 8 => ("VillagePay$Dealer", "lots", "I", false)
  | _ => ("VillagePay$Dealer", "leastGap", "I", false)
def vY11 : Nat → FieldType := fun k => match k with
  | 0 => .object "VillagePay$State"
  | 1 => .object "VillagePay$Scale"
  | 2 => .array .int
  | 3 => .array .int
  | 4 => .int
  | 5 => .array .int
  | 6 => .array .int
  | 7 => .array .int
  | 8 => .int
  | _ => .int
theorem vN11 : ∀ a, a < 10 → ∀ b, b < 10 → a ≠ b → (vT11 a).2.1 ≠ (vT11 b).2.1 := by decide +kernel
theorem vY11_ok : ∀ k, k < 10 → parseFieldDescriptor (vT11 k).2.2.1 = some (vY11 k) := by decide +kernel
def vC12 : String := "VillagePayModel"
def vT12 : u_T := fun k => match k with
  | 0 => ("VillagePayModel", "all", "[I", true)
  | 1 => ("VillagePayModel", "has", "[Z", true)
  | 2 => ("VillagePayModel", "daysHeld", "[I", true)
  | 3 => ("VillagePayModel", "size", "I", false)
  | 4 => ("VillagePayModel", "next", "I", false)
  | 5 => ("VillagePayModel", "where", "I", false)
  | 6 => ("VillagePayModel", "token", "I", false)
  | 7 => ("VillagePayModel", "number", "I", false)
  | 8 => ("VillagePayModel", "sign", "I", false)
  | 9 => ("VillagePayModel", "word", "I", false)
  | 10 => ("VillagePayModel", "wrong", "Z", false)
  | 11 => ("VillagePayModel", "lines", "I", false)
  | 12 => ("VillagePayModel", "read", "[I", true)
  | 13 => ("VillagePayModel", "test", "[I", true)
  | 14 => ("VillagePayModel", "scale", "[I", true)
  | 15 => ("VillagePayModel", "deal", "[I", true)
  | 16 => ("VillagePayModel", "among", "[I", true)
  | 17 => ("VillagePayModel", "dues", "[I", true)
  | 18 => ("VillagePayModel", "got", "[I", true)
  | 19 => ("VillagePayModel", "goes", "[I", true)
  | 20 => ("VillagePayModel", "best0", "[I", true)
  | 21 => ("VillagePayModel", "deals", "I", false)
  | 22 => ("VillagePayModel", "many", "I", false)
  | 23 => ("VillagePayModel", "holder", "[I", true)
  | 24 => ("VillagePayModel", "row", "[I", true)
  | _ => ("VillagePayModel", "done", "[Z", true)
def vY12 : Nat → FieldType := fun k => match k with
  | 0 => .array .int
  | 1 => .array .boolean
  | 2 => .array .int
  | 3 => .int
  | 4 => .int
  | 5 => .int
  | 6 => .int
  | 7 => .int
  | 8 => .int
  | 9 => .int
  | 10 => .boolean
  | 11 => .int
  | 12 => .array .int
  | 13 => .array .int
  | 14 => .array .int
  | 15 => .array .int
  | 16 => .array .int
  | 17 => .array .int
  | 18 => .array .int
  | 19 => .array .int
  | 20 => .array .int
  | 21 => .int
  | 22 => .int
  | 23 => .array .int
  | 24 => .array .int
  | _ => .array .boolean
theorem vN12 : ∀ a, a < 26 → ∀ b, b < 26 → a ≠ b → (vT12 a).2.1 ≠ (vT12 b).2.1 := by decide +kernel
theorem vY12_ok : ∀ k, k < 26 → parseFieldDescriptor (vT12 k).2.2.1 = some (vY12 k) := by decide +kernel
theorem vI0 : ∀ w ∈ u_ws vC0 vT0 10, w ∈ wt := by
  intro w hw
  obtain ⟨k, hk, rfl⟩ := List.mem_map.mp hw
  have hk := List.mem_range.mp hk
  match k, hk with
  | 0, _ => exact wt_t2 227 (by decide +kernel) rfl
  | 1, _ => exact wt_t2 229 (by decide +kernel) rfl
  | 2, _ => exact wt_t2 231 (by decide +kernel) rfl
  | 3, _ => exact wt_t2 233 (by decide +kernel) rfl
  | 4, _ => exact wt_t2 235 (by decide +kernel) rfl
  | 5, _ => exact wt_t2 237 (by decide +kernel) rfl
  | 6, _ => exact wt_t2 239 (by decide +kernel) rfl
  | 7, _ => exact wt_t3 1 (by decide +kernel) rfl
  | 8, _ => exact wt_t3 3 (by decide +kernel) rfl
  | 9, _ => exact wt_t3 5 (by decide +kernel) rfl
  | k + 10, h => exact absurd h (by omega)
theorem vI1 : ∀ w ∈ u_ws vC1 vT1 6, w ∈ wt := by
  intro w hw
  obtain ⟨k, hk, rfl⟩ := List.mem_map.mp hw
  have hk := List.mem_range.mp hk
  match k, hk with
  | 0, _ => exact wt_t2 76 (by decide +kernel) rfl
  | 1, _ => exact wt_t2 78 (by decide +kernel) rfl
  | 2, _ => exact wt_t2 80 (by decide +kernel) rfl
  | 3, _ => exact wt_t2 82 (by decide +kernel) rfl
  | 4, _ => exact wt_t2 84 (by decide +kernel) rfl
  | 5, _ => exact wt_t2 86 (by decide +kernel) rfl
  | k + 6, h => exact absurd h (by omega)
theorem vI2 : ∀ w ∈ u_ws vC2 vT2 9, w ∈ wt := by
  intro w hw
  obtain ⟨k, hk, rfl⟩ := List.mem_map.mp hw
  have hk := List.mem_range.mp hk
  match k, hk with
  | 0, _ => exact wt_t1 71 (by decide +kernel) rfl
  | 1, _ => exact wt_t1 73 (by decide +kernel) rfl
  | 2, _ => exact wt_t1 75 (by decide +kernel) rfl
  | 3, _ => exact wt_t1 77 (by decide +kernel) rfl
  | 4, _ => exact wt_t1 79 (by decide +kernel) rfl
  | 5, _ => exact wt_t1 81 (by decide +kernel) rfl
  | 6, _ => exact wt_t1 83 (by decide +kernel) rfl
  | 7, _ => exact wt_t1 85 (by decide +kernel) rfl
  | 8, _ => exact wt_t1 87 (by decide +kernel) rfl
  | k + 9, h => exact absurd h (by omega)
theorem vI3 : ∀ w ∈ u_ws vC3 vT3 11, w ∈ wt := by
  intro w hw
  obtain ⟨k, hk, rfl⟩ := List.mem_map.mp hw
  have hk := List.mem_range.mp hk
  match k, hk with
  | 0, _ => exact wt_t1 123 (by decide +kernel) rfl
  | 1, _ => exact wt_t1 125 (by decide +kernel) rfl
  | 2, _ => exact wt_t1 127 (by decide +kernel) rfl
  | 3, _ => exact wt_t1 129 (by decide +kernel) rfl
  | 4, _ => exact wt_t1 131 (by decide +kernel) rfl
  | 5, _ => exact wt_t1 133 (by decide +kernel) rfl
  | 6, _ => exact wt_t1 135 (by decide +kernel) rfl
  | 7, _ => exact wt_t1 137 (by decide +kernel) rfl
  | 8, _ => exact wt_t1 139 (by decide +kernel) rfl
  | 9, _ => exact wt_t1 141 (by decide +kernel) rfl
  | 10, _ => exact wt_t1 143 (by decide +kernel) rfl
  | k + 11, h => exact absurd h (by omega)
theorem vI4 : ∀ w ∈ u_ws vC4 vT4 10, w ∈ wt := by
  intro w hw
  obtain ⟨k, hk, rfl⟩ := List.mem_map.mp hw
  have hk := List.mem_range.mp hk
  match k, hk with
  | 0, _ => exact wt_t1 183 (by decide +kernel) rfl
  | 1, _ => exact wt_t1 185 (by decide +kernel) rfl
  | 2, _ => exact wt_t1 187 (by decide +kernel) rfl
  | 3, _ => exact wt_t1 189 (by decide +kernel) rfl
  | 4, _ => exact wt_t1 191 (by decide +kernel) rfl
  | 5, _ => exact wt_t1 193 (by decide +kernel) rfl
  | 6, _ => exact wt_t1 195 (by decide +kernel) rfl
  | 7, _ => exact wt_t1 197 (by decide +kernel) rfl
  | 8, _ => exact wt_t1 199 (by decide +kernel) rfl
  | 9, _ => exact wt_t1 201 (by decide +kernel) rfl
  | k + 10, h => exact absurd h (by omega)
theorem vI5 : ∀ w ∈ u_ws vC5 vT5 4, w ∈ wt := by
  intro w hw
  obtain ⟨k, hk, rfl⟩ := List.mem_map.mp hw
  have hk := List.mem_range.mp hk
  match k, hk with
  | 0, _ => exact wt_t1 222 (by decide +kernel) rfl
  | 1, _ => exact wt_t1 224 (by decide +kernel) rfl
  | 2, _ => exact wt_t1 226 (by decide +kernel) rfl
  | 3, _ => exact wt_t1 228 (by decide +kernel) rfl
  | k + 4, h => exact absurd h (by omega)
theorem vI6 : ∀ w ∈ u_ws vC6 vT6 7, w ∈ wt := by
  intro w hw
  obtain ⟨k, hk, rfl⟩ := List.mem_map.mp hw
  have hk := List.mem_range.mp hk
  match k, hk with
  | 0, _ => exact wt_t2 6 (by decide +kernel) rfl
  | 1, _ => exact wt_t2 8 (by decide +kernel) rfl
  | 2, _ => exact wt_t2 10 (by decide +kernel) rfl
  | 3, _ => exact wt_t2 12 (by decide +kernel) rfl
  | 4, _ => exact wt_t2 14 (by decide +kernel) rfl
  | 5, _ => exact wt_t2 16 (by decide +kernel) rfl
  | 6, _ => exact wt_t2 18 (by decide +kernel) rfl
  | k + 7, h => exact absurd h (by omega)
theorem vI7 : ∀ w ∈ u_ws vC7 vT7 8, w ∈ wt := by
  intro w hw
  obtain ⟨k, hk, rfl⟩ := List.mem_map.mp hw
  have hk := List.mem_range.mp hk
  match k, hk with
  | 0, _ => exact wt_t2 38 (by decide +kernel) rfl
  | 1, _ => exact wt_t2 40 (by decide +kernel) rfl
  | 2, _ => exact wt_t2 42 (by decide +kernel) rfl
  | 3, _ => exact wt_t2 44 (by decide +kernel) rfl
  | 4, _ => exact wt_t2 46 (by decide +kernel) rfl
  | 5, _ => exact wt_t2 48 (by decide +kernel) rfl
  | 6, _ => exact wt_t2 50 (by decide +kernel) rfl
  | 7, _ => exact wt_t2 52 (by decide +kernel) rfl
  | k + 8, h => exact absurd h (by omega)
theorem vI8 : ∀ w ∈ u_ws vC8 vT8 7, w ∈ wt := by
  intro w hw
  obtain ⟨k, hk, rfl⟩ := List.mem_map.mp hw
  have hk := List.mem_range.mp hk
  match k, hk with
  | 0, _ => exact wt_t2 103 (by decide +kernel) rfl
  | 1, _ => exact wt_t2 105 (by decide +kernel) rfl
  | 2, _ => exact wt_t2 107 (by decide +kernel) rfl
  | 3, _ => exact wt_t2 109 (by decide +kernel) rfl
  | 4, _ => exact wt_t2 111 (by decide +kernel) rfl
  | 5, _ => exact wt_t2 113 (by decide +kernel) rfl
  | 6, _ => exact wt_t2 115 (by decide +kernel) rfl
  | k + 7, h => exact absurd h (by omega)
theorem vI9 : ∀ w ∈ u_ws vC9 vT9 11, w ∈ wt := by
  intro w hw
  obtain ⟨k, hk, rfl⟩ := List.mem_map.mp hw
  have hk := List.mem_range.mp hk
  match k, hk with
  | 0, _ => exact wt_t2 140 (by decide +kernel) rfl
  | 1, _ => exact wt_t2 142 (by decide +kernel) rfl
  | 2, _ => exact wt_t2 144 (by decide +kernel) rfl
  | 3, _ => exact wt_t2 146 (by decide +kernel) rfl
  | 4, _ => exact wt_t2 148 (by decide +kernel) rfl
  | 5, _ => exact wt_t2 150 (by decide +kernel) rfl
  | 6, _ => exact wt_t2 152 (by decide +kernel) rfl
  | 7, _ => exact wt_t2 154 (by decide +kernel) rfl
  | 8, _ => exact wt_t2 156 (by decide +kernel) rfl
  | 9, _ => exact wt_t2 158 (by decide +kernel) rfl
  | 10, _ => exact wt_t2 160 (by decide +kernel) rfl
  | k + 11, h => exact absurd h (by omega)
theorem vI10 : ∀ w ∈ u_ws vC10 vT10 3, w ∈ wt := by
  intro w hw
  obtain ⟨k, hk, rfl⟩ := List.mem_map.mp hw
  have hk := List.mem_range.mp hk
  match k, hk with
  | 0, _ => exact wt_t2 172 (by decide +kernel) rfl
  | 1, _ => exact wt_t2 174 (by decide +kernel) rfl
  | 2, _ => exact wt_t2 176 (by decide +kernel) rfl
  | k + 3, h => exact absurd h (by omega)
theorem vI11 : ∀ w ∈ u_ws vC11 vT11 10, w ∈ wt := by
  intro w hw
  obtain ⟨k, hk, rfl⟩ := List.mem_map.mp hw
  have hk := List.mem_range.mp hk
  match k, hk with
  | 0, _ => exact wt_t2 196 (by decide +kernel) rfl
  | 1, _ => exact wt_t2 198 (by decide +kernel) rfl
  | 2, _ => exact wt_t2 200 (by decide +kernel) rfl
  | 3, _ => exact wt_t2 202 (by decide +kernel) rfl
  | 4, _ => exact wt_t2 204 (by decide +kernel) rfl
  | 5, _ => exact wt_t2 206 (by decide +kernel) rfl
  | 6, _ => exact wt_t2 208 (by decide +kernel) rfl
  | 7, _ => exact wt_t2 210 (by decide +kernel) rfl
  | 8, _ => exact wt_t2 212 (by decide +kernel) rfl
  | 9, _ => exact wt_t2 214 (by decide +kernel) rfl
  | k + 10, h => exact absurd h (by omega)
theorem vI12 : ∀ w ∈ u_ws vC12 vT12 26, w ∈ wt := by
  intro w hw
  obtain ⟨k, hk, rfl⟩ := List.mem_map.mp hw
  have hk := List.mem_range.mp hk
  match k, hk with
  | 0, _ => exact wt_t5 144 (by decide +kernel) rfl
  | 1, _ => exact wt_t5 146 (by decide +kernel) rfl
  | 2, _ => exact wt_t5 148 (by decide +kernel) rfl
  | 3, _ => exact wt_t5 150 (by decide +kernel) rfl
  | 4, _ => exact wt_t5 152 (by decide +kernel) rfl
  | 5, _ => exact wt_t5 154 (by decide +kernel) rfl
  | 6, _ => exact wt_t5 156 (by decide +kernel) rfl
  | 7, _ => exact wt_t5 158 (by decide +kernel) rfl
  | 8, _ => exact wt_t5 160 (by decide +kernel) rfl
  | 9, _ => exact wt_t5 162 (by decide +kernel) rfl
  | 10, _ => exact wt_t5 164 (by decide +kernel) rfl
  | 11, _ => exact wt_t5 166 (by decide +kernel) rfl
  | 12, _ => exact wt_t5 168 (by decide +kernel) rfl
  | 13, _ => exact wt_t5 170 (by decide +kernel) rfl
  | 14, _ => exact wt_t5 172 (by decide +kernel) rfl
  | 15, _ => exact wt_t5 174 (by decide +kernel) rfl
  | 16, _ => exact wt_t5 176 (by decide +kernel) rfl
  | 17, _ => exact wt_t5 178 (by decide +kernel) rfl
  | 18, _ => exact wt_t5 180 (by decide +kernel) rfl
  | 19, _ => exact wt_t5 182 (by decide +kernel) rfl
  | 20, _ => exact wt_t5 184 (by decide +kernel) rfl
  | 21, _ => exact wt_t5 186 (by decide +kernel) rfl
  | 22, _ => exact wt_t5 188 (by decide +kernel) rfl
  | 23, _ => exact wt_t5 190 (by decide +kernel) rfl
  | 24, _ => exact wt_t5 192 (by decide +kernel) rfl
  | 25, _ => exact wt_t5 194 (by decide +kernel) rfl
  | k + 26, h => exact absurd h (by omega)
abbrev vcl : List vw_C := [(vC0, vT0, 10), (vC1, vT1, 6), (vC2, vT2, 9), (vC3, vT3, 11), (vC4, vT4, 10), (vC5, vT5, 4), (vC6, vT6, 7), (vC7, vT7, 8), (vC8, vT8, 7), (vC9, vT9, 11), (vC10, vT10, 3), (vC11, vT11, 10), (vC12, vT12, 26)]
