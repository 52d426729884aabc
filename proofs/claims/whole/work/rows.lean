section
-- ===== PART A: goes FIRST, ahead of the names: the tables' words, and 'selects' of the private methods out of them =====
/-- a private method of a class that the tables say can be made, by its rows of tables_1 -/
def lw_okq (q : MethodName × Nat) : Prop := (q.1.cls ≠ "java/lang/invoke/MethodHandle" ∧ q.1.cls ≠ "java/lang/invoke/VarHandle") ∧ Cond.instantiable q.1.cls q.2 ∈ tables_1 ∧ Cond.privateMethod q.1 ∈ tables_1 ∧ Cond.instanceMethod q.1 ∈ tables_1
theorem lw_p0 : lw_okq (⟨"MulticastTrees$Net", "measure", "()V"⟩, 4) := ⟨⟨by decide +kernel, by decide +kernel⟩, List.mem_of_getElem? (i := 47) (by decide +kernel), List.mem_of_getElem? (i := 55) (by decide +kernel), List.mem_of_getElem? (i := 56) (by decide +kernel)⟩
theorem lw_p1 : lw_okq (⟨"MulticastTrees$Net", "startLengths", "()V"⟩, 4) := ⟨⟨by decide +kernel, by decide +kernel⟩, List.mem_of_getElem? (i := 47) (by decide +kernel), List.mem_of_getElem? (i := 59) (by decide +kernel), List.mem_of_getElem? (i := 60) (by decide +kernel)⟩
theorem lw_p2 : lw_okq (⟨"MulticastTrees$Net", "shortenBy", "(I)V"⟩, 4) := ⟨⟨by decide +kernel, by decide +kernel⟩, List.mem_of_getElem? (i := 47) (by decide +kernel), List.mem_of_getElem? (i := 67) (by decide +kernel), List.mem_of_getElem? (i := 68) (by decide +kernel)⟩
theorem lw_p3 : lw_okq (⟨"MulticastTrees$Net", "findNext", "(II)I"⟩, 4) := ⟨⟨by decide +kernel, by decide +kernel⟩, List.mem_of_getElem? (i := 47) (by decide +kernel), List.mem_of_getElem? (i := 74) (by decide +kernel), List.mem_of_getElem? (i := 75) (by decide +kernel)⟩
theorem lw_p4 : lw_okq (⟨"MulticastTrees$Net", "orderTowards", "(I)V"⟩, 4) := ⟨⟨by decide +kernel, by decide +kernel⟩, List.mem_of_getElem? (i := 47) (by decide +kernel), List.mem_of_getElem? (i := 82) (by decide +kernel), List.mem_of_getElem? (i := 83) (by decide +kernel)⟩
theorem lw_p5 : lw_okq (⟨"MulticastTrees$Trees", "settleShared", "(I)V"⟩, 12) := ⟨⟨by decide +kernel, by decide +kernel⟩, List.mem_of_getElem? (i := 145) (by decide +kernel), List.mem_of_getElem? (i := 321) (by decide +kernel), List.mem_of_getElem? (i := 322) (by decide +kernel)⟩
theorem lw_p6 : lw_okq (⟨"MulticastTrees$Trees", "announce", "(IIII)V"⟩, 12) := ⟨⟨by decide +kernel, by decide +kernel⟩, List.mem_of_getElem? (i := 145) (by decide +kernel), List.mem_of_getElem? (i := 341) (by decide +kernel), List.mem_of_getElem? (i := 342) (by decide +kernel)⟩
theorem lw_p7 : lw_okq (⟨"MulticastTrees$Trees", "settleCuts", "(II)V"⟩, 12) := ⟨⟨by decide +kernel, by decide +kernel⟩, List.mem_of_getElem? (i := 145) (by decide +kernel), List.mem_of_getElem? (i := 350) (by decide +kernel), List.mem_of_getElem? (i := 351) (by decide +kernel)⟩
theorem lw_p8 : lw_okq (⟨"MulticastTrees$Trees", "takesElsewhere", "(III)Z"⟩, 12) := ⟨⟨by decide +kernel, by decide +kernel⟩, List.mem_of_getElem? (i := 145) (by decide +kernel), List.mem_of_getElem? (i := 357) (by decide +kernel), List.mem_of_getElem? (i := 358) (by decide +kernel)⟩
theorem lw_p9 : lw_okq (⟨"MulticastTrees$Trees", "settleSources", "(II)V"⟩, 12) := ⟨⟨by decide +kernel, by decide +kernel⟩, List.mem_of_getElem? (i := 145) (by decide +kernel), List.mem_of_getElem? (i := 368) (by decide +kernel), List.mem_of_getElem? (i := 369) (by decide +kernel)⟩
theorem lw_p10 : lw_okq (⟨"MulticastTrees$Lans", "report", "(III)V"⟩, 5) := ⟨⟨by decide +kernel, by decide +kernel⟩, List.mem_of_getElem? (i := 99) (by decide +kernel), List.mem_of_getElem? (i := 410) (by decide +kernel), List.mem_of_getElem? (i := 411) (by decide +kernel)⟩
theorem lw_p11 : lw_okq (⟨"MulticastTrees$Lans", "reportLowest", "(II)V"⟩, 5) := ⟨⟨by decide +kernel, by decide +kernel⟩, List.mem_of_getElem? (i := 99) (by decide +kernel), List.mem_of_getElem? (i := 426) (by decide +kernel), List.mem_of_getElem? (i := 427) (by decide +kernel)⟩
theorem lw_p12 : lw_okq (⟨"MulticastTrees$Streams", "isAliveSomewhere", "(I)Z"⟩, 4) := ⟨⟨by decide +kernel, by decide +kernel⟩, List.mem_of_getElem? (i := 125) (by decide +kernel), List.mem_of_getElem? (i := 471) (by decide +kernel), List.mem_of_getElem? (i := 472) (by decide +kernel)⟩
theorem lw_p13 : lw_okq (⟨"MulticastTrees$Packets", "switchJoined", "(II)V"⟩, 12) := ⟨⟨by decide +kernel, by decide +kernel⟩, List.mem_of_getElem? (i := 190) (by decide +kernel), List.mem_of_getElem? (i := 481) (by decide +kernel), List.mem_of_getElem? (i := 482) (by decide +kernel)⟩
theorem lw_p14 : lw_okq (⟨"MulticastTrees$Packets", "register", "(II)Z"⟩, 12) := ⟨⟨by decide +kernel, by decide +kernel⟩, List.mem_of_getElem? (i := 190) (by decide +kernel), List.mem_of_getElem? (i := 502) (by decide +kernel), List.mem_of_getElem? (i := 503) (by decide +kernel)⟩
theorem lw_p15 : lw_okq (⟨"MulticastTrees$Packets", "carry", "(II)V"⟩, 12) := ⟨⟨by decide +kernel, by decide +kernel⟩, List.mem_of_getElem? (i := 190) (by decide +kernel), List.mem_of_getElem? (i := 521) (by decide +kernel), List.mem_of_getElem? (i := 522) (by decide +kernel)⟩
def lw_privs_1 : List (MethodName × Nat) := [(⟨"MulticastTrees$Net", "measure", "()V"⟩, 4), (⟨"MulticastTrees$Net", "startLengths", "()V"⟩, 4), (⟨"MulticastTrees$Net", "shortenBy", "(I)V"⟩, 4), (⟨"MulticastTrees$Net", "findNext", "(II)I"⟩, 4), (⟨"MulticastTrees$Net", "orderTowards", "(I)V"⟩, 4), (⟨"MulticastTrees$Trees", "settleShared", "(I)V"⟩, 12), (⟨"MulticastTrees$Trees", "announce", "(IIII)V"⟩, 12), (⟨"MulticastTrees$Trees", "settleCuts", "(II)V"⟩, 12), (⟨"MulticastTrees$Trees", "takesElsewhere", "(III)Z"⟩, 12), (⟨"MulticastTrees$Trees", "settleSources", "(II)V"⟩, 12), (⟨"MulticastTrees$Lans", "report", "(III)V"⟩, 5), (⟨"MulticastTrees$Lans", "reportLowest", "(II)V"⟩, 5), (⟨"MulticastTrees$Streams", "isAliveSomewhere", "(I)Z"⟩, 4), (⟨"MulticastTrees$Packets", "switchJoined", "(II)V"⟩, 12), (⟨"MulticastTrees$Packets", "register", "(II)Z"⟩, 12), (⟨"MulticastTrees$Packets", "carry", "(II)V"⟩, 12)]
theorem lw_r1 : ∀ q ∈ lw_privs_1, lw_okq q := List.forall_mem_cons.mpr ⟨lw_p0, List.forall_mem_cons.mpr ⟨lw_p1, List.forall_mem_cons.mpr ⟨lw_p2, List.forall_mem_cons.mpr ⟨lw_p3, List.forall_mem_cons.mpr ⟨lw_p4, List.forall_mem_cons.mpr ⟨lw_p5, List.forall_mem_cons.mpr ⟨lw_p6, List.forall_mem_cons.mpr ⟨lw_p7, List.forall_mem_cons.mpr ⟨lw_p8, List.forall_mem_cons.mpr ⟨lw_p9, List.forall_mem_cons.mpr ⟨lw_p10, List.forall_mem_cons.mpr ⟨lw_p11, List.forall_mem_cons.mpr ⟨lw_p12, List.forall_mem_cons.mpr ⟨lw_p13, List.forall_mem_cons.mpr ⟨lw_p14, List.forall_mem_cons.mpr ⟨lw_p15, fun _ h => absurd h List.not_mem_nil⟩⟩⟩⟩⟩⟩⟩⟩⟩⟩⟩⟩⟩⟩⟩⟩
theorem lw_p16 : lw_okq (⟨"MulticastTrees$Packets", "putOut", "(III)V"⟩, 12) := ⟨⟨by decide +kernel, by decide +kernel⟩, List.mem_of_getElem? (i := 190) (by decide +kernel), List.mem_of_getElem? (i := 525) (by decide +kernel), List.mem_of_getElem? (i := 526) (by decide +kernel)⟩
theorem lw_p17 : lw_okq (⟨"MulticastTrees$Packets", "cross", "(IIII)V"⟩, 12) := ⟨⟨by decide +kernel, by decide +kernel⟩, List.mem_of_getElem? (i := 190) (by decide +kernel), List.mem_of_getElem? (i := 534) (by decide +kernel), List.mem_of_getElem? (i := 535) (by decide +kernel)⟩
theorem lw_p18 : lw_okq (⟨"MulticastTrees$Packets", "renewCarriers", "(II)V"⟩, 12) := ⟨⟨by decide +kernel, by decide +kernel⟩, List.mem_of_getElem? (i := 190) (by decide +kernel), List.mem_of_getElem? (i := 539) (by decide +kernel), List.mem_of_getElem? (i := 540) (by decide +kernel)⟩
theorem lw_p19 : lw_okq (⟨"MulticastTrees$Packets", "listen", "()V"⟩, 12) := ⟨⟨by decide +kernel, by decide +kernel⟩, List.mem_of_getElem? (i := 190) (by decide +kernel), List.mem_of_getElem? (i := 543) (by decide +kernel), List.mem_of_getElem? (i := 544) (by decide +kernel)⟩
theorem lw_p20 : lw_okq (⟨"MulticastTrees$Files", "store", "(III)V"⟩, 13) := ⟨⟨by decide +kernel, by decide +kernel⟩, List.mem_of_getElem? (i := 233) (by decide +kernel), List.mem_of_getElem? (i := 664) (by decide +kernel), List.mem_of_getElem? (i := 665) (by decide +kernel)⟩
theorem lw_p21 : lw_okq (⟨"MulticastTrees$Files", "drawWaits", "(I)V"⟩, 13) := ⟨⟨by decide +kernel, by decide +kernel⟩, List.mem_of_getElem? (i := 233) (by decide +kernel), List.mem_of_getElem? (i := 680) (by decide +kernel), List.mem_of_getElem? (i := 681) (by decide +kernel)⟩
theorem lw_p22 : lw_okq (⟨"MulticastTrees$Files", "takesPart", "(II)Z"⟩, 13) := ⟨⟨by decide +kernel, by decide +kernel⟩, List.mem_of_getElem? (i := 233) (by decide +kernel), List.mem_of_getElem? (i := 684) (by decide +kernel), List.mem_of_getElem? (i := 685) (by decide +kernel)⟩
theorem lw_p23 : lw_okq (⟨"MulticastTrees$Files", "missingAt", "(II)I"⟩, 13) := ⟨⟨by decide +kernel, by decide +kernel⟩, List.mem_of_getElem? (i := 233) (by decide +kernel), List.mem_of_getElem? (i := 689) (by decide +kernel), List.mem_of_getElem? (i := 690) (by decide +kernel)⟩
theorem lw_p24 : lw_okq (⟨"MulticastTrees$Files", "draw", "()I"⟩, 13) := ⟨⟨by decide +kernel, by decide +kernel⟩, List.mem_of_getElem? (i := 233) (by decide +kernel), List.mem_of_getElem? (i := 693) (by decide +kernel), List.mem_of_getElem? (i := 694) (by decide +kernel)⟩
theorem lw_p25 : lw_okq (⟨"MulticastTreesModel", "ways", "()V"⟩, 36) := ⟨⟨by decide +kernel, by decide +kernel⟩, List.mem_of_getElem? (i := 710) (by decide +kernel), List.mem_of_getElem? (i := 719) (by decide +kernel), List.mem_of_getElem? (i := 720) (by decide +kernel)⟩
theorem lw_p26 : lw_okq (⟨"MulticastTreesModel", "settle", "()V"⟩, 36) := ⟨⟨by decide +kernel, by decide +kernel⟩, List.mem_of_getElem? (i := 710) (by decide +kernel), List.mem_of_getElem? (i := 837) (by decide +kernel), List.mem_of_getElem? (i := 838) (by decide +kernel)⟩
theorem lw_p27 : lw_okq (⟨"MulticastTreesModel", "round", "()Z"⟩, 36) := ⟨⟨by decide +kernel, by decide +kernel⟩, List.mem_of_getElem? (i := 710) (by decide +kernel), List.mem_of_getElem? (i := 841) (by decide +kernel), List.mem_of_getElem? (i := 842) (by decide +kernel)⟩
theorem lw_p28 : lw_okq (⟨"MulticastTreesModel", "sharedDue", "(II)I"⟩, 36) := ⟨⟨by decide +kernel, by decide +kernel⟩, List.mem_of_getElem? (i := 710) (by decide +kernel), List.mem_of_getElem? (i := 845) (by decide +kernel), List.mem_of_getElem? (i := 846) (by decide +kernel)⟩
theorem lw_p29 : lw_okq (⟨"MulticastTreesModel", "onLan", "(II)Z"⟩, 36) := ⟨⟨by decide +kernel, by decide +kernel⟩, List.mem_of_getElem? (i := 710) (by decide +kernel), List.mem_of_getElem? (i := 849) (by decide +kernel), List.mem_of_getElem? (i := 850) (by decide +kernel)⟩
theorem lw_p30 : lw_okq (⟨"MulticastTreesModel", "cutDue", "(II)I"⟩, 36) := ⟨⟨by decide +kernel, by decide +kernel⟩, List.mem_of_getElem? (i := 710) (by decide +kernel), List.mem_of_getElem? (i := 853) (by decide +kernel), List.mem_of_getElem? (i := 854) (by decide +kernel)⟩
theorem lw_p31 : lw_okq (⟨"MulticastTreesModel", "many", "(IIZ)I"⟩, 36) := ⟨⟨by decide +kernel, by decide +kernel⟩, List.mem_of_getElem? (i := 710) (by decide +kernel), List.mem_of_getElem? (i := 857) (by decide +kernel), List.mem_of_getElem? (i := 858) (by decide +kernel)⟩
def lw_privs_2 : List (MethodName × Nat) := [(⟨"MulticastTrees$Packets", "putOut", "(III)V"⟩, 12), (⟨"MulticastTrees$Packets", "cross", "(IIII)V"⟩, 12), (⟨"MulticastTrees$Packets", "renewCarriers", "(II)V"⟩, 12), (⟨"MulticastTrees$Packets", "listen", "()V"⟩, 12), (⟨"MulticastTrees$Files", "store", "(III)V"⟩, 13), (⟨"MulticastTrees$Files", "drawWaits", "(I)V"⟩, 13), (⟨"MulticastTrees$Files", "takesPart", "(II)Z"⟩, 13), (⟨"MulticastTrees$Files", "missingAt", "(II)I"⟩, 13), (⟨"MulticastTrees$Files", "draw", "()I"⟩, 13), (⟨"MulticastTreesModel", "ways", "()V"⟩, 36), (⟨"MulticastTreesModel", "settle", "()V"⟩, 36), (⟨"MulticastTreesModel", "round", "()Z"⟩, 36), (⟨"MulticastTreesModel", "sharedDue", "(II)I"⟩, 36), (⟨"MulticastTreesModel", "onLan", "(II)Z"⟩, 36), (⟨"MulticastTreesModel", "cutDue", "(II)I"⟩, 36), (⟨"MulticastTreesModel", "many", "(IIZ)I"⟩, 36)]
theorem lw_r2 : ∀ q ∈ lw_privs_2, lw_okq q := List.forall_mem_cons.mpr ⟨lw_p16, List.forall_mem_cons.mpr ⟨lw_p17, List.forall_mem_cons.mpr ⟨lw_p18, List.forall_mem_cons.mpr ⟨lw_p19, List.forall_mem_cons.mpr ⟨lw_p20, List.forall_mem_cons.mpr ⟨lw_p21, List.forall_mem_cons.mpr ⟨lw_p22, List.forall_mem_cons.mpr ⟨lw_p23, List.forall_mem_cons.mpr ⟨lw_p24, List.forall_mem_cons.mpr ⟨lw_p25, List.forall_mem_cons.mpr ⟨lw_p26, List.forall_mem_cons.mpr ⟨lw_p27, List.forall_mem_cons.mpr ⟨lw_p28, List.forall_mem_cons.mpr ⟨lw_p29, List.forall_mem_cons.mpr ⟨lw_p30, List.forall_mem_cons.mpr ⟨lw_p31, fun _ h => absurd h List.not_mem_nil⟩⟩⟩⟩⟩⟩⟩⟩⟩⟩⟩⟩⟩⟩⟩⟩
theorem lw_p32 : lw_okq (⟨"MulticastTreesModel", "outer", "(III)Z"⟩, 36) := ⟨⟨by decide +kernel, by decide +kernel⟩, List.mem_of_getElem? (i := 710) (by decide +kernel), List.mem_of_getElem? (i := 861) (by decide +kernel), List.mem_of_getElem? (i := 862) (by decide +kernel)⟩
theorem lw_p33 : lw_okq (⟨"MulticastTreesModel", "inner", "(III)Z"⟩, 36) := ⟨⟨by decide +kernel, by decide +kernel⟩, List.mem_of_getElem? (i := 710) (by decide +kernel), List.mem_of_getElem? (i := 865) (by decide +kernel), List.mem_of_getElem? (i := 866) (by decide +kernel)⟩
theorem lw_p34 : lw_okq (⟨"MulticastTreesModel", "pullDue", "(II)I"⟩, 36) := ⟨⟨by decide +kernel, by decide +kernel⟩, List.mem_of_getElem? (i := 710) (by decide +kernel), List.mem_of_getElem? (i := 869) (by decide +kernel), List.mem_of_getElem? (i := 870) (by decide +kernel)⟩
theorem lw_p35 : lw_okq (⟨"MulticastTreesModel", "tell", "(IIII)V"⟩, 36) := ⟨⟨by decide +kernel, by decide +kernel⟩, List.mem_of_getElem? (i := 710) (by decide +kernel), List.mem_of_getElem? (i := 873) (by decide +kernel), List.mem_of_getElem? (i := 874) (by decide +kernel)⟩
theorem lw_p36 : lw_okq (⟨"MulticastTreesModel", "isHost", "(III)Z"⟩, 36) := ⟨⟨by decide +kernel, by decide +kernel⟩, List.mem_of_getElem? (i := 710) (by decide +kernel), List.mem_of_getElem? (i := 889) (by decide +kernel), List.mem_of_getElem? (i := 890) (by decide +kernel)⟩
theorem lw_p37 : lw_okq (⟨"MulticastTreesModel", "report", "(III)V"⟩, 36) := ⟨⟨by decide +kernel, by decide +kernel⟩, List.mem_of_getElem? (i := 710) (by decide +kernel), List.mem_of_getElem? (i := 896) (by decide +kernel), List.mem_of_getElem? (i := 897) (by decide +kernel)⟩
theorem lw_p38 : lw_okq (⟨"MulticastTreesModel", "lowest", "(II)I"⟩, 36) := ⟨⟨by decide +kernel, by decide +kernel⟩, List.mem_of_getElem? (i := 710) (by decide +kernel), List.mem_of_getElem? (i := 904) (by decide +kernel), List.mem_of_getElem? (i := 905) (by decide +kernel)⟩
theorem lw_p39 : lw_okq (⟨"MulticastTreesModel", "refused", "(II)Z"⟩, 36) := ⟨⟨by decide +kernel, by decide +kernel⟩, List.mem_of_getElem? (i := 710) (by decide +kernel), List.mem_of_getElem? (i := 932) (by decide +kernel), List.mem_of_getElem? (i := 933) (by decide +kernel)⟩
theorem lw_p40 : lw_okq (⟨"MulticastTreesModel", "runs", "(I)Z"⟩, 36) := ⟨⟨by decide +kernel, by decide +kernel⟩, List.mem_of_getElem? (i := 710) (by decide +kernel), List.mem_of_getElem? (i := 936) (by decide +kernel), List.mem_of_getElem? (i := 937) (by decide +kernel)⟩
theorem lw_p41 : lw_okq (⟨"MulticastTreesModel", "packet", "(II)I"⟩, 36) := ⟨⟨by decide +kernel, by decide +kernel⟩, List.mem_of_getElem? (i := 710) (by decide +kernel), List.mem_of_getElem? (i := 940) (by decide +kernel), List.mem_of_getElem? (i := 941) (by decide +kernel)⟩
theorem lw_p42 : lw_okq (⟨"MulticastTreesModel", "register", "(II)Z"⟩, 36) := ⟨⟨by decide +kernel, by decide +kernel⟩, List.mem_of_getElem? (i := 710) (by decide +kernel), List.mem_of_getElem? (i := 944) (by decide +kernel), List.mem_of_getElem? (i := 945) (by decide +kernel)⟩
theorem lw_p43 : lw_okq (⟨"MulticastTreesModel", "putOut", "(III)V"⟩, 36) := ⟨⟨by decide +kernel, by decide +kernel⟩, List.mem_of_getElem? (i := 710) (by decide +kernel), List.mem_of_getElem? (i := 948) (by decide +kernel), List.mem_of_getElem? (i := 949) (by decide +kernel)⟩
theorem lw_p44 : lw_okq (⟨"MulticastTreesModel", "arrive", "(II)I"⟩, 36) := ⟨⟨by decide +kernel, by decide +kernel⟩, List.mem_of_getElem? (i := 710) (by decide +kernel), List.mem_of_getElem? (i := 952) (by decide +kernel), List.mem_of_getElem? (i := 953) (by decide +kernel)⟩
theorem lw_p45 : lw_okq (⟨"MulticastTreesModel", "isFile", "(I)Z"⟩, 36) := ⟨⟨by decide +kernel, by decide +kernel⟩, List.mem_of_getElem? (i := 710) (by decide +kernel), List.mem_of_getElem? (i := 984) (by decide +kernel), List.mem_of_getElem? (i := 985) (by decide +kernel)⟩
theorem lw_p46 : lw_okq (⟨"MulticastTreesModel", "take", "(I)I"⟩, 36) := ⟨⟨by decide +kernel, by decide +kernel⟩, List.mem_of_getElem? (i := 710) (by decide +kernel), List.mem_of_getElem? (i := 988) (by decide +kernel), List.mem_of_getElem? (i := 989) (by decide +kernel)⟩
theorem lw_p47 : lw_okq (⟨"MulticastTreesModel", "missing", "(II)I"⟩, 36) := ⟨⟨by decide +kernel, by decide +kernel⟩, List.mem_of_getElem? (i := 710) (by decide +kernel), List.mem_of_getElem? (i := 996) (by decide +kernel), List.mem_of_getElem? (i := 997) (by decide +kernel)⟩
def lw_privs_3 : List (MethodName × Nat) := [(⟨"MulticastTreesModel", "outer", "(III)Z"⟩, 36), (⟨"MulticastTreesModel", "inner", "(III)Z"⟩, 36), (⟨"MulticastTreesModel", "pullDue", "(II)I"⟩, 36), (⟨"MulticastTreesModel", "tell", "(IIII)V"⟩, 36), (⟨"MulticastTreesModel", "isHost", "(III)Z"⟩, 36), (⟨"MulticastTreesModel", "report", "(III)V"⟩, 36), (⟨"MulticastTreesModel", "lowest", "(II)I"⟩, 36), (⟨"MulticastTreesModel", "refused", "(II)Z"⟩, 36), (⟨"MulticastTreesModel", "runs", "(I)Z"⟩, 36), (⟨"MulticastTreesModel", "packet", "(II)I"⟩, 36), (⟨"MulticastTreesModel", "register", "(II)Z"⟩, 36), (⟨"MulticastTreesModel", "putOut", "(III)V"⟩, 36), (⟨"MulticastTreesModel", "arrive", "(II)I"⟩, 36), (⟨"MulticastTreesModel", "isFile", "(I)Z"⟩, 36), (⟨"MulticastTreesModel", "take", "(I)I"⟩, 36), (⟨"MulticastTreesModel", "missing", "(II)I"⟩, 36)]
theorem lw_r3 : ∀ q ∈ lw_privs_3, lw_okq q := List.forall_mem_cons.mpr ⟨lw_p32, List.forall_mem_cons.mpr ⟨lw_p33, List.forall_mem_cons.mpr ⟨lw_p34, List.forall_mem_cons.mpr ⟨lw_p35, List.forall_mem_cons.mpr ⟨lw_p36, List.forall_mem_cons.mpr ⟨lw_p37, List.forall_mem_cons.mpr ⟨lw_p38, List.forall_mem_cons.mpr ⟨lw_p39, List.forall_mem_cons.mpr ⟨lw_p40, List.forall_mem_cons.mpr ⟨lw_p41, List.forall_mem_cons.mpr ⟨lw_p42, List.forall_mem_cons.mpr ⟨lw_p43, List.forall_mem_cons.mpr ⟨lw_p44, List.forall_mem_cons.mpr ⟨lw_p45, List.forall_mem_cons.mpr ⟨lw_p46, List.forall_mem_cons.mpr ⟨lw_p47, fun _ h => absurd h List.not_mem_nil⟩⟩⟩⟩⟩⟩⟩⟩⟩⟩⟩⟩⟩⟩⟩⟩
def lw_privs : List (MethodName × Nat) := lw_privs_1 ++ (lw_privs_2 ++ (lw_privs_3))
def lw_tbl : List Cond := k2_sels lw_privs ++ tables_1
theorem lw_privs_ok : ∀ q ∈ lw_privs, lw_okq q := by
  show ∀ q ∈ lw_privs_1 ++ (lw_privs_2 ++ (lw_privs_3)), lw_okq q
  exact List.forall_mem_append.mpr ⟨lw_r1, List.forall_mem_append.mpr ⟨lw_r2, lw_r3⟩⟩
end
section
/-! names: printed by names.py out of the Statement -/
def R_Ck : String := "MulticastTrees$Clock"
def R_Fi : String := "MulticastTrees$Files"
def R_La : String := "MulticastTrees$Lans"
def R_Ne : String := "MulticastTrees$Net"
def R_Pa : String := "MulticastTrees$Packets"
def R_Sm : String := "MulticastTrees$Streams"
def R_Ta : String := "MulticastTrees$Tally"
def R_Tr : String := "MulticastTrees$Trees"
def R_MT : String := "MulticastTrees"
def R_Mo : String := "MulticastTreesModel"
def R_JI : String := "java/lang/Integer"
def R_JM : String := "java/lang/Math"
def R_JA : String := "java/util/Arrays"
def T_Ck : u_T := fun k => match k with
  | _ => ("MulticastTrees$Clock", "now", "I", false)
def ty_Ck : Nat → FieldType := fun k => match k with
  | _ => .int
def T_Fi : u_T := fun k => match k with
  | 0 => ("MulticastTrees$Files", "net", "LMulticastTrees$Net;", true)
  | 1 => ("MulticastTrees$Files", "lans", "LMulticastTrees$Lans;", true)
  | 2 => ("MulticastTrees$Files", "tally", "LMulticastTrees$Tally;", true)
  | 3 => ("MulticastTrees$Files", "source", "[I", true)
  | 4 => ("MulticastTrees$Files", "group", "[I", true)
  | 5 => ("MulticastTrees$Files", "blocks", "[I", true)
  | 6 => ("MulticastTrees$Files", "next", "[I", true)
  | 7 => ("MulticastTrees$Files", "repairs", "[I", true)
  | 8 => ("MulticastTrees$Files", "got", "[[I", true)
  | 9 => ("MulticastTrees$Files", "horizon", "[[I", true)
  | 10 => ("MulticastTrees$Files", "wait", "[I", true)
  | 11 => ("MulticastTrees$Files", "count", "I", false)
  | _ => ("MulticastTrees$Files", "drawn", "I", false)
def ty_Fi : Nat → FieldType := fun k => match k with
  | 0 => .object "MulticastTrees$Net"
  | 1 => .object "MulticastTrees$Lans"
  | 2 => .object "MulticastTrees$Tally"
  | 3 => .array .int
  | 4 => .array .int
  | 5 => .array .int
  | 6 => .array .int
  | 7 => .array .int
  | 8 => .array (.array .int)
  | 9 => .array (.array .int)
  | 10 => .array .int
  | 11 => .int
  | _ => .int
def T_La : u_T := fun k => match k with
  | 0 => ("MulticastTrees$Lans", "clock", "LMulticastTrees$Clock;", true)
  | 1 => ("MulticastTrees$Lans", "members", "[[I", true)
  | 2 => ("MulticastTrees$Lans", "until", "[[I", true)
  | 3 => ("MulticastTrees$Lans", "reporter", "[[I", true)
  | _ => ("MulticastTrees$Lans", "losses", "[I", true)
def ty_La : Nat → FieldType := fun k => match k with
  | 0 => .object "MulticastTrees$Clock"
  | 1 => .array (.array .int)
  | 2 => .array (.array .int)
  | 3 => .array (.array .int)
  | _ => .array .int
def T_Ne : u_T := fun k => match k with
  | 0 => ("MulticastTrees$Net", "cost", "[[I", true)
  | 1 => ("MulticastTrees$Net", "length", "[[I", true)
  | 2 => ("MulticastTrees$Net", "next", "[[I", true)
  | _ => ("MulticastTrees$Net", "farFirst", "[[I", true)
def ty_Ne : Nat → FieldType := fun k => match k with
  | 0 => .array (.array .int)
  | 1 => .array (.array .int)
  | 2 => .array (.array .int)
  | _ => .array (.array .int)
def T_Pa : u_T := fun k => match k with
  | 0 => ("MulticastTrees$Packets", "net", "LMulticastTrees$Net;", true)
  | 1 => ("MulticastTrees$Packets", "lans", "LMulticastTrees$Lans;", true)
  | 2 => ("MulticastTrees$Packets", "streams", "LMulticastTrees$Streams;", true)
  | 3 => ("MulticastTrees$Packets", "trees", "LMulticastTrees$Trees;", true)
  | 4 => ("MulticastTrees$Packets", "tally", "LMulticastTrees$Tally;", true)
  | 5 => ("MulticastTrees$Packets", "carrier", "[I", true)
  | 6 => ("MulticastTrees$Packets", "takenFrom", "[I", true)
  | 7 => ("MulticastTrees$Packets", "carriers", "I", false)
  | 8 => ("MulticastTrees$Packets", "crossed", "I", false)
  | 9 => ("MulticastTrees$Packets", "dropped", "I", false)
  | 10 => ("MulticastTrees$Packets", "reachedSet", "I", false)
  | _ => ("MulticastTrees$Packets", "heardSet", "I", false)
def ty_Pa : Nat → FieldType := fun k => match k with
  | 0 => .object "MulticastTrees$Net"
  | 1 => .object "MulticastTrees$Lans"
  | 2 => .object "MulticastTrees$Streams"
  | 3 => .object "MulticastTrees$Trees"
  | 4 => .object "MulticastTrees$Tally"
  | 5 => .array .int
  | 6 => .array .int
  | 7 => .int
  | 8 => .int
  | 9 => .int
  | 10 => .int
  | _ => .int
def T_Sm : u_T := fun k => match k with
  | 0 => ("MulticastTrees$Streams", "clock", "LMulticastTrees$Clock;", true)
  | 1 => ("MulticastTrees$Streams", "keepalive", "[[I", true)
  | 2 => ("MulticastTrees$Streams", "switched", "[I", true)
  | _ => ("MulticastTrees$Streams", "quiet", "[I", true)
def ty_Sm : Nat → FieldType := fun k => match k with
  | 0 => .object "MulticastTrees$Clock"
  | 1 => .array (.array .int)
  | 2 => .array .int
  | _ => .array .int
def T_Ta : u_T := fun k => match k with
  | _ => ("MulticastTrees$Tally", "counts", "[I", true)
def ty_Ta : Nat → FieldType := fun k => match k with
  | _ => .array .int
def T_Tr : u_T := fun k => match k with
  | 0 => ("MulticastTrees$Trees", "meet", "I", true)
  | 1 => ("MulticastTrees$Trees", "net", "LMulticastTrees$Net;", true)
  | 2 => ("MulticastTrees$Trees", "lans", "LMulticastTrees$Lans;", true)
  | 3 => ("MulticastTrees$Trees", "streams", "LMulticastTrees$Streams;", true)
  | 4 => ("MulticastTrees$Trees", "tally", "LMulticastTrees$Tally;", true)
  | 5 => ("MulticastTrees$Trees", "sharedAt", "[[I", true)
  | 6 => ("MulticastTrees$Trees", "sharedFrom", "[[I", true)
  | 7 => ("MulticastTrees$Trees", "cutAt", "[[I", true)
  | 8 => ("MulticastTrees$Trees", "sourceAt", "[[I", true)
  | 9 => ("MulticastTrees$Trees", "inner", "[[I", true)
  | 10 => ("MulticastTrees$Trees", "outer", "[[I", true)
  | _ => ("MulticastTrees$Trees", "sourceFrom", "[I", true)
def ty_Tr : Nat → FieldType := fun k => match k with
  | 0 => .int
  | 1 => .object "MulticastTrees$Net"
  | 2 => .object "MulticastTrees$Lans"
  | 3 => .object "MulticastTrees$Streams"
  | 4 => .object "MulticastTrees$Tally"
  | 5 => .array (.array .int)
  | 6 => .array (.array .int)
  | 7 => .array (.array .int)
  | 8 => .array (.array .int)
  | 9 => .array (.array .int)
  | 10 => .array (.array .int)
  | _ => .array .int
def T_MT : u_T := fun k => match k with
  | 0 => ("MulticastTrees", "clock", "LMulticastTrees$Clock;", true)
  | 1 => ("MulticastTrees", "tally", "LMulticastTrees$Tally;", true)
  | 2 => ("MulticastTrees", "net", "LMulticastTrees$Net;", true)
  | 3 => ("MulticastTrees", "lans", "LMulticastTrees$Lans;", true)
  | 4 => ("MulticastTrees", "streams", "LMulticastTrees$Streams;", true)
  | 5 => ("MulticastTrees", "trees", "LMulticastTrees$Trees;", true)
  | 6 => ("MulticastTrees", "packets", "LMulticastTrees$Packets;", true)
  | _ => ("MulticastTrees", "files", "LMulticastTrees$Files;", true)
def ty_MT : Nat → FieldType := fun k => match k with
  | 0 => .object "MulticastTrees$Clock"
  | 1 => .object "MulticastTrees$Tally"
  | 2 => .object "MulticastTrees$Net"
  | 3 => .object "MulticastTrees$Lans"
  | 4 => .object "MulticastTrees$Streams"
  | 5 => .object "MulticastTrees$Trees"
  | 6 => .object "MulticastTrees$Packets"
  | _ => .object "MulticastTrees$Files"
def T_Mo : u_T := fun k => match k with
  | 0 => ("MulticastTreesModel", "meeting", "I", false)
  | 1 => ("MulticastTreesModel", "clock", "I", false)
  | 2 => ("MulticastTreesModel", "cost", "[I", false)
  | 3 => ("MulticastTreesModel", "far", "[I", false)
  | 4 => ("MulticastTreesModel", "via", "[I", false)
  | 5 => ("MulticastTreesModel", "member", "[Z", false)
  | 6 => ("MulticastTreesModel", "until", "[I", false)
  | 7 => ("MulticastTreesModel", "reporter", "[I", false)
  | 8 => ("MulticastTreesModel", "common", "[I", false)
  | 9 => ("MulticastTreesModel", "commonWas", "[I", false)
  | 10 => ("MulticastTreesModel", "cut", "[I", false)
  | 11 => ("MulticastTreesModel", "cutWas", "[I", false)
  | 12 => ("MulticastTreesModel", "pull", "[I", false)
  | 13 => ("MulticastTreesModel", "pullWas", "[I", false)
  | 14 => ("MulticastTreesModel", "keep", "[I", false)
  | 15 => ("MulticastTreesModel", "fast", "[Z", false)
  | 16 => ("MulticastTreesModel", "quiet", "[I", false)
  | 17 => ("MulticastTreesModel", "sent", "[I", false)
  | 18 => ("MulticastTreesModel", "loss", "[I", false)
  | 19 => ("MulticastTreesModel", "crossed", "I", false)
  | 20 => ("MulticastTreesModel", "dropped", "I", false)
  | 21 => ("MulticastTreesModel", "reach", "I", false)
  | 22 => ("MulticastTreesModel", "hear", "I", false)
  | 23 => ("MulticastTreesModel", "carried", "[Z", false)
  | 24 => ("MulticastTreesModel", "over", "[Z", false)
  | 25 => ("MulticastTreesModel", "cameFrom", "[I", false)
  | 26 => ("MulticastTreesModel", "files", "I", false)
  | 27 => ("MulticastTreesModel", "source", "[I", false)
  | 28 => ("MulticastTreesModel", "group", "[I", false)
  | 29 => ("MulticastTreesModel", "length", "[I", false)
  | 30 => ("MulticastTreesModel", "following", "[I", false)
  | 31 => ("MulticastTreesModel", "repair", "[I", false)
  | 32 => ("MulticastTreesModel", "got", "[I", false)
  | 33 => ("MulticastTreesModel", "horizon", "[I", false)
  | 34 => ("MulticastTreesModel", "drawn", "I", false)
  | _ => ("MulticastTreesModel", "draw", "[I", false)
def ty_Mo : Nat → FieldType := fun k => match k with
  | 0 => .int
  | 1 => .int
  | 2 => .array .int
  | 3 => .array .int
  | 4 => .array .int
  | 5 => .array .boolean
  | 6 => .array .int
  | 7 => .array .int
  | 8 => .array .int
  | 9 => .array .int
  | 10 => .array .int
  | 11 => .array .int
  | 12 => .array .int
  | 13 => .array .int
  | 14 => .array .int
  | 15 => .array .boolean
  | 16 => .array .int
  | 17 => .array .int
  | 18 => .array .int
  | 19 => .int
  | 20 => .int
  | 21 => .int
  | 22 => .int
  | 23 => .array .boolean
  | 24 => .array .boolean
  | 25 => .array .int
  | 26 => .int
  | 27 => .array .int
  | 28 => .array .int
  | 29 => .array .int
  | 30 => .array .int
  | 31 => .array .int
  | 32 => .array .int
  | 33 => .array .int
  | 34 => .int
  | _ => .array .int
abbrev vwCl : List vw_C := [("MulticastTrees$Clock", T_Ck, 1), ("MulticastTrees$Files", T_Fi, 13), ("MulticastTrees$Lans", T_La, 5), ("MulticastTrees$Net", T_Ne, 4), ("MulticastTrees$Packets", T_Pa, 12), ("MulticastTrees$Streams", T_Sm, 4), ("MulticastTrees$Tally", T_Ta, 1), ("MulticastTrees$Trees", T_Tr, 12), ("MulticastTrees", T_MT, 8), ("MulticastTreesModel", T_Mo, 36)]
def n_MT_init : MethodName := ⟨"MulticastTrees", "<init>", "(I)V"⟩
def n_MT_isRouter : MethodName := ⟨"MulticastTrees", "isRouter", "(I)Z"⟩
def n_Ck_init : MethodName := ⟨"MulticastTrees$Clock", "<init>", "()V"⟩
def n_Ta_init : MethodName := ⟨"MulticastTrees$Tally", "<init>", "()V"⟩
def n_Ne_init : MethodName := ⟨"MulticastTrees$Net", "<init>", "()V"⟩
def n_Ne_measure : MethodName := ⟨"MulticastTrees$Net", "measure", "()V"⟩
def n_Ne_startLengths : MethodName := ⟨"MulticastTrees$Net", "startLengths", "()V"⟩
def n_Ne_areLinked : MethodName := ⟨"MulticastTrees$Net", "areLinked", "(II)Z"⟩
def n_Ne_shortenBy : MethodName := ⟨"MulticastTrees$Net", "shortenBy", "(I)V"⟩
def n_JM_min : MethodName := ⟨"java/lang/Math", "min", "(II)I"⟩
def n_Ne_findNext : MethodName := ⟨"MulticastTrees$Net", "findNext", "(II)I"⟩
def n_Ne_areConnected : MethodName := ⟨"MulticastTrees$Net", "areConnected", "(II)Z"⟩
def n_Ne_orderTowards : MethodName := ⟨"MulticastTrees$Net", "orderTowards", "(I)V"⟩
def n_La_init : MethodName := ⟨"MulticastTrees$Lans", "<init>", "(LMulticastTrees$Clock;)V"⟩
def n_JA_fill : MethodName := ⟨"java/util/Arrays", "fill", "([II)V"⟩
def n_Sm_init : MethodName := ⟨"MulticastTrees$Streams", "<init>", "(LMulticastTrees$Clock;)V"⟩
def n_Tr_init : MethodName := ⟨"MulticastTrees$Trees", "<init>", "(ILMulticastTrees$Net;LMulticastTrees$Lans;LMulticastTrees$Streams;LMulticastTrees$Tally;)V"⟩
def n_Pa_init : MethodName := ⟨"MulticastTrees$Packets", "<init>", "(LMulticastTrees$Net;LMulticastTrees$Lans;LMulticastTrees$Streams;LMulticastTrees$Trees;LMulticastTrees$Tally;)V"⟩
def n_Fi_init : MethodName := ⟨"MulticastTrees$Files", "<init>", "(LMulticastTrees$Net;LMulticastTrees$Lans;LMulticastTrees$Tally;)V"⟩
def n_MT_link : MethodName := ⟨"MulticastTrees", "link", "(III)Z"⟩
def n_Ne_costOf : MethodName := ⟨"MulticastTrees$Net", "costOf", "(II)I"⟩
def n_Ne_setCost : MethodName := ⟨"MulticastTrees$Net", "setCost", "(III)V"⟩
def n_Tr_settle : MethodName := ⟨"MulticastTrees$Trees", "settle", "()V"⟩
def n_Tr_settleShared : MethodName := ⟨"MulticastTrees$Trees", "settleShared", "(I)V"⟩
def n_Ne_fromFarthest : MethodName := ⟨"MulticastTrees$Net", "fromFarthest", "(II)I"⟩
def n_La_isMarked : MethodName := ⟨"MulticastTrees$Lans", "isMarked", "(II)Z"⟩
def n_Ck_time : MethodName := ⟨"MulticastTrees$Clock", "time", "()I"⟩
def n_Ne_nextTowards : MethodName := ⟨"MulticastTrees$Net", "nextTowards", "(II)I"⟩
def n_Tr_announce : MethodName := ⟨"MulticastTrees$Trees", "announce", "(IIII)V"⟩
def n_Ta_count : MethodName := ⟨"MulticastTrees$Tally", "count", "(I)V"⟩
def n_Tr_settleCuts : MethodName := ⟨"MulticastTrees$Trees", "settleCuts", "(II)V"⟩
def n_MT_streamOf : MethodName := ⟨"MulticastTrees", "streamOf", "(II)I"⟩
def n_Tr_takesElsewhere : MethodName := ⟨"MulticastTrees$Trees", "takesElsewhere", "(III)Z"⟩
def n_Sm_isSwitched : MethodName := ⟨"MulticastTrees$Streams", "isSwitched", "(II)Z"⟩
def n_MT_holds : MethodName := ⟨"MulticastTrees", "holds", "(II)Z"⟩
def n_Tr_settleSources : MethodName := ⟨"MulticastTrees$Trees", "settleSources", "(II)V"⟩
def n_Sm_isAlive : MethodName := ⟨"MulticastTrees$Streams", "isAlive", "(II)Z"⟩
def n_MT_distance : MethodName := ⟨"MulticastTrees", "distance", "(II)I"⟩
def n_Ne_lengthOf : MethodName := ⟨"MulticastTrees$Net", "lengthOf", "(II)I"⟩
def n_MT_hop : MethodName := ⟨"MulticastTrees", "hop", "(II)I"⟩
def n_MT_join : MethodName := ⟨"MulticastTrees", "join", "(III)Z"⟩
def n_MT_isHost : MethodName := ⟨"MulticastTrees", "isHost", "(I)Z"⟩
def n_MT_isGroup : MethodName := ⟨"MulticastTrees", "isGroup", "(I)Z"⟩
def n_La_isMember : MethodName := ⟨"MulticastTrees$Lans", "isMember", "(III)Z"⟩
def n_La_admit : MethodName := ⟨"MulticastTrees$Lans", "admit", "(III)V"⟩
def n_La_report : MethodName := ⟨"MulticastTrees$Lans", "report", "(III)V"⟩
def n_MT_leave : MethodName := ⟨"MulticastTrees", "leave", "(IIIZ)Z"⟩
def n_La_dismiss : MethodName := ⟨"MulticastTrees$Lans", "dismiss", "(IIIZ)V"⟩
def n_La_hasMembers : MethodName := ⟨"MulticastTrees$Lans", "hasMembers", "(II)Z"⟩
def n_La_reportLowest : MethodName := ⟨"MulticastTrees$Lans", "reportLowest", "(II)V"⟩
def n_MT_marked : MethodName := ⟨"MulticastTrees", "marked", "(II)I"⟩
def n_La_ticksLeft : MethodName := ⟨"MulticastTrees$Lans", "ticksLeft", "(II)I"⟩
def n_MT_pass : MethodName := ⟨"MulticastTrees", "pass", "(I)Z"⟩
def n_Ck_tick : MethodName := ⟨"MulticastTrees$Clock", "tick", "()V"⟩
def n_Sm_endStale : MethodName := ⟨"MulticastTrees$Streams", "endStale", "()V"⟩
def n_Ck_isReportTime : MethodName := ⟨"MulticastTrees$Clock", "isReportTime", "()Z"⟩
def n_La_reportAll : MethodName := ⟨"MulticastTrees$Lans", "reportAll", "()V"⟩
def n_MT_send : MethodName := ⟨"MulticastTrees", "send", "(II)I"⟩
def n_Sm_hasRoomFor : MethodName := ⟨"MulticastTrees$Streams", "hasRoomFor", "(I)Z"⟩
def n_Sm_isAliveSomewhere : MethodName := ⟨"MulticastTrees$Streams", "isAliveSomewhere", "(I)Z"⟩
def n_Pa_dispatch : MethodName := ⟨"MulticastTrees$Packets", "dispatch", "(II)V"⟩
def n_Pa_switchJoined : MethodName := ⟨"MulticastTrees$Packets", "switchJoined", "(II)V"⟩
def n_Sm_renew : MethodName := ⟨"MulticastTrees$Streams", "renew", "(II)V"⟩
def n_Tr_outerList : MethodName := ⟨"MulticastTrees$Trees", "outerList", "(II)I"⟩
def n_Sm_switchOver : MethodName := ⟨"MulticastTrees$Streams", "switchOver", "(II)V"⟩
def n_Tr_sourceJoinOf : MethodName := ⟨"MulticastTrees$Trees", "sourceJoinOf", "(II)I"⟩
def n_Pa_register : MethodName := ⟨"MulticastTrees$Packets", "register", "(II)Z"⟩
def n_Tr_meetingPoint : MethodName := ⟨"MulticastTrees$Trees", "meetingPoint", "()I"⟩
def n_Sm_isQuiet : MethodName := ⟨"MulticastTrees$Streams", "isQuiet", "(I)Z"⟩
def n_Sm_silence : MethodName := ⟨"MulticastTrees$Streams", "silence", "(I)V"⟩
def n_Pa_carry : MethodName := ⟨"MulticastTrees$Packets", "carry", "(II)V"⟩
def n_Pa_putOut : MethodName := ⟨"MulticastTrees$Packets", "putOut", "(III)V"⟩
def n_Tr_innerList : MethodName := ⟨"MulticastTrees$Trees", "innerList", "(II)I"⟩
def n_Pa_cross : MethodName := ⟨"MulticastTrees$Packets", "cross", "(IIII)V"⟩
def n_Pa_renewCarriers : MethodName := ⟨"MulticastTrees$Packets", "renewCarriers", "(II)V"⟩
def n_Pa_listen : MethodName := ⟨"MulticastTrees$Packets", "listen", "()V"⟩
def n_La_hearsOrLoses : MethodName := ⟨"MulticastTrees$Lans", "hearsOrLoses", "(I)Z"⟩
def n_Pa_heardBy : MethodName := ⟨"MulticastTrees$Packets", "heardBy", "()I"⟩
def n_JI_bitCount : MethodName := ⟨"java/lang/Integer", "bitCount", "(I)I"⟩
def n_MT_crossings : MethodName := ⟨"MulticastTrees", "crossings", "()I"⟩
def n_Pa_crossingCount : MethodName := ⟨"MulticastTrees$Packets", "crossingCount", "()I"⟩
def n_MT_drops : MethodName := ⟨"MulticastTrees", "drops", "()I"⟩
def n_Pa_dropCount : MethodName := ⟨"MulticastTrees$Packets", "dropCount", "()I"⟩
def n_MT_reached : MethodName := ⟨"MulticastTrees", "reached", "()I"⟩
def n_Pa_reachedLans : MethodName := ⟨"MulticastTrees$Packets", "reachedLans", "()I"⟩
def n_MT_heard : MethodName := ⟨"MulticastTrees", "heard", "()I"⟩
def n_MT_shared : MethodName := ⟨"MulticastTrees", "shared", "(II)I"⟩
def n_Tr_sharedJoinOf : MethodName := ⟨"MulticastTrees$Trees", "sharedJoinOf", "(II)I"⟩
def n_MT_entry : MethodName := ⟨"MulticastTrees", "entry", "(III)I"⟩
def n_Tr_cutOf : MethodName := ⟨"MulticastTrees$Trees", "cutOf", "(II)I"⟩
def n_MT_messages : MethodName := ⟨"MulticastTrees", "messages", "(I)I"⟩
def n_Ta_countOf : MethodName := ⟨"MulticastTrees$Tally", "countOf", "(I)I"⟩
def n_MT_lose : MethodName := ⟨"MulticastTrees", "lose", "(II)Z"⟩
def n_La_setLosses : MethodName := ⟨"MulticastTrees$Lans", "setLosses", "(II)V"⟩
def n_MT_publish : MethodName := ⟨"MulticastTrees", "publish", "(III)I"⟩
def n_Fi_isFull : MethodName := ⟨"MulticastTrees$Files", "isFull", "()Z"⟩
def n_Fi_create : MethodName := ⟨"MulticastTrees$Files", "create", "(III)I"⟩
def n_MT_emit : MethodName := ⟨"MulticastTrees", "emit", "(I)I"⟩
def n_Fi_exists : MethodName := ⟨"MulticastTrees$Files", "exists", "(I)Z"⟩
def n_Fi_sourceOf : MethodName := ⟨"MulticastTrees$Files", "sourceOf", "(I)I"⟩
def n_Fi_groupOf : MethodName := ⟨"MulticastTrees$Files", "groupOf", "(I)I"⟩
def n_Fi_takeTurn : MethodName := ⟨"MulticastTrees$Files", "takeTurn", "(I)I"⟩
def n_Fi_deliver : MethodName := ⟨"MulticastTrees$Files", "deliver", "(III)V"⟩
def n_Fi_store : MethodName := ⟨"MulticastTrees$Files", "store", "(III)V"⟩
def n_JM_max : MethodName := ⟨"java/lang/Math", "max", "(II)I"⟩
def n_MT_requests : MethodName := ⟨"MulticastTrees", "requests", "(I)I"⟩
def n_Fi_askAgain : MethodName := ⟨"MulticastTrees$Files", "askAgain", "(I)I"⟩
def n_Fi_drawWaits : MethodName := ⟨"MulticastTrees$Files", "drawWaits", "(I)V"⟩
def n_Fi_takesPart : MethodName := ⟨"MulticastTrees$Files", "takesPart", "(II)Z"⟩
def n_Fi_missingAt : MethodName := ⟨"MulticastTrees$Files", "missingAt", "(II)I"⟩
def n_Fi_draw : MethodName := ⟨"MulticastTrees$Files", "draw", "()I"⟩
def n_MT_have : MethodName := ⟨"MulticastTrees", "have", "(II)I"⟩
def n_Fi_blocksAt : MethodName := ⟨"MulticastTrees$Files", "blocksAt", "(II)I"⟩
def n_Lw_cell : MethodName := ⟨"MulticastTreesLaw", "cell", "([II)I"⟩
def n_Mo_init : MethodName := ⟨"MulticastTreesModel", "<init>", "(I)V"⟩
def n_Mo_router : MethodName := ⟨"MulticastTreesModel", "router", "(I)Z"⟩
def n_Mo_ways : MethodName := ⟨"MulticastTreesModel", "ways", "()V"⟩
def n_Mo_link : MethodName := ⟨"MulticastTreesModel", "link", "(III)Z"⟩
def n_Mo_settle : MethodName := ⟨"MulticastTreesModel", "settle", "()V"⟩
def n_Mo_round : MethodName := ⟨"MulticastTreesModel", "round", "()Z"⟩
def n_Mo_sharedDue : MethodName := ⟨"MulticastTreesModel", "sharedDue", "(II)I"⟩
def n_Mo_onLan : MethodName := ⟨"MulticastTreesModel", "onLan", "(II)Z"⟩
def n_Mo_cutDue : MethodName := ⟨"MulticastTreesModel", "cutDue", "(II)I"⟩
def n_Mo_many : MethodName := ⟨"MulticastTreesModel", "many", "(IIZ)I"⟩
def n_Mo_outer : MethodName := ⟨"MulticastTreesModel", "outer", "(III)Z"⟩
def n_Mo_inner : MethodName := ⟨"MulticastTreesModel", "inner", "(III)Z"⟩
def n_Mo_pullDue : MethodName := ⟨"MulticastTreesModel", "pullDue", "(II)I"⟩
def n_Mo_tell : MethodName := ⟨"MulticastTreesModel", "tell", "(IIII)V"⟩
def n_Mo_distance : MethodName := ⟨"MulticastTreesModel", "distance", "(II)I"⟩
def n_Mo_hop : MethodName := ⟨"MulticastTreesModel", "hop", "(II)I"⟩
def n_Mo_join : MethodName := ⟨"MulticastTreesModel", "join", "(III)Z"⟩
def n_Mo_isHost : MethodName := ⟨"MulticastTreesModel", "isHost", "(III)Z"⟩
def n_Mo_isGroup : MethodName := ⟨"MulticastTreesModel", "isGroup", "(I)Z"⟩
def n_Mo_report : MethodName := ⟨"MulticastTreesModel", "report", "(III)V"⟩
def n_Mo_leave : MethodName := ⟨"MulticastTreesModel", "leave", "(IIIZ)Z"⟩
def n_Mo_lowest : MethodName := ⟨"MulticastTreesModel", "lowest", "(II)I"⟩
def n_Mo_marked : MethodName := ⟨"MulticastTreesModel", "marked", "(II)I"⟩
def n_Mo_pass : MethodName := ⟨"MulticastTreesModel", "pass", "(I)Z"⟩
def n_Mo_shared : MethodName := ⟨"MulticastTreesModel", "shared", "(II)I"⟩
def n_Mo_entry : MethodName := ⟨"MulticastTreesModel", "entry", "(III)I"⟩
def n_Mo_messages : MethodName := ⟨"MulticastTreesModel", "messages", "(I)I"⟩
def n_Mo_send : MethodName := ⟨"MulticastTreesModel", "send", "(II)I"⟩
def n_Mo_refused : MethodName := ⟨"MulticastTreesModel", "refused", "(II)Z"⟩
def n_Mo_runs : MethodName := ⟨"MulticastTreesModel", "runs", "(I)Z"⟩
def n_Mo_packet : MethodName := ⟨"MulticastTreesModel", "packet", "(II)I"⟩
def n_Mo_register : MethodName := ⟨"MulticastTreesModel", "register", "(II)Z"⟩
def n_Mo_putOut : MethodName := ⟨"MulticastTreesModel", "putOut", "(III)V"⟩
def n_Mo_arrive : MethodName := ⟨"MulticastTreesModel", "arrive", "(II)I"⟩
def n_Mo_crossings : MethodName := ⟨"MulticastTreesModel", "crossings", "()I"⟩
def n_Mo_drops : MethodName := ⟨"MulticastTreesModel", "drops", "()I"⟩
def n_Mo_reached : MethodName := ⟨"MulticastTreesModel", "reached", "()I"⟩
def n_Mo_heard : MethodName := ⟨"MulticastTreesModel", "heard", "()I"⟩
def n_Mo_lose : MethodName := ⟨"MulticastTreesModel", "lose", "(II)Z"⟩
def n_Mo_publish : MethodName := ⟨"MulticastTreesModel", "publish", "(III)I"⟩
def n_Mo_emit : MethodName := ⟨"MulticastTreesModel", "emit", "(I)I"⟩
def n_Mo_isFile : MethodName := ⟨"MulticastTreesModel", "isFile", "(I)Z"⟩
def n_Mo_take : MethodName := ⟨"MulticastTreesModel", "take", "(I)I"⟩
def n_Mo_requests : MethodName := ⟨"MulticastTreesModel", "requests", "(I)I"⟩
def n_Mo_missing : MethodName := ⟨"MulticastTreesModel", "missing", "(II)I"⟩
def n_Mo_have : MethodName := ⟨"MulticastTreesModel", "have", "(II)I"⟩
def mx_nth {α : Type} : List α → Nat → α → α
  | [], _, d => d
  | a :: _, 0, _ => a
  | _ :: l, n + 1, d => mx_nth l n d
def mx_SHL : List (Nat × Nat) := [(3, 0), (12, 8), (4, 1), (10, 1), (0, 10), (7, 4), (2, 6), (0, 6), (0, 6), (0, 6), (0, 6), (0, 6), (0, 6), (2, 6), (0, 6), (0, 6), (0, 6), (0, 6), (0, 6), (0, 6), (2, 6), (0, 6), (0, 6), (0, 6), (0, 6), (0, 6), (0, 6), (2, 6), (0, 6), (0, 6), (0, 6), (0, 6), (0, 6), (0, 6), (6, 5), (2, 6), (0, 3), (0, 3), (0, 3), (0, 3), (0, 3), (0, 3), (2, 6), (0, 3), (0, 3), (0, 3), (0, 3), (0, 3), (0, 3), (2, 6), (0, 3), (0, 3), (0, 3), (0, 3), (0, 3), (0, 3), (0, 6), (9, 4), (2, 18), (0, 6), (0, 6), (0, 6), (0, 6), (0, 6), (0, 6), (0, 6), (0, 6), (0, 6), (0, 6), (0, 6), (0, 6), (0, 6), (0, 6), (0, 6), (0, 6), (0, 6), (0, 6), (0, 18), (0, 18), (11, 12), (2, 3), (0, 6), (0, 6), (0, 6), (2, 3), (0, 6), (0, 6), (0, 6), (2, 18), (0, 6), (0, 6), (0, 6), (0, 6), (0, 6), (0, 6), (0, 6), (0, 6), (0, 6), (0, 6), (0, 6), (0, 6), (0, 6), (0, 6), (0, 6), (0, 6), (0, 6), (0, 6), (2, 18), (0, 6), (0, 6), (0, 6), (0, 6), (0, 6), (0, 6), (0, 6), (0, 6), (0, 6), (0, 6), (0, 6), (0, 6), (0, 6), (0, 6), (0, 6), (0, 6), (0, 6), (0, 6), (2, 18), (0, 6), (0, 6), (0, 6), (0, 6), (0, 6), (0, 6), (0, 6), (0, 6), (0, 6), (0, 6), (0, 6), (0, 6), (0, 6), (0, 6), (0, 6), (0, 6), (0, 6), (0, 6), (2, 18), (0, 6), (0, 6), (0, 6), (0, 6), (0, 6), (0, 6), (0, 6), (0, 6), (0, 6), (0, 6), (0, 6), (0, 6), (0, 6), (0, 6), (0, 6), (0, 6), (0, 6), (0, 6), (0, 6), (8, 12), (0, 6), (0, 6), (5, 13), (0, 4), (0, 4), (0, 4), (0, 4), (0, 4), (2, 4), (0, 6), (0, 6), (0, 6), (0, 6), (2, 4), (0, 6), (0, 6), (0, 6), (0, 6), (0, 6), (13, 36), (0, 36), (0, 36), (0, 36), (1, 72), (0, 18), (0, 18), (0, 18), (0, 18), (0, 108), (0, 108), (0, 108), (0, 108), (0, 108), (1, 108), (0, 18), (0, 10), (0, 6), (1, 6), (1, 6), (0, 6), (0, 4), (0, 4), (0, 4), (0, 4), (0, 4), (0, 24), (0, 24), (0, 6)]
def mx_SH (p : Nat) : Nat × Nat := mx_nth mx_SHL p (0, 0)
def mx_MRL : List (List Nat) := [[], [2, 3, 5, 34, 57, 79, 165, 168], [0], [4], [], [6, 13, 20, 27], [7, 8, 9, 10, 11, 12], [], [], [], [], [], [], [14, 15, 16, 17, 18, 19], [], [], [], [], [], [], [21, 22, 23, 24, 25, 26], [], [], [], [], [], [], [28, 29, 30, 31, 32, 33], [], [], [], [], [], [], [2, 35, 42, 49, 56], [36, 37, 38, 39, 40, 41], [], [], [], [], [], [], [43, 44, 45, 46, 47, 48], [], [], [], [], [], [], [50, 51, 52, 53, 54, 55], [], [], [], [], [], [], [], [2, 58, 77, 78], [59, 60, 61, 62, 63, 64, 65, 66, 67, 68, 69, 70, 71, 72, 73, 74, 75, 76], [], [], [], [], [], [], [], [], [], [], [], [], [], [], [], [], [], [], [], [], [0, 5, 34, 57, 3, 80, 84, 88, 107, 126, 145, 164], [81, 82, 83], [], [], [], [85, 86, 87], [], [], [], [89, 90, 91, 92, 93, 94, 95, 96, 97, 98, 99, 100, 101, 102, 103, 104, 105, 106], [], [], [], [], [], [], [], [], [], [], [], [], [], [], [], [], [], [], [108, 109, 110, 111, 112, 113, 114, 115, 116, 117, 118, 119, 120, 121, 122, 123, 124, 125], [], [], [], [], [], [], [], [], [], [], [], [], [], [], [], [], [], [], [127, 128, 129, 130, 131, 132, 133, 134, 135, 136, 137, 138, 139, 140, 141, 142, 143, 144], [], [], [], [], [], [], [], [], [], [], [], [], [], [], [], [], [], [], [146, 147, 148, 149, 150, 151, 152, 153, 154, 155, 156, 157, 158, 159, 160, 161, 162, 163], [], [], [], [], [], [], [], [], [], [], [], [], [], [], [], [], [], [], [], [5, 34, 57, 79, 3, 166, 167, 0, 0, 0, 0, 0], [], [], [5, 34, 3, 169, 170, 171, 172, 173, 174, 179, 184, 0, 0], [], [], [], [], [], [175, 176, 177, 178], [], [], [], [], [180, 181, 182, 183], [], [], [], [], [], [0, 0, 186, 187, 188, 189, 190, 191, 192, 193, 194, 195, 196, 197, 198, 199, 200, 201, 202, 0, 0, 0, 0, 203, 204, 205, 0, 206, 207, 208, 209, 210, 211, 212, 0, 213], [], [], [], [], [], [], [], [], [], [], [], [], [], [], [], [], [], [], [], [], [], [], [], [], [], [], [], []]
def mx_MR (p k : Nat) : Nat := mx_nth (mx_nth mx_MRL p []) k 0
def mx_IL : List (List Bool) := [[true], [false, false, false, false, false, false, false, false, false, false, false, true, true], [false, false, false, false, false], [false, false, false, false], [false, false, false, false, false, false, false, true, true, true, true, true], [false, false, false, false], [false], [true, false, false, false, false, false, false, false, false, false, false, false], [false, false, false, false, false, false, false, false], [true, true, false, false, false, false, false, false, false, false, false, false, false, false, false, false, false, false, false, true, true, true, true, false, false, false, true, false, false, false, false, false, false, false, true, false]]
def mx_isI (c k : Nat) : Bool := mx_nth (mx_nth mx_IL c []) k true
theorem sh_7 : ∀ a, a < 6 → mx_SH (7 + a) = (0, 6) := by decide
theorem mr_6 : ∀ a, a < 6 → mx_MR 6 a = 7 + a := by decide
theorem sh_14 : ∀ a, a < 6 → mx_SH (14 + a) = (0, 6) := by decide
theorem mr_13 : ∀ a, a < 6 → mx_MR 13 a = 14 + a := by decide
theorem sh_21 : ∀ a, a < 6 → mx_SH (21 + a) = (0, 6) := by decide
theorem mr_20 : ∀ a, a < 6 → mx_MR 20 a = 21 + a := by decide
theorem sh_28 : ∀ a, a < 6 → mx_SH (28 + a) = (0, 6) := by decide
theorem mr_27 : ∀ a, a < 6 → mx_MR 27 a = 28 + a := by decide
theorem sh_36 : ∀ a, a < 6 → mx_SH (36 + a) = (0, 3) := by decide
theorem mr_35 : ∀ a, a < 6 → mx_MR 35 a = 36 + a := by decide
theorem sh_43 : ∀ a, a < 6 → mx_SH (43 + a) = (0, 3) := by decide
theorem mr_42 : ∀ a, a < 6 → mx_MR 42 a = 43 + a := by decide
theorem sh_50 : ∀ a, a < 6 → mx_SH (50 + a) = (0, 3) := by decide
theorem mr_49 : ∀ a, a < 6 → mx_MR 49 a = 50 + a := by decide
theorem sh_59 : ∀ a, a < 18 → mx_SH (59 + a) = (0, 6) := by decide
theorem mr_58 : ∀ a, a < 18 → mx_MR 58 a = 59 + a := by decide
theorem sh_81 : ∀ a, a < 3 → mx_SH (81 + a) = (0, 6) := by decide
theorem mr_80 : ∀ a, a < 3 → mx_MR 80 a = 81 + a := by decide
theorem sh_85 : ∀ a, a < 3 → mx_SH (85 + a) = (0, 6) := by decide
theorem mr_84 : ∀ a, a < 3 → mx_MR 84 a = 85 + a := by decide
theorem sh_89 : ∀ a, a < 18 → mx_SH (89 + a) = (0, 6) := by decide
theorem mr_88 : ∀ a, a < 18 → mx_MR 88 a = 89 + a := by decide
theorem sh_108 : ∀ a, a < 18 → mx_SH (108 + a) = (0, 6) := by decide
theorem mr_107 : ∀ a, a < 18 → mx_MR 107 a = 108 + a := by decide
theorem sh_127 : ∀ a, a < 18 → mx_SH (127 + a) = (0, 6) := by decide
theorem mr_126 : ∀ a, a < 18 → mx_MR 126 a = 127 + a := by decide
theorem sh_146 : ∀ a, a < 18 → mx_SH (146 + a) = (0, 6) := by decide
theorem mr_145 : ∀ a, a < 18 → mx_MR 145 a = 146 + a := by decide
theorem sh_175 : ∀ a, a < 4 → mx_SH (175 + a) = (0, 6) := by decide
theorem mr_174 : ∀ a, a < 4 → mx_MR 174 a = 175 + a := by decide
theorem sh_180 : ∀ a, a < 4 → mx_SH (180 + a) = (0, 6) := by decide
theorem mr_179 : ∀ a, a < 4 → mx_MR 179 a = 180 + a := by decide
end
section
/-! The abstract walk: places for addresses, one memory of ints, a fixed table of shapes (mx_SH), of references (mx_MR) and of kinds of fields (mx_isI). -/
/-- the state: number of cells; which reference fields are set; the ints -/
abbrev mx_S : Type := Nat × (Nat → Nat → Bool) × (Nat → Nat → Int32)
/-- address of a place; numbers of the cell kinds; array kinds; length of the script -/
abbrev mx_X : Type := (Nat → Nat) × va_G × (Nat → ClassId) × Nat
abbrev mx_K : Type := Program × Launch × Env × Room × State × MethodId × Array Value × List Frame × Method × Code
abbrev mx_M : Type := MethodName × ByteArray × Nat × Option FieldType × Room
abbrev mx_p (κ : mx_K) : Program := κ.1
abbrev mx_l (κ : mx_K) : Launch := κ.2.1
abbrev mx_e (κ : mx_K) : Env := κ.2.2.1
abbrev mx_R (κ : mx_K) : Room := κ.2.2.2.1
abbrev mx_s (κ : mx_K) : State := κ.2.2.2.2.1
abbrev mx_m (κ : mx_K) : MethodId := κ.2.2.2.2.2.1
abbrev mx_a (κ : mx_K) : Array Value := κ.2.2.2.2.2.2.1
abbrev mx_b (κ : mx_K) : List Frame := κ.2.2.2.2.2.2.2.1
abbrev mx_h (κ : mx_K) : Method := κ.2.2.2.2.2.2.2.2.1
abbrev mx_c (κ : mx_K) : Code := κ.2.2.2.2.2.2.2.2.2
def mx_v (ad : Nat → Nat) (v : Value) : Value := match v with
  | .ref k => .ref (ad k)
  | x => x
theorem mx_v_cat (ad : Nat → Nat) (v : Value) : (mx_v ad v).category = v.category := by cases v <;> rfl
def mx_up (f : Nat → Nat → Int32) (p k : Nat) (x : Int32) : Nat → Nat → Int32 := fun q j => if q = p ∧ j = k then x else f q j
def mx_ub (u : Nat → Nat → Bool) (p k : Nat) : Nat → Nat → Bool := fun q j => if q = p ∧ j = k then true else u q j
def mx_zr (f : Nat → Nat → Int32) (p : Nat) : Nat → Nat → Int32 := fun q j => if q = p then 0 else f q j
def mx_zu (u : Nat → Nat → Bool) (p ci : Nat) : Nat → Nat → Bool := fun q j => if q = p then mx_isI ci j else u q j
def mx_zs (f : Nat → Nat → Int32) (p n : Nat) : Nat → Nat → Int32 := fun q j => if p ≤ q ∧ q < p + n then 0 else f q j
def mx_L (ad : Nat → Nat) (L : List (Nat × Value)) : List (Nat × Value) := L.map (fun q => (q.1, mx_v ad q.2))
def mx_lk : List (Nat × Value) → Nat → Option Value
  | [], _ => none
  | (j, x) :: L, i => bif Nat.beq j i then some x else mx_lk L i
theorem mx_lk_mem : ∀ {L : List (Nat × Value)} {i : Nat} {x : Value}, mx_lk L i = some x → (i, x) ∈ L
  | [], i, x, h => by cases h
  | (j, y) :: L, i, x, h => by
    unfold mx_lk at h
    cases hb : Nat.beq j i with
    | true =>
      rw [hb] at h
      have e : y = x := Option.some.inj h
      have e2 : j = i := Nat.eq_of_beq_eq_true hb
      rw [e, e2]
      exact List.mem_cons_self
    | false =>
      rw [hb] at h
      exact List.mem_cons_of_mem _ (mx_lk_mem h)
theorem mx_lget {ad : Nat → Nat} {ls : Array Slot} {n : Nat} {L : List (Nat × Value)} (h : lv_has ls n (mx_L ad L)) {i : Nat} {x : Value} (hx : mx_lk L i = some x) : ls[i]? = some (.val (mx_v ad x)) :=
  h.2.2 (i, mx_v ad x) (List.mem_map.mpr ⟨(i, x), mx_lk_mem hx, rfl⟩)
def mx_st (L : List (Nat × Value)) (i : Nat) (x : Value) : List (Nat × Value) := (i, x) :: L.filter (fun q => !(q.1 == i) && !(q.1 + 1 == i && q.2.category == 2))
theorem mx_L_filter (ad : Nat → Nat) (i : Nat) : ∀ L : List (Nat × Value), (mx_L ad L).filter (fun q => !(q.1 == i) && !(q.1 + 1 == i && q.2.category == 2)) = mx_L ad (L.filter (fun q => !(q.1 == i) && !(q.1 + 1 == i && q.2.category == 2)))
  | [] => rfl
  | q :: L => by
    have ih := mx_L_filter ad i L
    show List.filter _ ((q.1, mx_v ad q.2) :: mx_L ad L) = _
    rw [List.filter_cons, List.filter_cons]
    have e : (mx_v ad q.2).category = q.2.category := mx_v_cat ad q.2
    dsimp only
    rw [e, ih]
    split <;> rfl
theorem mx_L_st (ad : Nat → Nat) (L : List (Nat × Value)) (i : Nat) (x : Value) : (i, mx_v ad x) :: (mx_L ad L).filter (fun q => !(q.1 == i) && !(q.1 + 1 == i && q.2.category == 2)) = mx_L ad (mx_st L i x) := by
  rw [mx_L_filter]
  rfl
/-- the good words of the tables, one list for all methods -/
def mx_WS : List Cond := lw_tbl.filter goodWord
theorem mx_w {x : Cond} (h : x ∈ lw_tbl) (hg : goodWord x = true) : x ∈ mx_WS := List.mem_filter.mpr ⟨h, hg⟩
theorem mx_goodIn {y : MethodName} {cc : ByteArray} {n : Nat} {r : Option FieldType} (h : Cond.code y cc n r ∈ mx_WS) : GoodIn mx_WS (.code y cc n r :: mx_WS) := by
  intro x hx
  have hm : x ∈ mx_WS := by
    rcases List.mem_cons.mp hx with e | e
    · rw [e]; exact h
    · exact e
  exact ⟨hm, good_of_word (List.mem_filter.mp hm).2⟩
def mx_AO (U : State) : Prop := (Cond.arrayOver (.array .int)).before #[] U = true
theorem mx_AO.moved {u U : State} (hvm : u.vm.Alike U.vm) (h : mx_AO u) : mx_AO U := by
  obtain ⟨comp, c, k, h1, h2, h3, h4, h5⟩ := arrayOverA_spec h
  obtain ⟨k', hk', he⟩ := hvm.2.2 _ _ h3
  have hi : (U.vm.classes.findIdx? fun (y : Class) => match y.kind with | .array component _ => component == comp | _ => false) = some c := by
    rw [hvm.findIdx?_eq _ (fun _ => rfl)]
    exact h2
  have hkind : k'.kind = .array comp (.array .int) := by rw [he]; exact h4
  have f1 : U.vm.findClass (FieldType.array .int).toString = some comp := by rw [hvm.findClass]; exact h1
  have f2 : U.vm.findClass ("[" ++ (FieldType.array .int).toString) = some c := by rw [hvm.findClass]; exact h5
  unfold mx_AO Cond.before Cond.holds
  simp only [Cond.value]
  rw [f1, Option.bind_some]
  refine (congrArg (fun o : Option Nat => (o.bind (fun c => (U.vm.classes[c]?).map fun (k : Class) => match k.kind with | .array _ ty => decide (ty = FieldType.array .int) && decide (U.vm.findClass ("[" ++ (FieldType.array .int).toString) = some c) | _ => false) == some true)) hi).trans ?_
  simp [hk', hkind, f2]
/-- the outer array of a grid -/
theorem mx_outer (c : ClassId) (N h0 : Nat) : ∀ i : Nat, Jvm.Free.Multi.outerC c N h0 i = arrV c N (fun j => if j < i then .ref (h0 + 1 + j) else .null)
  | 0 => by
    show ({ cls := c, slots := Array.replicate N .null, vm := .none } : Cell) = _
    rw [arrV_new]
    refine congrArg (arrV c N) (funext fun j => ?_)
    simp
  | i + 1 => by
    show (Jvm.Free.Multi.outerC c N h0 i).setSlot i (.ref (h0 + 1 + i)) = _
    rw [mx_outer c N h0 i, arrV_store]
    refine congrArg (arrV c N) (funext fun j => ?_)
    by_cases e : j = i
    · subst e
      simp [updV]
    · by_cases h : j < i
      · simp [updV, e, h, Nat.lt_succ_of_lt h]
      · simp [updV, e, h, show ¬ j < i + 1 by omega]
/-- what the tables say, at any state of the run -/
def mx_KK (Γ : mx_X) (s : State) : Prop :=
  va_K Γ.2.1 vwCl [(Γ.2.2.1 0, .int), (Γ.2.2.1 1, .boolean), (Γ.2.2.1 2, .array .int)] s ∧
  (∀ (a : String) (i : Nat) (y : MethodName) (h : String), Cond.methodLinkNest a i y h ∈ lw_tbl → va_Nw (.methodLinkNest a i y h) s) ∧
  mx_AO s ∧ ∃ (k : Class) (comp : ClassId), s.vm.classes[Γ.2.2.1 3]? = some k ∧ k.kind = .array comp .int
theorem mx_KK.warm {Γ : mx_X} {s U : State} (hW : s.WarmedH U.vm) (h : mx_KK Γ s) : mx_KK Γ U := by
  obtain ⟨h1, h2, h3, k, comp, h4, h5⟩ := h
  obtain ⟨k', hk', he⟩ := hW.alike.2.2 _ _ h4
  exact ⟨va_K.moved hW.alike h1, fun a i y q hm => va_Nw.warmM hW (h2 a i y q hm), mx_AO.moved hW.alike h3, k', comp, hk', by rw [he]; exact h5⟩
theorem mx_KK.same {Γ : mx_X} {s U : State} (hv : s.vm = U.vm) (h : mx_KK Γ s) : mx_KK Γ U := by
  obtain ⟨h1, h2, h3, k, comp, h4, h5⟩ := h
  have hal : s.vm.Alike U.vm := by rw [hv]; exact Vm.Alike.refl _
  exact ⟨va_K.moved hal h1, fun a i y q hm => va_Nw.same rfl hv (h2 a i y q hm), mx_AO.moved hal h3, k, comp, by rw [← hv]; exact h4, h5⟩
theorem mx_shq {p a n b m : Nat} (h1 : mx_SH p = (a, n)) (h2 : mx_SH p = (b, m)) : a = b ∧ n = m := by
  have e := h1.symm.trans h2
  exact ⟨congrArg Prod.fst e, congrArg Prod.snd e⟩
/-- what a cell is -/
def mx_cell (Γ : mx_X) (σ : mx_S) (p : Nat) (H : Heap) : Prop :=
  (∀ n, mx_SH p = (0, n) → H[Γ.1 p]? = some (arrV (Γ.2.2.1 0) n (fun j => .int (σ.2.2 p j)))) ∧
  (∀ n, mx_SH p = (1, n) → H[Γ.1 p]? = some (arrV (Γ.2.2.1 1) n (fun j => .int (σ.2.2 p j)))) ∧
  (∀ n, mx_SH p = (2, n) → H[Γ.1 p]? = some (arrV (Γ.2.2.1 2) n (fun j => .ref (Γ.1 (mx_MR p j))))) ∧
  (∀ n, mx_SH p = (3, n) → ∃ scr : Cell, H[Γ.1 p]? = some scr ∧ scr.cls = Γ.2.2.1 3 ∧ (∀ k, scr.vm ≠ .statics k) ∧ scr.vm ≠ .unknown ∧ scr.slots.size = Γ.2.2.2 ∧ ∀ j : Nat, j < Γ.2.2.2 → scr.slots[j]? = some (.int (σ.2.2 p j))) ∧
  (∀ t n, mx_SH p = (t + 4, n) → ∃ cell : Cell, H[Γ.1 p]? = some cell ∧ cell.cls = Γ.2.1.1 t ∧ cell.vm = .none ∧
    ∀ k, k < n → ∃ x : Value, cell.slots[Γ.2.1.2 t k]? = some x ∧ (mx_isI t k = true → x = .int (σ.2.2 p k)) ∧ (mx_isI t k = false → σ.2.1 p k = true → x = .ref (Γ.1 (mx_MR p k))))
theorem mx_cell.kept {Γ : mx_X} {σ τ : mx_S} {p : Nat} {H H1 : Heap} (h : mx_cell Γ σ p H) (hH : H1[Γ.1 p]? = H[Γ.1 p]?) (hi : ∀ j, τ.2.2 p j = σ.2.2 p j) (hu : ∀ j, τ.2.1 p j = σ.2.1 p j) : mx_cell Γ τ p H1 := by
  have e : τ.2.2 p = σ.2.2 p := funext hi
  have e2 : τ.2.1 p = σ.2.1 p := funext hu
  unfold mx_cell at h ⊢
  rw [hH, e, e2]
  exact h
theorem mx_arrV {c n : Nat} {f g : Nat → Value} (h : ∀ j, j < n → f j = g j) : arrV c n f = arrV c n g := by
  unfold arrV
  have e : (fun j : Fin n => f j.val) = (fun j : Fin n => g j.val) := funext fun j => h j.val j.isLt
  rw [e]
def mx_Rep (Γ : mx_X) (σ : mx_S) (H : Heap) : Prop :=
  1 ≤ σ.1 ∧ Γ.1 0 < Γ.1 1 ∧ (∀ j, Γ.1 (1 + j) = Γ.1 1 + j) ∧ H.size = Γ.1 σ.1 ∧ ∀ p, p < σ.1 → mx_cell Γ σ p H
theorem mx_inj {ad : Nat → Nat} (h0 : ad 0 < ad 1) (h1 : ∀ j, ad (1 + j) = ad 1 + j) {i j : Nat} (h : ad i = ad j) : i = j := by
  rcases Nat.eq_zero_or_pos i with hi | hi <;> rcases Nat.eq_zero_or_pos j with hj | hj
  · omega
  · have e := h1 (j - 1)
    rw [show 1 + (j - 1) = j by omega] at e
    subst hi
    omega
  · have e := h1 (i - 1)
    rw [show 1 + (i - 1) = i by omega] at e
    subst hj
    omega
  · have e := h1 (i - 1)
    have e2 := h1 (j - 1)
    rw [show 1 + (i - 1) = i by omega] at e
    rw [show 1 + (j - 1) = j by omega] at e2
    omega
theorem mx_base {ad : Nat → Nat} (h1 : ∀ j, ad (1 + j) = ad 1 + j) {p : Nat} (hp : 1 ≤ p) : ad 1 ≤ ad p := by
  have e := h1 (p - 1)
  rw [show 1 + (p - 1) = p by omega] at e
  omega
theorem mx_adS {ad : Nat → Nat} (h1 : ∀ j, ad (1 + j) = ad 1 + j) {p : Nat} (hp : 1 ≤ p) (k : Nat) : ad (p + k) = ad p + k := by
  have e := h1 (p - 1)
  have e2 := h1 (p - 1 + k)
  rw [show 1 + (p - 1) = p by omega] at e
  rw [show 1 + (p - 1 + k) = p + k by omega] at e2
  omega
theorem mx_Rep.upd {Γ : mx_X} {σ τ : mx_S} {H H1 : Heap} {p : Nat} (hR : mx_Rep Γ σ H) (hn : τ.1 = σ.1) (hz : H1.size = H.size) (ho : ∀ a : Nat, a ≠ Γ.1 p → H1[a]? = H[a]?) (hc : mx_cell Γ τ p H1)
    (hi : ∀ r, r ≠ p → ∀ j, τ.2.2 r j = σ.2.2 r j) (hu : ∀ r, r ≠ p → ∀ j, τ.2.1 r j = σ.2.1 r j) : mx_Rep Γ τ H1 := by
  obtain ⟨h1, h2, h3, h4, h5⟩ := hR
  refine ⟨by rw [hn]; exact h1, h2, h3, by rw [hz, hn]; exact h4, fun r hr => ?_⟩
  by_cases e : r = p
  · rw [e]; exact hc
  · exact (h5 r (by rw [← hn]; exact hr)).kept (ho _ (fun z => e (mx_inj h2 h3 z))) (hi r e) (hu r e)
/-- what a method's body knows -/
def mx_Ctx (Γ : mx_X) (κ : mx_K) (M : mx_M) : Prop :=
  (mx_p κ).tables.exec = Jvm.exec ∧ (mx_c κ).code = M.2.1 ∧ (mx_c κ).maxLocals = M.2.2.1 ∧ (mx_s κ).vm.findClass M.1.cls = some (mx_m κ).cls ∧ (∀ x ∈ mx_WS, x.before (mx_a κ) (mx_s κ) = true) ∧ mx_KK Γ (mx_s κ) ∧
  (mx_h κ).locks = false ∧ mx_R κ = M.2.2.2.2 ∧ (mx_h κ).sig.returnType = M.2.2.2.1 ∧ (mx_h κ).name = M.1.name
abbrev mx_W (κ : mx_K) (H : Heap) (locs : List Loc) (cells slots : Nat) (Q : State → Prop) (g : JFrame) : Prop := W (mx_p κ) (mx_l κ) (mx_e κ) (mx_R κ) (mx_s κ) (mx_m κ) (mx_a κ) (mx_b κ) (mx_h κ) (mx_c κ) H locs cells slots Q g
/-- THE WALK: at pc, with locals L, stack S, state σ -/
def mx_G (Γ : mx_X) (κ : mx_K) (M : mx_M) (Q : State → Prop) (pc : Nat) (L : List (Nat × Value)) (S : List Value) (σ : mx_S) (cells slots : Nat) : Prop :=
  ∀ (H : Heap) (locs : List Loc) (ls : Array Slot), mx_Rep Γ σ H → (∀ q ∈ locs, Γ.1 1 ≤ q.base) → lv_has ls M.2.2.1 (mx_L Γ.1 L) → mx_W κ H locs cells slots Q (F0 (mx_m κ) pc ls (S.map (mx_v Γ.1)))
/-- a counted loop -/
abbrev mx_Mm : Type := Nat → Nat → Int32
def mx_lp {α : Type} : Nat → (Nat → α → α) → α → α
  | 0, _, m => m
  | n + 1, f, m => f n (mx_lp n f m)
theorem mx_lp_inv {α : Type} {f : Nat → α → α} {I : Nat → α → Prop} {m : α} : ∀ (N : Nat), I 0 m → (∀ i m, i < N → I i m → I (i + 1) (f i m)) → ∀ j, j ≤ N → I j (mx_lp j f m)
  | N, h0, hI, 0, _ => h0
  | N, h0, hI, j + 1, hj => hI j _ (by omega) (mx_lp_inv N h0 hI j (by omega))
theorem mx_loop {N : Nat} {Hd : Nat → mx_Mm → Prop} (f : Nat → mx_Mm → mx_Mm) (I : Nat → mx_Mm → Prop) {m : mx_Mm} (h0 : I 0 m) (hI : ∀ i m, i < N → I i m → I (i + 1) (f i m)) (hs : ∀ i m, i < N → I i m → Hd (i + 1) (f i m) → Hd i m) (hx : I N (mx_lp N f m) → Hd N (mx_lp N f m)) : Hd 0 m := by
  have hA := mx_lp_inv (f := f) (m := m) N h0 hI
  have key : ∀ j, j ≤ N → Hd (N - j) (mx_lp (N - j) f m) := by
    intro j
    induction j with
    | zero => intro _; exact hx (hA N (Nat.le_refl _))
    | succ j ih =>
      intro hj
      have h1 := ih (by omega)
      have e : N - j = (N - (j + 1)) + 1 := by omega
      rw [e] at h1
      exact hs _ _ (by omega) (hA _ (by omega)) h1
  have := key N (Nat.le_refl _)
  rw [Nat.sub_self] at this
  exact this
theorem mx_inc (i : Nat) : nI i + Int32.ofInt 1 = nI (i + 1) := nI_1 i
section XR
variable {Γ : mx_X} {κ : mx_K} {M : mx_M} {Q : State → Prop} {pc q : Nat} {L L1 : List (Nat × Value)} {S : List Value} {σ : mx_S} {cells slots : Nat}
theorem x_iconst (hC : mx_Ctx Γ κ M) {n : Int} {v : Int32} (hdg : decode M.2.1 pc = .ok (.iconst n, 1)) (hv : Int32.ofInt n = v) (hq : pc + 1 = q) (k : mx_G Γ κ M Q q L (.int v :: S) σ cells slots) : mx_G Γ κ M Q pc L S σ cells slots := by
  subst hq
  intro H locs ls hR ho hl
  exact lv_iconst hC.1 hC.2.1 hdg hv (k H locs ls hR ho hl)
theorem x_bipush (hC : mx_Ctx Γ κ M) {n : Int} {v : Int32} (hdg : decode M.2.1 pc = .ok (.bipush n, 2)) (hv : (Int8.ofInt n).toInt32 = v) (hq : pc + 2 = q) (k : mx_G Γ κ M Q q L (.int v :: S) σ cells slots) : mx_G Γ κ M Q pc L S σ cells slots := by
  subst hq
  intro H locs ls hR ho hl
  exact lv_bipush hC.1 hC.2.1 hdg hv (k H locs ls hR ho hl)
theorem x_sipush (hC : mx_Ctx Γ κ M) {n : Int} {v : Int32} (hdg : decode M.2.1 pc = .ok (.sipush n, 3)) (hv : (Int16.ofInt n).toInt32 = v) (hq : pc + 3 = q) (k : mx_G Γ κ M Q q L (.int v :: S) σ cells slots) : mx_G Γ κ M Q pc L S σ cells slots := by
  subst hq
  intro H locs ls hR ho hl
  exact lv_sipush hC.1 hC.2.1 hdg hv (k H locs ls hR ho hl)
theorem x_ldc (hC : mx_Ctx Γ κ M) {index : Nat} {v : Int32} (hw : Cond.constant M.1.cls index v ∈ mx_WS) (hdg : decode M.2.1 pc = .ok (.ldc index, 2)) (hq : pc + 2 = q) (k : mx_G Γ κ M Q q L (.int v :: S) σ cells slots) : mx_G Γ κ M Q pc L S σ cells slots := by
  subst hq
  intro H locs ls hR ho hl
  exact lv_ldc hC.1 hC.2.1 hC.2.2.2.1 (hC.2.2.2.2.1 _ hw) hdg (k H locs ls hR ho hl)
theorem x_ldcw (hC : mx_Ctx Γ κ M) {index : Nat} {v : Int32} (hw : Cond.constant M.1.cls index v ∈ mx_WS) (hdg : decode M.2.1 pc = .ok (.ldc_w index, 3)) (hq : pc + 3 = q) (k : mx_G Γ κ M Q q L (.int v :: S) σ cells slots) : mx_G Γ κ M Q pc L S σ cells slots := by
  subst hq
  intro H locs ls hR ho hl
  exact lv_ldcw hC.1 hC.2.1 hC.2.2.2.1 (hC.2.2.2.2.1 _ hw) hdg (k H locs ls hR ho hl)
theorem x_iload_n (hC : mx_Ctx Γ κ M) {f : Fin 4} {i : Nat} {x : Int32} (hdg : decode M.2.1 pc = .ok (.iload_n f, 1)) (hi : (f : Nat) = i) (hx : mx_lk L i = some (.int x)) (hq : pc + 1 = q) (k : mx_G Γ κ M Q q L (.int x :: S) σ cells slots) : mx_G Γ κ M Q pc L S σ cells slots := by
  subst hq
  intro H locs ls hR ho hl
  exact lv_iload_n hC.1 hC.2.1 hdg hi (mx_lget hl hx) (k H locs ls hR ho hl)
theorem x_iload (hC : mx_Ctx Γ κ M) {i : Nat} {x : Int32} (hdg : decode M.2.1 pc = .ok (.iload i, 2)) (hx : mx_lk L i = some (.int x)) (hq : pc + 2 = q) (k : mx_G Γ κ M Q q L (.int x :: S) σ cells slots) : mx_G Γ κ M Q pc L S σ cells slots := by
  subst hq
  intro H locs ls hR ho hl
  exact lv_iload hC.1 hC.2.1 hdg (mx_lget hl hx) (k H locs ls hR ho hl)
theorem x_aload_n (hC : mx_Ctx Γ κ M) {f : Fin 4} {i : Nat} {x : Nat} (hdg : decode M.2.1 pc = .ok (.aload_n f, 1)) (hi : (f : Nat) = i) (hx : mx_lk L i = some (.ref x)) (hq : pc + 1 = q) (k : mx_G Γ κ M Q q L (.ref x :: S) σ cells slots) : mx_G Γ κ M Q pc L S σ cells slots := by
  subst hq
  intro H locs ls hR ho hl
  exact lv_aload_n hC.1 hC.2.1 hdg hi (mx_lget hl hx) (k H locs ls hR ho hl)
theorem x_aload (hC : mx_Ctx Γ κ M) {i : Nat} {x : Nat} (hdg : decode M.2.1 pc = .ok (.aload i, 2)) (hx : mx_lk L i = some (.ref x)) (hq : pc + 2 = q) (k : mx_G Γ κ M Q q L (.ref x :: S) σ cells slots) : mx_G Γ κ M Q pc L S σ cells slots := by
  subst hq
  intro H locs ls hR ho hl
  exact lv_aload hC.1 hC.2.1 hdg (mx_lget hl hx) (k H locs ls hR ho hl)
theorem x_istore_n (hC : mx_Ctx Γ κ M) {f : Fin 4} {i : Nat} {x : Int32} (hdg : decode M.2.1 pc = .ok (.istore_n f, 1)) (hi : (f : Nat) = i) (hn : i < M.2.2.1) (hL : mx_st L i (.int x) = L1) (hq : pc + 1 = q) (k : mx_G Γ κ M Q q L1 S σ cells slots) : mx_G Γ κ M Q pc L (.int x :: S) σ cells slots := by
  subst hq
  intro H locs ls hR ho hl
  subst hL
  exact lv_istore_n hC.1 hC.2.1 hdg hi hl hn (mx_L_st Γ.1 L i (.int x)) (fun ls1 h1 => k H locs ls1 hR ho h1)
theorem x_istore (hC : mx_Ctx Γ κ M) {i : Nat} {x : Int32} (hdg : decode M.2.1 pc = .ok (.istore i, 2)) (hn : i < M.2.2.1) (hL : mx_st L i (.int x) = L1) (hq : pc + 2 = q) (k : mx_G Γ κ M Q q L1 S σ cells slots) : mx_G Γ κ M Q pc L (.int x :: S) σ cells slots := by
  subst hq
  intro H locs ls hR ho hl
  subst hL
  exact lv_istore hC.1 hC.2.1 hdg hl hn (mx_L_st Γ.1 L i (.int x)) (fun ls1 h1 => k H locs ls1 hR ho h1)
theorem x_astore_n (hC : mx_Ctx Γ κ M) {f : Fin 4} {i : Nat} {x : Nat} (hdg : decode M.2.1 pc = .ok (.astore_n f, 1)) (hi : (f : Nat) = i) (hn : i < M.2.2.1) (hL : mx_st L i (.ref x) = L1) (hq : pc + 1 = q) (k : mx_G Γ κ M Q q L1 S σ cells slots) : mx_G Γ κ M Q pc L (.ref x :: S) σ cells slots := by
  subst hq
  intro H locs ls hR ho hl
  subst hL
  exact lv_astore_n hC.1 hC.2.1 hdg hi hl hn (mx_L_st Γ.1 L i (.ref x)) (fun ls1 h1 => k H locs ls1 hR ho h1)
theorem x_astore (hC : mx_Ctx Γ κ M) {i : Nat} {x : Nat} (hdg : decode M.2.1 pc = .ok (.astore i, 2)) (hn : i < M.2.2.1) (hL : mx_st L i (.ref x) = L1) (hq : pc + 2 = q) (k : mx_G Γ κ M Q q L1 S σ cells slots) : mx_G Γ κ M Q pc L (.ref x :: S) σ cells slots := by
  subst hq
  intro H locs ls hR ho hl
  subst hL
  exact lv_astore hC.1 hC.2.1 hdg hl hn (mx_L_st Γ.1 L i (.ref x)) (fun ls1 h1 => k H locs ls1 hR ho h1)
theorem x_iinc (hC : mx_Ctx Γ κ M) {i : Nat} {n : Int} {x y : Int32} (hdg : decode M.2.1 pc = .ok (.iinc i n, 3)) (hx : mx_lk L i = some (.int x)) (hy : x + Int32.ofInt n = y) (hn : i < M.2.2.1) (hL : mx_st L i (.int y) = L1) (hq : pc + 3 = q) (k : mx_G Γ κ M Q q L1 S σ cells slots) : mx_G Γ κ M Q pc L S σ cells slots := by
  subst hq
  intro H locs ls hR ho hl
  subst hL
  obtain ⟨j, hj⟩ := List.getElem?_of_mem (List.mem_map.mpr ⟨(i, Value.int x), mx_lk_mem hx, rfl⟩ : (i, mx_v Γ.1 (.int x)) ∈ mx_L Γ.1 L)
  exact lv_iinc hC.1 hC.2.1 hdg hl hj hy hn (mx_L_st Γ.1 L i (.int y)) (fun ls1 h1 => k H locs ls1 hR ho h1)
theorem x_iadd (hC : mx_Ctx Γ κ M) {x y z : Int32} (hdg : decode M.2.1 pc = .ok (.iadd, 1)) (hz : x + y = z) (hq : pc + 1 = q) (k : mx_G Γ κ M Q q L (.int z :: S) σ cells slots) : mx_G Γ κ M Q pc L (.int y :: .int x :: S) σ cells slots := by
  subst hq
  intro H locs ls hR ho hl
  subst hz
  exact lv_iadd hC.1 hC.2.1 hdg (k H locs ls hR ho hl)
theorem x_isub (hC : mx_Ctx Γ κ M) {x y z : Int32} (hdg : decode M.2.1 pc = .ok (.isub, 1)) (hz : x - y = z) (hq : pc + 1 = q) (k : mx_G Γ κ M Q q L (.int z :: S) σ cells slots) : mx_G Γ κ M Q pc L (.int y :: .int x :: S) σ cells slots := by
  subst hq
  intro H locs ls hR ho hl
  subst hz
  exact lv_isub hC.1 hC.2.1 hdg (k H locs ls hR ho hl)
theorem x_imul (hC : mx_Ctx Γ κ M) {x y z : Int32} (hdg : decode M.2.1 pc = .ok (.imul, 1)) (hz : x * y = z) (hq : pc + 1 = q) (k : mx_G Γ κ M Q q L (.int z :: S) σ cells slots) : mx_G Γ κ M Q pc L (.int y :: .int x :: S) σ cells slots := by
  subst hq
  intro H locs ls hR ho hl
  subst hz
  exact lv_imul hC.1 hC.2.1 hdg (k H locs ls hR ho hl)
theorem x_iand (hC : mx_Ctx Γ κ M) {x y z : Int32} (hdg : decode M.2.1 pc = .ok (.iand, 1)) (hz : x &&& y = z) (hq : pc + 1 = q) (k : mx_G Γ κ M Q q L (.int z :: S) σ cells slots) : mx_G Γ κ M Q pc L (.int y :: .int x :: S) σ cells slots := by
  subst hq
  intro H locs ls hR ho hl
  subst hz
  exact lv_iand hC.1 hC.2.1 hdg (k H locs ls hR ho hl)
theorem x_ior (hC : mx_Ctx Γ κ M) {x y z : Int32} (hdg : decode M.2.1 pc = .ok (.ior, 1)) (hz : x ||| y = z) (hq : pc + 1 = q) (k : mx_G Γ κ M Q q L (.int z :: S) σ cells slots) : mx_G Γ κ M Q pc L (.int y :: .int x :: S) σ cells slots := by
  subst hq
  intro H locs ls hR ho hl
  subst hz
  exact lv_ior hC.1 hC.2.1 hdg (k H locs ls hR ho hl)
theorem x_ixor (hC : mx_Ctx Γ κ M) {x y z : Int32} (hdg : decode M.2.1 pc = .ok (.ixor, 1)) (hz : x ^^^ y = z) (hq : pc + 1 = q) (k : mx_G Γ κ M Q q L (.int z :: S) σ cells slots) : mx_G Γ κ M Q pc L (.int y :: .int x :: S) σ cells slots := by
  subst hq
  intro H locs ls hR ho hl
  subst hz
  exact lv_ixor hC.1 hC.2.1 hdg (k H locs ls hR ho hl)
theorem x_ishl (hC : mx_Ctx Γ κ M) {x y z : Int32} (hdg : decode M.2.1 pc = .ok (.ishl, 1)) (hz : x <<< (y &&& 31) = z) (hq : pc + 1 = q) (k : mx_G Γ κ M Q q L (.int z :: S) σ cells slots) : mx_G Γ κ M Q pc L (.int y :: .int x :: S) σ cells slots := by
  subst hq
  intro H locs ls hR ho hl
  subst hz
  exact lv_ishl hC.1 hC.2.1 hdg (k H locs ls hR ho hl)
theorem x_ishr (hC : mx_Ctx Γ κ M) {x y z : Int32} (hdg : decode M.2.1 pc = .ok (.ishr, 1)) (hz : x >>> (y &&& 31) = z) (hq : pc + 1 = q) (k : mx_G Γ κ M Q q L (.int z :: S) σ cells slots) : mx_G Γ κ M Q pc L (.int y :: .int x :: S) σ cells slots := by
  subst hq
  intro H locs ls hR ho hl
  subst hz
  exact lv_ishr hC.1 hC.2.1 hdg (k H locs ls hR ho hl)
theorem x_iushr (hC : mx_Ctx Γ κ M) {x y z : Int32} (hdg : decode M.2.1 pc = .ok (.iushr, 1)) (hz : (x.toUInt32 >>> (y.toUInt32 &&& Int32.toUInt32 31)).toInt32 = z) (hq : pc + 1 = q) (k : mx_G Γ κ M Q q L (.int z :: S) σ cells slots) : mx_G Γ κ M Q pc L (.int y :: .int x :: S) σ cells slots := by
  subst hq
  intro H locs ls hR ho hl
  exact lv_iushr hC.1 hC.2.1 hdg hz (k H locs ls hR ho hl)
theorem x_idiv (hC : mx_Ctx Γ κ M) {x y z : Int32} (hdg : decode M.2.1 pc = .ok (.idiv, 1)) (hne : ¬ y = 0) (hz : x / y = z) (hq : pc + 1 = q) (k : mx_G Γ κ M Q q L (.int z :: S) σ cells slots) : mx_G Γ κ M Q pc L (.int y :: .int x :: S) σ cells slots := by
  subst hq
  intro H locs ls hR ho hl
  subst hz
  exact lv_idiv hC.1 hC.2.1 hdg hne (k H locs ls hR ho hl)
theorem x_irem (hC : mx_Ctx Γ κ M) {x y z : Int32} (hdg : decode M.2.1 pc = .ok (.irem, 1)) (hne : ¬ y = 0) (hz : x - x / y * y = z) (hq : pc + 1 = q) (k : mx_G Γ κ M Q q L (.int z :: S) σ cells slots) : mx_G Γ κ M Q pc L (.int y :: .int x :: S) σ cells slots := by
  subst hq
  intro H locs ls hR ho hl
  subst hz
  exact lv_irem hC.1 hC.2.1 hdg hne (k H locs ls hR ho hl)
theorem x_ineg (hC : mx_Ctx Γ κ M) {x z : Int32} (hdg : decode M.2.1 pc = .ok (.ineg, 1)) (hz : -x = z) (hq : pc + 1 = q) (k : mx_G Γ κ M Q q L (.int z :: S) σ cells slots) : mx_G Γ κ M Q pc L (.int x :: S) σ cells slots := by
  subst hq
  intro H locs ls hR ho hl
  subst hz
  exact lv_ineg hC.1 hC.2.1 hdg (k H locs ls hR ho hl)
theorem x_dup (hC : mx_Ctx Γ κ M) {x : Value} (hdg : decode M.2.1 pc = .ok (.dup, 1)) (hx : x.category = 1) (hq : pc + 1 = q) (k : mx_G Γ κ M Q q L (x :: x :: S) σ cells slots) : mx_G Γ κ M Q pc L (x :: S) σ cells slots := by
  subst hq
  intro H locs ls hR ho hl
  exact lv_dup hC.1 hC.2.1 hdg ((mx_v_cat _ _).trans hx) (k H locs ls hR ho hl)
theorem x_pop (hC : mx_Ctx Γ κ M) {x : Value} (hdg : decode M.2.1 pc = .ok (.pop, 1)) (hx : x.category = 1) (hq : pc + 1 = q) (k : mx_G Γ κ M Q q L S σ cells slots) : mx_G Γ κ M Q pc L (x :: S) σ cells slots := by
  subst hq
  intro H locs ls hR ho hl
  exact lv_pop hC.1 hC.2.1 hdg ((mx_v_cat _ _).trans hx) (k H locs ls hR ho hl)
theorem x_dup_x1 (hC : mx_Ctx Γ κ M) {x y : Value} (hdg : decode M.2.1 pc = .ok (.dup_x1, 1)) (hx : x.category = 1) (hy : y.category = 1) (hq : pc + 1 = q) (k : mx_G Γ κ M Q q L (x :: y :: x :: S) σ cells slots) : mx_G Γ κ M Q pc L (x :: y :: S) σ cells slots := by
  subst hq
  intro H locs ls hR ho hl
  exact lv_dup_x1 hC.1 hC.2.1 hdg ((mx_v_cat _ _).trans hx) ((mx_v_cat _ _).trans hy) (k H locs ls hR ho hl)
theorem x_dup_x2 (hC : mx_Ctx Γ κ M) {x y z : Value} (hdg : decode M.2.1 pc = .ok (.dup_x2, 1)) (hx : x.category = 1) (hy : y.category = 1) (hz : z.category = 1) (hq : pc + 1 = q) (k : mx_G Γ κ M Q q L (x :: y :: z :: x :: S) σ cells slots) : mx_G Γ κ M Q pc L (x :: y :: z :: S) σ cells slots := by
  subst hq
  intro H locs ls hR ho hl
  exact lv_dup_x2 hC.1 hC.2.1 hdg ((mx_v_cat _ _).trans hx) ((mx_v_cat _ _).trans hy) ((mx_v_cat _ _).trans hz) (k H locs ls hR ho hl)
theorem x_dup2 (hC : mx_Ctx Γ κ M) {x y : Value} (hdg : decode M.2.1 pc = .ok (.dup2, 1)) (hx : x.category = 1) (hy : y.category = 1) (hq : pc + 1 = q) (k : mx_G Γ κ M Q q L (x :: y :: x :: y :: S) σ cells slots) : mx_G Γ κ M Q pc L (x :: y :: S) σ cells slots := by
  subst hq
  intro H locs ls hR ho hl
  exact lv_dup2_11 hC.1 hC.2.1 hdg ((mx_v_cat _ _).trans hx) ((mx_v_cat _ _).trans hy) (k H locs ls hR ho hl)
theorem x_if_eq (hC : mx_Ctx Γ κ M) {x : Int32} {off : Int} {tgt : Nat} (hdg : decode M.2.1 pc = .ok (.ifCond .eq off, 3)) (ht : (pc : Int) + off = (tgt : Int)) (hq : pc + 3 = q)
    (kt : x = 0 → mx_G Γ κ M Q tgt L S σ cells slots) (kf : ¬ x = 0 → mx_G Γ κ M Q q L S σ cells slots) : mx_G Γ κ M Q pc L (.int x :: S) σ cells slots := by
  subst hq
  intro H locs ls hR ho hl
  exact lv_if_eq hC.1 hC.2.1 hdg ht (fun h => kt h H locs ls hR ho hl) (fun h => kf h H locs ls hR ho hl)
theorem x_icmp_eq (hC : mx_Ctx Γ κ M) {x y : Int32} {off : Int} {tgt : Nat} (hdg : decode M.2.1 pc = .ok (.if_icmp .eq off, 3)) (ht : (pc : Int) + off = (tgt : Int)) (hq : pc + 3 = q)
    (kt : x = y → mx_G Γ κ M Q tgt L S σ cells slots) (kf : ¬ x = y → mx_G Γ κ M Q q L S σ cells slots) : mx_G Γ κ M Q pc L (.int y :: .int x :: S) σ cells slots := by
  subst hq
  intro H locs ls hR ho hl
  exact lv_icmp_eq hC.1 hC.2.1 hdg ht (fun h => kt h H locs ls hR ho hl) (fun h => kf h H locs ls hR ho hl)
theorem x_if_ne (hC : mx_Ctx Γ κ M) {x : Int32} {off : Int} {tgt : Nat} (hdg : decode M.2.1 pc = .ok (.ifCond .ne off, 3)) (ht : (pc : Int) + off = (tgt : Int)) (hq : pc + 3 = q)
    (kt : ¬ x = 0 → mx_G Γ κ M Q tgt L S σ cells slots) (kf : x = 0 → mx_G Γ κ M Q q L S σ cells slots) : mx_G Γ κ M Q pc L (.int x :: S) σ cells slots := by
  subst hq
  intro H locs ls hR ho hl
  exact lv_if_ne hC.1 hC.2.1 hdg ht (fun h => kt h H locs ls hR ho hl) (fun h => kf h H locs ls hR ho hl)
theorem x_icmp_ne (hC : mx_Ctx Γ κ M) {x y : Int32} {off : Int} {tgt : Nat} (hdg : decode M.2.1 pc = .ok (.if_icmp .ne off, 3)) (ht : (pc : Int) + off = (tgt : Int)) (hq : pc + 3 = q)
    (kt : ¬ x = y → mx_G Γ κ M Q tgt L S σ cells slots) (kf : x = y → mx_G Γ κ M Q q L S σ cells slots) : mx_G Γ κ M Q pc L (.int y :: .int x :: S) σ cells slots := by
  subst hq
  intro H locs ls hR ho hl
  exact lv_icmp_ne hC.1 hC.2.1 hdg ht (fun h => kt h H locs ls hR ho hl) (fun h => kf h H locs ls hR ho hl)
theorem x_if_lt (hC : mx_Ctx Γ κ M) {x : Int32} {off : Int} {tgt : Nat} (hdg : decode M.2.1 pc = .ok (.ifCond .lt off, 3)) (ht : (pc : Int) + off = (tgt : Int)) (hq : pc + 3 = q)
    (kt : x < 0 → mx_G Γ κ M Q tgt L S σ cells slots) (kf : ¬ x < 0 → mx_G Γ κ M Q q L S σ cells slots) : mx_G Γ κ M Q pc L (.int x :: S) σ cells slots := by
  subst hq
  intro H locs ls hR ho hl
  exact lv_if_lt hC.1 hC.2.1 hdg ht (fun h => kt h H locs ls hR ho hl) (fun h => kf h H locs ls hR ho hl)
theorem x_icmp_lt (hC : mx_Ctx Γ κ M) {x y : Int32} {off : Int} {tgt : Nat} (hdg : decode M.2.1 pc = .ok (.if_icmp .lt off, 3)) (ht : (pc : Int) + off = (tgt : Int)) (hq : pc + 3 = q)
    (kt : x < y → mx_G Γ κ M Q tgt L S σ cells slots) (kf : ¬ x < y → mx_G Γ κ M Q q L S σ cells slots) : mx_G Γ κ M Q pc L (.int y :: .int x :: S) σ cells slots := by
  subst hq
  intro H locs ls hR ho hl
  exact lv_icmp_lt hC.1 hC.2.1 hdg ht (fun h => kt h H locs ls hR ho hl) (fun h => kf h H locs ls hR ho hl)
theorem x_if_ge (hC : mx_Ctx Γ κ M) {x : Int32} {off : Int} {tgt : Nat} (hdg : decode M.2.1 pc = .ok (.ifCond .ge off, 3)) (ht : (pc : Int) + off = (tgt : Int)) (hq : pc + 3 = q)
    (kt : 0 ≤ x → mx_G Γ κ M Q tgt L S σ cells slots) (kf : ¬ 0 ≤ x → mx_G Γ κ M Q q L S σ cells slots) : mx_G Γ κ M Q pc L (.int x :: S) σ cells slots := by
  subst hq
  intro H locs ls hR ho hl
  exact lv_if_ge hC.1 hC.2.1 hdg ht (fun h => kt h H locs ls hR ho hl) (fun h => kf h H locs ls hR ho hl)
theorem x_icmp_ge (hC : mx_Ctx Γ κ M) {x y : Int32} {off : Int} {tgt : Nat} (hdg : decode M.2.1 pc = .ok (.if_icmp .ge off, 3)) (ht : (pc : Int) + off = (tgt : Int)) (hq : pc + 3 = q)
    (kt : y ≤ x → mx_G Γ κ M Q tgt L S σ cells slots) (kf : ¬ y ≤ x → mx_G Γ κ M Q q L S σ cells slots) : mx_G Γ κ M Q pc L (.int y :: .int x :: S) σ cells slots := by
  subst hq
  intro H locs ls hR ho hl
  exact lv_icmp_ge hC.1 hC.2.1 hdg ht (fun h => kt h H locs ls hR ho hl) (fun h => kf h H locs ls hR ho hl)
theorem x_if_gt (hC : mx_Ctx Γ κ M) {x : Int32} {off : Int} {tgt : Nat} (hdg : decode M.2.1 pc = .ok (.ifCond .gt off, 3)) (ht : (pc : Int) + off = (tgt : Int)) (hq : pc + 3 = q)
    (kt : 0 < x → mx_G Γ κ M Q tgt L S σ cells slots) (kf : ¬ 0 < x → mx_G Γ κ M Q q L S σ cells slots) : mx_G Γ κ M Q pc L (.int x :: S) σ cells slots := by
  subst hq
  intro H locs ls hR ho hl
  exact lv_if_gt hC.1 hC.2.1 hdg ht (fun h => kt h H locs ls hR ho hl) (fun h => kf h H locs ls hR ho hl)
theorem x_icmp_gt (hC : mx_Ctx Γ κ M) {x y : Int32} {off : Int} {tgt : Nat} (hdg : decode M.2.1 pc = .ok (.if_icmp .gt off, 3)) (ht : (pc : Int) + off = (tgt : Int)) (hq : pc + 3 = q)
    (kt : y < x → mx_G Γ κ M Q tgt L S σ cells slots) (kf : ¬ y < x → mx_G Γ κ M Q q L S σ cells slots) : mx_G Γ κ M Q pc L (.int y :: .int x :: S) σ cells slots := by
  subst hq
  intro H locs ls hR ho hl
  exact lv_icmp_gt hC.1 hC.2.1 hdg ht (fun h => kt h H locs ls hR ho hl) (fun h => kf h H locs ls hR ho hl)
theorem x_if_le (hC : mx_Ctx Γ κ M) {x : Int32} {off : Int} {tgt : Nat} (hdg : decode M.2.1 pc = .ok (.ifCond .le off, 3)) (ht : (pc : Int) + off = (tgt : Int)) (hq : pc + 3 = q)
    (kt : x ≤ 0 → mx_G Γ κ M Q tgt L S σ cells slots) (kf : ¬ x ≤ 0 → mx_G Γ κ M Q q L S σ cells slots) : mx_G Γ κ M Q pc L (.int x :: S) σ cells slots := by
  subst hq
  intro H locs ls hR ho hl
  exact lv_if_le hC.1 hC.2.1 hdg ht (fun h => kt h H locs ls hR ho hl) (fun h => kf h H locs ls hR ho hl)
theorem x_icmp_le (hC : mx_Ctx Γ κ M) {x y : Int32} {off : Int} {tgt : Nat} (hdg : decode M.2.1 pc = .ok (.if_icmp .le off, 3)) (ht : (pc : Int) + off = (tgt : Int)) (hq : pc + 3 = q)
    (kt : x ≤ y → mx_G Γ κ M Q tgt L S σ cells slots) (kf : ¬ x ≤ y → mx_G Γ κ M Q q L S σ cells slots) : mx_G Γ κ M Q pc L (.int y :: .int x :: S) σ cells slots := by
  subst hq
  intro H locs ls hR ho hl
  exact lv_icmp_le hC.1 hC.2.1 hdg ht (fun h => kt h H locs ls hR ho hl) (fun h => kf h H locs ls hR ho hl)
theorem x_goto (hC : mx_Ctx Γ κ M) {off : Int} {tgt : Nat} (hdg : decode M.2.1 pc = .ok (.goto off, 3)) (ht : (pc : Int) + off = (tgt : Int)) (k : mx_G Γ κ M Q tgt L S σ cells slots) : mx_G Γ κ M Q pc L S σ cells slots := by
  intro H locs ls hR ho hl
  exact lv_goto hC.1 hC.2.1 hdg ht (k H locs ls hR ho hl)
/-- a field as an instruction of the own cell kind names it -/
def mx_F (own : String) (index ci k : Nat) (C : String) (T : u_T) (N : Nat) : Prop := vwCl[ci]? = some (C, T, N) ∧ k < N ∧ Cond.fieldLink own index (T k).1 (T k).2.1 (T k).2.2.1 ∈ mx_WS ∧ ∀ x ∈ u_ws C T N, x ∈ mx_WS
/-- .. and its layout, for stores -/
def mx_Y (T : u_T) (N : Nat) (ty : Nat → FieldType) : Prop := (∀ k, k < N → parseFieldDescriptor (T k).2.2.1 = some (ty k)) ∧ ∀ a, a < N → ∀ b, b < N → a ≠ b → (T a).2.1 ≠ (T b).2.1
theorem x_geti (hC : mx_Ctx Γ κ M) {ci j N index p : Nat} {C : String} {T : u_T} (hF : mx_F M.1.cls index ci j C T N) (hsh : mx_SH p = (ci + 4, N)) (hI : mx_isI ci j = true) (hp : p < σ.1) (hdg : decode M.2.1 pc = .ok (.getfield index, 3)) (hq : pc + 3 = q)
    (k : mx_G Γ κ M Q q L (.int (σ.2.2 p j) :: S) σ cells slots) : mx_G Γ κ M Q pc L (.ref p :: S) σ cells slots := by
  subst hq
  intro H locs ls hR ho hl
  obtain ⟨hx, hb, hml, hown, hts, hK, -⟩ := hC
  obtain ⟨hc, hk, hw, hu⟩ := hF
  obtain ⟨cell, q1, q2, q3, q4⟩ := (hR.2.2.2.2 p hp).2.2.2.2 ci N hsh
  obtain ⟨v, v1, v2, v3⟩ := q4 j hk
  obtain ⟨hS, hfc, kC, hkC, hkind⟩ := hK.1.1 ci _ hc
  obtain ⟨cf, kf, fi, f, hi, hsl⟩ := hS j hk
  have hv := v2 hI
  subst hv
  exact W.getf hx hb hown (hts _ hw) hi (u_facts hfc hkC (u_lays hts hu hk) hi).1 q1 (by rw [q3]; exact fun h => by cases h) (v := .int (σ.2.2 p j)) (by rw [hsl]; exact v1) rfl rfl hdg (k H locs ls hR ho hl)
theorem x_getr (hC : mx_Ctx Γ κ M) {ci j N index p r : Nat} {C : String} {T : u_T} (hF : mx_F M.1.cls index ci j C T N) (hsh : mx_SH p = (ci + 4, N)) (hI : mx_isI ci j = false) (hr : mx_MR p j = r) (hp : p < σ.1) (hv : σ.2.1 p j = true) (hdg : decode M.2.1 pc = .ok (.getfield index, 3)) (hq : pc + 3 = q)
    (k : mx_G Γ κ M Q q L (.ref r :: S) σ cells slots) : mx_G Γ κ M Q pc L (.ref p :: S) σ cells slots := by
  subst hq
  subst hr
  intro H locs ls hR ho hl
  obtain ⟨hx, hb, hml, hown, hts, hK, -⟩ := hC
  obtain ⟨hc, hk, hw, hu⟩ := hF
  obtain ⟨cell, q1, q2, q3, q4⟩ := (hR.2.2.2.2 p hp).2.2.2.2 ci N hsh
  obtain ⟨v, v1, v2, v3⟩ := q4 j hk
  obtain ⟨hS, hfc, kC, hkC, hkind⟩ := hK.1.1 ci _ hc
  obtain ⟨cf, kf, fi, f, hi, hsl⟩ := hS j hk
  have hv := v3 hI hv
  subst hv
  exact W.getf hx hb hown (hts _ hw) hi (u_facts hfc hkC (u_lays hts hu hk) hi).1 q1 (by rw [q3]; exact fun h => by cases h) (v := .ref (Γ.1 (mx_MR p j))) (by rw [hsl]; exact v1) rfl rfl hdg (k H locs ls hR ho hl)
theorem mx_apart {ws : List Cond} {s : State} {args : Array Value} {C : String} {T : u_T} {N ci : Nat} {D : va_G} {cl : List vw_C} {tys : List (ClassId × FieldType)} {ty : Nat → FieldType} (hts : ∀ x ∈ ws, x.before args s = true) (hu : ∀ x ∈ u_ws C T N, x ∈ ws) (hY : mx_Y T N ty) (hK : va_K D cl tys s) (hc : cl[ci]? = some (C, T, N)) : ∀ x y, x < N → y < N → x ≠ y → (D.2 ci) x ≠ (D.2 ci) y := by
  intro x y hx hy hne
  obtain ⟨hS, -⟩ := hK.1 ci _ hc
  obtain ⟨_, _, _, fa, hia, ea⟩ := hS x hx
  obtain ⟨_, _, _, fb, hib, eb⟩ := hS y hy
  rw [← ea, ← eb]
  refine u_apart (u_lays hts hu hx) (u_lays hts hu hy) hia hib ?_
  rw [(State.fieldFound?_type hia (hY.1 x hx)).1, (State.fieldFound?_type hib (hY.1 y hy)).1]
  exact hY.2 x hx y hy hne
theorem x_puti (hC : mx_Ctx Γ κ M) {ci j N index p : Nat} {C : String} {T : u_T} {ty : Nat → FieldType} (hF : mx_F M.1.cls index ci j C T N) (hY : mx_Y T N ty) (hfin : (T j).2.2.2 = false) (hsh : mx_SH p = (ci + 4, N)) (hI : mx_isI ci j = true) {x : Int32} (hn : narrow (ty j) (.int x) = .int x) (hfit : fits (ty j) (.int x) = true) (hp : p < σ.1) (hp1 : 1 ≤ p) (hdg : decode M.2.1 pc = .ok (.putfield index, 3)) (hq : pc + 3 = q)
    (k : mx_G Γ κ M Q q L S (σ.1, σ.2.1, mx_up σ.2.2 p j x) cells slots) : mx_G Γ κ M Q pc L (.int x :: .ref p :: S) σ cells slots := by
  subst hq
  intro H locs ls hR ho hl
  obtain ⟨hx, hb, hml, hown, hts, hK, hlk, hRm, hrt, hnm⟩ := hC
  obtain ⟨hc, hk, hw, hu⟩ := hF
  have hap := mx_apart hts hu hY hK.1 hc
  obtain ⟨cell, q1, q2, q3, q4⟩ := (hR.2.2.2.2 p hp).2.2.2.2 ci N hsh
  obtain ⟨v, v1, v2, v3⟩ := q4 j hk
  obtain ⟨hS, hfc, kC, hkC, hkind⟩ := hK.1.1 ci _ hc
  obtain ⟨cf, kf, fi, f, hi, hsl⟩ := hS j hk
  have hd := hY.1 j hk
  have hlay := hts _ (hu _ (u_in_lay hk))
  unfold u_lay at hlay
  rw [if_neg (by rw [hfin]; decide)] at hlay
  have hst := (u_facts hfc hkC (u_lays hts hu hk) hi).1
  have h6 := u_store hfc hkC hkind hlay hi hd hn hfit
  refine W.putK hx hb (f := f) ⟨hown, hts _ hw, ⟨_, _, _, hi⟩, hst⟩ (by rw [q2]; exact h6) q1 q3 (by rw [hsl]; exact k2_hasslot v1) rfl rfl hdg fun H' e1 e2 e3 => ?_
  rw [hsl] at e1 ⊢
  refine k H' _ ls (mx_Rep.upd (p := p) hR rfl e2 e3 ⟨fun _ h => absurd (mx_shq hsh h).1 (by omega), fun _ h => absurd (mx_shq hsh h).1 (by omega), fun _ h => absurd (mx_shq hsh h).1 (by omega), fun _ h => absurd (mx_shq hsh h).1 (by omega), fun t n h => ?_⟩ (fun r hr i => by simp [mx_up, hr]) (fun _ _ _ => rfl)) ?_ hl
  · obtain ⟨ea, eb⟩ := mx_shq hsh h
    obtain rfl : ci = t := by omega
    subst eb
    refine ⟨_, e1, q2, q3, fun i hi2 => ?_⟩
    by_cases e : i = j
    · subst e
      refine ⟨_, Cell.slots_setSlot_self _ (k2_hasslot v1), fun _ => by simp [mx_up, mx_v], fun h => by rw [hI] at h; cases h⟩
    · obtain ⟨z, z1, z2, z3⟩ := q4 i hi2
      refine ⟨z, by rw [slot_ne _ _ (hap j i hk hi2 (Ne.symm e)), z1], fun h => by rw [z2 h]; simp [mx_up, e], z3⟩
  · intro y hy
    rcases List.mem_append.mp hy with h | h
    · exact ho y h
    · rw [List.mem_singleton.mp h]
      exact mx_base hR.2.2.1 hp1
theorem x_putiF (hC : mx_Ctx Γ κ M) {ci j N index p : Nat} {C : String} {T : u_T} {ty : Nat → FieldType} (hF : mx_F M.1.cls index ci j C T N) (hY : mx_Y T N ty) (hfin : (T j).2.2.2 = true) (hin : M.1.name = "<init>") (hdecl : (T j).1 = M.1.cls) (hsh : mx_SH p = (ci + 4, N)) (hI : mx_isI ci j = true) {x : Int32} (hn : narrow (ty j) (.int x) = .int x) (hfit : fits (ty j) (.int x) = true) (hp : p < σ.1) (hp1 : 1 ≤ p) (hdg : decode M.2.1 pc = .ok (.putfield index, 3)) (hq : pc + 3 = q)
    (k : mx_G Γ κ M Q q L S (σ.1, σ.2.1, mx_up σ.2.2 p j x) cells slots) : mx_G Γ κ M Q pc L (.int x :: .ref p :: S) σ cells slots := by
  subst hq
  intro H locs ls hR ho hl
  obtain ⟨hx, hb, hml, hown, hts, hK, hlk, hRm, hrt, hnm⟩ := hC
  obtain ⟨hc, hk, hw, hu⟩ := hF
  have hap := mx_apart hts hu hY hK.1 hc
  obtain ⟨cell, q1, q2, q3, q4⟩ := (hR.2.2.2.2 p hp).2.2.2.2 ci N hsh
  obtain ⟨v, v1, v2, v3⟩ := q4 j hk
  obtain ⟨hS, hfc, kC, hkC, hkind⟩ := hK.1.1 ci _ hc
  obtain ⟨cf, kf, fi, f, hi, hsl⟩ := hS j hk
  have hd := hY.1 j hk
  have hlay := hts _ (hu _ (u_in_lay hk))
  unfold u_lay at hlay
  rw [if_pos hfin] at hlay
  have hst := (u_facts hfc hkC (u_lays hts hu hk) hi).1
  have hcf : (mx_m κ).cls = cf := by
    obtain ⟨_, _, c', _, _, _, -, -, hf', -, -, -, hown2, -⟩ := Cond.laysFinal_spec hlay
    have e1 : c' = cf := by have := hi.symm.trans hf'; simp at this; exact this.1.symm
    rw [hdecl] at hown2
    rw [← e1]; exact Option.some.inj (hown.symm.trans hown2)
  have h6 := u_fits hfc hkC hkind (Or.inr hlay) hi hd hn hfit
  refine W.putFinK hx hb hown (hts _ hw) hi hst hcf (hnm.trans hin) (by rw [q2]; exact h6) q1 q3 (by rw [hsl]; exact k2_hasslot v1) rfl rfl hdg fun H' e1 e2 e3 => ?_
  rw [hsl] at e1 ⊢
  refine k H' _ ls (mx_Rep.upd (p := p) hR rfl e2 e3 ⟨fun _ h => absurd (mx_shq hsh h).1 (by omega), fun _ h => absurd (mx_shq hsh h).1 (by omega), fun _ h => absurd (mx_shq hsh h).1 (by omega), fun _ h => absurd (mx_shq hsh h).1 (by omega), fun t n h => ?_⟩ (fun r hr i => by simp [mx_up, hr]) (fun _ _ _ => rfl)) ?_ hl
  · obtain ⟨ea, eb⟩ := mx_shq hsh h
    obtain rfl : ci = t := by omega
    subst eb
    refine ⟨_, e1, q2, q3, fun i hi2 => ?_⟩
    by_cases e : i = j
    · subst e
      refine ⟨_, Cell.slots_setSlot_self _ (k2_hasslot v1), fun _ => by simp [mx_up, mx_v], fun h => by rw [hI] at h; cases h⟩
    · obtain ⟨z, z1, z2, z3⟩ := q4 i hi2
      refine ⟨z, by rw [slot_ne _ _ (hap j i hk hi2 (Ne.symm e)), z1], fun h => by rw [z2 h]; simp [mx_up, e], z3⟩
  · intro y hy
    rcases List.mem_append.mp hy with h | h
    · exact ho y h
    · rw [List.mem_singleton.mp h]
      exact mx_base hR.2.2.1 hp1
theorem x_putr (hC : mx_Ctx Γ κ M) {ci j N index p : Nat} {C : String} {T : u_T} {ty : Nat → FieldType} (hF : mx_F M.1.cls index ci j C T N) (hY : mx_Y T N ty) (hfin : (T j).2.2.2 = false) (hsh : mx_SH p = (ci + 4, N)) (hI : mx_isI ci j = false) {r : Nat} (hr : mx_MR p j = r) (hn : narrow (ty j) (.ref (Γ.1 (mx_MR p j))) = .ref (Γ.1 (mx_MR p j))) (hfit : fits (ty j) (.ref (Γ.1 (mx_MR p j))) = true) (hp : p < σ.1) (hp1 : 1 ≤ p) (hdg : decode M.2.1 pc = .ok (.putfield index, 3)) (hq : pc + 3 = q)
    (k : mx_G Γ κ M Q q L S (σ.1, mx_ub σ.2.1 p j, σ.2.2) cells slots) : mx_G Γ κ M Q pc L (.ref r :: .ref p :: S) σ cells slots := by
  subst hq
  subst hr
  intro H locs ls hR ho hl
  obtain ⟨hx, hb, hml, hown, hts, hK, hlk, hRm, hrt, hnm⟩ := hC
  obtain ⟨hc, hk, hw, hu⟩ := hF
  have hap := mx_apart hts hu hY hK.1 hc
  obtain ⟨cell, q1, q2, q3, q4⟩ := (hR.2.2.2.2 p hp).2.2.2.2 ci N hsh
  obtain ⟨v, v1, v2, v3⟩ := q4 j hk
  obtain ⟨hS, hfc, kC, hkC, hkind⟩ := hK.1.1 ci _ hc
  obtain ⟨cf, kf, fi, f, hi, hsl⟩ := hS j hk
  have hd := hY.1 j hk
  have hlay := hts _ (hu _ (u_in_lay hk))
  unfold u_lay at hlay
  rw [if_neg (by rw [hfin]; decide)] at hlay
  have hst := (u_facts hfc hkC (u_lays hts hu hk) hi).1
  have h6 := u_store hfc hkC hkind hlay hi hd hn hfit
  refine W.putK hx hb (f := f) ⟨hown, hts _ hw, ⟨_, _, _, hi⟩, hst⟩ (by rw [q2]; exact h6) q1 q3 (by rw [hsl]; exact k2_hasslot v1) rfl rfl hdg fun H' e1 e2 e3 => ?_
  rw [hsl] at e1 ⊢
  refine k H' _ ls (mx_Rep.upd (p := p) hR rfl e2 e3 ⟨fun _ h => absurd (mx_shq hsh h).1 (by omega), fun _ h => absurd (mx_shq hsh h).1 (by omega), fun _ h => absurd (mx_shq hsh h).1 (by omega), fun _ h => absurd (mx_shq hsh h).1 (by omega), fun t n h => ?_⟩ (fun _ _ _ => rfl) (fun r hr i => by simp [mx_ub, hr])) ?_ hl
  · obtain ⟨ea, eb⟩ := mx_shq hsh h
    obtain rfl : ci = t := by omega
    subst eb
    refine ⟨_, e1, q2, q3, fun i hi2 => ?_⟩
    by_cases e : i = j
    · subst e
      refine ⟨_, Cell.slots_setSlot_self _ (k2_hasslot v1), fun h => (by rw [hI] at h; cases h), fun _ _ => rfl⟩
    · obtain ⟨z, z1, z2, z3⟩ := q4 i hi2
      refine ⟨z, by rw [slot_ne _ _ (hap j i hk hi2 (Ne.symm e)), z1], z2, fun h1 h2 => z3 h1 (by simpa [mx_ub, e] using h2)⟩
  · intro y hy
    rcases List.mem_append.mp hy with h | h
    · exact ho y h
    · rw [List.mem_singleton.mp h]
      exact mx_base hR.2.2.1 hp1
theorem x_putrF (hC : mx_Ctx Γ κ M) {ci j N index p : Nat} {C : String} {T : u_T} {ty : Nat → FieldType} (hF : mx_F M.1.cls index ci j C T N) (hY : mx_Y T N ty) (hfin : (T j).2.2.2 = true) (hin : M.1.name = "<init>") (hdecl : (T j).1 = M.1.cls) (hsh : mx_SH p = (ci + 4, N)) (hI : mx_isI ci j = false) {r : Nat} (hr : mx_MR p j = r) (hn : narrow (ty j) (.ref (Γ.1 (mx_MR p j))) = .ref (Γ.1 (mx_MR p j))) (hfit : fits (ty j) (.ref (Γ.1 (mx_MR p j))) = true) (hp : p < σ.1) (hp1 : 1 ≤ p) (hdg : decode M.2.1 pc = .ok (.putfield index, 3)) (hq : pc + 3 = q)
    (k : mx_G Γ κ M Q q L S (σ.1, mx_ub σ.2.1 p j, σ.2.2) cells slots) : mx_G Γ κ M Q pc L (.ref r :: .ref p :: S) σ cells slots := by
  subst hq
  subst hr
  intro H locs ls hR ho hl
  obtain ⟨hx, hb, hml, hown, hts, hK, hlk, hRm, hrt, hnm⟩ := hC
  obtain ⟨hc, hk, hw, hu⟩ := hF
  have hap := mx_apart hts hu hY hK.1 hc
  obtain ⟨cell, q1, q2, q3, q4⟩ := (hR.2.2.2.2 p hp).2.2.2.2 ci N hsh
  obtain ⟨v, v1, v2, v3⟩ := q4 j hk
  obtain ⟨hS, hfc, kC, hkC, hkind⟩ := hK.1.1 ci _ hc
  obtain ⟨cf, kf, fi, f, hi, hsl⟩ := hS j hk
  have hd := hY.1 j hk
  have hlay := hts _ (hu _ (u_in_lay hk))
  unfold u_lay at hlay
  rw [if_pos hfin] at hlay
  have hst := (u_facts hfc hkC (u_lays hts hu hk) hi).1
  have hcf : (mx_m κ).cls = cf := by
    obtain ⟨_, _, c', _, _, _, -, -, hf', -, -, -, hown2, -⟩ := Cond.laysFinal_spec hlay
    have e1 : c' = cf := by have := hi.symm.trans hf'; simp at this; exact this.1.symm
    rw [hdecl] at hown2
    rw [← e1]; exact Option.some.inj (hown.symm.trans hown2)
  have h6 := u_fits hfc hkC hkind (Or.inr hlay) hi hd hn hfit
  refine W.putFinK hx hb hown (hts _ hw) hi hst hcf (hnm.trans hin) (by rw [q2]; exact h6) q1 q3 (by rw [hsl]; exact k2_hasslot v1) rfl rfl hdg fun H' e1 e2 e3 => ?_
  rw [hsl] at e1 ⊢
  refine k H' _ ls (mx_Rep.upd (p := p) hR rfl e2 e3 ⟨fun _ h => absurd (mx_shq hsh h).1 (by omega), fun _ h => absurd (mx_shq hsh h).1 (by omega), fun _ h => absurd (mx_shq hsh h).1 (by omega), fun _ h => absurd (mx_shq hsh h).1 (by omega), fun t n h => ?_⟩ (fun _ _ _ => rfl) (fun r hr i => by simp [mx_ub, hr])) ?_ hl
  · obtain ⟨ea, eb⟩ := mx_shq hsh h
    obtain rfl : ci = t := by omega
    subst eb
    refine ⟨_, e1, q2, q3, fun i hi2 => ?_⟩
    by_cases e : i = j
    · subst e
      refine ⟨_, Cell.slots_setSlot_self _ (k2_hasslot v1), fun h => (by rw [hI] at h; cases h), fun _ _ => rfl⟩
    · obtain ⟨z, z1, z2, z3⟩ := q4 i hi2
      refine ⟨z, by rw [slot_ne _ _ (hap j i hk hi2 (Ne.symm e)), z1], z2, fun h1 h2 => z3 h1 (by simpa [mx_ub, e] using h2)⟩
  · intro y hy
    rcases List.mem_append.mp hy with h | h
    · exact ho y h
    · rw [List.mem_singleton.mp h]
      exact mx_base hR.2.2.1 hp1
theorem x_iald (hC : mx_Ctx Γ κ M) {p n : Nat} {i : Int32} (j : Nat) (hsh : mx_SH p = (0, n)) (hp : p < σ.1) (hi : i = nI j) (hj : j < n) (hn : n < 2 ^ 31) (hdg : decode M.2.1 pc = .ok (.iaload, 1)) (hq : pc + 1 = q)
    (k : mx_G Γ κ M Q q L (.int (σ.2.2 p j) :: S) σ cells slots) : mx_G Γ κ M Q pc L (.int i :: .ref p :: S) σ cells slots := by
  subst hq
  subst hi
  skip
  intro H locs ls hR ho hl
  have hc := (hR.2.2.2.2 p hp).1 n hsh
  exact W.iald (v := .int (σ.2.2 p j)) hC.1 hC.2.1 hc ((hC.2.2.2.2.2.1.1.2 0 _ rfl).1 n _) (fun z => by cases z) (by rw [arrV_size]; exact nI_in hj hn) (by rw [nI_clamp (Nat.lt_trans hj hn), arrV_read _ _ hj]) rfl rfl hdg (k H locs ls hR ho hl)
theorem x_zald (hC : mx_Ctx Γ κ M) {p n : Nat} {i : Int32} (j : Nat) (hsh : mx_SH p = (1, n)) (hp : p < σ.1) (hi : i = nI j) (hj : j < n) (hn : n < 2 ^ 31) (hdg : decode M.2.1 pc = .ok (.baload, 1)) (hq : pc + 1 = q)
    (k : mx_G Γ κ M Q q L (.int (σ.2.2 p j) :: S) σ cells slots) : mx_G Γ κ M Q pc L (.int i :: .ref p :: S) σ cells slots := by
  subst hq
  subst hi
  skip
  intro H locs ls hR ho hl
  have hc := (hR.2.2.2.2 p hp).2.1 n hsh
  exact W.zald (v := .int (σ.2.2 p j)) hC.1 hC.2.1 hc ((hC.2.2.2.2.2.1.1.2 1 _ rfl).1 n _) (fun z => by cases z) (by rw [arrV_size]; exact nI_in hj hn) (by rw [nI_clamp (Nat.lt_trans hj hn), arrV_read _ _ hj]) rfl rfl hdg (k H locs ls hR ho hl)
theorem x_aald (hC : mx_Ctx Γ κ M) {p n : Nat} {i : Int32} (j : Nat) {r : Nat} (hr : mx_MR p j = r) (hsh : mx_SH p = (2, n)) (hp : p < σ.1) (hi : i = nI j) (hj : j < n) (hn : n < 2 ^ 31) (hdg : decode M.2.1 pc = .ok (.aaload, 1)) (hq : pc + 1 = q)
    (k : mx_G Γ κ M Q q L (.ref r :: S) σ cells slots) : mx_G Γ κ M Q pc L (.int i :: .ref p :: S) σ cells slots := by
  subst hq
  subst hi
  subst hr
  intro H locs ls hR ho hl
  have hc := (hR.2.2.2.2 p hp).2.2.1 n hsh
  exact W.aald (v := .ref (Γ.1 (mx_MR p j))) hC.1 hC.2.1 hc ((hC.2.2.2.2.2.1.1.2 2 _ rfl).1 n _) rfl (fun z => by cases z) (by rw [arrV_size]; exact nI_in hj hn) (by rw [nI_clamp (Nat.lt_trans hj hn), arrV_read _ _ hj]) rfl rfl hdg (k H locs ls hR ho hl)
theorem x_iast (hC : mx_Ctx Γ κ M) {p n : Nat} {i x : Int32} (j : Nat) (hsh : mx_SH p = (0, n)) (hp : p < σ.1) (hp1 : 1 ≤ p) (hi : i = nI j) (hj : j < n) (hn : n < 2 ^ 31) (hdg : decode M.2.1 pc = .ok (.iastore, 1)) (hq : pc + 1 = q)
    (k : mx_G Γ κ M Q q L S (σ.1, σ.2.1, mx_up σ.2.2 p j x) cells slots) : mx_G Γ κ M Q pc L (.int x :: .int i :: .ref p :: S) σ cells slots := by
  subst hq
  subst hi
  intro H locs ls hR ho hl
  have hc := (hR.2.2.2.2 p hp).1 n hsh
  refine W.iast (j := nI j) (x := x) hC.1 hC.2.1 hc ((hC.2.2.2.2.2.1.1.2 0 _ rfl).1 n _) (fun z => by cases z) (by rw [arrV_size]; exact nI_in hj hn) rfl rfl hdg fun H1 e1 e2 e3 => ?_
  rw [nI_clamp (Nat.lt_trans hj hn)] at e1 ⊢
  refine k H1 _ ls (mx_Rep.upd (p := p) hR rfl e2 e3 ⟨fun m h => ?_, fun _ h => absurd (mx_shq hsh h).1 (by omega), fun _ h => absurd (mx_shq hsh h).1 (by omega), fun _ h => absurd (mx_shq hsh h).1 (by omega), fun _ _ h => absurd (mx_shq hsh h).1 (by omega)⟩ (fun r hr i => by simp [mx_up, hr]) (fun _ _ _ => rfl)) ?_ hl
  · obtain ⟨-, rfl⟩ := mx_shq hsh h
    rw [e1, arrV_store]
    refine congrArg some (congrArg (arrV _ n) (funext fun r => ?_))
    by_cases e : r = j
    · subst e
      simp [updV, mx_up]
    · simp [updV, mx_up, e]
  · intro y hy
    rcases List.mem_append.mp hy with h | h
    · exact ho y h
    · rw [List.mem_singleton.mp h]
      exact mx_base hR.2.2.1 hp1
theorem x_zast (hC : mx_Ctx Γ κ M) {p n : Nat} {i x : Int32} (j : Nat) (hsh : mx_SH p = (1, n)) (hp : p < σ.1) (hp1 : 1 ≤ p) (hi : i = nI j) (hj : j < n) (hn : n < 2 ^ 31) (hz : narrow .boolean (.int x) = .int x) (hdg : decode M.2.1 pc = .ok (.bastore, 1)) (hq : pc + 1 = q)
    (k : mx_G Γ κ M Q q L S (σ.1, σ.2.1, mx_up σ.2.2 p j x) cells slots) : mx_G Γ κ M Q pc L (.int x :: .int i :: .ref p :: S) σ cells slots := by
  subst hq
  subst hi
  intro H locs ls hR ho hl
  have hc := (hR.2.2.2.2 p hp).2.1 n hsh
  refine W.zast (j := nI j) (x := x) hC.1 hC.2.1 hc ((hC.2.2.2.2.2.1.1.2 1 _ rfl).1 n _) (fun z => by cases z) (by rw [arrV_size]; exact nI_in hj hn) rfl rfl hdg fun H1 e1 e2 e3 => ?_
  rw [nI_clamp (Nat.lt_trans hj hn)] at e1 ⊢
  refine k H1 _ ls (mx_Rep.upd (p := p) hR rfl e2 e3 ⟨fun _ h => absurd (mx_shq hsh h).1 (by omega), fun m h => ?_, fun _ h => absurd (mx_shq hsh h).1 (by omega), fun _ h => absurd (mx_shq hsh h).1 (by omega), fun _ _ h => absurd (mx_shq hsh h).1 (by omega)⟩ (fun r hr i => by simp [mx_up, hr]) (fun _ _ _ => rfl)) ?_ hl
  · obtain ⟨-, rfl⟩ := mx_shq hsh h
    rw [e1, hz, arrV_store]
    refine congrArg some (congrArg (arrV _ n) (funext fun r => ?_))
    by_cases e : r = j
    · subst e
      simp [updV, mx_up]
    · simp [updV, mx_up, e]
  · intro y hy
    rcases List.mem_append.mp hy with h | h
    · exact ho y h
    · rw [List.mem_singleton.mp h]
      exact mx_base hR.2.2.1 hp1
theorem x_alen (hC : mx_Ctx Γ κ M) {p n : Nat} {v : Int32} (hsh : mx_SH p = (0, n)) (hp : p < σ.1) (hv : Int32.ofNat n = v) (hdg : decode M.2.1 pc = .ok (.arraylength, 1)) (hq : pc + 1 = q)
    (k : mx_G Γ κ M Q q L (.int v :: S) σ cells slots) : mx_G Γ κ M Q pc L (.ref p :: S) σ cells slots := by
  subst hq
  subst hv
  intro H locs ls hR ho hl
  have hc := (hR.2.2.2.2 p hp).1 n hsh
  exact W.alen (n := Int32.ofNat n) hC.1 hC.2.1 hc ((hC.2.2.2.2.2.1.1.2 0 _ rfl).1 n _) (by rw [arrV_size] <;> rfl) rfl rfl hdg (k H locs ls hR ho hl)
/-- the script -/
theorem x_sld (hC : mx_Ctx Γ κ M) {p n : Nat} {i : Int32} (j : Nat) (hsh : mx_SH p = (3, n)) (hp : p < σ.1) (hi : i = nI j) (hj : j < Γ.2.2.2) (hn : Γ.2.2.2 < 2 ^ 31) (hdg : decode M.2.1 pc = .ok (.iaload, 1)) (hq : pc + 1 = q)
    (k : mx_G Γ κ M Q q L (.int (σ.2.2 p j) :: S) σ cells slots) : mx_G Γ κ M Q pc L (.int i :: .ref p :: S) σ cells slots := by
  subst hq
  subst hi
  intro H locs ls hR ho hl
  obtain ⟨scr, s1, s2, s3, s4, s5, s6⟩ := (hR.2.2.2.2 p hp).2.2.2.1 n hsh
  obtain ⟨k0, comp, g1, g2⟩ := hC.2.2.2.2.2.1.2.2.2
  exact W.iald (v := .int (σ.2.2 p j)) hC.1 hC.2.1 s1 ⟨s3, k0, by rw [s2]; exact g1, comp, g2⟩ s4 (by rw [s5]; exact nI_in hj hn) (by rw [nI_clamp (Nat.lt_trans hj hn)]; exact s6 j hj) rfl rfl hdg (k H locs ls hR ho hl)
theorem x_slen (hC : mx_Ctx Γ κ M) {p n : Nat} {v : Int32} (hsh : mx_SH p = (3, n)) (hp : p < σ.1) (hv : Int32.ofNat Γ.2.2.2 = v) (hdg : decode M.2.1 pc = .ok (.arraylength, 1)) (hq : pc + 1 = q)
    (k : mx_G Γ κ M Q q L (.int v :: S) σ cells slots) : mx_G Γ κ M Q pc L (.ref p :: S) σ cells slots := by
  subst hq
  subst hv
  intro H locs ls hR ho hl
  obtain ⟨scr, s1, s2, s3, s4, s5, s6⟩ := (hR.2.2.2.2 p hp).2.2.2.1 n hsh
  obtain ⟨k0, comp, g1, g2⟩ := hC.2.2.2.2.2.1.2.2.2
  exact W.alen (n := Int32.ofNat Γ.2.2.2) hC.1 hC.2.1 s1 ⟨s3, k0, by rw [s2]; exact g1, comp, g2⟩ (by rw [s5] <;> rfl) rfl rfl hdg (k H locs ls hR ho hl)
theorem mx_Rep.push {Γ : mx_X} {σ τ : mx_S} {H H1 : Heap} (n : Nat) (hR : mx_Rep Γ σ H) (hn : τ.1 = σ.1 + n) (hz : H1.size = H.size + n) (ho : ∀ a : Nat, a < H.size → H1[a]? = H[a]?) (hc : ∀ i, i < n → mx_cell Γ τ (σ.1 + i) H1)
    (hi : ∀ r, r < σ.1 → ∀ j, τ.2.2 r j = σ.2.2 r j) (hu : ∀ r, r < σ.1 → ∀ j, τ.2.1 r j = σ.2.1 r j) : mx_Rep Γ τ H1 := by
  obtain ⟨h1, h2, h3, h4, h5⟩ := hR
  refine ⟨by rw [hn]; omega, h2, h3, by rw [hz, hn, h4, mx_adS h3 h1], fun r hr => ?_⟩
  by_cases e : r < σ.1
  · refine (h5 r e).kept (ho _ ?_) (hi r e) (hu r e)
    rw [h4]
    rcases Nat.eq_zero_or_pos r with h0 | h0
    · subst h0
      have := mx_base h3 h1
      omega
    · have := mx_adS h3 h0 (σ.1 - r)
      rw [show r + (σ.1 - r) = σ.1 by omega] at this
      omega
  · have := hc (r - σ.1) (by rw [hn] at hr; omega)
    rwa [show σ.1 + (r - σ.1) = r by omega] at this
/-- what 'new' asks of the tables -/
def mx_sN (M : mx_M) (index ci : Nat) (C : String) (T : u_T) (N : Nat) (ty : Nat → FieldType) : Prop := vwCl[ci]? = some (C, T, N) ∧ (∀ x ∈ u_ws C T N, x ∈ mx_WS) ∧ mx_Y T N ty ∧ (∀ j, j < N → mx_isI ci j = true → defaultValue (ty j) = .int 0) ∧
  Cond.classLink M.1.cls index C ∈ mx_WS ∧ Cond.instantiable C N ∈ mx_WS ∧ Cond.initialized C ∈ mx_WS
theorem x_new (hC : mx_Ctx Γ κ M) {ci N index c1 s1 p : Nat} {C : String} {T : u_T} {ty : Nat → FieldType} (hs : mx_sN M index ci C T N ty) (hsh : mx_SH p = (ci + 4, N)) (hp : σ.1 = p) (hc1 : cells + 1 = c1) (hs1 : slots + N = s1) (hcr : c1 ≤ M.2.2.2.2.cells) (hsr : s1 ≤ M.2.2.2.2.slots) (hdg : decode M.2.1 pc = .ok (.new index, 3)) (hq : pc + 3 = q)
    (k : mx_G Γ κ M Q q L (.ref p :: S) (p + 1, mx_zu σ.2.1 p ci, mx_zr σ.2.2 p) c1 s1) : mx_G Γ κ M Q pc L S σ cells slots := by
  subst hq
  subst hc1
  subst hs1
  subst hp
  intro H locs ls hR ho hl
  obtain ⟨hcl, hu, hY, hd, hw1, hw2, hw3⟩ := hs
  obtain ⟨hx, hb, hml, hown, hts, hK, hlk, hRm, -⟩ := hC
  have hKn := hK.1.1 ci _ hcl
  refine W.newcK hx hb hown (hts _ hw1) (hts _ hw2) (hts _ hw3) rfl hdg (by rw [hRm]; exact hcr) (by rw [hRm]; exact hsr) hKn.2.1 hR.2.2.2.1 fun H1 kC hkC e1 z1 o1 => ?_
  refine k H1 locs ls (mx_Rep.push 1 hR rfl (by rw [z1, hR.2.2.2.1]) (fun a ha => o1 a (by rw [← hR.2.2.2.1]; exact ha)) (fun i hi => ?_) (fun r hr j => by simp [mx_zr, Nat.ne_of_lt hr]) (fun r hr j => by simp [mx_zu, Nat.ne_of_lt hr])) ho hl
  have h0 : i = 0 := by omega
  subst h0
  refine ⟨fun _ h => absurd (mx_shq hsh h).1 (by omega), fun _ h => absurd (mx_shq hsh h).1 (by omega), fun _ h => absurd (mx_shq hsh h).1 (by omega), fun _ h => absurd (mx_shq hsh h).1 (by omega), fun t n h => ?_⟩
  obtain ⟨ea, eb⟩ := mx_shq hsh h
  obtain rfl : ci = t := by omega
  subst eb
  obtain ⟨cell, g1, g2, g3, g4⟩ := u_born ty hts hu hKn hkC e1 hY.1
  refine ⟨cell, g1, g2, g3, fun j hj => ⟨_, g4 j hj, fun h => ?_, fun h h2 => ?_⟩⟩
  · show defaultValue (ty j) = _
    rw [hd j hj h]
    simp [mx_zr]
  · simp [mx_zu] at h2
    rw [h] at h2
    cases h2
theorem x_newi (hC : mx_Ctx Γ κ M) {N c1 s1 p : Nat} {n : Int32} (hw : Cond.arrayClass .int ∈ mx_WS) (hsh : mx_SH p = (0, N)) (hp : σ.1 = p) (hn : n = nI N) (hN : N < 1000) (hc1 : cells + 1 = c1) (hs1 : slots + N = s1) (hcr : c1 ≤ M.2.2.2.2.cells) (hsr : s1 ≤ M.2.2.2.2.slots) (hdg : decode M.2.1 pc = .ok (.newarray .int, 2)) (hq : pc + 2 = q)
    (k : mx_G Γ κ M Q q L (.ref p :: S) (p + 1, σ.2.1, mx_zr σ.2.2 p) c1 s1) : mx_G Γ κ M Q pc L (.int n :: S) σ cells slots := by
  subst hq
  subst hc1
  subst hs1
  subst hp
  subst hn
  intro H locs ls hR ho hl
  obtain ⟨hx, hb, hml, hown, hts, hK, hlk, hRm, -⟩ := hC
  refine va_newaK (N := N) hx hb (atype := .int) (hts _ hw) rfl hdg rfl (nI_pos (by omega)) (nI_clamp (by omega)) (by show N * 4 ≤ _; omega) (by rw [hRm]; exact hcr) (by rw [hRm]; exact hsr) hR.2.2.2.1 fun H1 cA e1 z1 o1 hAr hNm => ?_
  have hcA : Γ.2.2.1 0 = cA := by
    have h9 := (hK.1.2 0 _ rfl).2
    exact Option.some.inj (h9.symm.trans hNm)
  refine k H1 locs ls (mx_Rep.push 1 hR rfl (by rw [z1, hR.2.2.2.1]) (fun a ha => o1 a (by rw [← hR.2.2.2.1]; exact ha)) (fun i hi => ?_) (fun r hr j => by simp [mx_zr, Nat.ne_of_lt hr]) (fun r hr j => rfl)) ho hl
  have h0 : i = 0 := by omega
  subst h0
  refine ⟨fun m h => ?_, fun _ h => absurd (mx_shq hsh h).1 (by omega), fun _ h => absurd (mx_shq hsh h).1 (by omega), fun _ h => absurd (mx_shq hsh h).1 (by omega), fun _ _ h => absurd (mx_shq hsh h).1 (by omega)⟩
  obtain ⟨-, rfl⟩ := mx_shq hsh h
  rw [Nat.add_zero, e1, hcA]
  refine congrArg some (congrArg (arrV _ N) (funext fun r => ?_))
  simp [mx_zr]
  try rfl
theorem x_newz (hC : mx_Ctx Γ κ M) {N c1 s1 p : Nat} {n : Int32} (hw : Cond.arrayClass .boolean ∈ mx_WS) (hsh : mx_SH p = (1, N)) (hp : σ.1 = p) (hn : n = nI N) (hN : N < 1000) (hc1 : cells + 1 = c1) (hs1 : slots + N = s1) (hcr : c1 ≤ M.2.2.2.2.cells) (hsr : s1 ≤ M.2.2.2.2.slots) (hdg : decode M.2.1 pc = .ok (.newarray .boolean, 2)) (hq : pc + 2 = q)
    (k : mx_G Γ κ M Q q L (.ref p :: S) (p + 1, σ.2.1, mx_zr σ.2.2 p) c1 s1) : mx_G Γ κ M Q pc L (.int n :: S) σ cells slots := by
  subst hq
  subst hc1
  subst hs1
  subst hp
  subst hn
  intro H locs ls hR ho hl
  obtain ⟨hx, hb, hml, hown, hts, hK, hlk, hRm, -⟩ := hC
  refine va_newaK (N := N) hx hb (atype := .boolean) (hts _ hw) rfl hdg rfl (nI_pos (by omega)) (nI_clamp (by omega)) (by show N * 1 ≤ _; omega) (by rw [hRm]; exact hcr) (by rw [hRm]; exact hsr) hR.2.2.2.1 fun H1 cA e1 z1 o1 hAr hNm => ?_
  have hcA : Γ.2.2.1 1 = cA := by
    have h9 := (hK.1.2 1 _ rfl).2
    exact Option.some.inj (h9.symm.trans hNm)
  refine k H1 locs ls (mx_Rep.push 1 hR rfl (by rw [z1, hR.2.2.2.1]) (fun a ha => o1 a (by rw [← hR.2.2.2.1]; exact ha)) (fun i hi => ?_) (fun r hr j => by simp [mx_zr, Nat.ne_of_lt hr]) (fun r hr j => rfl)) ho hl
  have h0 : i = 0 := by omega
  subst h0
  refine ⟨fun _ h => absurd (mx_shq hsh h).1 (by omega), fun m h => ?_, fun _ h => absurd (mx_shq hsh h).1 (by omega), fun _ h => absurd (mx_shq hsh h).1 (by omega), fun _ _ h => absurd (mx_shq hsh h).1 (by omega)⟩
  obtain ⟨-, rfl⟩ := mx_shq hsh h
  rw [Nat.add_zero, e1, hcA]
  refine congrArg some (congrArg (arrV _ N) (funext fun r => ?_))
  simp [mx_zr]
  try rfl
theorem x_mna (hC : mx_Ctx Γ κ M) {N N2 c1 s1 p index : Nat} {n n2 : Int32} (hw : Cond.arrayClass .int ∈ mx_WS) (hw2 : Cond.classLink M.1.cls index "[[I" ∈ mx_WS) (hsh : mx_SH p = (2, N)) (hrow : ∀ i, i < N → mx_SH (p + 1 + i) = (0, N2) ∧ mx_MR p i = p + 1 + i) (hp : σ.1 = p) (hn : n = nI N) (hN : N < 1000) (hn2 : n2 = nI N2) (hN2 : N2 < 1000) (hc1 : cells + 1 + N = c1) (hs1 : slots + N + N * N2 = s1) (hcr : c1 ≤ M.2.2.2.2.cells) (hsr : s1 ≤ M.2.2.2.2.slots) (hdg : decode M.2.1 pc = .ok (.multianewarray index 2, 4)) (hq : pc + 4 = q)
    (k : mx_G Γ κ M Q q L (.ref p :: S) (p + 1 + N, σ.2.1, mx_zs σ.2.2 (p + 1) N) c1 s1) : mx_G Γ κ M Q pc L (.int n2 :: .int n :: S) σ cells slots := by
  subst hq
  subst hc1
  subst hs1
  subst hp
  subst hn
  subst hn2
  intro H locs ls hR ho hl T hT X
  obtain ⟨hx, hb, hml, hown, hts, hK, hlk, hRm, -⟩ := hC
  have c1 : (nI N).toNatClampNeg = N := nI_clamp (by omega)
  have c2 : (nI N2).toNatClampNeg = N2 := nI_clamp (by omega)
  obtain ⟨vm1, cA, comp, -, fA, fC, hO, -, X', step⟩ := X.multianewarray2F hx (ty := .int) hown (hts _ hw2) hK.2.2.1 (hts _ hw) (g := F0 (mx_m κ) pc ls (.int (nI N2) :: .int (nI N) :: S.map (mx_v Γ.1))) rfl (by rw [hb]; exact hdg) rfl (nI_pos (by omega)) (nI_pos (by omega)) (by rw [c1]; omega) (by rw [c2]; show N2 * 4 ≤ _; omega) (by rw [c2]; omega) rfl rfl (by rw [hRm, c1]; omega) (by rw [hRm, c1, c2]; omega)
  rw [c1, c2] at X' step
  generalize hF : Jvm.Free.Multi.fill (T.setVm vm1) cA comp N N2 (defaultValue .int) N = F at X' step
  have hTh : (T.setVm vm1).heap = H := hT
  obtain ⟨f1, f2, -, -⟩ := Jvm.Free.Multi.fill_facts (T.setVm vm1) cA comp N N2 (defaultValue .int) N
  rw [hF, hTh] at f1 f2
  have hold : ∀ x : Nat, x < H.size → F.heap[x]? = H[x]? := fun x hx => by
    have := Jvm.Free.Multi.fill_old (T.setVm vm1) cA comp N N2 (defaultValue .int) (a := x) (by rw [hTh]; exact hx) N
    rw [hF, hTh] at this
    exact this
  have hrow2 : ∀ j : Nat, j < N → F.heap[H.size + 1 + j]? = some (Jvm.Free.Multi.innerC comp N2 (defaultValue .int)) := fun j hj => by
    have := Jvm.Free.Multi.fill_inner (T.setVm vm1) cA comp N N2 (defaultValue .int) N j hj
    rw [hF, hTh] at this
    exact this
  have hcI : Γ.2.2.1 0 = comp := by
    have h9 := (hK.1.2 0 _ rfl).2
    exact Option.some.inj (h9.symm.trans fC)
  have hcA : Γ.2.2.1 2 = cA := by
    have h9 := (hK.1.2 2 _ rfl).2
    exact Option.some.inj (h9.symm.trans fA)
  have had : ∀ i, Γ.1 (σ.1 + i) = H.size + i := fun i => by rw [mx_adS hR.2.2.1 hR.1, hR.2.2.2.1]
  have hRep : mx_Rep Γ (σ.1 + 1 + N, σ.2.1, mx_zs σ.2.2 (σ.1 + 1) N) F.heap := by
    refine mx_Rep.push (1 + N) hR (by show σ.1 + 1 + N = _; omega) (by rw [f1]; omega) hold (fun i hi => ?_) (fun r hr j => if_neg (show ¬ (σ.1 + 1 ≤ r ∧ r < σ.1 + 1 + N) by omega)) (fun _ _ _ => rfl)
    rcases Nat.eq_zero_or_pos i with h0 | h0
    · subst h0
      refine ⟨fun _ h => absurd (mx_shq hsh h).1 (by omega), fun _ h => absurd (mx_shq hsh h).1 (by omega), fun m h => ?_, fun _ h => absurd (mx_shq hsh h).1 (by omega), fun _ _ h => absurd (mx_shq hsh h).1 (by omega)⟩
      obtain ⟨-, rfl⟩ := mx_shq hsh h
      rw [Nat.add_zero, ← hR.2.2.2.1, f2, mx_outer, hcA]
      refine congrArg some (mx_arrV fun r hr => ?_)
      have e9 : Γ.1 (mx_MR σ.1 r) = H.size + 1 + r := by
        rw [(hrow r hr).2, show σ.1 + 1 + r = σ.1 + (1 + r) by omega, had]
        omega
      rw [if_pos hr, e9]
    · obtain ⟨r, rfl⟩ : ∃ r, i = 1 + r := ⟨i - 1, by omega⟩
      have hr : r < N := by omega
      have e0 : σ.1 + (1 + r) = σ.1 + 1 + r := by omega
      have hs := (hrow r hr).1
      rw [e0]
      refine ⟨fun m h => ?_, fun _ h => absurd (mx_shq hs h).1 (by omega), fun _ h => absurd (mx_shq hs h).1 (by omega), fun _ h => absurd (mx_shq hs h).1 (by omega), fun _ _ h => absurd (mx_shq hs h).1 (by omega)⟩
      obtain ⟨-, rfl⟩ := mx_shq hs h
      have ha : Γ.1 (σ.1 + 1 + r) = H.size + 1 + r := by rw [← e0, had]; omega
      rw [ha, hrow2 r hr, hcI]
      show some ({ cls := comp, slots := Array.replicate N2 (.int 0), vm := .none } : Cell) = _
      rw [arrV_new]
      refine congrArg some (congrArg (arrV _ N2) (funext fun z => ?_))
      have : σ.1 + 1 ≤ σ.1 + 1 + r ∧ σ.1 + 1 + r < σ.1 + 1 + N := by omega
      simp [mx_zs, this]
  obtain ⟨t, a1, b1⟩ := k F.heap locs ls hRep ho hl F rfl X'
  refine ⟨t, step t ?_, b1⟩
  rw [hT, hR.2.2.2.1]
  exact a1
theorem x_sub (ks : List Nat) (hk : ks.filterMap (fun i => L[i]?) = L1) (k : mx_G Γ κ M Q pc L1 S σ cells slots) : mx_G Γ κ M Q pc L S σ cells slots := by
  intro H locs ls hR ho hl
  refine k H locs ls hR ho ⟨hl.1, hl.2.1, fun q hq => ?_⟩
  subst hk
  obtain ⟨y, hy, rfl⟩ := List.mem_map.mp hq
  obtain ⟨i, -, hi⟩ := List.mem_filterMap.mp hy
  exact hl.2.2 _ (List.mem_map.mpr ⟨y, List.mem_of_getElem? hi, rfl⟩)
theorem x_close {nx : Nat} {u : Nat → Nat → Bool} {m1 m2 : mx_Mm} (k : mx_G Γ κ M Q pc L1 S (nx, u, m1) cells slots) (ks : List Nat) (hk : ks.filterMap (fun i => L[i]?) = L1) (hm : m2 = m1) : mx_G Γ κ M Q pc L S (nx, u, m2) cells slots := by
  subst hm
  exact x_sub ks hk k
theorem mx_nm {nx : Nat} {u : Nat → Nat → Bool} {m1 : mx_Mm} (k : ∀ m, m = m1 → mx_G Γ κ M Q pc L S (nx, u, m) cells slots) : mx_G Γ κ M Q pc L S (nx, u, m1) cells slots := k m1 rfl
end XR
/-- a contract: started with the values A in state σ the method ends, with an answer and a state for which P -/
def mx_Pc (Γ : mx_X) (A : List Value) (σ : mx_S) : Array Value → State → Prop := fun v U => v = (A.map (mx_v Γ.1)).toArray ∧ mx_Rep Γ σ U.heap ∧ mx_KK Γ U
def mx_Qc (Γ : mx_X) (P : Option Value → mx_S → Prop) : Array Value → State → Outcome → State → Prop := fun _ _ oc t => ∃ (r : Option Value) (τ : mx_S), oc = .returned (r.map (mx_v Γ.1)) ∧ P r τ ∧ mx_Rep Γ τ t.heap
def mx_fr (Γ : mx_X) : Addr → Prop := fun q => Γ.1 1 ≤ q
def mx_C (Γ : mx_X) (l : Launch) (M : mx_M) (A : List Value) (σ : mx_S) (P : Option Value → mx_S → Prop) : Prop :=
  Met l M.1 (.code M.1 M.2.1 M.2.2.1 M.2.2.2.1 :: mx_WS) M.2.2.2.2 (mx_Pc Γ A σ) (mx_Qc Γ P) M.2.2.2.2.cells M.2.2.2.2.slots (mx_fr Γ)
theorem mx_Pc_blind {Γ : mx_X} {A : List Value} {σ : mx_S} : FrameBlind (mx_Pc Γ A σ) := fun _ U g mk h => ⟨h.1, h.2.1, mx_KK.same (s := U) rfl h.2.2⟩
def mx_ar : Nat → List Value → List (Nat × Value)
  | _, [] => []
  | i, v :: vs => (i, v) :: mx_ar (i + 1) vs
theorem mx_args (ad : Nat → Nat) : ∀ (A : List Value) (i : Nat), (∀ v ∈ A, v.category = 1) → lv_args i (A.map (mx_v ad)) = mx_L ad (mx_ar i A) ∧ (lg_sl (A.map (mx_v ad))).length = A.length
  | [], i, _ => ⟨rfl, rfl⟩
  | v :: A, i, h => by
    have hv : (mx_v ad v).category = 1 := (mx_v_cat ad v).trans (h v List.mem_cons_self)
    have hc : ¬ (mx_v ad v).category = 2 := by omega
    obtain ⟨h1, h2⟩ := mx_args ad A (i + 1) (fun x hx => h x (List.mem_cons_of_mem _ hx))
    refine ⟨?_, ?_⟩
    · show (i, mx_v ad v) :: lv_args (if (mx_v ad v).category = 2 then i + 2 else i + 1) (A.map (mx_v ad)) = _
      rw [if_neg hc, h1]
      rfl
    · show ((if (mx_v ad v).category = 2 then [Slot.val (mx_v ad v), Slot.second] else [Slot.val (mx_v ad v)]) ++ lg_sl (A.map (mx_v ad))).length = _
      rw [if_neg hc, List.length_append, h2]
      simp [Nat.add_comm]
theorem mx_C.intro {Γ : mx_X} {l : Launch} {M : mx_M} {A : List Value} {σ : mx_S} {P : Option Value → mx_S → Prop} (hy : plainName M.1.cls = true) (hAb : (A.all fun v => v.category == 1) = true) (hn : A.length ≤ M.2.2.1)
    (body : ∀ κ : mx_K, mx_l κ = l → mx_Ctx Γ κ M → mx_G Γ κ M (MQ (mx_b κ) (mx_Qc Γ P) (mx_a κ) (mx_s κ) M.2.2.2.2.cells M.2.2.2.2.slots (mx_fr Γ)) 0 (mx_ar 0 A) [] σ 0 0) : mx_C Γ l M A σ P := by
  have hA : ∀ v ∈ A, v.category = 1 := fun v hv => by
    have := List.all_eq_true.mp hAb v hv
    simpa using this
  refine Met.ofW (cc := M.2.1) (maxL := M.2.2.1) (ret := M.2.2.2.1) hy rfl ?_
  intro p e s m args below meth c s1 B hml hv
  obtain ⟨rfl, hR, hK⟩ := hv
  have hts := atoms_spec (ws := .code M.1 M.2.1 M.2.2.1 M.2.2.2.1 :: mx_WS) B.pre
  obtain ⟨ha1, ha2⟩ := mx_args Γ.1 A 0 hA
  have hl := lv_entry (A.map (mx_v Γ.1)) (n := M.2.2.1) (by rw [ha2]; exact hn)
  rw [lg_entry_eq]
  rw [ha1] at hl
  exact body (p, l, e, M.2.2.2.2, s, m, (A.map (mx_v Γ.1)).toArray, below, meth, c) rfl ⟨B.exec, B.bytes, hml, findClass_of_methodNamed B.named, fun x hx => hts x (List.mem_cons_of_mem _ hx), hK, B.notSynchronized, rfl, B.returns, (name_of_methodNamed B.named B.method).1⟩ s.heap [] _ hR (fun q hq => by cases hq) hl
section XC
variable {Γ : mx_X} {κ : mx_K} {M M2 : mx_M} {Q : State → Prop} {pc q : Nat} {L : List (Nat × Value)} {A S S0 : List Value} {σ : mx_S} {cells slots c1 s1 : Nat} {P : Option Value → mx_S → Prop} {index : Nat}
theorem x_iret (hC : mx_Ctx Γ κ M) {v : Int32} {ty : FieldType} (hty : M.2.2.2.1 = some ty) (hn : narrow ty (.int v) = .int v) (hP : P (some (.int v)) σ) (hc : cells ≤ M.2.2.2.2.cells) (hs : slots ≤ M.2.2.2.2.slots) (hdg : decode M.2.1 pc = .ok (.ireturn, 1)) :
    mx_G Γ κ M (MQ (mx_b κ) (mx_Qc Γ P) (mx_a κ) (mx_s κ) M.2.2.2.2.cells M.2.2.2.2.slots (mx_fr Γ)) pc L [.int v] σ cells slots := by
  intro H locs ls hR ho hl
  refine W.widen hc hs ?_
  exact W.zret (v := v) (ty := ty) hC.1 hC.2.1 (hC.2.2.2.2.2.2.2.2.1.trans hty) hn (fun t ht hW => ⟨some (.int v), σ, rfl, hP, by rw [ht]; exact hR⟩) ho hdg hC.2.2.2.2.2.2.1
theorem x_vret (hC : mx_Ctx Γ κ M) (hty : M.2.2.2.1 = none) (hP : P none σ) (hc : cells ≤ M.2.2.2.2.cells) (hs : slots ≤ M.2.2.2.2.slots) (hdg : decode M.2.1 pc = .ok (.return_, 1)) :
    mx_G Γ κ M (MQ (mx_b κ) (mx_Qc Γ P) (mx_a κ) (mx_s κ) M.2.2.2.2.cells M.2.2.2.2.slots (mx_fr Γ)) pc L [] σ cells slots := by
  intro H locs ls hR ho hl
  refine W.widen hc hs ?_
  exact W.vret hC.1 hC.2.1 (hC.2.2.2.2.2.2.2.2.1.trans hty) (fun t ht hW => ⟨none, σ, rfl, hP, by rw [ht]; exact hR⟩) ho hdg hC.2.2.2.2.2.2.1
/-- what a call of M2 asks of the tables -/
def mx_cl (M2 : mx_M) (n : Nat) : Prop := Cond.code M2.1 M2.2.1 M2.2.2.1 M2.2.2.2.1 ∈ mx_WS ∧ Cond.initialized M2.1.cls ∈ mx_WS ∧ (M2.1.cls ≠ "java/lang/invoke/MethodHandle" ∧ M2.1.cls ≠ "java/lang/invoke/VarHandle" ∧ (parseMethodDescriptor M2.1.desc).map (fun d => d.parameters.length) = some n)
def mx_rm (M M2 : mx_M) : Prop := M2.2.2.2.2.frames + 1 ≤ M.2.2.2.2.frames ∧ 8 + (M2.2.2.1 + 11) + M2.2.2.2.2.locals ≤ M.2.2.2.2.locals
def mx_sS (M M2 : mx_M) (index n : Nat) : Prop := mx_cl M2 n ∧ mx_rm M M2 ∧ Cond.methodLink M.1.cls index M2.1 ∈ mx_WS ∧ Cond.static M2.1 ∈ mx_WS
def mx_sSN (M M2 : mx_M) (index n : Nat) (host : String) : Prop := mx_cl M2 n ∧ mx_rm M M2 ∧ Cond.methodLinkNest M.1.cls index M2.1 host ∈ lw_tbl ∧ Cond.static M2.1 ∈ mx_WS
def mx_sV (M M2 : mx_M) (index n ci N : Nat) (T : u_T) : Prop := mx_cl M2 n ∧ mx_rm M M2 ∧ Cond.methodLink M.1.cls index M2.1 ∈ mx_WS ∧ Cond.instanceMethod M2.1 ∈ mx_WS ∧ Cond.selects M2.1.cls M2.1 M2.1 ∈ mx_WS ∧ vwCl[ci]? = some (M2.1.cls, T, N)
def mx_sI (M M2 : mx_M) (index n : Nat) : Prop := M2.2.2.2.1 = none ∧ M2.1.name = "<init>" ∧ mx_cl M2 n ∧ mx_rm M M2 ∧ Cond.methodLink M.1.cls index M2.1 ∈ mx_WS ∧ Cond.instanceMethod M2.1 ∈ mx_WS
def mx_sIN (M M2 : mx_M) (index n : Nat) (host : String) : Prop := M2.2.2.2.1 = none ∧ M2.1.name = "<init>" ∧ mx_cl M2 n ∧ mx_rm M M2 ∧ Cond.methodLinkNest M.1.cls index M2.1 host ∈ lw_tbl ∧ Cond.instanceMethod M2.1 ∈ mx_WS
def mx_sO (M : mx_M) (index : Nat) : Prop := Cond.methodLink M.1.cls index objectInit ∈ mx_WS ∧ Cond.instanceMethod objectInit ∈ mx_WS ∧ Cond.code objectInit ⟨#[0xb1]⟩ 1 none ∈ mx_WS
theorem mx_roomS {st : List Value} (ad : Nat → Nat) (hcb : (st.all fun v => v.category == 1) = true) (h : st.length ≤ 8) : ((st.map (mx_v ad)).map fun v => v.category).sum ≤ 8 := by
  have hc : ∀ v ∈ st, v.category = 1 := fun v hv => by
    have := List.all_eq_true.mp hcb v hv
    simpa using this
  clear hcb
  have e : ((st.map (mx_v ad)).map fun v => v.category).sum = st.length := by
    clear h
    induction st with
    | nil => rfl
    | cons a t ih =>
      have h1 := ih (fun v hv => hc v (List.mem_cons_of_mem _ hv))
      have h2 : (mx_v ad a).category = 1 := (mx_v_cat ad a).trans (hc a List.mem_cons_self)
      simp only [List.map_cons, List.sum_cons, List.length_cons] at h1 ⊢
      rw [h1, h2]
      omega
  rw [e]
  exact h
theorem x_after {mc ms : Nat} {H : Heap} {locs : List Loc} {ls : Array Slot} {a : Array Value} {st0 : List Value} (hr : va_Run (mx_p κ) (mx_l κ) (mx_e κ) (mx_R κ) (mx_s κ) (mx_m κ) (mx_a κ) (mx_b κ) (mx_h κ) (mx_c κ) H locs cells slots mc ms (F0 (mx_m κ) pc ls st0) (S.map (mx_v Γ.1)) (mx_Qc Γ P a) (mx_fr Γ))
    (ho : ∀ q ∈ locs, Γ.1 1 ≤ q.base) (hl : lv_has ls M.2.2.1 (mx_L Γ.1 L)) (k : ∀ r τ, P r τ → mx_G Γ κ M Q (pc + 3) L (r.toList ++ S) τ (cells + mc) (slots + ms)) : mx_W κ H locs cells slots Q (F0 (mx_m κ) pc ls st0) := by
  intro T hT X
  obtain ⟨v, st₀, t, T', Lc, h0, X', hL, e1, e2, ⟨r, τ, hv, hP, hRep⟩, st⟩ := hr T hT X
  have hv2 : v = r.map (mx_v Γ.1) := Outcome.returned.inj hv
  subst hv2
  obtain ⟨t2, a1, b1⟩ := k r τ hP t.heap (locs ++ Lc) ls hRep (fun y hy => by
    rcases List.mem_append.mp hy with h | h
    · exact ho y h
    · exact hL y h) hl T' e1 X'
  refine ⟨t2, st t2 ?_, b1⟩
  have e : (r.toList ++ S).map (mx_v Γ.1) = (r.map (mx_v Γ.1)).toList ++ S.map (mx_v Γ.1) := by cases r <;> rfl
  rw [e] at a1
  exact a1
theorem x_callS (hC : mx_Ctx Γ κ M) (hM : mx_C Γ (mx_l κ) M2 A σ P) {n : Nat} (hs : mx_sS M M2 index n) (hn : A.length = n) (hst : S0 = A.reverse ++ S) (hS : (S.all fun v => v.category == 1) = true) (hS8 : S.length ≤ 8)
    (hc1 : cells + M2.2.2.2.2.cells = c1) (hs1 : slots + M2.2.2.2.2.slots = s1) (hcr : c1 ≤ M.2.2.2.2.cells) (hsr : s1 ≤ M.2.2.2.2.slots) (hdg : decode M.2.1 pc = .ok (.invokestatic index, 3)) (hq : pc + 3 = q)
    (k : ∀ r τ, P r τ → mx_G Γ κ M Q q L (r.toList ++ S) τ c1 s1) : mx_G Γ κ M Q pc L S0 σ cells slots := by
  subst hq
  subst hc1
  subst hs1
  subst hst
  obtain ⟨hcl, hrm, hlink, hstat⟩ := hs
  intro H locs ls hR ho hl
  obtain ⟨hx, hb, hml, hown, hts, hK, hlk, hRm, -⟩ := hC
  have cb := callB_of (R := mx_R κ) (bytes := M2.2.1) (maxL := M2.2.2.1) (ret := M2.2.2.2.1) (rm := M2.2.2.2.2) n hts (mx_goodIn hcl.1) rfl rfl rfl (hts _ hcl.2.1) (hts _ hlink) hcl.2.2 (by rw [hRm]; exact hrm)
  refine x_after (va_runS ⟨hx, hb, hml, hown, hts⟩ hM ⟨cb, hts _ hstat⟩ (As := A.map (mx_v Γ.1)) (rest := S.map (mx_v Γ.1)) ⟨mx_Pc_blind, fun U hU hW => ⟨rfl, by rw [hU]; exact hR, hK.warm hW⟩⟩ rfl (by rw [List.length_map]; exact hn) hl.1 (by show (A.reverse ++ S).map _ = _; rw [List.map_append, List.map_reverse]) (lv_room (mx_roomS Γ.1 hS hS8)) hdg ⟨by rw [hRm]; exact hcr, by rw [hRm]; exact hsr⟩) ho hl k
theorem x_callSN (hC : mx_Ctx Γ κ M) (hM : mx_C Γ (mx_l κ) M2 A σ P) {n : Nat} {host : String} (hs : mx_sSN M M2 index n host) (hn : A.length = n) (hst : S0 = A.reverse ++ S) (hS : (S.all fun v => v.category == 1) = true) (hS8 : S.length ≤ 8)
    (hc1 : cells + M2.2.2.2.2.cells = c1) (hs1 : slots + M2.2.2.2.2.slots = s1) (hcr : c1 ≤ M.2.2.2.2.cells) (hsr : s1 ≤ M.2.2.2.2.slots) (hdg : decode M.2.1 pc = .ok (.invokestatic index, 3)) (hq : pc + 3 = q)
    (k : ∀ r τ, P r τ → mx_G Γ κ M Q q L (r.toList ++ S) τ c1 s1) : mx_G Γ κ M Q pc L S0 σ cells slots := by
  subst hq
  subst hc1
  subst hs1
  subst hst
  obtain ⟨hcl, hrm, hlink, hstat⟩ := hs
  intro H locs ls hR ho hl
  obtain ⟨hx, hb, hml, hown, hts, hK, hlk, hRm, -⟩ := hC
  have cb := va_cnB (R := mx_R κ) (bytes := M2.2.1) (maxL := M2.2.2.1) (ret := M2.2.2.2.1) (rm := M2.2.2.2.2) n hts (mx_goodIn hcl.1) rfl rfl rfl (hK.2.1 _ _ _ _ hlink) (hts _ hcl.2.1) hcl.2.2 (by rw [hRm]; exact hrm)
  refine x_after (va_runSN ⟨hx, hb, hml, hown, hts⟩ hM ⟨cb, hts _ hstat, trivial⟩ (As := A.map (mx_v Γ.1)) (rest := S.map (mx_v Γ.1)) ⟨mx_Pc_blind, fun U hU hW => ⟨rfl, by rw [hU]; exact hR, hK.warm hW⟩⟩ rfl (by rw [List.length_map]; exact hn) hl.1 (by show (A.reverse ++ S).map _ = _; rw [List.map_append, List.map_reverse]) (lv_room (mx_roomS Γ.1 hS hS8)) hdg ⟨by rw [hRm]; exact hcr, by rw [hRm]; exact hsr⟩) ho hl k
theorem mx_recv {p ci N : Nat} {C : String} {T : u_T} (hK : mx_KK Γ (mx_s κ)) {H : Heap} (hR : mx_Rep Γ σ H) (hsh : mx_SH p = (ci + 4, N)) (hp : p < σ.1) (hcv : vwCl[ci]? = some (C, T, N)) : ∃ cellB : Cell, H[Γ.1 p]? = some cellB ∧ cellB.vm.isStatics = false ∧ (mx_s κ).vm.findClass C = some cellB.cls := by
  obtain ⟨cell, q1, q2, q3, -⟩ := (hR.2.2.2.2 p hp).2.2.2.2 ci N hsh
  exact ⟨cell, q1, by rw [q3]; rfl, by rw [q2]; exact (hK.1.1 ci _ hcv).2.1⟩
theorem x_callV (hC : mx_Ctx Γ κ M) {p ci N : Nat} {T : u_T} (hM : mx_C Γ (mx_l κ) M2 (.ref p :: A) σ P) {n : Nat} (hs : mx_sV M M2 index n ci N T) (hsh : mx_SH p = (ci + 4, N)) (hp : p < σ.1) (hn : A.length = n) (hst : S0 = A.reverse ++ .ref p :: S) (hS : (S.all fun v => v.category == 1) = true) (hS8 : S.length ≤ 8)
    (hc1 : cells + M2.2.2.2.2.cells = c1) (hs1 : slots + M2.2.2.2.2.slots = s1) (hcr : c1 ≤ M.2.2.2.2.cells) (hsr : s1 ≤ M.2.2.2.2.slots) (hdg : decode M.2.1 pc = .ok (.invokevirtual index, 3)) (hq : pc + 3 = q)
    (k : ∀ r τ, P r τ → mx_G Γ κ M Q q L (r.toList ++ S) τ c1 s1) : mx_G Γ κ M Q pc L S0 σ cells slots := by
  subst hq
  subst hc1
  subst hs1
  subst hst
  obtain ⟨hcl, hrm, hlink, hinst, hsel, hcv⟩ := hs
  intro H locs ls hR ho hl
  obtain ⟨hx, hb, hml, hown, hts, hK, hlk, hRm, -⟩ := hC
  have cb := callB_of (R := mx_R κ) (bytes := M2.2.1) (maxL := M2.2.2.1) (ret := M2.2.2.2.1) (rm := M2.2.2.2.2) n hts (mx_goodIn hcl.1) rfl rfl rfl (hts _ hcl.2.1) (hts _ hlink) hcl.2.2 (by rw [hRm]; exact hrm)
  refine x_after (va_runV ⟨hx, hb, hml, hown, hts⟩ hM ⟨cb, hts _ hinst, hts _ hsel⟩ (b := Γ.1 p) (As := A.map (mx_v Γ.1)) (rest := S.map (mx_v Γ.1)) ⟨mx_Pc_blind, mx_recv hK hR hsh hp hcv, fun U hU hW => ⟨rfl, by rw [hU]; exact hR, hK.warm hW⟩⟩ rfl (by rw [List.length_map]; exact hn) hl.1 (by show (A.reverse ++ .ref p :: S).map _ = _; rw [List.map_append, List.map_reverse]; rfl) (lv_room (mx_roomS Γ.1 hS hS8)) hdg ⟨by rw [hRm]; exact hcr, by rw [hRm]; exact hsr⟩) ho hl k
theorem x_callI (hC : mx_Ctx Γ κ M) {p : Nat} (hM : mx_C Γ (mx_l κ) M2 (.ref p :: A) σ P) {n : Nat} (hs : mx_sI M M2 index n) (hn : A.length = n) (hst : S0 = A.reverse ++ .ref p :: S) (hS : (S.all fun v => v.category == 1) = true) (hS8 : S.length ≤ 8)
    (hc1 : cells + M2.2.2.2.2.cells = c1) (hs1 : slots + M2.2.2.2.2.slots = s1) (hcr : c1 ≤ M.2.2.2.2.cells) (hsr : s1 ≤ M.2.2.2.2.slots) (hdg : decode M.2.1 pc = .ok (.invokespecial index, 3)) (hq : pc + 3 = q)
    (k : ∀ r τ, P r τ → mx_G Γ κ M Q q L (r.toList ++ S) τ c1 s1) : mx_G Γ κ M Q pc L S0 σ cells slots := by
  subst hq
  subst hc1
  subst hs1
  subst hst
  obtain ⟨hret, hnm, hcl, hrm, hlink, hinst⟩ := hs
  intro H locs ls hR ho hl
  obtain ⟨hx, hb, hml, hown, hts, hK, hlk, hRm, -⟩ := hC
  have cb := callB_of (R := mx_R κ) (bytes := M2.2.1) (maxL := M2.2.2.1) (ret := M2.2.2.2.1) (rm := M2.2.2.2.2) n hts (mx_goodIn hcl.1) rfl rfl rfl (hts _ hcl.2.1) (hts _ hlink) hcl.2.2 (by rw [hRm]; exact hrm)
  have hM' := hM
  unfold mx_C at hM'
  rw [hret] at hM' cb
  refine x_after (va_runI ⟨hx, hb, hml, hown, hts⟩ hM' ⟨cb, hnm, hts _ hinst⟩ (b := Γ.1 p) (As := A.map (mx_v Γ.1)) (rest := S.map (mx_v Γ.1)) ⟨mx_Pc_blind, fun U hU hW => ⟨rfl, by rw [hU]; exact hR, hK.warm hW⟩⟩ rfl (by rw [List.length_map]; exact hn) hl.1 (by show (A.reverse ++ .ref p :: S).map _ = _; rw [List.map_append, List.map_reverse]; rfl) (lv_room (mx_roomS Γ.1 hS hS8)) hdg ⟨by rw [hRm]; exact hcr, by rw [hRm]; exact hsr⟩) ho hl k
theorem x_callIN (hC : mx_Ctx Γ κ M) {p : Nat} {host : String} (hM : mx_C Γ (mx_l κ) M2 (.ref p :: A) σ P) {n : Nat} (hs : mx_sIN M M2 index n host) (hn : A.length = n) (hst : S0 = A.reverse ++ .ref p :: S) (hS : (S.all fun v => v.category == 1) = true) (hS8 : S.length ≤ 8)
    (hc1 : cells + M2.2.2.2.2.cells = c1) (hs1 : slots + M2.2.2.2.2.slots = s1) (hcr : c1 ≤ M.2.2.2.2.cells) (hsr : s1 ≤ M.2.2.2.2.slots) (hdg : decode M.2.1 pc = .ok (.invokespecial index, 3)) (hq : pc + 3 = q)
    (k : ∀ r τ, P r τ → mx_G Γ κ M Q q L (r.toList ++ S) τ c1 s1) : mx_G Γ κ M Q pc L S0 σ cells slots := by
  subst hq
  subst hc1
  subst hs1
  subst hst
  obtain ⟨hret, hnm, hcl, hrm, hlink, hinst⟩ := hs
  intro H locs ls hR ho hl
  obtain ⟨hx, hb, hml, hown, hts, hK, hlk, hRm, -⟩ := hC
  have cb := va_cnB (R := mx_R κ) (bytes := M2.2.1) (maxL := M2.2.2.1) (ret := M2.2.2.2.1) (rm := M2.2.2.2.2) n hts (mx_goodIn hcl.1) rfl rfl rfl (hK.2.1 _ _ _ _ hlink) (hts _ hcl.2.1) hcl.2.2 (by rw [hRm]; exact hrm)
  have hM' := hM
  unfold mx_C at hM'
  rw [hret] at hM' cb
  refine x_after (va_runIN ⟨hx, hb, hml, hown, hts⟩ hM' ⟨cb, hnm, hts _ hinst⟩ (b := Γ.1 p) (As := A.map (mx_v Γ.1)) (rest := S.map (mx_v Γ.1)) ⟨mx_Pc_blind, fun U hU hW => ⟨rfl, by rw [hU]; exact hR, hK.warm hW⟩⟩ rfl (by rw [List.length_map]; exact hn) hl.1 (by show (A.reverse ++ .ref p :: S).map _ = _; rw [List.map_append, List.map_reverse]; rfl) (lv_room (mx_roomS Γ.1 hS hS8)) hdg ⟨by rw [hRm]; exact hcr, by rw [hRm]; exact hsr⟩) ho hl k
theorem x_obj (hC : mx_Ctx Γ κ M) {p : Nat} (hs : mx_sO M index) (hf : 1 ≤ M.2.2.2.2.frames) (hlo : 20 ≤ M.2.2.2.2.locals) (hS : (S.all fun v => v.category == 1) = true) (hS8 : S.length ≤ 8) (hdg : decode M.2.1 pc = .ok (.invokespecial index, 3)) (hq : pc + 3 = q)
    (k : mx_G Γ κ M Q q L S σ cells slots) : mx_G Γ κ M Q pc L (.ref p :: S) σ cells slots := by
  subst hq
  obtain ⟨hw1, hw2, hw3⟩ := hs
  intro H locs ls hR ho hl
  obtain ⟨hx, hb, hml, hown, hts, hK, hlk, hRm, -⟩ := hC
  have h8 := mx_roomS Γ.1 hS hS8
  exact W.objInit hx hb hown (hts _ hw1) (hts _ hw2) (hts _ hw3) rfl (by rw [hml]; exact hl.1) rfl hdg (by rw [hRm]; exact hf) (by rw [hRm]; show 2 * 0 + _ + 12 ≤ _; omega) (k H locs ls hR ho hl)
theorem mx_C.mono {l : Launch} {P2 : Option Value → mx_S → Prop} (h : mx_C Γ l M A σ P) (hP : ∀ r τ, P r τ → P2 r τ) : mx_C Γ l M A σ P2 := by
  unfold mx_C Met at h ⊢
  refine MetFree.mono h (fun _ _ h => h) (fun _ _ _ _ _ h => h) (fun a st o t _ hq => ?_)
  obtain ⟨⟨r, τ, h1, h2, h3⟩, h4⟩ := hq
  exact ⟨⟨r, τ, h1, hP r τ h2, h3⟩, h4⟩
end XC
end
section
/-! methods, fields, calls: what they ask of the tables -/
def M_MT_init : mx_M := (n_MT_init, prog_1_method_1_code, 3, none, { frames := 4, cells := 183, slots := 1116, locals := 87 })
def M_MT_isRouter : mx_M := (n_MT_isRouter, prog_1_method_22_code, 1, some .boolean, { frames := 0, cells := 0, slots := 0, locals := 0 })
def M_Ck_init : mx_M := (n_Ck_init, prog_2_method_1_code, 1, none, { frames := 1, cells := 0, slots := 0, locals := 20 })
def M_Ta_init : mx_M := (n_Ta_init, prog_8_method_1_code, 1, none, { frames := 1, cells := 1, slots := 10, locals := 20 })
def M_Ne_init : mx_M := (n_Ne_init, prog_5_method_1_code, 1, none, { frames := 3, cells := 28, slots := 168, locals := 67 })
def M_Ne_measure : mx_M := (n_Ne_measure, prog_5_method_9_code, 3, none, { frames := 2, cells := 0, slots := 0, locals := 45 })
def M_Ne_startLengths : mx_M := (n_Ne_startLengths, prog_5_method_10_code, 3, none, { frames := 1, cells := 0, slots := 0, locals := 22 })
def M_Ne_areLinked : mx_M := (n_Ne_areLinked, prog_5_method_4_code, 3, some .boolean, { frames := 0, cells := 0, slots := 0, locals := 0 })
def M_Ne_shortenBy : mx_M := (n_Ne_shortenBy, prog_5_method_11_code, 4, none, { frames := 1, cells := 0, slots := 0, locals := 21 })
def M_JM_min : mx_M := (n_JM_min, prog_13_method_69_code, 2, some .int, { frames := 0, cells := 0, slots := 0, locals := 0 })
def M_Ne_findNext : mx_M := (n_Ne_findNext, prog_5_method_12_code, 4, some .int, { frames := 1, cells := 0, slots := 0, locals := 22 })
def M_Ne_areConnected : mx_M := (n_Ne_areConnected, prog_5_method_5_code, 3, some .boolean, { frames := 0, cells := 0, slots := 0, locals := 0 })
def M_Ne_orderTowards : mx_M := (n_Ne_orderTowards, prog_5_method_13_code, 5, none, { frames := 0, cells := 0, slots := 0, locals := 0 })
def M_La_init : mx_M := (n_La_init, prog_4_method_1_code, 3, none, { frames := 1, cells := 22, slots := 78, locals := 23 })
def M_JA_fill : mx_M := (n_JA_fill, prog_14_method_103_code, 4, none, { frames := 0, cells := 0, slots := 0, locals := 0 })
def M_Sm_init : mx_M := (n_Sm_init, prog_7_method_1_code, 2, none, { frames := 1, cells := 21, slots := 162, locals := 20 })
def M_Tr_init : mx_M := (n_Tr_init, prog_9_method_1_code, 7, none, { frames := 1, cells := 85, slots := 552, locals := 23 })
def M_Pa_init : mx_M := (n_Pa_init, prog_6_method_1_code, 6, none, { frames := 1, cells := 2, slots := 12, locals := 20 })
def M_Fi_init : mx_M := (n_Fi_init, prog_3_method_1_code, 4, none, { frames := 1, cells := 16, slots := 82, locals := 20 })
def M_MT_link : mx_M := (n_MT_link, prog_1_method_2_code, 4, some .boolean, { frames := 5, cells := 0, slots := 0, locals := 117 })
def M_Ne_costOf : mx_M := (n_Ne_costOf, prog_5_method_2_code, 3, some .int, { frames := 0, cells := 0, slots := 0, locals := 0 })
def M_Ne_setCost : mx_M := (n_Ne_setCost, prog_5_method_3_code, 4, none, { frames := 3, cells := 0, slots := 0, locals := 67 })
def M_Tr_settle : mx_M := (n_Tr_settle, prog_9_method_8_code, 3, none, { frames := 4, cells := 0, slots := 0, locals := 95 })
def M_Tr_settleShared : mx_M := (n_Tr_settleShared, prog_9_method_9_code, 7, none, { frames := 2, cells := 0, slots := 0, locals := 46 })
def M_Ne_fromFarthest : mx_M := (n_Ne_fromFarthest, prog_5_method_8_code, 3, some .int, { frames := 0, cells := 0, slots := 0, locals := 0 })
def M_La_isMarked : mx_M := (n_La_isMarked, prog_4_method_4_code, 3, some .boolean, { frames := 1, cells := 0, slots := 0, locals := 20 })
def M_Ck_time : mx_M := (n_Ck_time, prog_2_method_2_code, 1, some .int, { frames := 0, cells := 0, slots := 0, locals := 0 })
def M_Ne_nextTowards : mx_M := (n_Ne_nextTowards, prog_5_method_7_code, 3, some .int, { frames := 0, cells := 0, slots := 0, locals := 0 })
def M_Tr_announce : mx_M := (n_Tr_announce, prog_9_method_13_code, 5, none, { frames := 1, cells := 0, slots := 0, locals := 22 })
def M_Ta_count : mx_M := (n_Ta_count, prog_8_method_2_code, 2, none, { frames := 0, cells := 0, slots := 0, locals := 0 })
def M_Tr_settleCuts : mx_M := (n_Tr_settleCuts, prog_9_method_10_code, 10, none, { frames := 3, cells := 0, slots := 0, locals := 66 })
def M_MT_streamOf : mx_M := (n_MT_streamOf, prog_1_method_25_code, 2, some .int, { frames := 0, cells := 0, slots := 0, locals := 0 })
def M_Tr_takesElsewhere : mx_M := (n_Tr_takesElsewhere, prog_9_method_11_code, 4, some .boolean, { frames := 2, cells := 0, slots := 0, locals := 43 })
def M_Sm_isSwitched : mx_M := (n_Sm_isSwitched, prog_7_method_3_code, 3, some .boolean, { frames := 1, cells := 0, slots := 0, locals := 21 })
def M_MT_holds : mx_M := (n_MT_holds, prog_1_method_26_code, 2, some .boolean, { frames := 0, cells := 0, slots := 0, locals := 0 })
def M_Tr_settleSources : mx_M := (n_Tr_settleSources, prog_9_method_12_code, 9, none, { frames := 2, cells := 0, slots := 0, locals := 46 })
def M_Sm_isAlive : mx_M := (n_Sm_isAlive, prog_7_method_2_code, 3, some .boolean, { frames := 1, cells := 0, slots := 0, locals := 20 })
def M_MT_distance : mx_M := (n_MT_distance, prog_1_method_3_code, 3, some .int, { frames := 1, cells := 0, slots := 0, locals := 22 })
def M_Ne_lengthOf : mx_M := (n_Ne_lengthOf, prog_5_method_6_code, 3, some .int, { frames := 0, cells := 0, slots := 0, locals := 0 })
def M_MT_hop : mx_M := (n_MT_hop, prog_1_method_4_code, 3, some .int, { frames := 1, cells := 0, slots := 0, locals := 22 })
def M_MT_join : mx_M := (n_MT_join, prog_1_method_5_code, 4, some .boolean, { frames := 5, cells := 0, slots := 0, locals := 117 })
def M_MT_isHost : mx_M := (n_MT_isHost, prog_1_method_23_code, 1, some .boolean, { frames := 0, cells := 0, slots := 0, locals := 0 })
def M_MT_isGroup : mx_M := (n_MT_isGroup, prog_1_method_24_code, 1, some .boolean, { frames := 0, cells := 0, slots := 0, locals := 0 })
def M_La_isMember : mx_M := (n_La_isMember, prog_4_method_2_code, 4, some .boolean, { frames := 1, cells := 0, slots := 0, locals := 21 })
def M_La_admit : mx_M := (n_La_admit, prog_4_method_6_code, 4, none, { frames := 2, cells := 0, slots := 0, locals := 43 })
def M_La_report : mx_M := (n_La_report, prog_4_method_10_code, 4, none, { frames := 1, cells := 0, slots := 0, locals := 20 })
def M_MT_leave : mx_M := (n_MT_leave, prog_1_method_6_code, 5, some .boolean, { frames := 5, cells := 0, slots := 0, locals := 117 })
def M_La_dismiss : mx_M := (n_La_dismiss, prog_4_method_7_code, 5, none, { frames := 3, cells := 0, slots := 0, locals := 67 })
def M_La_hasMembers : mx_M := (n_La_hasMembers, prog_4_method_3_code, 3, some .boolean, { frames := 0, cells := 0, slots := 0, locals := 0 })
def M_La_reportLowest : mx_M := (n_La_reportLowest, prog_4_method_9_code, 4, none, { frames := 2, cells := 0, slots := 0, locals := 44 })
def M_MT_marked : mx_M := (n_MT_marked, prog_1_method_7_code, 3, some .int, { frames := 3, cells := 0, slots := 0, locals := 64 })
def M_La_ticksLeft : mx_M := (n_La_ticksLeft, prog_4_method_5_code, 3, some .int, { frames := 2, cells := 0, slots := 0, locals := 42 })
def M_MT_pass : mx_M := (n_MT_pass, prog_1_method_8_code, 3, some .boolean, { frames := 5, cells := 0, slots := 0, locals := 117 })
def M_Ck_tick : mx_M := (n_Ck_tick, prog_2_method_3_code, 1, none, { frames := 0, cells := 0, slots := 0, locals := 0 })
def M_Sm_endStale : mx_M := (n_Sm_endStale, prog_7_method_8_code, 3, none, { frames := 2, cells := 0, slots := 0, locals := 42 })
def M_Ck_isReportTime : mx_M := (n_Ck_isReportTime, prog_2_method_4_code, 1, some .boolean, { frames := 0, cells := 0, slots := 0, locals := 0 })
def M_La_reportAll : mx_M := (n_La_reportAll, prog_4_method_8_code, 3, none, { frames := 3, cells := 0, slots := 0, locals := 67 })
def M_MT_send : mx_M := (n_MT_send, prog_1_method_9_code, 3, some .int, { frames := 5, cells := 0, slots := 0, locals := 120 })
def M_Sm_hasRoomFor : mx_M := (n_Sm_hasRoomFor, prog_7_method_9_code, 4, some .boolean, { frames := 3, cells := 0, slots := 0, locals := 64 })
def M_Sm_isAliveSomewhere : mx_M := (n_Sm_isAliveSomewhere, prog_7_method_10_code, 3, some .boolean, { frames := 2, cells := 0, slots := 0, locals := 42 })
def M_Pa_dispatch : mx_M := (n_Pa_dispatch, prog_6_method_6_code, 7, none, { frames := 4, cells := 0, slots := 0, locals := 94 })
def M_Pa_switchJoined : mx_M := (n_Pa_switchJoined, prog_6_method_7_code, 4, none, { frames := 3, cells := 0, slots := 0, locals := 64 })
def M_Sm_renew : mx_M := (n_Sm_renew, prog_7_method_5_code, 3, none, { frames := 1, cells := 0, slots := 0, locals := 20 })
def M_Tr_outerList : mx_M := (n_Tr_outerList, prog_9_method_7_code, 3, some .int, { frames := 0, cells := 0, slots := 0, locals := 0 })
def M_Sm_switchOver : mx_M := (n_Sm_switchOver, prog_7_method_6_code, 3, none, { frames := 2, cells := 0, slots := 0, locals := 42 })
def M_Tr_sourceJoinOf : mx_M := (n_Tr_sourceJoinOf, prog_9_method_5_code, 3, some .int, { frames := 0, cells := 0, slots := 0, locals := 0 })
def M_Pa_register : mx_M := (n_Pa_register, prog_6_method_8_code, 4, some .boolean, { frames := 2, cells := 0, slots := 0, locals := 43 })
def M_Tr_meetingPoint : mx_M := (n_Tr_meetingPoint, prog_9_method_2_code, 1, some .int, { frames := 0, cells := 0, slots := 0, locals := 0 })
def M_Sm_isQuiet : mx_M := (n_Sm_isQuiet, prog_7_method_4_code, 2, some .boolean, { frames := 1, cells := 0, slots := 0, locals := 20 })
def M_Sm_silence : mx_M := (n_Sm_silence, prog_7_method_7_code, 2, none, { frames := 1, cells := 0, slots := 0, locals := 20 })
def M_Pa_carry : mx_M := (n_Pa_carry, prog_6_method_9_code, 3, none, { frames := 0, cells := 0, slots := 0, locals := 0 })
def M_Pa_putOut : mx_M := (n_Pa_putOut, prog_6_method_10_code, 7, none, { frames := 3, cells := 0, slots := 0, locals := 68 })
def M_Tr_innerList : mx_M := (n_Tr_innerList, prog_9_method_6_code, 3, some .int, { frames := 0, cells := 0, slots := 0, locals := 0 })
def M_Pa_cross : mx_M := (n_Pa_cross, prog_6_method_11_code, 6, none, { frames := 2, cells := 0, slots := 0, locals := 43 })
def M_Pa_renewCarriers : mx_M := (n_Pa_renewCarriers, prog_6_method_12_code, 5, none, { frames := 2, cells := 0, slots := 0, locals := 43 })
def M_Pa_listen : mx_M := (n_Pa_listen, prog_6_method_13_code, 2, none, { frames := 1, cells := 0, slots := 0, locals := 21 })
def M_La_hearsOrLoses : mx_M := (n_La_hearsOrLoses, prog_4_method_12_code, 2, some .boolean, { frames := 0, cells := 0, slots := 0, locals := 0 })
def M_Pa_heardBy : mx_M := (n_Pa_heardBy, prog_6_method_5_code, 1, some .int, { frames := 0, cells := 0, slots := 0, locals := 0 })
def M_JI_bitCount : mx_M := (n_JI_bitCount, prog_12_method_49_code, 1, some .int, { frames := 0, cells := 0, slots := 0, locals := 0 })
def M_MT_crossings : mx_M := (n_MT_crossings, prog_1_method_10_code, 1, some .int, { frames := 1, cells := 0, slots := 0, locals := 20 })
def M_Pa_crossingCount : mx_M := (n_Pa_crossingCount, prog_6_method_2_code, 1, some .int, { frames := 0, cells := 0, slots := 0, locals := 0 })
def M_MT_drops : mx_M := (n_MT_drops, prog_1_method_11_code, 1, some .int, { frames := 1, cells := 0, slots := 0, locals := 20 })
def M_Pa_dropCount : mx_M := (n_Pa_dropCount, prog_6_method_3_code, 1, some .int, { frames := 0, cells := 0, slots := 0, locals := 0 })
def M_MT_reached : mx_M := (n_MT_reached, prog_1_method_12_code, 1, some .int, { frames := 1, cells := 0, slots := 0, locals := 20 })
def M_Pa_reachedLans : mx_M := (n_Pa_reachedLans, prog_6_method_4_code, 1, some .int, { frames := 0, cells := 0, slots := 0, locals := 0 })
def M_MT_heard : mx_M := (n_MT_heard, prog_1_method_13_code, 1, some .int, { frames := 1, cells := 0, slots := 0, locals := 20 })
def M_MT_shared : mx_M := (n_MT_shared, prog_1_method_14_code, 3, some .int, { frames := 1, cells := 0, slots := 0, locals := 22 })
def M_Tr_sharedJoinOf : mx_M := (n_Tr_sharedJoinOf, prog_9_method_3_code, 3, some .int, { frames := 0, cells := 0, slots := 0, locals := 0 })
def M_MT_entry : mx_M := (n_MT_entry, prog_1_method_15_code, 6, some .int, { frames := 2, cells := 0, slots := 0, locals := 43 })
def M_Tr_cutOf : mx_M := (n_Tr_cutOf, prog_9_method_4_code, 3, some .int, { frames := 0, cells := 0, slots := 0, locals := 0 })
def M_MT_messages : mx_M := (n_MT_messages, prog_1_method_16_code, 2, some .int, { frames := 1, cells := 0, slots := 0, locals := 21 })
def M_Ta_countOf : mx_M := (n_Ta_countOf, prog_8_method_3_code, 2, some .int, { frames := 0, cells := 0, slots := 0, locals := 0 })
def M_MT_lose : mx_M := (n_MT_lose, prog_1_method_17_code, 3, some .boolean, { frames := 1, cells := 0, slots := 0, locals := 22 })
def M_La_setLosses : mx_M := (n_La_setLosses, prog_4_method_11_code, 3, none, { frames := 0, cells := 0, slots := 0, locals := 0 })
def M_MT_publish : mx_M := (n_MT_publish, prog_1_method_18_code, 4, some .int, { frames := 1, cells := 0, slots := 0, locals := 23 })
def M_Fi_isFull : mx_M := (n_Fi_isFull, prog_3_method_3_code, 1, some .boolean, { frames := 0, cells := 0, slots := 0, locals := 0 })
def M_Fi_create : mx_M := (n_Fi_create, prog_3_method_4_code, 4, some .int, { frames := 0, cells := 0, slots := 0, locals := 0 })
def M_MT_emit : mx_M := (n_MT_emit, prog_1_method_19_code, 3, some .int, { frames := 6, cells := 0, slots := 0, locals := 142 })
def M_Fi_exists : mx_M := (n_Fi_exists, prog_3_method_2_code, 2, some .boolean, { frames := 0, cells := 0, slots := 0, locals := 0 })
def M_Fi_sourceOf : mx_M := (n_Fi_sourceOf, prog_3_method_5_code, 2, some .int, { frames := 0, cells := 0, slots := 0, locals := 0 })
def M_Fi_groupOf : mx_M := (n_Fi_groupOf, prog_3_method_6_code, 2, some .int, { frames := 0, cells := 0, slots := 0, locals := 0 })
def M_Fi_takeTurn : mx_M := (n_Fi_takeTurn, prog_3_method_8_code, 3, some .int, { frames := 1, cells := 0, slots := 0, locals := 21 })
def M_Fi_deliver : mx_M := (n_Fi_deliver, prog_3_method_9_code, 5, none, { frames := 2, cells := 0, slots := 0, locals := 44 })
def M_Fi_store : mx_M := (n_Fi_store, prog_3_method_10_code, 4, none, { frames := 1, cells := 0, slots := 0, locals := 21 })
def M_JM_max : mx_M := (n_JM_max, prog_13_method_65_code, 2, some .int, { frames := 0, cells := 0, slots := 0, locals := 0 })
def M_MT_requests : mx_M := (n_MT_requests, prog_1_method_20_code, 2, some .int, { frames := 4, cells := 0, slots := 0, locals := 91 })
def M_Fi_askAgain : mx_M := (n_Fi_askAgain, prog_3_method_11_code, 6, some .int, { frames := 3, cells := 0, slots := 0, locals := 66 })
def M_Fi_drawWaits : mx_M := (n_Fi_drawWaits, prog_3_method_12_code, 3, none, { frames := 2, cells := 0, slots := 0, locals := 44 })
def M_Fi_takesPart : mx_M := (n_Fi_takesPart, prog_3_method_13_code, 3, some .boolean, { frames := 1, cells := 0, slots := 0, locals := 22 })
def M_Fi_missingAt : mx_M := (n_Fi_missingAt, prog_3_method_15_code, 3, some .int, { frames := 0, cells := 0, slots := 0, locals := 0 })
def M_Fi_draw : mx_M := (n_Fi_draw, prog_3_method_14_code, 1, some .int, { frames := 0, cells := 0, slots := 0, locals := 0 })
def M_MT_have : mx_M := (n_MT_have, prog_1_method_21_code, 3, some .int, { frames := 1, cells := 0, slots := 0, locals := 22 })
def M_Fi_blocksAt : mx_M := (n_Fi_blocksAt, prog_3_method_7_code, 3, some .int, { frames := 0, cells := 0, slots := 0, locals := 0 })
def M_Lw_cell : mx_M := (n_Lw_cell, method_2_code, 2, some .int, { frames := 0, cells := 0, slots := 0, locals := 0 })
def M_Mo_init : mx_M := (n_Mo_init, prog_11_method_1_code, 3, none, { frames := 1, cells := 28, slots := 1026, locals := 23 })
def M_Mo_router : mx_M := (n_Mo_router, prog_11_method_2_code, 1, some .boolean, { frames := 0, cells := 0, slots := 0, locals := 0 })
def M_Mo_ways : mx_M := (n_Mo_ways, prog_11_method_4_code, 4, none, { frames := 0, cells := 0, slots := 0, locals := 0 })
def M_Mo_link : mx_M := (n_Mo_link, prog_11_method_5_code, 4, some .boolean, { frames := 6, cells := 0, slots := 0, locals := 143 })
def M_Mo_settle : mx_M := (n_Mo_settle, prog_11_method_24_code, 3, none, { frames := 5, cells := 0, slots := 0, locals := 121 })
def M_Mo_round : mx_M := (n_Mo_round, prog_11_method_22_code, 5, some .boolean, { frames := 4, cells := 0, slots := 0, locals := 97 })
def M_Mo_sharedDue : mx_M := (n_Mo_sharedDue, prog_11_method_19_code, 5, some .int, { frames := 1, cells := 0, slots := 0, locals := 22 })
def M_Mo_onLan : mx_M := (n_Mo_onLan, prog_11_method_13_code, 3, some .boolean, { frames := 0, cells := 0, slots := 0, locals := 0 })
def M_Mo_cutDue : mx_M := (n_Mo_cutDue, prog_11_method_20_code, 6, some .int, { frames := 3, cells := 0, slots := 0, locals := 72 })
def M_Mo_many : mx_M := (n_Mo_many, prog_11_method_18_code, 7, some .int, { frames := 2, cells := 0, slots := 0, locals := 46 })
def M_Mo_outer : mx_M := (n_Mo_outer, prog_11_method_17_code, 4, some .boolean, { frames := 1, cells := 0, slots := 0, locals := 23 })
def M_Mo_inner : mx_M := (n_Mo_inner, prog_11_method_16_code, 4, some .boolean, { frames := 0, cells := 0, slots := 0, locals := 0 })
def M_Mo_pullDue : mx_M := (n_Mo_pullDue, prog_11_method_21_code, 5, some .int, { frames := 3, cells := 0, slots := 0, locals := 72 })
def M_Mo_tell : mx_M := (n_Mo_tell, prog_11_method_23_code, 5, none, { frames := 0, cells := 0, slots := 0, locals := 0 })
def M_Mo_distance : mx_M := (n_Mo_distance, prog_11_method_6_code, 3, some .int, { frames := 1, cells := 0, slots := 0, locals := 20 })
def M_Mo_hop : mx_M := (n_Mo_hop, prog_11_method_7_code, 3, some .int, { frames := 1, cells := 0, slots := 0, locals := 20 })
def M_Mo_join : mx_M := (n_Mo_join, prog_11_method_11_code, 4, some .boolean, { frames := 6, cells := 0, slots := 0, locals := 143 })
def M_Mo_isHost : mx_M := (n_Mo_isHost, prog_11_method_10_code, 4, some .boolean, { frames := 1, cells := 0, slots := 0, locals := 20 })
def M_Mo_isGroup : mx_M := (n_Mo_isGroup, prog_11_method_3_code, 1, some .boolean, { frames := 0, cells := 0, slots := 0, locals := 0 })
def M_Mo_report : mx_M := (n_Mo_report, prog_11_method_8_code, 4, none, { frames := 0, cells := 0, slots := 0, locals := 0 })
def M_Mo_leave : mx_M := (n_Mo_leave, prog_11_method_12_code, 7, some .boolean, { frames := 6, cells := 0, slots := 0, locals := 143 })
def M_Mo_lowest : mx_M := (n_Mo_lowest, prog_11_method_9_code, 4, some .int, { frames := 0, cells := 0, slots := 0, locals := 0 })
def M_Mo_marked : mx_M := (n_Mo_marked, prog_11_method_14_code, 3, some .int, { frames := 1, cells := 0, slots := 0, locals := 22 })
def M_Mo_pass : mx_M := (n_Mo_pass, prog_11_method_15_code, 5, some .boolean, { frames := 6, cells := 0, slots := 0, locals := 143 })
def M_Mo_shared : mx_M := (n_Mo_shared, prog_11_method_25_code, 3, some .int, { frames := 1, cells := 0, slots := 0, locals := 20 })
def M_Mo_entry : mx_M := (n_Mo_entry, prog_11_method_26_code, 6, some .int, { frames := 3, cells := 0, slots := 0, locals := 72 })
def M_Mo_messages : mx_M := (n_Mo_messages, prog_11_method_27_code, 2, some .int, { frames := 0, cells := 0, slots := 0, locals := 0 })
def M_Mo_send : mx_M := (n_Mo_send, prog_11_method_30_code, 3, some .int, { frames := 8, cells := 0, slots := 0, locals := 193 })
def M_Mo_refused : mx_M := (n_Mo_refused, prog_11_method_29_code, 5, some .boolean, { frames := 1, cells := 0, slots := 0, locals := 23 })
def M_Mo_runs : mx_M := (n_Mo_runs, prog_11_method_28_code, 4, some .boolean, { frames := 0, cells := 0, slots := 0, locals := 0 })
def M_Mo_packet : mx_M := (n_Mo_packet, prog_11_method_31_code, 7, some .int, { frames := 7, cells := 0, slots := 0, locals := 167 })
def M_Mo_register : mx_M := (n_Mo_register, prog_11_method_32_code, 4, some .boolean, { frames := 3, cells := 0, slots := 0, locals := 72 })
def M_Mo_putOut : mx_M := (n_Mo_putOut, prog_11_method_33_code, 7, none, { frames := 2, cells := 0, slots := 0, locals := 46 })
def M_Mo_arrive : mx_M := (n_Mo_arrive, prog_11_method_34_code, 5, some .int, { frames := 6, cells := 0, slots := 0, locals := 143 })
def M_Mo_crossings : mx_M := (n_Mo_crossings, prog_11_method_35_code, 1, some .int, { frames := 0, cells := 0, slots := 0, locals := 0 })
def M_Mo_drops : mx_M := (n_Mo_drops, prog_11_method_36_code, 1, some .int, { frames := 0, cells := 0, slots := 0, locals := 0 })
def M_Mo_reached : mx_M := (n_Mo_reached, prog_11_method_37_code, 1, some .int, { frames := 0, cells := 0, slots := 0, locals := 0 })
def M_Mo_heard : mx_M := (n_Mo_heard, prog_11_method_38_code, 1, some .int, { frames := 0, cells := 0, slots := 0, locals := 0 })
def M_Mo_lose : mx_M := (n_Mo_lose, prog_11_method_39_code, 3, some .boolean, { frames := 1, cells := 0, slots := 0, locals := 20 })
def M_Mo_publish : mx_M := (n_Mo_publish, prog_11_method_40_code, 4, some .int, { frames := 1, cells := 0, slots := 0, locals := 20 })
def M_Mo_emit : mx_M := (n_Mo_emit, prog_11_method_43_code, 6, some .int, { frames := 8, cells := 0, slots := 0, locals := 193 })
def M_Mo_isFile : mx_M := (n_Mo_isFile, prog_11_method_41_code, 2, some .boolean, { frames := 0, cells := 0, slots := 0, locals := 0 })
def M_Mo_take : mx_M := (n_Mo_take, prog_11_method_42_code, 3, some .int, { frames := 0, cells := 0, slots := 0, locals := 0 })
def M_Mo_requests : mx_M := (n_Mo_requests, prog_11_method_45_code, 6, some .int, { frames := 1, cells := 0, slots := 0, locals := 23 })
def M_Mo_missing : mx_M := (n_Mo_missing, prog_11_method_44_code, 4, some .int, { frames := 0, cells := 0, slots := 0, locals := 0 })
def M_Mo_have : mx_M := (n_Mo_have, prog_11_method_46_code, 3, some .int, { frames := 1, cells := 0, slots := 0, locals := 21 })
def M_Lw_law : mx_M := (x, code, 4, some .boolean, room_1)
theorem y_Ck : mx_Y T_Ck 1 ty_Ck := ⟨by decide +kernel, by decide +kernel⟩
theorem u_Ck : ∀ w ∈ u_ws "MulticastTrees$Clock" T_Ck 1, w ∈ mx_WS := by
  intro w hw
  obtain ⟨k, hk, rfl⟩ := List.mem_map.mp hw
  have hk := List.mem_range.mp hk
  match k, hk with
  | 0, _ => exact (mx_w (List.mem_of_getElem? (i := 80) (by decide +kernel)) (by decide +kernel))
  | j + 1, h => exact absurd h (by omega)
theorem y_Fi : mx_Y T_Fi 13 ty_Fi := ⟨by decide +kernel, by decide +kernel⟩
theorem u_Fi : ∀ w ∈ u_ws "MulticastTrees$Files" T_Fi 13, w ∈ mx_WS := by
  intro w hw
  obtain ⟨k, hk, rfl⟩ := List.mem_map.mp hw
  have hk := List.mem_range.mp hk
  match k, hk with
  | 0, _ => exact (mx_w (List.mem_of_getElem? (i := 300) (by decide +kernel)) (by decide +kernel))
  | 1, _ => exact (mx_w (List.mem_of_getElem? (i := 302) (by decide +kernel)) (by decide +kernel))
  | 2, _ => exact (mx_w (List.mem_of_getElem? (i := 304) (by decide +kernel)) (by decide +kernel))
  | 3, _ => exact (mx_w (List.mem_of_getElem? (i := 306) (by decide +kernel)) (by decide +kernel))
  | 4, _ => exact (mx_w (List.mem_of_getElem? (i := 308) (by decide +kernel)) (by decide +kernel))
  | 5, _ => exact (mx_w (List.mem_of_getElem? (i := 310) (by decide +kernel)) (by decide +kernel))
  | 6, _ => exact (mx_w (List.mem_of_getElem? (i := 312) (by decide +kernel)) (by decide +kernel))
  | 7, _ => exact (mx_w (List.mem_of_getElem? (i := 314) (by decide +kernel)) (by decide +kernel))
  | 8, _ => exact (mx_w (List.mem_of_getElem? (i := 316) (by decide +kernel)) (by decide +kernel))
  | 9, _ => exact (mx_w (List.mem_of_getElem? (i := 318) (by decide +kernel)) (by decide +kernel))
  | 10, _ => exact (mx_w (List.mem_of_getElem? (i := 320) (by decide +kernel)) (by decide +kernel))
  | 11, _ => exact (mx_w (List.mem_of_getElem? (i := 322) (by decide +kernel)) (by decide +kernel))
  | 12, _ => exact (mx_w (List.mem_of_getElem? (i := 324) (by decide +kernel)) (by decide +kernel))
  | j + 13, h => exact absurd h (by omega)
theorem y_La : mx_Y T_La 5 ty_La := ⟨by decide +kernel, by decide +kernel⟩
theorem u_La : ∀ w ∈ u_ws "MulticastTrees$Lans" T_La 5, w ∈ mx_WS := by
  intro w hw
  obtain ⟨k, hk, rfl⟩ := List.mem_map.mp hw
  have hk := List.mem_range.mp hk
  match k, hk with
  | 0, _ => exact (mx_w (List.mem_of_getElem? (i := 161) (by decide +kernel)) (by decide +kernel))
  | 1, _ => exact (mx_w (List.mem_of_getElem? (i := 163) (by decide +kernel)) (by decide +kernel))
  | 2, _ => exact (mx_w (List.mem_of_getElem? (i := 165) (by decide +kernel)) (by decide +kernel))
  | 3, _ => exact (mx_w (List.mem_of_getElem? (i := 167) (by decide +kernel)) (by decide +kernel))
  | 4, _ => exact (mx_w (List.mem_of_getElem? (i := 169) (by decide +kernel)) (by decide +kernel))
  | j + 5, h => exact absurd h (by omega)
theorem y_Ne : mx_Y T_Ne 4 ty_Ne := ⟨by decide +kernel, by decide +kernel⟩
theorem u_Ne : ∀ w ∈ u_ws "MulticastTrees$Net" T_Ne 4, w ∈ mx_WS := by
  intro w hw
  obtain ⟨k, hk, rfl⟩ := List.mem_map.mp hw
  have hk := List.mem_range.mp hk
  match k, hk with
  | 0, _ => exact (mx_w (List.mem_of_getElem? (i := 137) (by decide +kernel)) (by decide +kernel))
  | 1, _ => exact (mx_w (List.mem_of_getElem? (i := 139) (by decide +kernel)) (by decide +kernel))
  | 2, _ => exact (mx_w (List.mem_of_getElem? (i := 141) (by decide +kernel)) (by decide +kernel))
  | 3, _ => exact (mx_w (List.mem_of_getElem? (i := 143) (by decide +kernel)) (by decide +kernel))
  | j + 4, h => exact absurd h (by omega)
theorem y_Pa : mx_Y T_Pa 12 ty_Pa := ⟨by decide +kernel, by decide +kernel⟩
theorem u_Pa : ∀ w ∈ u_ws "MulticastTrees$Packets" T_Pa 12, w ∈ mx_WS := by
  intro w hw
  obtain ⟨k, hk, rfl⟩ := List.mem_map.mp hw
  have hk := List.mem_range.mp hk
  match k, hk with
  | 0, _ => exact (mx_w (List.mem_of_getElem? (i := 255) (by decide +kernel)) (by decide +kernel))
  | 1, _ => exact (mx_w (List.mem_of_getElem? (i := 257) (by decide +kernel)) (by decide +kernel))
  | 2, _ => exact (mx_w (List.mem_of_getElem? (i := 259) (by decide +kernel)) (by decide +kernel))
  | 3, _ => exact (mx_w (List.mem_of_getElem? (i := 261) (by decide +kernel)) (by decide +kernel))
  | 4, _ => exact (mx_w (List.mem_of_getElem? (i := 263) (by decide +kernel)) (by decide +kernel))
  | 5, _ => exact (mx_w (List.mem_of_getElem? (i := 265) (by decide +kernel)) (by decide +kernel))
  | 6, _ => exact (mx_w (List.mem_of_getElem? (i := 267) (by decide +kernel)) (by decide +kernel))
  | 7, _ => exact (mx_w (List.mem_of_getElem? (i := 269) (by decide +kernel)) (by decide +kernel))
  | 8, _ => exact (mx_w (List.mem_of_getElem? (i := 271) (by decide +kernel)) (by decide +kernel))
  | 9, _ => exact (mx_w (List.mem_of_getElem? (i := 273) (by decide +kernel)) (by decide +kernel))
  | 10, _ => exact (mx_w (List.mem_of_getElem? (i := 275) (by decide +kernel)) (by decide +kernel))
  | 11, _ => exact (mx_w (List.mem_of_getElem? (i := 277) (by decide +kernel)) (by decide +kernel))
  | j + 12, h => exact absurd h (by omega)
theorem y_Sm : mx_Y T_Sm 4 ty_Sm := ⟨by decide +kernel, by decide +kernel⟩
theorem u_Sm : ∀ w ∈ u_ws "MulticastTrees$Streams" T_Sm 4, w ∈ mx_WS := by
  intro w hw
  obtain ⟨k, hk, rfl⟩ := List.mem_map.mp hw
  have hk := List.mem_range.mp hk
  match k, hk with
  | 0, _ => exact (mx_w (List.mem_of_getElem? (i := 183) (by decide +kernel)) (by decide +kernel))
  | 1, _ => exact (mx_w (List.mem_of_getElem? (i := 185) (by decide +kernel)) (by decide +kernel))
  | 2, _ => exact (mx_w (List.mem_of_getElem? (i := 187) (by decide +kernel)) (by decide +kernel))
  | 3, _ => exact (mx_w (List.mem_of_getElem? (i := 189) (by decide +kernel)) (by decide +kernel))
  | j + 4, h => exact absurd h (by omega)
theorem y_Ta : mx_Y T_Ta 1 ty_Ta := ⟨by decide +kernel, by decide +kernel⟩
theorem u_Ta : ∀ w ∈ u_ws "MulticastTrees$Tally" T_Ta 1, w ∈ mx_WS := by
  intro w hw
  obtain ⟨k, hk, rfl⟩ := List.mem_map.mp hw
  have hk := List.mem_range.mp hk
  match k, hk with
  | 0, _ => exact (mx_w (List.mem_of_getElem? (i := 90) (by decide +kernel)) (by decide +kernel))
  | j + 1, h => exact absurd h (by omega)
theorem y_Tr : mx_Y T_Tr 12 ty_Tr := ⟨by decide +kernel, by decide +kernel⟩
theorem u_Tr : ∀ w ∈ u_ws "MulticastTrees$Trees" T_Tr 12, w ∈ mx_WS := by
  intro w hw
  obtain ⟨k, hk, rfl⟩ := List.mem_map.mp hw
  have hk := List.mem_range.mp hk
  match k, hk with
  | 0, _ => exact (mx_w (List.mem_of_getElem? (i := 212) (by decide +kernel)) (by decide +kernel))
  | 1, _ => exact (mx_w (List.mem_of_getElem? (i := 214) (by decide +kernel)) (by decide +kernel))
  | 2, _ => exact (mx_w (List.mem_of_getElem? (i := 216) (by decide +kernel)) (by decide +kernel))
  | 3, _ => exact (mx_w (List.mem_of_getElem? (i := 218) (by decide +kernel)) (by decide +kernel))
  | 4, _ => exact (mx_w (List.mem_of_getElem? (i := 220) (by decide +kernel)) (by decide +kernel))
  | 5, _ => exact (mx_w (List.mem_of_getElem? (i := 222) (by decide +kernel)) (by decide +kernel))
  | 6, _ => exact (mx_w (List.mem_of_getElem? (i := 224) (by decide +kernel)) (by decide +kernel))
  | 7, _ => exact (mx_w (List.mem_of_getElem? (i := 226) (by decide +kernel)) (by decide +kernel))
  | 8, _ => exact (mx_w (List.mem_of_getElem? (i := 228) (by decide +kernel)) (by decide +kernel))
  | 9, _ => exact (mx_w (List.mem_of_getElem? (i := 230) (by decide +kernel)) (by decide +kernel))
  | 10, _ => exact (mx_w (List.mem_of_getElem? (i := 232) (by decide +kernel)) (by decide +kernel))
  | 11, _ => exact (mx_w (List.mem_of_getElem? (i := 234) (by decide +kernel)) (by decide +kernel))
  | j + 12, h => exact absurd h (by omega)
theorem y_MT : mx_Y T_MT 8 ty_MT := ⟨by decide +kernel, by decide +kernel⟩
theorem u_MT : ∀ w ∈ u_ws "MulticastTrees" T_MT 8, w ∈ mx_WS := by
  intro w hw
  obtain ⟨k, hk, rfl⟩ := List.mem_map.mp hw
  have hk := List.mem_range.mp hk
  match k, hk with
  | 0, _ => exact (mx_w (List.mem_of_getElem? (i := 335) (by decide +kernel)) (by decide +kernel))
  | 1, _ => exact (mx_w (List.mem_of_getElem? (i := 337) (by decide +kernel)) (by decide +kernel))
  | 2, _ => exact (mx_w (List.mem_of_getElem? (i := 339) (by decide +kernel)) (by decide +kernel))
  | 3, _ => exact (mx_w (List.mem_of_getElem? (i := 341) (by decide +kernel)) (by decide +kernel))
  | 4, _ => exact (mx_w (List.mem_of_getElem? (i := 343) (by decide +kernel)) (by decide +kernel))
  | 5, _ => exact (mx_w (List.mem_of_getElem? (i := 345) (by decide +kernel)) (by decide +kernel))
  | 6, _ => exact (mx_w (List.mem_of_getElem? (i := 347) (by decide +kernel)) (by decide +kernel))
  | 7, _ => exact (mx_w (List.mem_of_getElem? (i := 349) (by decide +kernel)) (by decide +kernel))
  | j + 8, h => exact absurd h (by omega)
theorem y_Mo : mx_Y T_Mo 36 ty_Mo := ⟨by decide +kernel, by decide +kernel⟩
theorem u_Mo : ∀ w ∈ u_ws "MulticastTreesModel" T_Mo 36, w ∈ mx_WS := by
  intro w hw
  obtain ⟨k, hk, rfl⟩ := List.mem_map.mp hw
  have hk := List.mem_range.mp hk
  match k, hk with
  | 0, _ => exact (mx_w (List.mem_of_getElem? (i := 806) (by decide +kernel)) (by decide +kernel))
  | 1, _ => exact (mx_w (List.mem_of_getElem? (i := 808) (by decide +kernel)) (by decide +kernel))
  | 2, _ => exact (mx_w (List.mem_of_getElem? (i := 810) (by decide +kernel)) (by decide +kernel))
  | 3, _ => exact (mx_w (List.mem_of_getElem? (i := 812) (by decide +kernel)) (by decide +kernel))
  | 4, _ => exact (mx_w (List.mem_of_getElem? (i := 814) (by decide +kernel)) (by decide +kernel))
  | 5, _ => exact (mx_w (List.mem_of_getElem? (i := 816) (by decide +kernel)) (by decide +kernel))
  | 6, _ => exact (mx_w (List.mem_of_getElem? (i := 818) (by decide +kernel)) (by decide +kernel))
  | 7, _ => exact (mx_w (List.mem_of_getElem? (i := 820) (by decide +kernel)) (by decide +kernel))
  | 8, _ => exact (mx_w (List.mem_of_getElem? (i := 822) (by decide +kernel)) (by decide +kernel))
  | 9, _ => exact (mx_w (List.mem_of_getElem? (i := 824) (by decide +kernel)) (by decide +kernel))
  | 10, _ => exact (mx_w (List.mem_of_getElem? (i := 826) (by decide +kernel)) (by decide +kernel))
  | 11, _ => exact (mx_w (List.mem_of_getElem? (i := 828) (by decide +kernel)) (by decide +kernel))
  | 12, _ => exact (mx_w (List.mem_of_getElem? (i := 830) (by decide +kernel)) (by decide +kernel))
  | 13, _ => exact (mx_w (List.mem_of_getElem? (i := 832) (by decide +kernel)) (by decide +kernel))
  | 14, _ => exact (mx_w (List.mem_of_getElem? (i := 834) (by decide +kernel)) (by decide +kernel))
  | 15, _ => exact (mx_w (List.mem_of_getElem? (i := 836) (by decide +kernel)) (by decide +kernel))
  | 16, _ => exact (mx_w (List.mem_of_getElem? (i := 838) (by decide +kernel)) (by decide +kernel))
  | 17, _ => exact (mx_w (List.mem_of_getElem? (i := 840) (by decide +kernel)) (by decide +kernel))
  | 18, _ => exact (mx_w (List.mem_of_getElem? (i := 842) (by decide +kernel)) (by decide +kernel))
  | 19, _ => exact (mx_w (List.mem_of_getElem? (i := 844) (by decide +kernel)) (by decide +kernel))
  | 20, _ => exact (mx_w (List.mem_of_getElem? (i := 846) (by decide +kernel)) (by decide +kernel))
  | 21, _ => exact (mx_w (List.mem_of_getElem? (i := 848) (by decide +kernel)) (by decide +kernel))
  | 22, _ => exact (mx_w (List.mem_of_getElem? (i := 850) (by decide +kernel)) (by decide +kernel))
  | 23, _ => exact (mx_w (List.mem_of_getElem? (i := 852) (by decide +kernel)) (by decide +kernel))
  | 24, _ => exact (mx_w (List.mem_of_getElem? (i := 854) (by decide +kernel)) (by decide +kernel))
  | 25, _ => exact (mx_w (List.mem_of_getElem? (i := 856) (by decide +kernel)) (by decide +kernel))
  | 26, _ => exact (mx_w (List.mem_of_getElem? (i := 858) (by decide +kernel)) (by decide +kernel))
  | 27, _ => exact (mx_w (List.mem_of_getElem? (i := 860) (by decide +kernel)) (by decide +kernel))
  | 28, _ => exact (mx_w (List.mem_of_getElem? (i := 862) (by decide +kernel)) (by decide +kernel))
  | 29, _ => exact (mx_w (List.mem_of_getElem? (i := 864) (by decide +kernel)) (by decide +kernel))
  | 30, _ => exact (mx_w (List.mem_of_getElem? (i := 866) (by decide +kernel)) (by decide +kernel))
  | 31, _ => exact (mx_w (List.mem_of_getElem? (i := 868) (by decide +kernel)) (by decide +kernel))
  | 32, _ => exact (mx_w (List.mem_of_getElem? (i := 870) (by decide +kernel)) (by decide +kernel))
  | 33, _ => exact (mx_w (List.mem_of_getElem? (i := 872) (by decide +kernel)) (by decide +kernel))
  | 34, _ => exact (mx_w (List.mem_of_getElem? (i := 874) (by decide +kernel)) (by decide +kernel))
  | 35, _ => exact (mx_w (List.mem_of_getElem? (i := 876) (by decide +kernel)) (by decide +kernel))
  | j + 36, h => exact absurd h (by omega)
theorem sn_MT_init_13 : mx_sN M_MT_init 13 0 "MulticastTrees$Clock" T_Ck 1 ty_Ck := ⟨rfl, u_Ck, y_Ck, by decide +kernel, (mx_w (List.mem_of_getElem? (i := 73) (by decide +kernel)) (by decide +kernel)), (mx_w (List.mem_of_getElem? (i := 74) (by decide +kernel)) (by decide +kernel)), (mx_w (List.mem_of_getElem? (i := 50) (by decide +kernel)) (by decide +kernel))⟩
theorem f_MT_16 : mx_F "MulticastTrees" 16 8 0 "MulticastTrees" T_MT 8 := ⟨rfl, by decide, (mx_w (List.mem_of_getElem? (i := 327) (by decide +kernel)) (by decide +kernel)), u_MT⟩
theorem sn_MT_init_20 : mx_sN M_MT_init 20 6 "MulticastTrees$Tally" T_Ta 1 ty_Ta := ⟨rfl, u_Ta, y_Ta, by decide +kernel, (mx_w (List.mem_of_getElem? (i := 83) (by decide +kernel)) (by decide +kernel)), (mx_w (List.mem_of_getElem? (i := 84) (by decide +kernel)) (by decide +kernel)), (mx_w (List.mem_of_getElem? (i := 51) (by decide +kernel)) (by decide +kernel))⟩
theorem f_MT_23 : mx_F "MulticastTrees" 23 8 1 "MulticastTrees" T_MT 8 := ⟨rfl, by decide, (mx_w (List.mem_of_getElem? (i := 328) (by decide +kernel)) (by decide +kernel)), u_MT⟩
theorem sn_MT_init_27 : mx_sN M_MT_init 27 3 "MulticastTrees$Net" T_Ne 4 ty_Ne := ⟨rfl, u_Ne, y_Ne, by decide +kernel, (mx_w (List.mem_of_getElem? (i := 94) (by decide +kernel)) (by decide +kernel)), (mx_w (List.mem_of_getElem? (i := 95) (by decide +kernel)) (by decide +kernel)), (mx_w (List.mem_of_getElem? (i := 52) (by decide +kernel)) (by decide +kernel))⟩
theorem f_MT_30 : mx_F "MulticastTrees" 30 8 2 "MulticastTrees" T_MT 8 := ⟨rfl, by decide, (mx_w (List.mem_of_getElem? (i := 329) (by decide +kernel)) (by decide +kernel)), u_MT⟩
theorem sn_MT_init_34 : mx_sN M_MT_init 34 2 "MulticastTrees$Lans" T_La 5 ty_La := ⟨rfl, u_La, y_La, by decide +kernel, (mx_w (List.mem_of_getElem? (i := 146) (by decide +kernel)) (by decide +kernel)), (mx_w (List.mem_of_getElem? (i := 147) (by decide +kernel)) (by decide +kernel)), (mx_w (List.mem_of_getElem? (i := 54) (by decide +kernel)) (by decide +kernel))⟩
theorem f_MT_39 : mx_F "MulticastTrees" 39 8 3 "MulticastTrees" T_MT 8 := ⟨rfl, by decide, (mx_w (List.mem_of_getElem? (i := 330) (by decide +kernel)) (by decide +kernel)), u_MT⟩
theorem sn_MT_init_43 : mx_sN M_MT_init 43 5 "MulticastTrees$Streams" T_Sm 4 ty_Sm := ⟨rfl, u_Sm, y_Sm, by decide +kernel, (mx_w (List.mem_of_getElem? (i := 172) (by decide +kernel)) (by decide +kernel)), (mx_w (List.mem_of_getElem? (i := 173) (by decide +kernel)) (by decide +kernel)), (mx_w (List.mem_of_getElem? (i := 56) (by decide +kernel)) (by decide +kernel))⟩
theorem f_MT_46 : mx_F "MulticastTrees" 46 8 4 "MulticastTrees" T_MT 8 := ⟨rfl, by decide, (mx_w (List.mem_of_getElem? (i := 331) (by decide +kernel)) (by decide +kernel)), u_MT⟩
theorem sn_MT_init_50 : mx_sN M_MT_init 50 7 "MulticastTrees$Trees" T_Tr 12 ty_Tr := ⟨rfl, u_Tr, y_Tr, by decide +kernel, (mx_w (List.mem_of_getElem? (i := 192) (by decide +kernel)) (by decide +kernel)), (mx_w (List.mem_of_getElem? (i := 193) (by decide +kernel)) (by decide +kernel)), (mx_w (List.mem_of_getElem? (i := 57) (by decide +kernel)) (by decide +kernel))⟩
theorem f_MT_55 : mx_F "MulticastTrees" 55 8 5 "MulticastTrees" T_MT 8 := ⟨rfl, by decide, (mx_w (List.mem_of_getElem? (i := 332) (by decide +kernel)) (by decide +kernel)), u_MT⟩
theorem sn_MT_init_59 : mx_sN M_MT_init 59 4 "MulticastTrees$Packets" T_Pa 12 ty_Pa := ⟨rfl, u_Pa, y_Pa, by decide +kernel, (mx_w (List.mem_of_getElem? (i := 237) (by decide +kernel)) (by decide +kernel)), (mx_w (List.mem_of_getElem? (i := 238) (by decide +kernel)) (by decide +kernel)), (mx_w (List.mem_of_getElem? (i := 58) (by decide +kernel)) (by decide +kernel))⟩
theorem f_MT_64 : mx_F "MulticastTrees" 64 8 6 "MulticastTrees" T_MT 8 := ⟨rfl, by decide, (mx_w (List.mem_of_getElem? (i := 333) (by decide +kernel)) (by decide +kernel)), u_MT⟩
theorem sn_MT_init_68 : mx_sN M_MT_init 68 1 "MulticastTrees$Files" T_Fi 13 ty_Fi := ⟨rfl, u_Fi, y_Fi, by decide +kernel, (mx_w (List.mem_of_getElem? (i := 280) (by decide +kernel)) (by decide +kernel)), (mx_w (List.mem_of_getElem? (i := 281) (by decide +kernel)) (by decide +kernel)), (mx_w (List.mem_of_getElem? (i := 59) (by decide +kernel)) (by decide +kernel))⟩
theorem f_MT_73 : mx_F "MulticastTrees" 73 8 7 "MulticastTrees" T_MT 8 := ⟨rfl, by decide, (mx_w (List.mem_of_getElem? (i := 334) (by decide +kernel)) (by decide +kernel)), u_MT⟩
theorem f_Ck_7 : mx_F "MulticastTrees$Clock" 7 0 0 "MulticastTrees$Clock" T_Ck 1 := ⟨rfl, by decide, (mx_w (List.mem_of_getElem? (i := 79) (by decide +kernel)) (by decide +kernel)), u_Ck⟩
theorem f_Ta_9 : mx_F "MulticastTrees$Tally" 9 6 0 "MulticastTrees$Tally" T_Ta 1 := ⟨rfl, by decide, (mx_w (List.mem_of_getElem? (i := 89) (by decide +kernel)) (by decide +kernel)), u_Ta⟩
theorem w_aa_Ne_9 : Cond.classLink "MulticastTrees$Net" 9 "[[I" ∈ mx_WS := (mx_w (List.mem_of_getElem? (i := 100) (by decide +kernel)) (by decide +kernel))
theorem f_Ne_11 : mx_F "MulticastTrees$Net" 11 3 0 "MulticastTrees$Net" T_Ne 4 := ⟨rfl, by decide, (mx_w (List.mem_of_getElem? (i := 133) (by decide +kernel)) (by decide +kernel)), u_Ne⟩
theorem f_Ne_16 : mx_F "MulticastTrees$Net" 16 3 1 "MulticastTrees$Net" T_Ne 4 := ⟨rfl, by decide, (mx_w (List.mem_of_getElem? (i := 134) (by decide +kernel)) (by decide +kernel)), u_Ne⟩
theorem f_Ne_19 : mx_F "MulticastTrees$Net" 19 3 2 "MulticastTrees$Net" T_Ne 4 := ⟨rfl, by decide, (mx_w (List.mem_of_getElem? (i := 135) (by decide +kernel)) (by decide +kernel)), u_Ne⟩
theorem f_Ne_22 : mx_F "MulticastTrees$Net" 22 3 3 "MulticastTrees$Net" T_Ne 4 := ⟨rfl, by decide, (mx_w (List.mem_of_getElem? (i := 136) (by decide +kernel)) (by decide +kernel)), u_Ne⟩
theorem w_aa_La_9 : Cond.classLink "MulticastTrees$Lans" 9 "[[I" ∈ mx_WS := (mx_w (List.mem_of_getElem? (i := 152) (by decide +kernel)) (by decide +kernel))
theorem f_La_11 : mx_F "MulticastTrees$Lans" 11 2 1 "MulticastTrees$Lans" T_La 5 := ⟨rfl, by decide, (mx_w (List.mem_of_getElem? (i := 157) (by decide +kernel)) (by decide +kernel)), u_La⟩
theorem f_La_16 : mx_F "MulticastTrees$Lans" 16 2 2 "MulticastTrees$Lans" T_La 5 := ⟨rfl, by decide, (mx_w (List.mem_of_getElem? (i := 158) (by decide +kernel)) (by decide +kernel)), u_La⟩
theorem f_La_19 : mx_F "MulticastTrees$Lans" 19 2 3 "MulticastTrees$Lans" T_La 5 := ⟨rfl, by decide, (mx_w (List.mem_of_getElem? (i := 159) (by decide +kernel)) (by decide +kernel)), u_La⟩
theorem f_La_22 : mx_F "MulticastTrees$Lans" 22 2 4 "MulticastTrees$Lans" T_La 5 := ⟨rfl, by decide, (mx_w (List.mem_of_getElem? (i := 160) (by decide +kernel)) (by decide +kernel)), u_La⟩
theorem f_La_26 : mx_F "MulticastTrees$Lans" 26 2 0 "MulticastTrees$Lans" T_La 5 := ⟨rfl, by decide, (mx_w (List.mem_of_getElem? (i := 156) (by decide +kernel)) (by decide +kernel)), u_La⟩
theorem w_aa_Sm_9 : Cond.classLink "MulticastTrees$Streams" 9 "[[I" ∈ mx_WS := (mx_w (List.mem_of_getElem? (i := 178) (by decide +kernel)) (by decide +kernel))
theorem f_Sm_11 : mx_F "MulticastTrees$Streams" 11 5 1 "MulticastTrees$Streams" T_Sm 4 := ⟨rfl, by decide, (mx_w (List.mem_of_getElem? (i := 180) (by decide +kernel)) (by decide +kernel)), u_Sm⟩
theorem f_Sm_16 : mx_F "MulticastTrees$Streams" 16 5 2 "MulticastTrees$Streams" T_Sm 4 := ⟨rfl, by decide, (mx_w (List.mem_of_getElem? (i := 181) (by decide +kernel)) (by decide +kernel)), u_Sm⟩
theorem f_Sm_20 : mx_F "MulticastTrees$Streams" 20 5 3 "MulticastTrees$Streams" T_Sm 4 := ⟨rfl, by decide, (mx_w (List.mem_of_getElem? (i := 182) (by decide +kernel)) (by decide +kernel)), u_Sm⟩
theorem f_Sm_23 : mx_F "MulticastTrees$Streams" 23 5 0 "MulticastTrees$Streams" T_Sm 4 := ⟨rfl, by decide, (mx_w (List.mem_of_getElem? (i := 179) (by decide +kernel)) (by decide +kernel)), u_Sm⟩
theorem w_aa_Tr_9 : Cond.classLink "MulticastTrees$Trees" 9 "[[I" ∈ mx_WS := (mx_w (List.mem_of_getElem? (i := 198) (by decide +kernel)) (by decide +kernel))
theorem f_Tr_11 : mx_F "MulticastTrees$Trees" 11 7 5 "MulticastTrees$Trees" T_Tr 12 := ⟨rfl, by decide, (mx_w (List.mem_of_getElem? (i := 205) (by decide +kernel)) (by decide +kernel)), u_Tr⟩
theorem f_Tr_16 : mx_F "MulticastTrees$Trees" 16 7 6 "MulticastTrees$Trees" T_Tr 12 := ⟨rfl, by decide, (mx_w (List.mem_of_getElem? (i := 206) (by decide +kernel)) (by decide +kernel)), u_Tr⟩
theorem f_Tr_19 : mx_F "MulticastTrees$Trees" 19 7 7 "MulticastTrees$Trees" T_Tr 12 := ⟨rfl, by decide, (mx_w (List.mem_of_getElem? (i := 207) (by decide +kernel)) (by decide +kernel)), u_Tr⟩
theorem f_Tr_22 : mx_F "MulticastTrees$Trees" 22 7 8 "MulticastTrees$Trees" T_Tr 12 := ⟨rfl, by decide, (mx_w (List.mem_of_getElem? (i := 208) (by decide +kernel)) (by decide +kernel)), u_Tr⟩
theorem f_Tr_25 : mx_F "MulticastTrees$Trees" 25 7 9 "MulticastTrees$Trees" T_Tr 12 := ⟨rfl, by decide, (mx_w (List.mem_of_getElem? (i := 209) (by decide +kernel)) (by decide +kernel)), u_Tr⟩
theorem f_Tr_28 : mx_F "MulticastTrees$Trees" 28 7 10 "MulticastTrees$Trees" T_Tr 12 := ⟨rfl, by decide, (mx_w (List.mem_of_getElem? (i := 210) (by decide +kernel)) (by decide +kernel)), u_Tr⟩
theorem f_Tr_31 : mx_F "MulticastTrees$Trees" 31 7 11 "MulticastTrees$Trees" T_Tr 12 := ⟨rfl, by decide, (mx_w (List.mem_of_getElem? (i := 211) (by decide +kernel)) (by decide +kernel)), u_Tr⟩
theorem f_Tr_35 : mx_F "MulticastTrees$Trees" 35 7 0 "MulticastTrees$Trees" T_Tr 12 := ⟨rfl, by decide, (mx_w (List.mem_of_getElem? (i := 200) (by decide +kernel)) (by decide +kernel)), u_Tr⟩
theorem f_Tr_39 : mx_F "MulticastTrees$Trees" 39 7 1 "MulticastTrees$Trees" T_Tr 12 := ⟨rfl, by decide, (mx_w (List.mem_of_getElem? (i := 201) (by decide +kernel)) (by decide +kernel)), u_Tr⟩
theorem f_Tr_43 : mx_F "MulticastTrees$Trees" 43 7 2 "MulticastTrees$Trees" T_Tr 12 := ⟨rfl, by decide, (mx_w (List.mem_of_getElem? (i := 202) (by decide +kernel)) (by decide +kernel)), u_Tr⟩
theorem f_Tr_47 : mx_F "MulticastTrees$Trees" 47 7 3 "MulticastTrees$Trees" T_Tr 12 := ⟨rfl, by decide, (mx_w (List.mem_of_getElem? (i := 203) (by decide +kernel)) (by decide +kernel)), u_Tr⟩
theorem f_Tr_51 : mx_F "MulticastTrees$Trees" 51 7 4 "MulticastTrees$Trees" T_Tr 12 := ⟨rfl, by decide, (mx_w (List.mem_of_getElem? (i := 204) (by decide +kernel)) (by decide +kernel)), u_Tr⟩
theorem f_Pa_9 : mx_F "MulticastTrees$Packets" 9 4 5 "MulticastTrees$Packets" T_Pa 12 := ⟨rfl, by decide, (mx_w (List.mem_of_getElem? (i := 248) (by decide +kernel)) (by decide +kernel)), u_Pa⟩
theorem f_Pa_15 : mx_F "MulticastTrees$Packets" 15 4 6 "MulticastTrees$Packets" T_Pa 12 := ⟨rfl, by decide, (mx_w (List.mem_of_getElem? (i := 249) (by decide +kernel)) (by decide +kernel)), u_Pa⟩
theorem f_Pa_18 : mx_F "MulticastTrees$Packets" 18 4 7 "MulticastTrees$Packets" T_Pa 12 := ⟨rfl, by decide, (mx_w (List.mem_of_getElem? (i := 250) (by decide +kernel)) (by decide +kernel)), u_Pa⟩
theorem f_Pa_22 : mx_F "MulticastTrees$Packets" 22 4 8 "MulticastTrees$Packets" T_Pa 12 := ⟨rfl, by decide, (mx_w (List.mem_of_getElem? (i := 251) (by decide +kernel)) (by decide +kernel)), u_Pa⟩
theorem f_Pa_25 : mx_F "MulticastTrees$Packets" 25 4 9 "MulticastTrees$Packets" T_Pa 12 := ⟨rfl, by decide, (mx_w (List.mem_of_getElem? (i := 252) (by decide +kernel)) (by decide +kernel)), u_Pa⟩
theorem f_Pa_28 : mx_F "MulticastTrees$Packets" 28 4 10 "MulticastTrees$Packets" T_Pa 12 := ⟨rfl, by decide, (mx_w (List.mem_of_getElem? (i := 253) (by decide +kernel)) (by decide +kernel)), u_Pa⟩
theorem f_Pa_31 : mx_F "MulticastTrees$Packets" 31 4 11 "MulticastTrees$Packets" T_Pa 12 := ⟨rfl, by decide, (mx_w (List.mem_of_getElem? (i := 254) (by decide +kernel)) (by decide +kernel)), u_Pa⟩
theorem f_Pa_34 : mx_F "MulticastTrees$Packets" 34 4 0 "MulticastTrees$Packets" T_Pa 12 := ⟨rfl, by decide, (mx_w (List.mem_of_getElem? (i := 243) (by decide +kernel)) (by decide +kernel)), u_Pa⟩
theorem f_Pa_38 : mx_F "MulticastTrees$Packets" 38 4 1 "MulticastTrees$Packets" T_Pa 12 := ⟨rfl, by decide, (mx_w (List.mem_of_getElem? (i := 244) (by decide +kernel)) (by decide +kernel)), u_Pa⟩
theorem f_Pa_42 : mx_F "MulticastTrees$Packets" 42 4 2 "MulticastTrees$Packets" T_Pa 12 := ⟨rfl, by decide, (mx_w (List.mem_of_getElem? (i := 245) (by decide +kernel)) (by decide +kernel)), u_Pa⟩
theorem f_Pa_46 : mx_F "MulticastTrees$Packets" 46 4 3 "MulticastTrees$Packets" T_Pa 12 := ⟨rfl, by decide, (mx_w (List.mem_of_getElem? (i := 246) (by decide +kernel)) (by decide +kernel)), u_Pa⟩
theorem f_Pa_50 : mx_F "MulticastTrees$Packets" 50 4 4 "MulticastTrees$Packets" T_Pa 12 := ⟨rfl, by decide, (mx_w (List.mem_of_getElem? (i := 247) (by decide +kernel)) (by decide +kernel)), u_Pa⟩
theorem f_Fi_9 : mx_F "MulticastTrees$Files" 9 1 3 "MulticastTrees$Files" T_Fi 13 := ⟨rfl, by decide, (mx_w (List.mem_of_getElem? (i := 290) (by decide +kernel)) (by decide +kernel)), u_Fi⟩
theorem f_Fi_15 : mx_F "MulticastTrees$Files" 15 1 4 "MulticastTrees$Files" T_Fi 13 := ⟨rfl, by decide, (mx_w (List.mem_of_getElem? (i := 291) (by decide +kernel)) (by decide +kernel)), u_Fi⟩
theorem f_Fi_18 : mx_F "MulticastTrees$Files" 18 1 5 "MulticastTrees$Files" T_Fi 13 := ⟨rfl, by decide, (mx_w (List.mem_of_getElem? (i := 292) (by decide +kernel)) (by decide +kernel)), u_Fi⟩
theorem f_Fi_21 : mx_F "MulticastTrees$Files" 21 1 6 "MulticastTrees$Files" T_Fi 13 := ⟨rfl, by decide, (mx_w (List.mem_of_getElem? (i := 293) (by decide +kernel)) (by decide +kernel)), u_Fi⟩
theorem f_Fi_24 : mx_F "MulticastTrees$Files" 24 1 7 "MulticastTrees$Files" T_Fi 13 := ⟨rfl, by decide, (mx_w (List.mem_of_getElem? (i := 294) (by decide +kernel)) (by decide +kernel)), u_Fi⟩
theorem w_aa_Fi_27 : Cond.classLink "MulticastTrees$Files" 27 "[[I" ∈ mx_WS := (mx_w (List.mem_of_getElem? (i := 286) (by decide +kernel)) (by decide +kernel))
theorem f_Fi_29 : mx_F "MulticastTrees$Files" 29 1 8 "MulticastTrees$Files" T_Fi 13 := ⟨rfl, by decide, (mx_w (List.mem_of_getElem? (i := 295) (by decide +kernel)) (by decide +kernel)), u_Fi⟩
theorem f_Fi_32 : mx_F "MulticastTrees$Files" 32 1 9 "MulticastTrees$Files" T_Fi 13 := ⟨rfl, by decide, (mx_w (List.mem_of_getElem? (i := 296) (by decide +kernel)) (by decide +kernel)), u_Fi⟩
theorem f_Fi_35 : mx_F "MulticastTrees$Files" 35 1 10 "MulticastTrees$Files" T_Fi 13 := ⟨rfl, by decide, (mx_w (List.mem_of_getElem? (i := 297) (by decide +kernel)) (by decide +kernel)), u_Fi⟩
theorem f_Fi_38 : mx_F "MulticastTrees$Files" 38 1 11 "MulticastTrees$Files" T_Fi 13 := ⟨rfl, by decide, (mx_w (List.mem_of_getElem? (i := 298) (by decide +kernel)) (by decide +kernel)), u_Fi⟩
theorem f_Fi_42 : mx_F "MulticastTrees$Files" 42 1 12 "MulticastTrees$Files" T_Fi 13 := ⟨rfl, by decide, (mx_w (List.mem_of_getElem? (i := 299) (by decide +kernel)) (by decide +kernel)), u_Fi⟩
theorem f_Fi_45 : mx_F "MulticastTrees$Files" 45 1 0 "MulticastTrees$Files" T_Fi 13 := ⟨rfl, by decide, (mx_w (List.mem_of_getElem? (i := 287) (by decide +kernel)) (by decide +kernel)), u_Fi⟩
theorem f_Fi_49 : mx_F "MulticastTrees$Files" 49 1 1 "MulticastTrees$Files" T_Fi 13 := ⟨rfl, by decide, (mx_w (List.mem_of_getElem? (i := 288) (by decide +kernel)) (by decide +kernel)), u_Fi⟩
theorem f_Fi_53 : mx_F "MulticastTrees$Files" 53 1 2 "MulticastTrees$Files" T_Fi 13 := ⟨rfl, by decide, (mx_w (List.mem_of_getElem? (i := 289) (by decide +kernel)) (by decide +kernel)), u_Fi⟩
theorem k_JI_265 : Cond.constant "java/lang/Integer" 265 (1431655765) ∈ mx_WS := (mx_w (List.mem_of_getElem? (i := 605) (by decide +kernel)) (by decide +kernel))
theorem k_JI_266 : Cond.constant "java/lang/Integer" 266 (858993459) ∈ mx_WS := (mx_w (List.mem_of_getElem? (i := 606) (by decide +kernel)) (by decide +kernel))
theorem k_JI_267 : Cond.constant "java/lang/Integer" 267 (252645135) ∈ mx_WS := (mx_w (List.mem_of_getElem? (i := 607) (by decide +kernel)) (by decide +kernel))
theorem k_Fi_102 : Cond.constant "MulticastTrees$Files" 102 (1103515245) ∈ mx_WS := (mx_w (List.mem_of_getElem? (i := 744) (by decide +kernel)) (by decide +kernel))
theorem f_Mo_7 : mx_F "MulticastTreesModel" 7 9 2 "MulticastTreesModel" T_Mo 36 := ⟨rfl, by decide, (mx_w (List.mem_of_getElem? (i := 772) (by decide +kernel)) (by decide +kernel)), u_Mo⟩
theorem f_Mo_13 : mx_F "MulticastTreesModel" 13 9 3 "MulticastTreesModel" T_Mo 36 := ⟨rfl, by decide, (mx_w (List.mem_of_getElem? (i := 773) (by decide +kernel)) (by decide +kernel)), u_Mo⟩
theorem f_Mo_16 : mx_F "MulticastTreesModel" 16 9 4 "MulticastTreesModel" T_Mo 36 := ⟨rfl, by decide, (mx_w (List.mem_of_getElem? (i := 774) (by decide +kernel)) (by decide +kernel)), u_Mo⟩
theorem f_Mo_19 : mx_F "MulticastTreesModel" 19 9 5 "MulticastTreesModel" T_Mo 36 := ⟨rfl, by decide, (mx_w (List.mem_of_getElem? (i := 775) (by decide +kernel)) (by decide +kernel)), u_Mo⟩
theorem f_Mo_23 : mx_F "MulticastTreesModel" 23 9 6 "MulticastTreesModel" T_Mo 36 := ⟨rfl, by decide, (mx_w (List.mem_of_getElem? (i := 776) (by decide +kernel)) (by decide +kernel)), u_Mo⟩
theorem f_Mo_26 : mx_F "MulticastTreesModel" 26 9 7 "MulticastTreesModel" T_Mo 36 := ⟨rfl, by decide, (mx_w (List.mem_of_getElem? (i := 777) (by decide +kernel)) (by decide +kernel)), u_Mo⟩
theorem f_Mo_29 : mx_F "MulticastTreesModel" 29 9 8 "MulticastTreesModel" T_Mo 36 := ⟨rfl, by decide, (mx_w (List.mem_of_getElem? (i := 778) (by decide +kernel)) (by decide +kernel)), u_Mo⟩
theorem f_Mo_32 : mx_F "MulticastTreesModel" 32 9 9 "MulticastTreesModel" T_Mo 36 := ⟨rfl, by decide, (mx_w (List.mem_of_getElem? (i := 779) (by decide +kernel)) (by decide +kernel)), u_Mo⟩
theorem f_Mo_35 : mx_F "MulticastTreesModel" 35 9 10 "MulticastTreesModel" T_Mo 36 := ⟨rfl, by decide, (mx_w (List.mem_of_getElem? (i := 780) (by decide +kernel)) (by decide +kernel)), u_Mo⟩
theorem f_Mo_38 : mx_F "MulticastTreesModel" 38 9 11 "MulticastTreesModel" T_Mo 36 := ⟨rfl, by decide, (mx_w (List.mem_of_getElem? (i := 781) (by decide +kernel)) (by decide +kernel)), u_Mo⟩
theorem f_Mo_41 : mx_F "MulticastTreesModel" 41 9 12 "MulticastTreesModel" T_Mo 36 := ⟨rfl, by decide, (mx_w (List.mem_of_getElem? (i := 782) (by decide +kernel)) (by decide +kernel)), u_Mo⟩
theorem f_Mo_44 : mx_F "MulticastTreesModel" 44 9 13 "MulticastTreesModel" T_Mo 36 := ⟨rfl, by decide, (mx_w (List.mem_of_getElem? (i := 783) (by decide +kernel)) (by decide +kernel)), u_Mo⟩
theorem f_Mo_47 : mx_F "MulticastTreesModel" 47 9 14 "MulticastTreesModel" T_Mo 36 := ⟨rfl, by decide, (mx_w (List.mem_of_getElem? (i := 784) (by decide +kernel)) (by decide +kernel)), u_Mo⟩
theorem f_Mo_50 : mx_F "MulticastTreesModel" 50 9 15 "MulticastTreesModel" T_Mo 36 := ⟨rfl, by decide, (mx_w (List.mem_of_getElem? (i := 785) (by decide +kernel)) (by decide +kernel)), u_Mo⟩
theorem f_Mo_53 : mx_F "MulticastTreesModel" 53 9 16 "MulticastTreesModel" T_Mo 36 := ⟨rfl, by decide, (mx_w (List.mem_of_getElem? (i := 786) (by decide +kernel)) (by decide +kernel)), u_Mo⟩
theorem f_Mo_56 : mx_F "MulticastTreesModel" 56 9 17 "MulticastTreesModel" T_Mo 36 := ⟨rfl, by decide, (mx_w (List.mem_of_getElem? (i := 787) (by decide +kernel)) (by decide +kernel)), u_Mo⟩
theorem f_Mo_59 : mx_F "MulticastTreesModel" 59 9 18 "MulticastTreesModel" T_Mo 36 := ⟨rfl, by decide, (mx_w (List.mem_of_getElem? (i := 788) (by decide +kernel)) (by decide +kernel)), u_Mo⟩
theorem f_Mo_62 : mx_F "MulticastTreesModel" 62 9 23 "MulticastTreesModel" T_Mo 36 := ⟨rfl, by decide, (mx_w (List.mem_of_getElem? (i := 793) (by decide +kernel)) (by decide +kernel)), u_Mo⟩
theorem f_Mo_65 : mx_F "MulticastTreesModel" 65 9 24 "MulticastTreesModel" T_Mo 36 := ⟨rfl, by decide, (mx_w (List.mem_of_getElem? (i := 794) (by decide +kernel)) (by decide +kernel)), u_Mo⟩
theorem f_Mo_68 : mx_F "MulticastTreesModel" 68 9 25 "MulticastTreesModel" T_Mo 36 := ⟨rfl, by decide, (mx_w (List.mem_of_getElem? (i := 795) (by decide +kernel)) (by decide +kernel)), u_Mo⟩
theorem f_Mo_71 : mx_F "MulticastTreesModel" 71 9 27 "MulticastTreesModel" T_Mo 36 := ⟨rfl, by decide, (mx_w (List.mem_of_getElem? (i := 797) (by decide +kernel)) (by decide +kernel)), u_Mo⟩
theorem f_Mo_74 : mx_F "MulticastTreesModel" 74 9 28 "MulticastTreesModel" T_Mo 36 := ⟨rfl, by decide, (mx_w (List.mem_of_getElem? (i := 798) (by decide +kernel)) (by decide +kernel)), u_Mo⟩
theorem f_Mo_77 : mx_F "MulticastTreesModel" 77 9 29 "MulticastTreesModel" T_Mo 36 := ⟨rfl, by decide, (mx_w (List.mem_of_getElem? (i := 799) (by decide +kernel)) (by decide +kernel)), u_Mo⟩
theorem f_Mo_80 : mx_F "MulticastTreesModel" 80 9 30 "MulticastTreesModel" T_Mo 36 := ⟨rfl, by decide, (mx_w (List.mem_of_getElem? (i := 800) (by decide +kernel)) (by decide +kernel)), u_Mo⟩
theorem f_Mo_83 : mx_F "MulticastTreesModel" 83 9 31 "MulticastTreesModel" T_Mo 36 := ⟨rfl, by decide, (mx_w (List.mem_of_getElem? (i := 801) (by decide +kernel)) (by decide +kernel)), u_Mo⟩
theorem f_Mo_86 : mx_F "MulticastTreesModel" 86 9 32 "MulticastTreesModel" T_Mo 36 := ⟨rfl, by decide, (mx_w (List.mem_of_getElem? (i := 802) (by decide +kernel)) (by decide +kernel)), u_Mo⟩
theorem f_Mo_89 : mx_F "MulticastTreesModel" 89 9 33 "MulticastTreesModel" T_Mo 36 := ⟨rfl, by decide, (mx_w (List.mem_of_getElem? (i := 803) (by decide +kernel)) (by decide +kernel)), u_Mo⟩
theorem f_Mo_92 : mx_F "MulticastTreesModel" 92 9 34 "MulticastTreesModel" T_Mo 36 := ⟨rfl, by decide, (mx_w (List.mem_of_getElem? (i := 804) (by decide +kernel)) (by decide +kernel)), u_Mo⟩
theorem f_Mo_96 : mx_F "MulticastTreesModel" 96 9 35 "MulticastTreesModel" T_Mo 36 := ⟨rfl, by decide, (mx_w (List.mem_of_getElem? (i := 805) (by decide +kernel)) (by decide +kernel)), u_Mo⟩
theorem f_Mo_103 : mx_F "MulticastTreesModel" 103 9 0 "MulticastTreesModel" T_Mo 36 := ⟨rfl, by decide, (mx_w (List.mem_of_getElem? (i := 770) (by decide +kernel)) (by decide +kernel)), u_Mo⟩
theorem f_Mo_112 : mx_F "MulticastTreesModel" 112 9 1 "MulticastTreesModel" T_Mo 36 := ⟨rfl, by decide, (mx_w (List.mem_of_getElem? (i := 771) (by decide +kernel)) (by decide +kernel)), u_Mo⟩
theorem f_Mo_170 : mx_F "MulticastTreesModel" 170 9 19 "MulticastTreesModel" T_Mo 36 := ⟨rfl, by decide, (mx_w (List.mem_of_getElem? (i := 789) (by decide +kernel)) (by decide +kernel)), u_Mo⟩
theorem f_Mo_173 : mx_F "MulticastTreesModel" 173 9 20 "MulticastTreesModel" T_Mo 36 := ⟨rfl, by decide, (mx_w (List.mem_of_getElem? (i := 790) (by decide +kernel)) (by decide +kernel)), u_Mo⟩
theorem f_Mo_176 : mx_F "MulticastTreesModel" 176 9 21 "MulticastTreesModel" T_Mo 36 := ⟨rfl, by decide, (mx_w (List.mem_of_getElem? (i := 791) (by decide +kernel)) (by decide +kernel)), u_Mo⟩
theorem f_Mo_179 : mx_F "MulticastTreesModel" 179 9 22 "MulticastTreesModel" T_Mo 36 := ⟨rfl, by decide, (mx_w (List.mem_of_getElem? (i := 792) (by decide +kernel)) (by decide +kernel)), u_Mo⟩
theorem f_Mo_191 : mx_F "MulticastTreesModel" 191 9 26 "MulticastTreesModel" T_Mo 36 := ⟨rfl, by decide, (mx_w (List.mem_of_getElem? (i := 796) (by decide +kernel)) (by decide +kernel)), u_Mo⟩
theorem k_Mo_204 : Cond.constant "MulticastTreesModel" 204 (1103515245) ∈ mx_WS := (mx_w (List.mem_of_getElem? (i := 1047) (by decide +kernel)) (by decide +kernel))
theorem sn_Lw_law_7 : mx_sN M_Lw_law 7 8 "MulticastTrees" T_MT 8 ty_MT := ⟨rfl, u_MT, y_MT, by decide +kernel, (mx_w (List.mem_of_getElem? (i := 62) (by decide +kernel)) (by decide +kernel)), (mx_w (List.mem_of_getElem? (i := 63) (by decide +kernel)) (by decide +kernel)), (mx_w (List.mem_of_getElem? (i := 49) (by decide +kernel)) (by decide +kernel))⟩
theorem sn_Lw_law_18 : mx_sN M_Lw_law 18 9 "MulticastTreesModel" T_Mo 36 ty_Mo := ⟨rfl, u_Mo, y_Mo, by decide +kernel, (mx_w (List.mem_of_getElem? (i := 757) (by decide +kernel)) (by decide +kernel)), (mx_w (List.mem_of_getElem? (i := 758) (by decide +kernel)) (by decide +kernel)), (mx_w (List.mem_of_getElem? (i := 60) (by decide +kernel)) (by decide +kernel))⟩
theorem w_ac_int : Cond.arrayClass .int ∈ mx_WS := (mx_w (List.mem_of_getElem? (i := 93) (by decide +kernel)) (by decide +kernel))
theorem w_ac_boolean : Cond.arrayClass .boolean ∈ mx_WS := (mx_w (List.mem_of_getElem? (i := 879) (by decide +kernel)) (by decide +kernel))
theorem q_MT_init : mx_cl M_MT_init 1 := ⟨(mx_w (List.mem_of_getElem? (i := 66) (by decide +kernel)) (by decide +kernel)), (mx_w (List.mem_of_getElem? (i := 49) (by decide +kernel)) (by decide +kernel)), by decide +kernel⟩
theorem q_MT_isRouter : mx_cl M_MT_isRouter 1 := ⟨(mx_w (List.mem_of_getElem? (i := 72) (by decide +kernel)) (by decide +kernel)), (mx_w (List.mem_of_getElem? (i := 49) (by decide +kernel)) (by decide +kernel)), by decide +kernel⟩
theorem q_Ck_init : mx_cl M_Ck_init 0 := ⟨(mx_w (List.mem_of_getElem? (i := 77) (by decide +kernel)) (by decide +kernel)), (mx_w (List.mem_of_getElem? (i := 50) (by decide +kernel)) (by decide +kernel)), by decide +kernel⟩
theorem q_Ta_init : mx_cl M_Ta_init 0 := ⟨(mx_w (List.mem_of_getElem? (i := 87) (by decide +kernel)) (by decide +kernel)), (mx_w (List.mem_of_getElem? (i := 51) (by decide +kernel)) (by decide +kernel)), by decide +kernel⟩
theorem q_Ne_init : mx_cl M_Ne_init 0 := ⟨(mx_w (List.mem_of_getElem? (i := 98) (by decide +kernel)) (by decide +kernel)), (mx_w (List.mem_of_getElem? (i := 52) (by decide +kernel)) (by decide +kernel)), by decide +kernel⟩
theorem q_Ne_measure : mx_cl M_Ne_measure 0 := ⟨(mx_w (List.mem_of_getElem? (i := 105) (by decide +kernel)) (by decide +kernel)), (mx_w (List.mem_of_getElem? (i := 52) (by decide +kernel)) (by decide +kernel)), by decide +kernel⟩
theorem q_Ne_startLengths : mx_cl M_Ne_startLengths 0 := ⟨(mx_w (List.mem_of_getElem? (i := 109) (by decide +kernel)) (by decide +kernel)), (mx_w (List.mem_of_getElem? (i := 52) (by decide +kernel)) (by decide +kernel)), by decide +kernel⟩
theorem q_Ne_areLinked : mx_cl M_Ne_areLinked 2 := ⟨(mx_w (List.mem_of_getElem? (i := 113) (by decide +kernel)) (by decide +kernel)), (mx_w (List.mem_of_getElem? (i := 52) (by decide +kernel)) (by decide +kernel)), by decide +kernel⟩
theorem q_Ne_shortenBy : mx_cl M_Ne_shortenBy 1 := ⟨(mx_w (List.mem_of_getElem? (i := 117) (by decide +kernel)) (by decide +kernel)), (mx_w (List.mem_of_getElem? (i := 52) (by decide +kernel)) (by decide +kernel)), by decide +kernel⟩
theorem q_JM_min : mx_cl M_JM_min 2 := ⟨(mx_w (List.mem_of_getElem? (i := 120) (by decide +kernel)) (by decide +kernel)), (mx_w (List.mem_of_getElem? (i := 53) (by decide +kernel)) (by decide +kernel)), by decide +kernel⟩
theorem q_Ne_findNext : mx_cl M_Ne_findNext 2 := ⟨(mx_w (List.mem_of_getElem? (i := 124) (by decide +kernel)) (by decide +kernel)), (mx_w (List.mem_of_getElem? (i := 52) (by decide +kernel)) (by decide +kernel)), by decide +kernel⟩
theorem q_Ne_areConnected : mx_cl M_Ne_areConnected 2 := ⟨(mx_w (List.mem_of_getElem? (i := 128) (by decide +kernel)) (by decide +kernel)), (mx_w (List.mem_of_getElem? (i := 52) (by decide +kernel)) (by decide +kernel)), by decide +kernel⟩
theorem q_Ne_orderTowards : mx_cl M_Ne_orderTowards 1 := ⟨(mx_w (List.mem_of_getElem? (i := 132) (by decide +kernel)) (by decide +kernel)), (mx_w (List.mem_of_getElem? (i := 52) (by decide +kernel)) (by decide +kernel)), by decide +kernel⟩
theorem q_La_init : mx_cl M_La_init 1 := ⟨(mx_w (List.mem_of_getElem? (i := 150) (by decide +kernel)) (by decide +kernel)), (mx_w (List.mem_of_getElem? (i := 54) (by decide +kernel)) (by decide +kernel)), by decide +kernel⟩
theorem q_JA_fill : mx_cl M_JA_fill 2 := ⟨(mx_w (List.mem_of_getElem? (i := 155) (by decide +kernel)) (by decide +kernel)), (mx_w (List.mem_of_getElem? (i := 55) (by decide +kernel)) (by decide +kernel)), by decide +kernel⟩
theorem q_Sm_init : mx_cl M_Sm_init 1 := ⟨(mx_w (List.mem_of_getElem? (i := 176) (by decide +kernel)) (by decide +kernel)), (mx_w (List.mem_of_getElem? (i := 56) (by decide +kernel)) (by decide +kernel)), by decide +kernel⟩
theorem q_Tr_init : mx_cl M_Tr_init 5 := ⟨(mx_w (List.mem_of_getElem? (i := 196) (by decide +kernel)) (by decide +kernel)), (mx_w (List.mem_of_getElem? (i := 57) (by decide +kernel)) (by decide +kernel)), by decide +kernel⟩
theorem q_Pa_init : mx_cl M_Pa_init 5 := ⟨(mx_w (List.mem_of_getElem? (i := 241) (by decide +kernel)) (by decide +kernel)), (mx_w (List.mem_of_getElem? (i := 58) (by decide +kernel)) (by decide +kernel)), by decide +kernel⟩
theorem q_Fi_init : mx_cl M_Fi_init 3 := ⟨(mx_w (List.mem_of_getElem? (i := 284) (by decide +kernel)) (by decide +kernel)), (mx_w (List.mem_of_getElem? (i := 59) (by decide +kernel)) (by decide +kernel)), by decide +kernel⟩
theorem q_MT_link : mx_cl M_MT_link 3 := ⟨(mx_w (List.mem_of_getElem? (i := 355) (by decide +kernel)) (by decide +kernel)), (mx_w (List.mem_of_getElem? (i := 49) (by decide +kernel)) (by decide +kernel)), by decide +kernel⟩
theorem q_Ne_costOf : mx_cl M_Ne_costOf 2 := ⟨(mx_w (List.mem_of_getElem? (i := 359) (by decide +kernel)) (by decide +kernel)), (mx_w (List.mem_of_getElem? (i := 52) (by decide +kernel)) (by decide +kernel)), by decide +kernel⟩
theorem q_Ne_setCost : mx_cl M_Ne_setCost 3 := ⟨(mx_w (List.mem_of_getElem? (i := 363) (by decide +kernel)) (by decide +kernel)), (mx_w (List.mem_of_getElem? (i := 52) (by decide +kernel)) (by decide +kernel)), by decide +kernel⟩
theorem q_Tr_settle : mx_cl M_Tr_settle 0 := ⟨(mx_w (List.mem_of_getElem? (i := 367) (by decide +kernel)) (by decide +kernel)), (mx_w (List.mem_of_getElem? (i := 57) (by decide +kernel)) (by decide +kernel)), by decide +kernel⟩
theorem q_Tr_settleShared : mx_cl M_Tr_settleShared 1 := ⟨(mx_w (List.mem_of_getElem? (i := 371) (by decide +kernel)) (by decide +kernel)), (mx_w (List.mem_of_getElem? (i := 57) (by decide +kernel)) (by decide +kernel)), by decide +kernel⟩
theorem q_Ne_fromFarthest : mx_cl M_Ne_fromFarthest 2 := ⟨(mx_w (List.mem_of_getElem? (i := 375) (by decide +kernel)) (by decide +kernel)), (mx_w (List.mem_of_getElem? (i := 52) (by decide +kernel)) (by decide +kernel)), by decide +kernel⟩
theorem q_La_isMarked : mx_cl M_La_isMarked 2 := ⟨(mx_w (List.mem_of_getElem? (i := 379) (by decide +kernel)) (by decide +kernel)), (mx_w (List.mem_of_getElem? (i := 54) (by decide +kernel)) (by decide +kernel)), by decide +kernel⟩
theorem q_Ck_time : mx_cl M_Ck_time 0 := ⟨(mx_w (List.mem_of_getElem? (i := 383) (by decide +kernel)) (by decide +kernel)), (mx_w (List.mem_of_getElem? (i := 50) (by decide +kernel)) (by decide +kernel)), by decide +kernel⟩
theorem q_Ne_nextTowards : mx_cl M_Ne_nextTowards 2 := ⟨(mx_w (List.mem_of_getElem? (i := 387) (by decide +kernel)) (by decide +kernel)), (mx_w (List.mem_of_getElem? (i := 52) (by decide +kernel)) (by decide +kernel)), by decide +kernel⟩
theorem q_Tr_announce : mx_cl M_Tr_announce 4 := ⟨(mx_w (List.mem_of_getElem? (i := 391) (by decide +kernel)) (by decide +kernel)), (mx_w (List.mem_of_getElem? (i := 57) (by decide +kernel)) (by decide +kernel)), by decide +kernel⟩
theorem q_Ta_count : mx_cl M_Ta_count 1 := ⟨(mx_w (List.mem_of_getElem? (i := 396) (by decide +kernel)) (by decide +kernel)), (mx_w (List.mem_of_getElem? (i := 51) (by decide +kernel)) (by decide +kernel)), by decide +kernel⟩
theorem q_Tr_settleCuts : mx_cl M_Tr_settleCuts 2 := ⟨(mx_w (List.mem_of_getElem? (i := 400) (by decide +kernel)) (by decide +kernel)), (mx_w (List.mem_of_getElem? (i := 57) (by decide +kernel)) (by decide +kernel)), by decide +kernel⟩
theorem q_MT_streamOf : mx_cl M_MT_streamOf 2 := ⟨(mx_w (List.mem_of_getElem? (i := 403) (by decide +kernel)) (by decide +kernel)), (mx_w (List.mem_of_getElem? (i := 49) (by decide +kernel)) (by decide +kernel)), by decide +kernel⟩
theorem q_Tr_takesElsewhere : mx_cl M_Tr_takesElsewhere 3 := ⟨(mx_w (List.mem_of_getElem? (i := 407) (by decide +kernel)) (by decide +kernel)), (mx_w (List.mem_of_getElem? (i := 57) (by decide +kernel)) (by decide +kernel)), by decide +kernel⟩
theorem q_Sm_isSwitched : mx_cl M_Sm_isSwitched 2 := ⟨(mx_w (List.mem_of_getElem? (i := 411) (by decide +kernel)) (by decide +kernel)), (mx_w (List.mem_of_getElem? (i := 56) (by decide +kernel)) (by decide +kernel)), by decide +kernel⟩
theorem q_MT_holds : mx_cl M_MT_holds 2 := ⟨(mx_w (List.mem_of_getElem? (i := 414) (by decide +kernel)) (by decide +kernel)), (mx_w (List.mem_of_getElem? (i := 49) (by decide +kernel)) (by decide +kernel)), by decide +kernel⟩
theorem q_Tr_settleSources : mx_cl M_Tr_settleSources 2 := ⟨(mx_w (List.mem_of_getElem? (i := 418) (by decide +kernel)) (by decide +kernel)), (mx_w (List.mem_of_getElem? (i := 57) (by decide +kernel)) (by decide +kernel)), by decide +kernel⟩
theorem q_Sm_isAlive : mx_cl M_Sm_isAlive 2 := ⟨(mx_w (List.mem_of_getElem? (i := 422) (by decide +kernel)) (by decide +kernel)), (mx_w (List.mem_of_getElem? (i := 56) (by decide +kernel)) (by decide +kernel)), by decide +kernel⟩
theorem q_MT_distance : mx_cl M_MT_distance 2 := ⟨(mx_w (List.mem_of_getElem? (i := 427) (by decide +kernel)) (by decide +kernel)), (mx_w (List.mem_of_getElem? (i := 49) (by decide +kernel)) (by decide +kernel)), by decide +kernel⟩
theorem q_Ne_lengthOf : mx_cl M_Ne_lengthOf 2 := ⟨(mx_w (List.mem_of_getElem? (i := 432) (by decide +kernel)) (by decide +kernel)), (mx_w (List.mem_of_getElem? (i := 52) (by decide +kernel)) (by decide +kernel)), by decide +kernel⟩
theorem q_MT_hop : mx_cl M_MT_hop 2 := ⟨(mx_w (List.mem_of_getElem? (i := 436) (by decide +kernel)) (by decide +kernel)), (mx_w (List.mem_of_getElem? (i := 49) (by decide +kernel)) (by decide +kernel)), by decide +kernel⟩
theorem q_MT_join : mx_cl M_MT_join 3 := ⟨(mx_w (List.mem_of_getElem? (i := 441) (by decide +kernel)) (by decide +kernel)), (mx_w (List.mem_of_getElem? (i := 49) (by decide +kernel)) (by decide +kernel)), by decide +kernel⟩
theorem q_MT_isHost : mx_cl M_MT_isHost 1 := ⟨(mx_w (List.mem_of_getElem? (i := 444) (by decide +kernel)) (by decide +kernel)), (mx_w (List.mem_of_getElem? (i := 49) (by decide +kernel)) (by decide +kernel)), by decide +kernel⟩
theorem q_MT_isGroup : mx_cl M_MT_isGroup 1 := ⟨(mx_w (List.mem_of_getElem? (i := 447) (by decide +kernel)) (by decide +kernel)), (mx_w (List.mem_of_getElem? (i := 49) (by decide +kernel)) (by decide +kernel)), by decide +kernel⟩
theorem q_La_isMember : mx_cl M_La_isMember 3 := ⟨(mx_w (List.mem_of_getElem? (i := 451) (by decide +kernel)) (by decide +kernel)), (mx_w (List.mem_of_getElem? (i := 54) (by decide +kernel)) (by decide +kernel)), by decide +kernel⟩
theorem q_La_admit : mx_cl M_La_admit 3 := ⟨(mx_w (List.mem_of_getElem? (i := 456) (by decide +kernel)) (by decide +kernel)), (mx_w (List.mem_of_getElem? (i := 54) (by decide +kernel)) (by decide +kernel)), by decide +kernel⟩
theorem q_La_report : mx_cl M_La_report 3 := ⟨(mx_w (List.mem_of_getElem? (i := 460) (by decide +kernel)) (by decide +kernel)), (mx_w (List.mem_of_getElem? (i := 54) (by decide +kernel)) (by decide +kernel)), by decide +kernel⟩
theorem q_MT_leave : mx_cl M_MT_leave 4 := ⟨(mx_w (List.mem_of_getElem? (i := 464) (by decide +kernel)) (by decide +kernel)), (mx_w (List.mem_of_getElem? (i := 49) (by decide +kernel)) (by decide +kernel)), by decide +kernel⟩
theorem q_La_dismiss : mx_cl M_La_dismiss 4 := ⟨(mx_w (List.mem_of_getElem? (i := 468) (by decide +kernel)) (by decide +kernel)), (mx_w (List.mem_of_getElem? (i := 54) (by decide +kernel)) (by decide +kernel)), by decide +kernel⟩
theorem q_La_hasMembers : mx_cl M_La_hasMembers 2 := ⟨(mx_w (List.mem_of_getElem? (i := 472) (by decide +kernel)) (by decide +kernel)), (mx_w (List.mem_of_getElem? (i := 54) (by decide +kernel)) (by decide +kernel)), by decide +kernel⟩
theorem q_La_reportLowest : mx_cl M_La_reportLowest 2 := ⟨(mx_w (List.mem_of_getElem? (i := 476) (by decide +kernel)) (by decide +kernel)), (mx_w (List.mem_of_getElem? (i := 54) (by decide +kernel)) (by decide +kernel)), by decide +kernel⟩
theorem q_MT_marked : mx_cl M_MT_marked 2 := ⟨(mx_w (List.mem_of_getElem? (i := 482) (by decide +kernel)) (by decide +kernel)), (mx_w (List.mem_of_getElem? (i := 49) (by decide +kernel)) (by decide +kernel)), by decide +kernel⟩
theorem q_La_ticksLeft : mx_cl M_La_ticksLeft 2 := ⟨(mx_w (List.mem_of_getElem? (i := 486) (by decide +kernel)) (by decide +kernel)), (mx_w (List.mem_of_getElem? (i := 54) (by decide +kernel)) (by decide +kernel)), by decide +kernel⟩
theorem q_MT_pass : mx_cl M_MT_pass 1 := ⟨(mx_w (List.mem_of_getElem? (i := 491) (by decide +kernel)) (by decide +kernel)), (mx_w (List.mem_of_getElem? (i := 49) (by decide +kernel)) (by decide +kernel)), by decide +kernel⟩
theorem q_Ck_tick : mx_cl M_Ck_tick 0 := ⟨(mx_w (List.mem_of_getElem? (i := 495) (by decide +kernel)) (by decide +kernel)), (mx_w (List.mem_of_getElem? (i := 50) (by decide +kernel)) (by decide +kernel)), by decide +kernel⟩
theorem q_Sm_endStale : mx_cl M_Sm_endStale 0 := ⟨(mx_w (List.mem_of_getElem? (i := 499) (by decide +kernel)) (by decide +kernel)), (mx_w (List.mem_of_getElem? (i := 56) (by decide +kernel)) (by decide +kernel)), by decide +kernel⟩
theorem q_Ck_isReportTime : mx_cl M_Ck_isReportTime 0 := ⟨(mx_w (List.mem_of_getElem? (i := 504) (by decide +kernel)) (by decide +kernel)), (mx_w (List.mem_of_getElem? (i := 50) (by decide +kernel)) (by decide +kernel)), by decide +kernel⟩
theorem q_La_reportAll : mx_cl M_La_reportAll 0 := ⟨(mx_w (List.mem_of_getElem? (i := 508) (by decide +kernel)) (by decide +kernel)), (mx_w (List.mem_of_getElem? (i := 54) (by decide +kernel)) (by decide +kernel)), by decide +kernel⟩
theorem q_MT_send : mx_cl M_MT_send 2 := ⟨(mx_w (List.mem_of_getElem? (i := 512) (by decide +kernel)) (by decide +kernel)), (mx_w (List.mem_of_getElem? (i := 49) (by decide +kernel)) (by decide +kernel)), by decide +kernel⟩
theorem q_Sm_hasRoomFor : mx_cl M_Sm_hasRoomFor 1 := ⟨(mx_w (List.mem_of_getElem? (i := 517) (by decide +kernel)) (by decide +kernel)), (mx_w (List.mem_of_getElem? (i := 56) (by decide +kernel)) (by decide +kernel)), by decide +kernel⟩
theorem q_Sm_isAliveSomewhere : mx_cl M_Sm_isAliveSomewhere 1 := ⟨(mx_w (List.mem_of_getElem? (i := 521) (by decide +kernel)) (by decide +kernel)), (mx_w (List.mem_of_getElem? (i := 56) (by decide +kernel)) (by decide +kernel)), by decide +kernel⟩
theorem q_Pa_dispatch : mx_cl M_Pa_dispatch 2 := ⟨(mx_w (List.mem_of_getElem? (i := 525) (by decide +kernel)) (by decide +kernel)), (mx_w (List.mem_of_getElem? (i := 58) (by decide +kernel)) (by decide +kernel)), by decide +kernel⟩
theorem q_Pa_switchJoined : mx_cl M_Pa_switchJoined 2 := ⟨(mx_w (List.mem_of_getElem? (i := 531) (by decide +kernel)) (by decide +kernel)), (mx_w (List.mem_of_getElem? (i := 58) (by decide +kernel)) (by decide +kernel)), by decide +kernel⟩
theorem q_Sm_renew : mx_cl M_Sm_renew 2 := ⟨(mx_w (List.mem_of_getElem? (i := 535) (by decide +kernel)) (by decide +kernel)), (mx_w (List.mem_of_getElem? (i := 56) (by decide +kernel)) (by decide +kernel)), by decide +kernel⟩
theorem q_Tr_outerList : mx_cl M_Tr_outerList 2 := ⟨(mx_w (List.mem_of_getElem? (i := 539) (by decide +kernel)) (by decide +kernel)), (mx_w (List.mem_of_getElem? (i := 57) (by decide +kernel)) (by decide +kernel)), by decide +kernel⟩
theorem q_Sm_switchOver : mx_cl M_Sm_switchOver 2 := ⟨(mx_w (List.mem_of_getElem? (i := 543) (by decide +kernel)) (by decide +kernel)), (mx_w (List.mem_of_getElem? (i := 56) (by decide +kernel)) (by decide +kernel)), by decide +kernel⟩
theorem q_Tr_sourceJoinOf : mx_cl M_Tr_sourceJoinOf 2 := ⟨(mx_w (List.mem_of_getElem? (i := 548) (by decide +kernel)) (by decide +kernel)), (mx_w (List.mem_of_getElem? (i := 57) (by decide +kernel)) (by decide +kernel)), by decide +kernel⟩
theorem q_Pa_register : mx_cl M_Pa_register 2 := ⟨(mx_w (List.mem_of_getElem? (i := 552) (by decide +kernel)) (by decide +kernel)), (mx_w (List.mem_of_getElem? (i := 58) (by decide +kernel)) (by decide +kernel)), by decide +kernel⟩
theorem q_Tr_meetingPoint : mx_cl M_Tr_meetingPoint 0 := ⟨(mx_w (List.mem_of_getElem? (i := 556) (by decide +kernel)) (by decide +kernel)), (mx_w (List.mem_of_getElem? (i := 57) (by decide +kernel)) (by decide +kernel)), by decide +kernel⟩
theorem q_Sm_isQuiet : mx_cl M_Sm_isQuiet 1 := ⟨(mx_w (List.mem_of_getElem? (i := 561) (by decide +kernel)) (by decide +kernel)), (mx_w (List.mem_of_getElem? (i := 56) (by decide +kernel)) (by decide +kernel)), by decide +kernel⟩
theorem q_Sm_silence : mx_cl M_Sm_silence 1 := ⟨(mx_w (List.mem_of_getElem? (i := 567) (by decide +kernel)) (by decide +kernel)), (mx_w (List.mem_of_getElem? (i := 56) (by decide +kernel)) (by decide +kernel)), by decide +kernel⟩
theorem q_Pa_carry : mx_cl M_Pa_carry 2 := ⟨(mx_w (List.mem_of_getElem? (i := 571) (by decide +kernel)) (by decide +kernel)), (mx_w (List.mem_of_getElem? (i := 58) (by decide +kernel)) (by decide +kernel)), by decide +kernel⟩
theorem q_Pa_putOut : mx_cl M_Pa_putOut 3 := ⟨(mx_w (List.mem_of_getElem? (i := 575) (by decide +kernel)) (by decide +kernel)), (mx_w (List.mem_of_getElem? (i := 58) (by decide +kernel)) (by decide +kernel)), by decide +kernel⟩
theorem q_Tr_innerList : mx_cl M_Tr_innerList 2 := ⟨(mx_w (List.mem_of_getElem? (i := 579) (by decide +kernel)) (by decide +kernel)), (mx_w (List.mem_of_getElem? (i := 57) (by decide +kernel)) (by decide +kernel)), by decide +kernel⟩
theorem q_Pa_cross : mx_cl M_Pa_cross 4 := ⟨(mx_w (List.mem_of_getElem? (i := 584) (by decide +kernel)) (by decide +kernel)), (mx_w (List.mem_of_getElem? (i := 58) (by decide +kernel)) (by decide +kernel)), by decide +kernel⟩
theorem q_Pa_renewCarriers : mx_cl M_Pa_renewCarriers 2 := ⟨(mx_w (List.mem_of_getElem? (i := 589) (by decide +kernel)) (by decide +kernel)), (mx_w (List.mem_of_getElem? (i := 58) (by decide +kernel)) (by decide +kernel)), by decide +kernel⟩
theorem q_Pa_listen : mx_cl M_Pa_listen 0 := ⟨(mx_w (List.mem_of_getElem? (i := 593) (by decide +kernel)) (by decide +kernel)), (mx_w (List.mem_of_getElem? (i := 58) (by decide +kernel)) (by decide +kernel)), by decide +kernel⟩
theorem q_La_hearsOrLoses : mx_cl M_La_hearsOrLoses 1 := ⟨(mx_w (List.mem_of_getElem? (i := 597) (by decide +kernel)) (by decide +kernel)), (mx_w (List.mem_of_getElem? (i := 54) (by decide +kernel)) (by decide +kernel)), by decide +kernel⟩
theorem q_Pa_heardBy : mx_cl M_Pa_heardBy 0 := ⟨(mx_w (List.mem_of_getElem? (i := 601) (by decide +kernel)) (by decide +kernel)), (mx_w (List.mem_of_getElem? (i := 58) (by decide +kernel)) (by decide +kernel)), by decide +kernel⟩
theorem q_JI_bitCount : mx_cl M_JI_bitCount 1 := ⟨(mx_w (List.mem_of_getElem? (i := 604) (by decide +kernel)) (by decide +kernel)), (mx_w (List.mem_of_getElem? (i := 61) (by decide +kernel)) (by decide +kernel)), by decide +kernel⟩
theorem q_MT_crossings : mx_cl M_MT_crossings 0 := ⟨(mx_w (List.mem_of_getElem? (i := 611) (by decide +kernel)) (by decide +kernel)), (mx_w (List.mem_of_getElem? (i := 49) (by decide +kernel)) (by decide +kernel)), by decide +kernel⟩
theorem q_Pa_crossingCount : mx_cl M_Pa_crossingCount 0 := ⟨(mx_w (List.mem_of_getElem? (i := 615) (by decide +kernel)) (by decide +kernel)), (mx_w (List.mem_of_getElem? (i := 58) (by decide +kernel)) (by decide +kernel)), by decide +kernel⟩
theorem q_MT_drops : mx_cl M_MT_drops 0 := ⟨(mx_w (List.mem_of_getElem? (i := 619) (by decide +kernel)) (by decide +kernel)), (mx_w (List.mem_of_getElem? (i := 49) (by decide +kernel)) (by decide +kernel)), by decide +kernel⟩
theorem q_Pa_dropCount : mx_cl M_Pa_dropCount 0 := ⟨(mx_w (List.mem_of_getElem? (i := 623) (by decide +kernel)) (by decide +kernel)), (mx_w (List.mem_of_getElem? (i := 58) (by decide +kernel)) (by decide +kernel)), by decide +kernel⟩
theorem q_MT_reached : mx_cl M_MT_reached 0 := ⟨(mx_w (List.mem_of_getElem? (i := 627) (by decide +kernel)) (by decide +kernel)), (mx_w (List.mem_of_getElem? (i := 49) (by decide +kernel)) (by decide +kernel)), by decide +kernel⟩
theorem q_Pa_reachedLans : mx_cl M_Pa_reachedLans 0 := ⟨(mx_w (List.mem_of_getElem? (i := 631) (by decide +kernel)) (by decide +kernel)), (mx_w (List.mem_of_getElem? (i := 58) (by decide +kernel)) (by decide +kernel)), by decide +kernel⟩
theorem q_MT_heard : mx_cl M_MT_heard 0 := ⟨(mx_w (List.mem_of_getElem? (i := 635) (by decide +kernel)) (by decide +kernel)), (mx_w (List.mem_of_getElem? (i := 49) (by decide +kernel)) (by decide +kernel)), by decide +kernel⟩
theorem q_MT_shared : mx_cl M_MT_shared 2 := ⟨(mx_w (List.mem_of_getElem? (i := 639) (by decide +kernel)) (by decide +kernel)), (mx_w (List.mem_of_getElem? (i := 49) (by decide +kernel)) (by decide +kernel)), by decide +kernel⟩
theorem q_Tr_sharedJoinOf : mx_cl M_Tr_sharedJoinOf 2 := ⟨(mx_w (List.mem_of_getElem? (i := 643) (by decide +kernel)) (by decide +kernel)), (mx_w (List.mem_of_getElem? (i := 57) (by decide +kernel)) (by decide +kernel)), by decide +kernel⟩
theorem q_MT_entry : mx_cl M_MT_entry 3 := ⟨(mx_w (List.mem_of_getElem? (i := 647) (by decide +kernel)) (by decide +kernel)), (mx_w (List.mem_of_getElem? (i := 49) (by decide +kernel)) (by decide +kernel)), by decide +kernel⟩
theorem q_Tr_cutOf : mx_cl M_Tr_cutOf 2 := ⟨(mx_w (List.mem_of_getElem? (i := 654) (by decide +kernel)) (by decide +kernel)), (mx_w (List.mem_of_getElem? (i := 57) (by decide +kernel)) (by decide +kernel)), by decide +kernel⟩
theorem q_MT_messages : mx_cl M_MT_messages 1 := ⟨(mx_w (List.mem_of_getElem? (i := 659) (by decide +kernel)) (by decide +kernel)), (mx_w (List.mem_of_getElem? (i := 49) (by decide +kernel)) (by decide +kernel)), by decide +kernel⟩
theorem q_Ta_countOf : mx_cl M_Ta_countOf 1 := ⟨(mx_w (List.mem_of_getElem? (i := 663) (by decide +kernel)) (by decide +kernel)), (mx_w (List.mem_of_getElem? (i := 51) (by decide +kernel)) (by decide +kernel)), by decide +kernel⟩
theorem q_MT_lose : mx_cl M_MT_lose 2 := ⟨(mx_w (List.mem_of_getElem? (i := 667) (by decide +kernel)) (by decide +kernel)), (mx_w (List.mem_of_getElem? (i := 49) (by decide +kernel)) (by decide +kernel)), by decide +kernel⟩
theorem q_La_setLosses : mx_cl M_La_setLosses 2 := ⟨(mx_w (List.mem_of_getElem? (i := 671) (by decide +kernel)) (by decide +kernel)), (mx_w (List.mem_of_getElem? (i := 54) (by decide +kernel)) (by decide +kernel)), by decide +kernel⟩
theorem q_MT_publish : mx_cl M_MT_publish 3 := ⟨(mx_w (List.mem_of_getElem? (i := 675) (by decide +kernel)) (by decide +kernel)), (mx_w (List.mem_of_getElem? (i := 49) (by decide +kernel)) (by decide +kernel)), by decide +kernel⟩
theorem q_Fi_isFull : mx_cl M_Fi_isFull 0 := ⟨(mx_w (List.mem_of_getElem? (i := 679) (by decide +kernel)) (by decide +kernel)), (mx_w (List.mem_of_getElem? (i := 59) (by decide +kernel)) (by decide +kernel)), by decide +kernel⟩
theorem q_Fi_create : mx_cl M_Fi_create 3 := ⟨(mx_w (List.mem_of_getElem? (i := 683) (by decide +kernel)) (by decide +kernel)), (mx_w (List.mem_of_getElem? (i := 59) (by decide +kernel)) (by decide +kernel)), by decide +kernel⟩
theorem q_MT_emit : mx_cl M_MT_emit 1 := ⟨(mx_w (List.mem_of_getElem? (i := 687) (by decide +kernel)) (by decide +kernel)), (mx_w (List.mem_of_getElem? (i := 49) (by decide +kernel)) (by decide +kernel)), by decide +kernel⟩
theorem q_Fi_exists : mx_cl M_Fi_exists 1 := ⟨(mx_w (List.mem_of_getElem? (i := 691) (by decide +kernel)) (by decide +kernel)), (mx_w (List.mem_of_getElem? (i := 59) (by decide +kernel)) (by decide +kernel)), by decide +kernel⟩
theorem q_Fi_sourceOf : mx_cl M_Fi_sourceOf 1 := ⟨(mx_w (List.mem_of_getElem? (i := 695) (by decide +kernel)) (by decide +kernel)), (mx_w (List.mem_of_getElem? (i := 59) (by decide +kernel)) (by decide +kernel)), by decide +kernel⟩
theorem q_Fi_groupOf : mx_cl M_Fi_groupOf 1 := ⟨(mx_w (List.mem_of_getElem? (i := 699) (by decide +kernel)) (by decide +kernel)), (mx_w (List.mem_of_getElem? (i := 59) (by decide +kernel)) (by decide +kernel)), by decide +kernel⟩
theorem q_Fi_takeTurn : mx_cl M_Fi_takeTurn 1 := ⟨(mx_w (List.mem_of_getElem? (i := 704) (by decide +kernel)) (by decide +kernel)), (mx_w (List.mem_of_getElem? (i := 59) (by decide +kernel)) (by decide +kernel)), by decide +kernel⟩
theorem q_Fi_deliver : mx_cl M_Fi_deliver 3 := ⟨(mx_w (List.mem_of_getElem? (i := 709) (by decide +kernel)) (by decide +kernel)), (mx_w (List.mem_of_getElem? (i := 59) (by decide +kernel)) (by decide +kernel)), by decide +kernel⟩
theorem q_Fi_store : mx_cl M_Fi_store 3 := ⟨(mx_w (List.mem_of_getElem? (i := 714) (by decide +kernel)) (by decide +kernel)), (mx_w (List.mem_of_getElem? (i := 59) (by decide +kernel)) (by decide +kernel)), by decide +kernel⟩
theorem q_JM_max : mx_cl M_JM_max 2 := ⟨(mx_w (List.mem_of_getElem? (i := 718) (by decide +kernel)) (by decide +kernel)), (mx_w (List.mem_of_getElem? (i := 53) (by decide +kernel)) (by decide +kernel)), by decide +kernel⟩
theorem q_MT_requests : mx_cl M_MT_requests 1 := ⟨(mx_w (List.mem_of_getElem? (i := 722) (by decide +kernel)) (by decide +kernel)), (mx_w (List.mem_of_getElem? (i := 49) (by decide +kernel)) (by decide +kernel)), by decide +kernel⟩
theorem q_Fi_askAgain : mx_cl M_Fi_askAgain 1 := ⟨(mx_w (List.mem_of_getElem? (i := 726) (by decide +kernel)) (by decide +kernel)), (mx_w (List.mem_of_getElem? (i := 59) (by decide +kernel)) (by decide +kernel)), by decide +kernel⟩
theorem q_Fi_drawWaits : mx_cl M_Fi_drawWaits 1 := ⟨(mx_w (List.mem_of_getElem? (i := 730) (by decide +kernel)) (by decide +kernel)), (mx_w (List.mem_of_getElem? (i := 59) (by decide +kernel)) (by decide +kernel)), by decide +kernel⟩
theorem q_Fi_takesPart : mx_cl M_Fi_takesPart 2 := ⟨(mx_w (List.mem_of_getElem? (i := 734) (by decide +kernel)) (by decide +kernel)), (mx_w (List.mem_of_getElem? (i := 59) (by decide +kernel)) (by decide +kernel)), by decide +kernel⟩
theorem q_Fi_missingAt : mx_cl M_Fi_missingAt 2 := ⟨(mx_w (List.mem_of_getElem? (i := 739) (by decide +kernel)) (by decide +kernel)), (mx_w (List.mem_of_getElem? (i := 59) (by decide +kernel)) (by decide +kernel)), by decide +kernel⟩
theorem q_Fi_draw : mx_cl M_Fi_draw 0 := ⟨(mx_w (List.mem_of_getElem? (i := 743) (by decide +kernel)) (by decide +kernel)), (mx_w (List.mem_of_getElem? (i := 59) (by decide +kernel)) (by decide +kernel)), by decide +kernel⟩
theorem q_MT_have : mx_cl M_MT_have 2 := ⟨(mx_w (List.mem_of_getElem? (i := 749) (by decide +kernel)) (by decide +kernel)), (mx_w (List.mem_of_getElem? (i := 49) (by decide +kernel)) (by decide +kernel)), by decide +kernel⟩
theorem q_Fi_blocksAt : mx_cl M_Fi_blocksAt 2 := ⟨(mx_w (List.mem_of_getElem? (i := 753) (by decide +kernel)) (by decide +kernel)), (mx_w (List.mem_of_getElem? (i := 59) (by decide +kernel)) (by decide +kernel)), by decide +kernel⟩
theorem q_Lw_cell : mx_cl M_Lw_cell 2 := ⟨(mx_w (List.mem_of_getElem? (i := 756) (by decide +kernel)) (by decide +kernel)), (mx_w (List.mem_of_getElem? (i := 48) (by decide +kernel)) (by decide +kernel)), by decide +kernel⟩
theorem q_Mo_init : mx_cl M_Mo_init 1 := ⟨(mx_w (List.mem_of_getElem? (i := 761) (by decide +kernel)) (by decide +kernel)), (mx_w (List.mem_of_getElem? (i := 60) (by decide +kernel)) (by decide +kernel)), by decide +kernel⟩
theorem q_Mo_router : mx_cl M_Mo_router 1 := ⟨(mx_w (List.mem_of_getElem? (i := 765) (by decide +kernel)) (by decide +kernel)), (mx_w (List.mem_of_getElem? (i := 60) (by decide +kernel)) (by decide +kernel)), by decide +kernel⟩
theorem q_Mo_ways : mx_cl M_Mo_ways 0 := ⟨(mx_w (List.mem_of_getElem? (i := 769) (by decide +kernel)) (by decide +kernel)), (mx_w (List.mem_of_getElem? (i := 60) (by decide +kernel)) (by decide +kernel)), by decide +kernel⟩
theorem q_Mo_link : mx_cl M_Mo_link 3 := ⟨(mx_w (List.mem_of_getElem? (i := 883) (by decide +kernel)) (by decide +kernel)), (mx_w (List.mem_of_getElem? (i := 60) (by decide +kernel)) (by decide +kernel)), by decide +kernel⟩
theorem q_Mo_settle : mx_cl M_Mo_settle 0 := ⟨(mx_w (List.mem_of_getElem? (i := 887) (by decide +kernel)) (by decide +kernel)), (mx_w (List.mem_of_getElem? (i := 60) (by decide +kernel)) (by decide +kernel)), by decide +kernel⟩
theorem q_Mo_round : mx_cl M_Mo_round 0 := ⟨(mx_w (List.mem_of_getElem? (i := 891) (by decide +kernel)) (by decide +kernel)), (mx_w (List.mem_of_getElem? (i := 60) (by decide +kernel)) (by decide +kernel)), by decide +kernel⟩
theorem q_Mo_sharedDue : mx_cl M_Mo_sharedDue 2 := ⟨(mx_w (List.mem_of_getElem? (i := 895) (by decide +kernel)) (by decide +kernel)), (mx_w (List.mem_of_getElem? (i := 60) (by decide +kernel)) (by decide +kernel)), by decide +kernel⟩
theorem q_Mo_onLan : mx_cl M_Mo_onLan 2 := ⟨(mx_w (List.mem_of_getElem? (i := 899) (by decide +kernel)) (by decide +kernel)), (mx_w (List.mem_of_getElem? (i := 60) (by decide +kernel)) (by decide +kernel)), by decide +kernel⟩
theorem q_Mo_cutDue : mx_cl M_Mo_cutDue 2 := ⟨(mx_w (List.mem_of_getElem? (i := 903) (by decide +kernel)) (by decide +kernel)), (mx_w (List.mem_of_getElem? (i := 60) (by decide +kernel)) (by decide +kernel)), by decide +kernel⟩
theorem q_Mo_many : mx_cl M_Mo_many 3 := ⟨(mx_w (List.mem_of_getElem? (i := 907) (by decide +kernel)) (by decide +kernel)), (mx_w (List.mem_of_getElem? (i := 60) (by decide +kernel)) (by decide +kernel)), by decide +kernel⟩
theorem q_Mo_outer : mx_cl M_Mo_outer 3 := ⟨(mx_w (List.mem_of_getElem? (i := 911) (by decide +kernel)) (by decide +kernel)), (mx_w (List.mem_of_getElem? (i := 60) (by decide +kernel)) (by decide +kernel)), by decide +kernel⟩
theorem q_Mo_inner : mx_cl M_Mo_inner 3 := ⟨(mx_w (List.mem_of_getElem? (i := 915) (by decide +kernel)) (by decide +kernel)), (mx_w (List.mem_of_getElem? (i := 60) (by decide +kernel)) (by decide +kernel)), by decide +kernel⟩
theorem q_Mo_pullDue : mx_cl M_Mo_pullDue 2 := ⟨(mx_w (List.mem_of_getElem? (i := 919) (by decide +kernel)) (by decide +kernel)), (mx_w (List.mem_of_getElem? (i := 60) (by decide +kernel)) (by decide +kernel)), by decide +kernel⟩
theorem q_Mo_tell : mx_cl M_Mo_tell 4 := ⟨(mx_w (List.mem_of_getElem? (i := 923) (by decide +kernel)) (by decide +kernel)), (mx_w (List.mem_of_getElem? (i := 60) (by decide +kernel)) (by decide +kernel)), by decide +kernel⟩
theorem q_Mo_distance : mx_cl M_Mo_distance 2 := ⟨(mx_w (List.mem_of_getElem? (i := 927) (by decide +kernel)) (by decide +kernel)), (mx_w (List.mem_of_getElem? (i := 60) (by decide +kernel)) (by decide +kernel)), by decide +kernel⟩
theorem q_Mo_hop : mx_cl M_Mo_hop 2 := ⟨(mx_w (List.mem_of_getElem? (i := 931) (by decide +kernel)) (by decide +kernel)), (mx_w (List.mem_of_getElem? (i := 60) (by decide +kernel)) (by decide +kernel)), by decide +kernel⟩
theorem q_Mo_join : mx_cl M_Mo_join 3 := ⟨(mx_w (List.mem_of_getElem? (i := 935) (by decide +kernel)) (by decide +kernel)), (mx_w (List.mem_of_getElem? (i := 60) (by decide +kernel)) (by decide +kernel)), by decide +kernel⟩
theorem q_Mo_isHost : mx_cl M_Mo_isHost 3 := ⟨(mx_w (List.mem_of_getElem? (i := 939) (by decide +kernel)) (by decide +kernel)), (mx_w (List.mem_of_getElem? (i := 60) (by decide +kernel)) (by decide +kernel)), by decide +kernel⟩
theorem q_Mo_isGroup : mx_cl M_Mo_isGroup 1 := ⟨(mx_w (List.mem_of_getElem? (i := 942) (by decide +kernel)) (by decide +kernel)), (mx_w (List.mem_of_getElem? (i := 60) (by decide +kernel)) (by decide +kernel)), by decide +kernel⟩
theorem q_Mo_report : mx_cl M_Mo_report 3 := ⟨(mx_w (List.mem_of_getElem? (i := 946) (by decide +kernel)) (by decide +kernel)), (mx_w (List.mem_of_getElem? (i := 60) (by decide +kernel)) (by decide +kernel)), by decide +kernel⟩
theorem q_Mo_leave : mx_cl M_Mo_leave 4 := ⟨(mx_w (List.mem_of_getElem? (i := 950) (by decide +kernel)) (by decide +kernel)), (mx_w (List.mem_of_getElem? (i := 60) (by decide +kernel)) (by decide +kernel)), by decide +kernel⟩
theorem q_Mo_lowest : mx_cl M_Mo_lowest 2 := ⟨(mx_w (List.mem_of_getElem? (i := 954) (by decide +kernel)) (by decide +kernel)), (mx_w (List.mem_of_getElem? (i := 60) (by decide +kernel)) (by decide +kernel)), by decide +kernel⟩
theorem q_Mo_marked : mx_cl M_Mo_marked 2 := ⟨(mx_w (List.mem_of_getElem? (i := 958) (by decide +kernel)) (by decide +kernel)), (mx_w (List.mem_of_getElem? (i := 60) (by decide +kernel)) (by decide +kernel)), by decide +kernel⟩
theorem q_Mo_pass : mx_cl M_Mo_pass 1 := ⟨(mx_w (List.mem_of_getElem? (i := 962) (by decide +kernel)) (by decide +kernel)), (mx_w (List.mem_of_getElem? (i := 60) (by decide +kernel)) (by decide +kernel)), by decide +kernel⟩
theorem q_Mo_shared : mx_cl M_Mo_shared 2 := ⟨(mx_w (List.mem_of_getElem? (i := 966) (by decide +kernel)) (by decide +kernel)), (mx_w (List.mem_of_getElem? (i := 60) (by decide +kernel)) (by decide +kernel)), by decide +kernel⟩
theorem q_Mo_entry : mx_cl M_Mo_entry 3 := ⟨(mx_w (List.mem_of_getElem? (i := 970) (by decide +kernel)) (by decide +kernel)), (mx_w (List.mem_of_getElem? (i := 60) (by decide +kernel)) (by decide +kernel)), by decide +kernel⟩
theorem q_Mo_messages : mx_cl M_Mo_messages 1 := ⟨(mx_w (List.mem_of_getElem? (i := 974) (by decide +kernel)) (by decide +kernel)), (mx_w (List.mem_of_getElem? (i := 60) (by decide +kernel)) (by decide +kernel)), by decide +kernel⟩
theorem q_Mo_send : mx_cl M_Mo_send 2 := ⟨(mx_w (List.mem_of_getElem? (i := 978) (by decide +kernel)) (by decide +kernel)), (mx_w (List.mem_of_getElem? (i := 60) (by decide +kernel)) (by decide +kernel)), by decide +kernel⟩
theorem q_Mo_refused : mx_cl M_Mo_refused 2 := ⟨(mx_w (List.mem_of_getElem? (i := 982) (by decide +kernel)) (by decide +kernel)), (mx_w (List.mem_of_getElem? (i := 60) (by decide +kernel)) (by decide +kernel)), by decide +kernel⟩
theorem q_Mo_runs : mx_cl M_Mo_runs 1 := ⟨(mx_w (List.mem_of_getElem? (i := 986) (by decide +kernel)) (by decide +kernel)), (mx_w (List.mem_of_getElem? (i := 60) (by decide +kernel)) (by decide +kernel)), by decide +kernel⟩
theorem q_Mo_packet : mx_cl M_Mo_packet 2 := ⟨(mx_w (List.mem_of_getElem? (i := 990) (by decide +kernel)) (by decide +kernel)), (mx_w (List.mem_of_getElem? (i := 60) (by decide +kernel)) (by decide +kernel)), by decide +kernel⟩
theorem q_Mo_register : mx_cl M_Mo_register 2 := ⟨(mx_w (List.mem_of_getElem? (i := 994) (by decide +kernel)) (by decide +kernel)), (mx_w (List.mem_of_getElem? (i := 60) (by decide +kernel)) (by decide +kernel)), by decide +kernel⟩
theorem q_Mo_putOut : mx_cl M_Mo_putOut 3 := ⟨(mx_w (List.mem_of_getElem? (i := 998) (by decide +kernel)) (by decide +kernel)), (mx_w (List.mem_of_getElem? (i := 60) (by decide +kernel)) (by decide +kernel)), by decide +kernel⟩
theorem q_Mo_arrive : mx_cl M_Mo_arrive 2 := ⟨(mx_w (List.mem_of_getElem? (i := 1002) (by decide +kernel)) (by decide +kernel)), (mx_w (List.mem_of_getElem? (i := 60) (by decide +kernel)) (by decide +kernel)), by decide +kernel⟩
theorem q_Mo_crossings : mx_cl M_Mo_crossings 0 := ⟨(mx_w (List.mem_of_getElem? (i := 1006) (by decide +kernel)) (by decide +kernel)), (mx_w (List.mem_of_getElem? (i := 60) (by decide +kernel)) (by decide +kernel)), by decide +kernel⟩
theorem q_Mo_drops : mx_cl M_Mo_drops 0 := ⟨(mx_w (List.mem_of_getElem? (i := 1010) (by decide +kernel)) (by decide +kernel)), (mx_w (List.mem_of_getElem? (i := 60) (by decide +kernel)) (by decide +kernel)), by decide +kernel⟩
theorem q_Mo_reached : mx_cl M_Mo_reached 0 := ⟨(mx_w (List.mem_of_getElem? (i := 1014) (by decide +kernel)) (by decide +kernel)), (mx_w (List.mem_of_getElem? (i := 60) (by decide +kernel)) (by decide +kernel)), by decide +kernel⟩
theorem q_Mo_heard : mx_cl M_Mo_heard 0 := ⟨(mx_w (List.mem_of_getElem? (i := 1018) (by decide +kernel)) (by decide +kernel)), (mx_w (List.mem_of_getElem? (i := 60) (by decide +kernel)) (by decide +kernel)), by decide +kernel⟩
theorem q_Mo_lose : mx_cl M_Mo_lose 2 := ⟨(mx_w (List.mem_of_getElem? (i := 1022) (by decide +kernel)) (by decide +kernel)), (mx_w (List.mem_of_getElem? (i := 60) (by decide +kernel)) (by decide +kernel)), by decide +kernel⟩
theorem q_Mo_publish : mx_cl M_Mo_publish 3 := ⟨(mx_w (List.mem_of_getElem? (i := 1026) (by decide +kernel)) (by decide +kernel)), (mx_w (List.mem_of_getElem? (i := 60) (by decide +kernel)) (by decide +kernel)), by decide +kernel⟩
theorem q_Mo_emit : mx_cl M_Mo_emit 1 := ⟨(mx_w (List.mem_of_getElem? (i := 1030) (by decide +kernel)) (by decide +kernel)), (mx_w (List.mem_of_getElem? (i := 60) (by decide +kernel)) (by decide +kernel)), by decide +kernel⟩
theorem q_Mo_isFile : mx_cl M_Mo_isFile 1 := ⟨(mx_w (List.mem_of_getElem? (i := 1034) (by decide +kernel)) (by decide +kernel)), (mx_w (List.mem_of_getElem? (i := 60) (by decide +kernel)) (by decide +kernel)), by decide +kernel⟩
theorem q_Mo_take : mx_cl M_Mo_take 1 := ⟨(mx_w (List.mem_of_getElem? (i := 1038) (by decide +kernel)) (by decide +kernel)), (mx_w (List.mem_of_getElem? (i := 60) (by decide +kernel)) (by decide +kernel)), by decide +kernel⟩
theorem q_Mo_requests : mx_cl M_Mo_requests 1 := ⟨(mx_w (List.mem_of_getElem? (i := 1042) (by decide +kernel)) (by decide +kernel)), (mx_w (List.mem_of_getElem? (i := 60) (by decide +kernel)) (by decide +kernel)), by decide +kernel⟩
theorem q_Mo_missing : mx_cl M_Mo_missing 2 := ⟨(mx_w (List.mem_of_getElem? (i := 1046) (by decide +kernel)) (by decide +kernel)), (mx_w (List.mem_of_getElem? (i := 60) (by decide +kernel)) (by decide +kernel)), by decide +kernel⟩
theorem q_Mo_have : mx_cl M_Mo_have 2 := ⟨(mx_w (List.mem_of_getElem? (i := 1051) (by decide +kernel)) (by decide +kernel)), (mx_w (List.mem_of_getElem? (i := 60) (by decide +kernel)) (by decide +kernel)), by decide +kernel⟩
theorem w_ob : Cond.instanceMethod objectInit ∈ mx_WS := (mx_w (List.mem_of_getElem? (i := 68) (by decide +kernel)) (by decide +kernel))
theorem w_oc : Cond.code objectInit ⟨#[0xb1]⟩ 1 none ∈ mx_WS := (mx_w (List.mem_of_getElem? (i := 69) (by decide +kernel)) (by decide +kernel))
theorem so_MT_init_3 : mx_sO M_MT_init 3 := ⟨(mx_w (List.mem_of_getElem? (i := 67) (by decide +kernel)) (by decide +kernel)), w_ob, w_oc⟩
theorem s_MT_init_9 : mx_sS M_MT_init M_MT_isRouter 9 1 := ⟨q_MT_isRouter, ⟨by decide, by decide⟩, (mx_w (List.mem_of_getElem? (i := 70) (by decide +kernel)) (by decide +kernel)), (mx_w (List.mem_of_getElem? (i := 71) (by decide +kernel)) (by decide +kernel))⟩
theorem s_MT_init_15 : mx_sIN M_MT_init M_Ck_init 15 0 "MulticastTrees" := ⟨rfl, rfl, q_Ck_init, ⟨by decide, by decide⟩, (List.mem_of_getElem? (i := 75) (by decide +kernel)), (mx_w (List.mem_of_getElem? (i := 76) (by decide +kernel)) (by decide +kernel))⟩
theorem s_MT_init_22 : mx_sIN M_MT_init M_Ta_init 22 0 "MulticastTrees" := ⟨rfl, rfl, q_Ta_init, ⟨by decide, by decide⟩, (List.mem_of_getElem? (i := 85) (by decide +kernel)), (mx_w (List.mem_of_getElem? (i := 86) (by decide +kernel)) (by decide +kernel))⟩
theorem s_MT_init_29 : mx_sI M_MT_init M_Ne_init 29 0 := ⟨rfl, rfl, q_Ne_init, ⟨by decide, by decide⟩, (mx_w (List.mem_of_getElem? (i := 96) (by decide +kernel)) (by decide +kernel)), (mx_w (List.mem_of_getElem? (i := 97) (by decide +kernel)) (by decide +kernel))⟩
theorem s_MT_init_36 : mx_sI M_MT_init M_La_init 36 1 := ⟨rfl, rfl, q_La_init, ⟨by decide, by decide⟩, (mx_w (List.mem_of_getElem? (i := 148) (by decide +kernel)) (by decide +kernel)), (mx_w (List.mem_of_getElem? (i := 149) (by decide +kernel)) (by decide +kernel))⟩
theorem s_MT_init_45 : mx_sI M_MT_init M_Sm_init 45 1 := ⟨rfl, rfl, q_Sm_init, ⟨by decide, by decide⟩, (mx_w (List.mem_of_getElem? (i := 174) (by decide +kernel)) (by decide +kernel)), (mx_w (List.mem_of_getElem? (i := 175) (by decide +kernel)) (by decide +kernel))⟩
theorem s_MT_init_52 : mx_sI M_MT_init M_Tr_init 52 5 := ⟨rfl, rfl, q_Tr_init, ⟨by decide, by decide⟩, (mx_w (List.mem_of_getElem? (i := 194) (by decide +kernel)) (by decide +kernel)), (mx_w (List.mem_of_getElem? (i := 195) (by decide +kernel)) (by decide +kernel))⟩
theorem s_MT_init_61 : mx_sI M_MT_init M_Pa_init 61 5 := ⟨rfl, rfl, q_Pa_init, ⟨by decide, by decide⟩, (mx_w (List.mem_of_getElem? (i := 239) (by decide +kernel)) (by decide +kernel)), (mx_w (List.mem_of_getElem? (i := 240) (by decide +kernel)) (by decide +kernel))⟩
theorem s_MT_init_70 : mx_sI M_MT_init M_Fi_init 70 3 := ⟨rfl, rfl, q_Fi_init, ⟨by decide, by decide⟩, (mx_w (List.mem_of_getElem? (i := 282) (by decide +kernel)) (by decide +kernel)), (mx_w (List.mem_of_getElem? (i := 283) (by decide +kernel)) (by decide +kernel))⟩
theorem so_Ck_init_1 : mx_sO M_Ck_init 1 := ⟨(mx_w (List.mem_of_getElem? (i := 78) (by decide +kernel)) (by decide +kernel)), w_ob, w_oc⟩
theorem so_Ta_init_3 : mx_sO M_Ta_init 3 := ⟨(mx_w (List.mem_of_getElem? (i := 88) (by decide +kernel)) (by decide +kernel)), w_ob, w_oc⟩
theorem so_Ne_init_3 : mx_sO M_Ne_init 3 := ⟨(mx_w (List.mem_of_getElem? (i := 99) (by decide +kernel)) (by decide +kernel)), w_ob, w_oc⟩
theorem s_Ne_init_25 : mx_sV M_Ne_init M_Ne_measure 25 0 3 4 T_Ne := ⟨q_Ne_measure, ⟨by decide, by decide⟩, (mx_w (List.mem_of_getElem? (i := 102) (by decide +kernel)) (by decide +kernel)), (mx_w (List.mem_of_getElem? (i := 104) (by decide +kernel)) (by decide +kernel)), (mx_w (List.mem_of_getElem? (i := 0) (by decide +kernel)) (by decide +kernel)), rfl⟩
theorem s_Ne_measure_28 : mx_sV M_Ne_measure M_Ne_startLengths 28 0 3 4 T_Ne := ⟨q_Ne_startLengths, ⟨by decide, by decide⟩, (mx_w (List.mem_of_getElem? (i := 106) (by decide +kernel)) (by decide +kernel)), (mx_w (List.mem_of_getElem? (i := 108) (by decide +kernel)) (by decide +kernel)), (mx_w (List.mem_of_getElem? (i := 1) (by decide +kernel)) (by decide +kernel)), rfl⟩
theorem s_Ne_measure_31 : mx_sV M_Ne_measure M_Ne_shortenBy 31 1 3 4 T_Ne := ⟨q_Ne_shortenBy, ⟨by decide, by decide⟩, (mx_w (List.mem_of_getElem? (i := 114) (by decide +kernel)) (by decide +kernel)), (mx_w (List.mem_of_getElem? (i := 116) (by decide +kernel)) (by decide +kernel)), (mx_w (List.mem_of_getElem? (i := 2) (by decide +kernel)) (by decide +kernel)), rfl⟩
theorem s_Ne_measure_35 : mx_sV M_Ne_measure M_Ne_findNext 35 2 3 4 T_Ne := ⟨q_Ne_findNext, ⟨by decide, by decide⟩, (mx_w (List.mem_of_getElem? (i := 121) (by decide +kernel)) (by decide +kernel)), (mx_w (List.mem_of_getElem? (i := 123) (by decide +kernel)) (by decide +kernel)), (mx_w (List.mem_of_getElem? (i := 3) (by decide +kernel)) (by decide +kernel)), rfl⟩
theorem s_Ne_measure_39 : mx_sV M_Ne_measure M_Ne_orderTowards 39 1 3 4 T_Ne := ⟨q_Ne_orderTowards, ⟨by decide, by decide⟩, (mx_w (List.mem_of_getElem? (i := 129) (by decide +kernel)) (by decide +kernel)), (mx_w (List.mem_of_getElem? (i := 131) (by decide +kernel)) (by decide +kernel)), (mx_w (List.mem_of_getElem? (i := 4) (by decide +kernel)) (by decide +kernel)), rfl⟩
theorem s_Ne_startLengths_42 : mx_sV M_Ne_startLengths M_Ne_areLinked 42 2 3 4 T_Ne := ⟨q_Ne_areLinked, ⟨by decide, by decide⟩, (mx_w (List.mem_of_getElem? (i := 110) (by decide +kernel)) (by decide +kernel)), (mx_w (List.mem_of_getElem? (i := 111) (by decide +kernel)) (by decide +kernel)), (mx_w (List.mem_of_getElem? (i := 112) (by decide +kernel)) (by decide +kernel)), rfl⟩
theorem s_Ne_shortenBy_46 : mx_sS M_Ne_shortenBy M_JM_min 46 2 := ⟨q_JM_min, ⟨by decide, by decide⟩, (mx_w (List.mem_of_getElem? (i := 118) (by decide +kernel)) (by decide +kernel)), (mx_w (List.mem_of_getElem? (i := 119) (by decide +kernel)) (by decide +kernel))⟩
theorem s_Ne_findNext_51 : mx_sV M_Ne_findNext M_Ne_areConnected 51 2 3 4 T_Ne := ⟨q_Ne_areConnected, ⟨by decide, by decide⟩, (mx_w (List.mem_of_getElem? (i := 125) (by decide +kernel)) (by decide +kernel)), (mx_w (List.mem_of_getElem? (i := 126) (by decide +kernel)) (by decide +kernel)), (mx_w (List.mem_of_getElem? (i := 127) (by decide +kernel)) (by decide +kernel)), rfl⟩
theorem s_Ne_findNext_42 : mx_sV M_Ne_findNext M_Ne_areLinked 42 2 3 4 T_Ne := ⟨q_Ne_areLinked, ⟨by decide, by decide⟩, (mx_w (List.mem_of_getElem? (i := 110) (by decide +kernel)) (by decide +kernel)), (mx_w (List.mem_of_getElem? (i := 111) (by decide +kernel)) (by decide +kernel)), (mx_w (List.mem_of_getElem? (i := 112) (by decide +kernel)) (by decide +kernel)), rfl⟩
theorem so_La_init_3 : mx_sO M_La_init 3 := ⟨(mx_w (List.mem_of_getElem? (i := 151) (by decide +kernel)) (by decide +kernel)), w_ob, w_oc⟩
theorem s_La_init_30 : mx_sS M_La_init M_JA_fill 30 2 := ⟨q_JA_fill, ⟨by decide, by decide⟩, (mx_w (List.mem_of_getElem? (i := 153) (by decide +kernel)) (by decide +kernel)), (mx_w (List.mem_of_getElem? (i := 154) (by decide +kernel)) (by decide +kernel))⟩
theorem so_Sm_init_3 : mx_sO M_Sm_init 3 := ⟨(mx_w (List.mem_of_getElem? (i := 177) (by decide +kernel)) (by decide +kernel)), w_ob, w_oc⟩
theorem so_Tr_init_3 : mx_sO M_Tr_init 3 := ⟨(mx_w (List.mem_of_getElem? (i := 197) (by decide +kernel)) (by decide +kernel)), w_ob, w_oc⟩
theorem s_Tr_init_55 : mx_sS M_Tr_init M_JA_fill 55 2 := ⟨q_JA_fill, ⟨by decide, by decide⟩, (mx_w (List.mem_of_getElem? (i := 199) (by decide +kernel)) (by decide +kernel)), (mx_w (List.mem_of_getElem? (i := 154) (by decide +kernel)) (by decide +kernel))⟩
theorem so_Pa_init_3 : mx_sO M_Pa_init 3 := ⟨(mx_w (List.mem_of_getElem? (i := 242) (by decide +kernel)) (by decide +kernel)), w_ob, w_oc⟩
theorem so_Fi_init_3 : mx_sO M_Fi_init 3 := ⟨(mx_w (List.mem_of_getElem? (i := 285) (by decide +kernel)) (by decide +kernel)), w_ob, w_oc⟩
theorem s_MT_link_9 : mx_sS M_MT_link M_MT_isRouter 9 1 := ⟨q_MT_isRouter, ⟨by decide, by decide⟩, (mx_w (List.mem_of_getElem? (i := 70) (by decide +kernel)) (by decide +kernel)), (mx_w (List.mem_of_getElem? (i := 71) (by decide +kernel)) (by decide +kernel))⟩
theorem s_MT_link_77 : mx_sV M_MT_link M_Ne_costOf 77 2 3 4 T_Ne := ⟨q_Ne_costOf, ⟨by decide, by decide⟩, (mx_w (List.mem_of_getElem? (i := 356) (by decide +kernel)) (by decide +kernel)), (mx_w (List.mem_of_getElem? (i := 357) (by decide +kernel)) (by decide +kernel)), (mx_w (List.mem_of_getElem? (i := 358) (by decide +kernel)) (by decide +kernel)), rfl⟩
theorem s_MT_link_81 : mx_sV M_MT_link M_Ne_setCost 81 3 3 4 T_Ne := ⟨q_Ne_setCost, ⟨by decide, by decide⟩, (mx_w (List.mem_of_getElem? (i := 360) (by decide +kernel)) (by decide +kernel)), (mx_w (List.mem_of_getElem? (i := 361) (by decide +kernel)) (by decide +kernel)), (mx_w (List.mem_of_getElem? (i := 362) (by decide +kernel)) (by decide +kernel)), rfl⟩
theorem s_MT_link_85 : mx_sV M_MT_link M_Tr_settle 85 0 7 12 T_Tr := ⟨q_Tr_settle, ⟨by decide, by decide⟩, (mx_w (List.mem_of_getElem? (i := 364) (by decide +kernel)) (by decide +kernel)), (mx_w (List.mem_of_getElem? (i := 365) (by decide +kernel)) (by decide +kernel)), (mx_w (List.mem_of_getElem? (i := 366) (by decide +kernel)) (by decide +kernel)), rfl⟩
theorem s_Ne_setCost_25 : mx_sV M_Ne_setCost M_Ne_measure 25 0 3 4 T_Ne := ⟨q_Ne_measure, ⟨by decide, by decide⟩, (mx_w (List.mem_of_getElem? (i := 102) (by decide +kernel)) (by decide +kernel)), (mx_w (List.mem_of_getElem? (i := 104) (by decide +kernel)) (by decide +kernel)), (mx_w (List.mem_of_getElem? (i := 0) (by decide +kernel)) (by decide +kernel)), rfl⟩
theorem s_Tr_settle_61 : mx_sV M_Tr_settle M_Tr_settleShared 61 1 7 12 T_Tr := ⟨q_Tr_settleShared, ⟨by decide, by decide⟩, (mx_w (List.mem_of_getElem? (i := 368) (by decide +kernel)) (by decide +kernel)), (mx_w (List.mem_of_getElem? (i := 370) (by decide +kernel)) (by decide +kernel)), (mx_w (List.mem_of_getElem? (i := 5) (by decide +kernel)) (by decide +kernel)), rfl⟩
theorem s_Tr_settle_65 : mx_sV M_Tr_settle M_Tr_settleCuts 65 2 7 12 T_Tr := ⟨q_Tr_settleCuts, ⟨by decide, by decide⟩, (mx_w (List.mem_of_getElem? (i := 397) (by decide +kernel)) (by decide +kernel)), (mx_w (List.mem_of_getElem? (i := 399) (by decide +kernel)) (by decide +kernel)), (mx_w (List.mem_of_getElem? (i := 7) (by decide +kernel)) (by decide +kernel)), rfl⟩
theorem s_Tr_settle_69 : mx_sV M_Tr_settle M_Tr_settleSources 69 2 7 12 T_Tr := ⟨q_Tr_settleSources, ⟨by decide, by decide⟩, (mx_w (List.mem_of_getElem? (i := 415) (by decide +kernel)) (by decide +kernel)), (mx_w (List.mem_of_getElem? (i := 417) (by decide +kernel)) (by decide +kernel)), (mx_w (List.mem_of_getElem? (i := 9) (by decide +kernel)) (by decide +kernel)), rfl⟩
theorem s_Tr_settleShared_55 : mx_sS M_Tr_settleShared M_JA_fill 55 2 := ⟨q_JA_fill, ⟨by decide, by decide⟩, (mx_w (List.mem_of_getElem? (i := 199) (by decide +kernel)) (by decide +kernel)), (mx_w (List.mem_of_getElem? (i := 154) (by decide +kernel)) (by decide +kernel))⟩
theorem s_Tr_settleShared_72 : mx_sV M_Tr_settleShared M_Ne_fromFarthest 72 2 3 4 T_Ne := ⟨q_Ne_fromFarthest, ⟨by decide, by decide⟩, (mx_w (List.mem_of_getElem? (i := 372) (by decide +kernel)) (by decide +kernel)), (mx_w (List.mem_of_getElem? (i := 373) (by decide +kernel)) (by decide +kernel)), (mx_w (List.mem_of_getElem? (i := 374) (by decide +kernel)) (by decide +kernel)), rfl⟩
theorem s_Tr_settleShared_78 : mx_sV M_Tr_settleShared M_La_isMarked 78 2 2 5 T_La := ⟨q_La_isMarked, ⟨by decide, by decide⟩, (mx_w (List.mem_of_getElem? (i := 376) (by decide +kernel)) (by decide +kernel)), (mx_w (List.mem_of_getElem? (i := 377) (by decide +kernel)) (by decide +kernel)), (mx_w (List.mem_of_getElem? (i := 378) (by decide +kernel)) (by decide +kernel)), rfl⟩
theorem s_Tr_settleShared_84 : mx_sV M_Tr_settleShared M_Ne_nextTowards 84 2 3 4 T_Ne := ⟨q_Ne_nextTowards, ⟨by decide, by decide⟩, (mx_w (List.mem_of_getElem? (i := 384) (by decide +kernel)) (by decide +kernel)), (mx_w (List.mem_of_getElem? (i := 385) (by decide +kernel)) (by decide +kernel)), (mx_w (List.mem_of_getElem? (i := 386) (by decide +kernel)) (by decide +kernel)), rfl⟩
theorem s_Tr_settleShared_87 : mx_sV M_Tr_settleShared M_Tr_announce 87 4 7 12 T_Tr := ⟨q_Tr_announce, ⟨by decide, by decide⟩, (mx_w (List.mem_of_getElem? (i := 388) (by decide +kernel)) (by decide +kernel)), (mx_w (List.mem_of_getElem? (i := 390) (by decide +kernel)) (by decide +kernel)), (mx_w (List.mem_of_getElem? (i := 6) (by decide +kernel)) (by decide +kernel)), rfl⟩
theorem s_La_isMarked_40 : mx_sV M_La_isMarked M_Ck_time 40 0 0 1 T_Ck := ⟨q_Ck_time, ⟨by decide, by decide⟩, (mx_w (List.mem_of_getElem? (i := 380) (by decide +kernel)) (by decide +kernel)), (mx_w (List.mem_of_getElem? (i := 381) (by decide +kernel)) (by decide +kernel)), (mx_w (List.mem_of_getElem? (i := 382) (by decide +kernel)) (by decide +kernel)), rfl⟩
theorem s_Tr_announce_106 : mx_sV M_Tr_announce M_Ne_areLinked 106 2 3 4 T_Ne := ⟨q_Ne_areLinked, ⟨by decide, by decide⟩, (mx_w (List.mem_of_getElem? (i := 392) (by decide +kernel)) (by decide +kernel)), (mx_w (List.mem_of_getElem? (i := 111) (by decide +kernel)) (by decide +kernel)), (mx_w (List.mem_of_getElem? (i := 112) (by decide +kernel)) (by decide +kernel)), rfl⟩
theorem s_Tr_announce_109 : mx_sV M_Tr_announce M_Ta_count 109 1 6 1 T_Ta := ⟨q_Ta_count, ⟨by decide, by decide⟩, (mx_w (List.mem_of_getElem? (i := 393) (by decide +kernel)) (by decide +kernel)), (mx_w (List.mem_of_getElem? (i := 394) (by decide +kernel)) (by decide +kernel)), (mx_w (List.mem_of_getElem? (i := 395) (by decide +kernel)) (by decide +kernel)), rfl⟩
theorem s_Tr_settleCuts_91 : mx_sSN M_Tr_settleCuts M_MT_streamOf 91 2 "MulticastTrees" := ⟨q_MT_streamOf, ⟨by decide, by decide⟩, (List.mem_of_getElem? (i := 401) (by decide +kernel)), (mx_w (List.mem_of_getElem? (i := 402) (by decide +kernel)) (by decide +kernel))⟩
theorem s_Tr_settleCuts_72 : mx_sV M_Tr_settleCuts M_Ne_fromFarthest 72 2 3 4 T_Ne := ⟨q_Ne_fromFarthest, ⟨by decide, by decide⟩, (mx_w (List.mem_of_getElem? (i := 372) (by decide +kernel)) (by decide +kernel)), (mx_w (List.mem_of_getElem? (i := 373) (by decide +kernel)) (by decide +kernel)), (mx_w (List.mem_of_getElem? (i := 374) (by decide +kernel)) (by decide +kernel)), rfl⟩
theorem s_Tr_settleCuts_78 : mx_sV M_Tr_settleCuts M_La_isMarked 78 2 2 5 T_La := ⟨q_La_isMarked, ⟨by decide, by decide⟩, (mx_w (List.mem_of_getElem? (i := 376) (by decide +kernel)) (by decide +kernel)), (mx_w (List.mem_of_getElem? (i := 377) (by decide +kernel)) (by decide +kernel)), (mx_w (List.mem_of_getElem? (i := 378) (by decide +kernel)) (by decide +kernel)), rfl⟩
theorem s_Tr_settleCuts_94 : mx_sV M_Tr_settleCuts M_Tr_takesElsewhere 94 3 7 12 T_Tr := ⟨q_Tr_takesElsewhere, ⟨by decide, by decide⟩, (mx_w (List.mem_of_getElem? (i := 404) (by decide +kernel)) (by decide +kernel)), (mx_w (List.mem_of_getElem? (i := 406) (by decide +kernel)) (by decide +kernel)), (mx_w (List.mem_of_getElem? (i := 8) (by decide +kernel)) (by decide +kernel)), rfl⟩
theorem s_Tr_settleCuts_87 : mx_sV M_Tr_settleCuts M_Tr_announce 87 4 7 12 T_Tr := ⟨q_Tr_announce, ⟨by decide, by decide⟩, (mx_w (List.mem_of_getElem? (i := 388) (by decide +kernel)) (by decide +kernel)), (mx_w (List.mem_of_getElem? (i := 390) (by decide +kernel)) (by decide +kernel)), (mx_w (List.mem_of_getElem? (i := 6) (by decide +kernel)) (by decide +kernel)), rfl⟩
theorem s_Tr_takesElsewhere_98 : mx_sV M_Tr_takesElsewhere M_Sm_isSwitched 98 2 5 4 T_Sm := ⟨q_Sm_isSwitched, ⟨by decide, by decide⟩, (mx_w (List.mem_of_getElem? (i := 408) (by decide +kernel)) (by decide +kernel)), (mx_w (List.mem_of_getElem? (i := 409) (by decide +kernel)) (by decide +kernel)), (mx_w (List.mem_of_getElem? (i := 410) (by decide +kernel)) (by decide +kernel)), rfl⟩
theorem s_Tr_takesElsewhere_84 : mx_sV M_Tr_takesElsewhere M_Ne_nextTowards 84 2 3 4 T_Ne := ⟨q_Ne_nextTowards, ⟨by decide, by decide⟩, (mx_w (List.mem_of_getElem? (i := 384) (by decide +kernel)) (by decide +kernel)), (mx_w (List.mem_of_getElem? (i := 385) (by decide +kernel)) (by decide +kernel)), (mx_w (List.mem_of_getElem? (i := 386) (by decide +kernel)) (by decide +kernel)), rfl⟩
theorem s_Sm_isSwitched_33 : mx_sSN M_Sm_isSwitched M_MT_holds 33 2 "MulticastTrees" := ⟨q_MT_holds, ⟨by decide, by decide⟩, (List.mem_of_getElem? (i := 412) (by decide +kernel)), (mx_w (List.mem_of_getElem? (i := 413) (by decide +kernel)) (by decide +kernel))⟩
theorem s_Tr_settleSources_91 : mx_sSN M_Tr_settleSources M_MT_streamOf 91 2 "MulticastTrees" := ⟨q_MT_streamOf, ⟨by decide, by decide⟩, (List.mem_of_getElem? (i := 401) (by decide +kernel)), (mx_w (List.mem_of_getElem? (i := 402) (by decide +kernel)) (by decide +kernel))⟩
theorem s_Tr_settleSources_55 : mx_sS M_Tr_settleSources M_JA_fill 55 2 := ⟨q_JA_fill, ⟨by decide, by decide⟩, (mx_w (List.mem_of_getElem? (i := 199) (by decide +kernel)) (by decide +kernel)), (mx_w (List.mem_of_getElem? (i := 154) (by decide +kernel)) (by decide +kernel))⟩
theorem s_Tr_settleSources_72 : mx_sV M_Tr_settleSources M_Ne_fromFarthest 72 2 3 4 T_Ne := ⟨q_Ne_fromFarthest, ⟨by decide, by decide⟩, (mx_w (List.mem_of_getElem? (i := 372) (by decide +kernel)) (by decide +kernel)), (mx_w (List.mem_of_getElem? (i := 373) (by decide +kernel)) (by decide +kernel)), (mx_w (List.mem_of_getElem? (i := 374) (by decide +kernel)) (by decide +kernel)), rfl⟩
theorem s_Tr_settleSources_103 : mx_sV M_Tr_settleSources M_Sm_isAlive 103 2 5 4 T_Sm := ⟨q_Sm_isAlive, ⟨by decide, by decide⟩, (mx_w (List.mem_of_getElem? (i := 419) (by decide +kernel)) (by decide +kernel)), (mx_w (List.mem_of_getElem? (i := 420) (by decide +kernel)) (by decide +kernel)), (mx_w (List.mem_of_getElem? (i := 421) (by decide +kernel)) (by decide +kernel)), rfl⟩
theorem s_Tr_settleSources_84 : mx_sV M_Tr_settleSources M_Ne_nextTowards 84 2 3 4 T_Ne := ⟨q_Ne_nextTowards, ⟨by decide, by decide⟩, (mx_w (List.mem_of_getElem? (i := 384) (by decide +kernel)) (by decide +kernel)), (mx_w (List.mem_of_getElem? (i := 385) (by decide +kernel)) (by decide +kernel)), (mx_w (List.mem_of_getElem? (i := 386) (by decide +kernel)) (by decide +kernel)), rfl⟩
theorem s_Tr_settleSources_87 : mx_sV M_Tr_settleSources M_Tr_announce 87 4 7 12 T_Tr := ⟨q_Tr_announce, ⟨by decide, by decide⟩, (mx_w (List.mem_of_getElem? (i := 388) (by decide +kernel)) (by decide +kernel)), (mx_w (List.mem_of_getElem? (i := 390) (by decide +kernel)) (by decide +kernel)), (mx_w (List.mem_of_getElem? (i := 6) (by decide +kernel)) (by decide +kernel)), rfl⟩
theorem s_Sm_isAlive_27 : mx_sV M_Sm_isAlive M_Ck_time 27 0 0 1 T_Ck := ⟨q_Ck_time, ⟨by decide, by decide⟩, (mx_w (List.mem_of_getElem? (i := 423) (by decide +kernel)) (by decide +kernel)), (mx_w (List.mem_of_getElem? (i := 381) (by decide +kernel)) (by decide +kernel)), (mx_w (List.mem_of_getElem? (i := 382) (by decide +kernel)) (by decide +kernel)), rfl⟩
theorem s_MT_distance_9 : mx_sS M_MT_distance M_MT_isRouter 9 1 := ⟨q_MT_isRouter, ⟨by decide, by decide⟩, (mx_w (List.mem_of_getElem? (i := 70) (by decide +kernel)) (by decide +kernel)), (mx_w (List.mem_of_getElem? (i := 71) (by decide +kernel)) (by decide +kernel))⟩
theorem s_MT_distance_88 : mx_sV M_MT_distance M_Ne_areConnected 88 2 3 4 T_Ne := ⟨q_Ne_areConnected, ⟨by decide, by decide⟩, (mx_w (List.mem_of_getElem? (i := 428) (by decide +kernel)) (by decide +kernel)), (mx_w (List.mem_of_getElem? (i := 126) (by decide +kernel)) (by decide +kernel)), (mx_w (List.mem_of_getElem? (i := 127) (by decide +kernel)) (by decide +kernel)), rfl⟩
theorem s_MT_distance_92 : mx_sV M_MT_distance M_Ne_lengthOf 92 2 3 4 T_Ne := ⟨q_Ne_lengthOf, ⟨by decide, by decide⟩, (mx_w (List.mem_of_getElem? (i := 429) (by decide +kernel)) (by decide +kernel)), (mx_w (List.mem_of_getElem? (i := 430) (by decide +kernel)) (by decide +kernel)), (mx_w (List.mem_of_getElem? (i := 431) (by decide +kernel)) (by decide +kernel)), rfl⟩
theorem s_MT_hop_9 : mx_sS M_MT_hop M_MT_isRouter 9 1 := ⟨q_MT_isRouter, ⟨by decide, by decide⟩, (mx_w (List.mem_of_getElem? (i := 70) (by decide +kernel)) (by decide +kernel)), (mx_w (List.mem_of_getElem? (i := 71) (by decide +kernel)) (by decide +kernel))⟩
theorem s_MT_hop_95 : mx_sV M_MT_hop M_Ne_nextTowards 95 2 3 4 T_Ne := ⟨q_Ne_nextTowards, ⟨by decide, by decide⟩, (mx_w (List.mem_of_getElem? (i := 437) (by decide +kernel)) (by decide +kernel)), (mx_w (List.mem_of_getElem? (i := 385) (by decide +kernel)) (by decide +kernel)), (mx_w (List.mem_of_getElem? (i := 386) (by decide +kernel)) (by decide +kernel)), rfl⟩
theorem s_MT_join_9 : mx_sS M_MT_join M_MT_isRouter 9 1 := ⟨q_MT_isRouter, ⟨by decide, by decide⟩, (mx_w (List.mem_of_getElem? (i := 70) (by decide +kernel)) (by decide +kernel)), (mx_w (List.mem_of_getElem? (i := 71) (by decide +kernel)) (by decide +kernel))⟩
theorem s_MT_join_98 : mx_sS M_MT_join M_MT_isHost 98 1 := ⟨q_MT_isHost, ⟨by decide, by decide⟩, (mx_w (List.mem_of_getElem? (i := 442) (by decide +kernel)) (by decide +kernel)), (mx_w (List.mem_of_getElem? (i := 443) (by decide +kernel)) (by decide +kernel))⟩
theorem s_MT_join_101 : mx_sS M_MT_join M_MT_isGroup 101 1 := ⟨q_MT_isGroup, ⟨by decide, by decide⟩, (mx_w (List.mem_of_getElem? (i := 445) (by decide +kernel)) (by decide +kernel)), (mx_w (List.mem_of_getElem? (i := 446) (by decide +kernel)) (by decide +kernel))⟩
theorem s_MT_join_104 : mx_sV M_MT_join M_La_isMember 104 3 2 5 T_La := ⟨q_La_isMember, ⟨by decide, by decide⟩, (mx_w (List.mem_of_getElem? (i := 448) (by decide +kernel)) (by decide +kernel)), (mx_w (List.mem_of_getElem? (i := 449) (by decide +kernel)) (by decide +kernel)), (mx_w (List.mem_of_getElem? (i := 450) (by decide +kernel)) (by decide +kernel)), rfl⟩
theorem s_MT_join_108 : mx_sV M_MT_join M_La_admit 108 3 2 5 T_La := ⟨q_La_admit, ⟨by decide, by decide⟩, (mx_w (List.mem_of_getElem? (i := 453) (by decide +kernel)) (by decide +kernel)), (mx_w (List.mem_of_getElem? (i := 454) (by decide +kernel)) (by decide +kernel)), (mx_w (List.mem_of_getElem? (i := 455) (by decide +kernel)) (by decide +kernel)), rfl⟩
theorem s_MT_join_85 : mx_sV M_MT_join M_Tr_settle 85 0 7 12 T_Tr := ⟨q_Tr_settle, ⟨by decide, by decide⟩, (mx_w (List.mem_of_getElem? (i := 364) (by decide +kernel)) (by decide +kernel)), (mx_w (List.mem_of_getElem? (i := 365) (by decide +kernel)) (by decide +kernel)), (mx_w (List.mem_of_getElem? (i := 366) (by decide +kernel)) (by decide +kernel)), rfl⟩
theorem s_La_isMember_36 : mx_sSN M_La_isMember M_MT_holds 36 2 "MulticastTrees" := ⟨q_MT_holds, ⟨by decide, by decide⟩, (List.mem_of_getElem? (i := 452) (by decide +kernel)), (mx_w (List.mem_of_getElem? (i := 413) (by decide +kernel)) (by decide +kernel))⟩
theorem s_La_admit_49 : mx_sV M_La_admit M_La_report 49 3 2 5 T_La := ⟨q_La_report, ⟨by decide, by decide⟩, (mx_w (List.mem_of_getElem? (i := 457) (by decide +kernel)) (by decide +kernel)), (mx_w (List.mem_of_getElem? (i := 459) (by decide +kernel)) (by decide +kernel)), (mx_w (List.mem_of_getElem? (i := 10) (by decide +kernel)) (by decide +kernel)), rfl⟩
theorem s_La_report_40 : mx_sV M_La_report M_Ck_time 40 0 0 1 T_Ck := ⟨q_Ck_time, ⟨by decide, by decide⟩, (mx_w (List.mem_of_getElem? (i := 380) (by decide +kernel)) (by decide +kernel)), (mx_w (List.mem_of_getElem? (i := 381) (by decide +kernel)) (by decide +kernel)), (mx_w (List.mem_of_getElem? (i := 382) (by decide +kernel)) (by decide +kernel)), rfl⟩
theorem s_MT_leave_9 : mx_sS M_MT_leave M_MT_isRouter 9 1 := ⟨q_MT_isRouter, ⟨by decide, by decide⟩, (mx_w (List.mem_of_getElem? (i := 70) (by decide +kernel)) (by decide +kernel)), (mx_w (List.mem_of_getElem? (i := 71) (by decide +kernel)) (by decide +kernel))⟩
theorem s_MT_leave_98 : mx_sS M_MT_leave M_MT_isHost 98 1 := ⟨q_MT_isHost, ⟨by decide, by decide⟩, (mx_w (List.mem_of_getElem? (i := 442) (by decide +kernel)) (by decide +kernel)), (mx_w (List.mem_of_getElem? (i := 443) (by decide +kernel)) (by decide +kernel))⟩
theorem s_MT_leave_101 : mx_sS M_MT_leave M_MT_isGroup 101 1 := ⟨q_MT_isGroup, ⟨by decide, by decide⟩, (mx_w (List.mem_of_getElem? (i := 445) (by decide +kernel)) (by decide +kernel)), (mx_w (List.mem_of_getElem? (i := 446) (by decide +kernel)) (by decide +kernel))⟩
theorem s_MT_leave_104 : mx_sV M_MT_leave M_La_isMember 104 3 2 5 T_La := ⟨q_La_isMember, ⟨by decide, by decide⟩, (mx_w (List.mem_of_getElem? (i := 448) (by decide +kernel)) (by decide +kernel)), (mx_w (List.mem_of_getElem? (i := 449) (by decide +kernel)) (by decide +kernel)), (mx_w (List.mem_of_getElem? (i := 450) (by decide +kernel)) (by decide +kernel)), rfl⟩
theorem s_MT_leave_111 : mx_sV M_MT_leave M_La_dismiss 111 4 2 5 T_La := ⟨q_La_dismiss, ⟨by decide, by decide⟩, (mx_w (List.mem_of_getElem? (i := 465) (by decide +kernel)) (by decide +kernel)), (mx_w (List.mem_of_getElem? (i := 466) (by decide +kernel)) (by decide +kernel)), (mx_w (List.mem_of_getElem? (i := 467) (by decide +kernel)) (by decide +kernel)), rfl⟩
theorem s_MT_leave_85 : mx_sV M_MT_leave M_Tr_settle 85 0 7 12 T_Tr := ⟨q_Tr_settle, ⟨by decide, by decide⟩, (mx_w (List.mem_of_getElem? (i := 364) (by decide +kernel)) (by decide +kernel)), (mx_w (List.mem_of_getElem? (i := 365) (by decide +kernel)) (by decide +kernel)), (mx_w (List.mem_of_getElem? (i := 366) (by decide +kernel)) (by decide +kernel)), rfl⟩
theorem s_La_dismiss_53 : mx_sV M_La_dismiss M_La_hasMembers 53 2 2 5 T_La := ⟨q_La_hasMembers, ⟨by decide, by decide⟩, (mx_w (List.mem_of_getElem? (i := 469) (by decide +kernel)) (by decide +kernel)), (mx_w (List.mem_of_getElem? (i := 470) (by decide +kernel)) (by decide +kernel)), (mx_w (List.mem_of_getElem? (i := 471) (by decide +kernel)) (by decide +kernel)), rfl⟩
theorem s_La_dismiss_56 : mx_sV M_La_dismiss M_La_reportLowest 56 2 2 5 T_La := ⟨q_La_reportLowest, ⟨by decide, by decide⟩, (mx_w (List.mem_of_getElem? (i := 473) (by decide +kernel)) (by decide +kernel)), (mx_w (List.mem_of_getElem? (i := 475) (by decide +kernel)) (by decide +kernel)), (mx_w (List.mem_of_getElem? (i := 11) (by decide +kernel)) (by decide +kernel)), rfl⟩
theorem s_La_dismiss_40 : mx_sV M_La_dismiss M_Ck_time 40 0 0 1 T_Ck := ⟨q_Ck_time, ⟨by decide, by decide⟩, (mx_w (List.mem_of_getElem? (i := 380) (by decide +kernel)) (by decide +kernel)), (mx_w (List.mem_of_getElem? (i := 381) (by decide +kernel)) (by decide +kernel)), (mx_w (List.mem_of_getElem? (i := 382) (by decide +kernel)) (by decide +kernel)), rfl⟩
theorem s_La_dismiss_60 : mx_sS M_La_dismiss M_JM_min 60 2 := ⟨q_JM_min, ⟨by decide, by decide⟩, (mx_w (List.mem_of_getElem? (i := 478) (by decide +kernel)) (by decide +kernel)), (mx_w (List.mem_of_getElem? (i := 119) (by decide +kernel)) (by decide +kernel))⟩
theorem s_La_reportLowest_66 : mx_sV M_La_reportLowest M_La_isMember 66 3 2 5 T_La := ⟨q_La_isMember, ⟨by decide, by decide⟩, (mx_w (List.mem_of_getElem? (i := 477) (by decide +kernel)) (by decide +kernel)), (mx_w (List.mem_of_getElem? (i := 449) (by decide +kernel)) (by decide +kernel)), (mx_w (List.mem_of_getElem? (i := 450) (by decide +kernel)) (by decide +kernel)), rfl⟩
theorem s_La_reportLowest_49 : mx_sV M_La_reportLowest M_La_report 49 3 2 5 T_La := ⟨q_La_report, ⟨by decide, by decide⟩, (mx_w (List.mem_of_getElem? (i := 457) (by decide +kernel)) (by decide +kernel)), (mx_w (List.mem_of_getElem? (i := 459) (by decide +kernel)) (by decide +kernel)), (mx_w (List.mem_of_getElem? (i := 10) (by decide +kernel)) (by decide +kernel)), rfl⟩
theorem s_MT_marked_9 : mx_sS M_MT_marked M_MT_isRouter 9 1 := ⟨q_MT_isRouter, ⟨by decide, by decide⟩, (mx_w (List.mem_of_getElem? (i := 70) (by decide +kernel)) (by decide +kernel)), (mx_w (List.mem_of_getElem? (i := 71) (by decide +kernel)) (by decide +kernel))⟩
theorem s_MT_marked_101 : mx_sS M_MT_marked M_MT_isGroup 101 1 := ⟨q_MT_isGroup, ⟨by decide, by decide⟩, (mx_w (List.mem_of_getElem? (i := 445) (by decide +kernel)) (by decide +kernel)), (mx_w (List.mem_of_getElem? (i := 446) (by decide +kernel)) (by decide +kernel))⟩
theorem s_MT_marked_115 : mx_sV M_MT_marked M_La_ticksLeft 115 2 2 5 T_La := ⟨q_La_ticksLeft, ⟨by decide, by decide⟩, (mx_w (List.mem_of_getElem? (i := 483) (by decide +kernel)) (by decide +kernel)), (mx_w (List.mem_of_getElem? (i := 484) (by decide +kernel)) (by decide +kernel)), (mx_w (List.mem_of_getElem? (i := 485) (by decide +kernel)) (by decide +kernel)), rfl⟩
theorem s_La_ticksLeft_46 : mx_sV M_La_ticksLeft M_La_isMarked 46 2 2 5 T_La := ⟨q_La_isMarked, ⟨by decide, by decide⟩, (mx_w (List.mem_of_getElem? (i := 487) (by decide +kernel)) (by decide +kernel)), (mx_w (List.mem_of_getElem? (i := 377) (by decide +kernel)) (by decide +kernel)), (mx_w (List.mem_of_getElem? (i := 378) (by decide +kernel)) (by decide +kernel)), rfl⟩
theorem s_La_ticksLeft_40 : mx_sV M_La_ticksLeft M_Ck_time 40 0 0 1 T_Ck := ⟨q_Ck_time, ⟨by decide, by decide⟩, (mx_w (List.mem_of_getElem? (i := 380) (by decide +kernel)) (by decide +kernel)), (mx_w (List.mem_of_getElem? (i := 381) (by decide +kernel)) (by decide +kernel)), (mx_w (List.mem_of_getElem? (i := 382) (by decide +kernel)) (by decide +kernel)), rfl⟩
theorem s_MT_pass_118 : mx_sV M_MT_pass M_Ck_tick 118 0 0 1 T_Ck := ⟨q_Ck_tick, ⟨by decide, by decide⟩, (mx_w (List.mem_of_getElem? (i := 492) (by decide +kernel)) (by decide +kernel)), (mx_w (List.mem_of_getElem? (i := 493) (by decide +kernel)) (by decide +kernel)), (mx_w (List.mem_of_getElem? (i := 494) (by decide +kernel)) (by decide +kernel)), rfl⟩
theorem s_MT_pass_121 : mx_sV M_MT_pass M_Sm_endStale 121 0 5 4 T_Sm := ⟨q_Sm_endStale, ⟨by decide, by decide⟩, (mx_w (List.mem_of_getElem? (i := 496) (by decide +kernel)) (by decide +kernel)), (mx_w (List.mem_of_getElem? (i := 497) (by decide +kernel)) (by decide +kernel)), (mx_w (List.mem_of_getElem? (i := 498) (by decide +kernel)) (by decide +kernel)), rfl⟩
theorem s_MT_pass_124 : mx_sV M_MT_pass M_Ck_isReportTime 124 0 0 1 T_Ck := ⟨q_Ck_isReportTime, ⟨by decide, by decide⟩, (mx_w (List.mem_of_getElem? (i := 501) (by decide +kernel)) (by decide +kernel)), (mx_w (List.mem_of_getElem? (i := 502) (by decide +kernel)) (by decide +kernel)), (mx_w (List.mem_of_getElem? (i := 503) (by decide +kernel)) (by decide +kernel)), rfl⟩
theorem s_MT_pass_128 : mx_sV M_MT_pass M_La_reportAll 128 0 2 5 T_La := ⟨q_La_reportAll, ⟨by decide, by decide⟩, (mx_w (List.mem_of_getElem? (i := 505) (by decide +kernel)) (by decide +kernel)), (mx_w (List.mem_of_getElem? (i := 506) (by decide +kernel)) (by decide +kernel)), (mx_w (List.mem_of_getElem? (i := 507) (by decide +kernel)) (by decide +kernel)), rfl⟩
theorem s_MT_pass_85 : mx_sV M_MT_pass M_Tr_settle 85 0 7 12 T_Tr := ⟨q_Tr_settle, ⟨by decide, by decide⟩, (mx_w (List.mem_of_getElem? (i := 364) (by decide +kernel)) (by decide +kernel)), (mx_w (List.mem_of_getElem? (i := 365) (by decide +kernel)) (by decide +kernel)), (mx_w (List.mem_of_getElem? (i := 366) (by decide +kernel)) (by decide +kernel)), rfl⟩
theorem s_Sm_endStale_41 : mx_sV M_Sm_endStale M_Sm_isAlive 41 2 5 4 T_Sm := ⟨q_Sm_isAlive, ⟨by decide, by decide⟩, (mx_w (List.mem_of_getElem? (i := 500) (by decide +kernel)) (by decide +kernel)), (mx_w (List.mem_of_getElem? (i := 420) (by decide +kernel)) (by decide +kernel)), (mx_w (List.mem_of_getElem? (i := 421) (by decide +kernel)) (by decide +kernel)), rfl⟩
theorem s_La_reportAll_56 : mx_sV M_La_reportAll M_La_reportLowest 56 2 2 5 T_La := ⟨q_La_reportLowest, ⟨by decide, by decide⟩, (mx_w (List.mem_of_getElem? (i := 473) (by decide +kernel)) (by decide +kernel)), (mx_w (List.mem_of_getElem? (i := 475) (by decide +kernel)) (by decide +kernel)), (mx_w (List.mem_of_getElem? (i := 11) (by decide +kernel)) (by decide +kernel)), rfl⟩
theorem s_MT_send_9 : mx_sS M_MT_send M_MT_isRouter 9 1 := ⟨q_MT_isRouter, ⟨by decide, by decide⟩, (mx_w (List.mem_of_getElem? (i := 70) (by decide +kernel)) (by decide +kernel)), (mx_w (List.mem_of_getElem? (i := 71) (by decide +kernel)) (by decide +kernel))⟩
theorem s_MT_send_101 : mx_sS M_MT_send M_MT_isGroup 101 1 := ⟨q_MT_isGroup, ⟨by decide, by decide⟩, (mx_w (List.mem_of_getElem? (i := 445) (by decide +kernel)) (by decide +kernel)), (mx_w (List.mem_of_getElem? (i := 446) (by decide +kernel)) (by decide +kernel))⟩
theorem s_MT_send_131 : mx_sS M_MT_send M_MT_streamOf 131 2 := ⟨q_MT_streamOf, ⟨by decide, by decide⟩, (mx_w (List.mem_of_getElem? (i := 513) (by decide +kernel)) (by decide +kernel)), (mx_w (List.mem_of_getElem? (i := 402) (by decide +kernel)) (by decide +kernel))⟩
theorem s_MT_send_134 : mx_sV M_MT_send M_Sm_hasRoomFor 134 1 5 4 T_Sm := ⟨q_Sm_hasRoomFor, ⟨by decide, by decide⟩, (mx_w (List.mem_of_getElem? (i := 514) (by decide +kernel)) (by decide +kernel)), (mx_w (List.mem_of_getElem? (i := 515) (by decide +kernel)) (by decide +kernel)), (mx_w (List.mem_of_getElem? (i := 516) (by decide +kernel)) (by decide +kernel)), rfl⟩
theorem s_MT_send_137 : mx_sV M_MT_send M_Pa_dispatch 137 2 4 12 T_Pa := ⟨q_Pa_dispatch, ⟨by decide, by decide⟩, (mx_w (List.mem_of_getElem? (i := 522) (by decide +kernel)) (by decide +kernel)), (mx_w (List.mem_of_getElem? (i := 523) (by decide +kernel)) (by decide +kernel)), (mx_w (List.mem_of_getElem? (i := 524) (by decide +kernel)) (by decide +kernel)), rfl⟩
theorem s_MT_send_85 : mx_sV M_MT_send M_Tr_settle 85 0 7 12 T_Tr := ⟨q_Tr_settle, ⟨by decide, by decide⟩, (mx_w (List.mem_of_getElem? (i := 364) (by decide +kernel)) (by decide +kernel)), (mx_w (List.mem_of_getElem? (i := 365) (by decide +kernel)) (by decide +kernel)), (mx_w (List.mem_of_getElem? (i := 366) (by decide +kernel)) (by decide +kernel)), rfl⟩
theorem s_MT_send_141 : mx_sV M_MT_send M_Pa_heardBy 141 0 4 12 T_Pa := ⟨q_Pa_heardBy, ⟨by decide, by decide⟩, (mx_w (List.mem_of_getElem? (i := 598) (by decide +kernel)) (by decide +kernel)), (mx_w (List.mem_of_getElem? (i := 599) (by decide +kernel)) (by decide +kernel)), (mx_w (List.mem_of_getElem? (i := 600) (by decide +kernel)) (by decide +kernel)), rfl⟩
theorem s_MT_send_145 : mx_sS M_MT_send M_JI_bitCount 145 1 := ⟨q_JI_bitCount, ⟨by decide, by decide⟩, (mx_w (List.mem_of_getElem? (i := 602) (by decide +kernel)) (by decide +kernel)), (mx_w (List.mem_of_getElem? (i := 603) (by decide +kernel)) (by decide +kernel))⟩
theorem s_Sm_hasRoomFor_44 : mx_sV M_Sm_hasRoomFor M_Sm_isAliveSomewhere 44 1 5 4 T_Sm := ⟨q_Sm_isAliveSomewhere, ⟨by decide, by decide⟩, (mx_w (List.mem_of_getElem? (i := 518) (by decide +kernel)) (by decide +kernel)), (mx_w (List.mem_of_getElem? (i := 520) (by decide +kernel)) (by decide +kernel)), (mx_w (List.mem_of_getElem? (i := 12) (by decide +kernel)) (by decide +kernel)), rfl⟩
theorem s_Sm_isAliveSomewhere_41 : mx_sV M_Sm_isAliveSomewhere M_Sm_isAlive 41 2 5 4 T_Sm := ⟨q_Sm_isAlive, ⟨by decide, by decide⟩, (mx_w (List.mem_of_getElem? (i := 500) (by decide +kernel)) (by decide +kernel)), (mx_w (List.mem_of_getElem? (i := 420) (by decide +kernel)) (by decide +kernel)), (mx_w (List.mem_of_getElem? (i := 421) (by decide +kernel)) (by decide +kernel)), rfl⟩
theorem s_Pa_dispatch_54 : mx_sSN M_Pa_dispatch M_MT_streamOf 54 2 "MulticastTrees" := ⟨q_MT_streamOf, ⟨by decide, by decide⟩, (List.mem_of_getElem? (i := 526) (by decide +kernel)), (mx_w (List.mem_of_getElem? (i := 402) (by decide +kernel)) (by decide +kernel))⟩
theorem s_Pa_dispatch_58 : mx_sV M_Pa_dispatch M_La_isMarked 58 2 2 5 T_La := ⟨q_La_isMarked, ⟨by decide, by decide⟩, (mx_w (List.mem_of_getElem? (i := 527) (by decide +kernel)) (by decide +kernel)), (mx_w (List.mem_of_getElem? (i := 377) (by decide +kernel)) (by decide +kernel)), (mx_w (List.mem_of_getElem? (i := 378) (by decide +kernel)) (by decide +kernel)), rfl⟩
theorem s_Pa_dispatch_64 : mx_sV M_Pa_dispatch M_Pa_switchJoined 64 2 4 12 T_Pa := ⟨q_Pa_switchJoined, ⟨by decide, by decide⟩, (mx_w (List.mem_of_getElem? (i := 528) (by decide +kernel)) (by decide +kernel)), (mx_w (List.mem_of_getElem? (i := 530) (by decide +kernel)) (by decide +kernel)), (mx_w (List.mem_of_getElem? (i := 13) (by decide +kernel)) (by decide +kernel)), rfl⟩
theorem s_Pa_dispatch_68 : mx_sV M_Pa_dispatch M_Pa_register 68 2 4 12 T_Pa := ⟨q_Pa_register, ⟨by decide, by decide⟩, (mx_w (List.mem_of_getElem? (i := 549) (by decide +kernel)) (by decide +kernel)), (mx_w (List.mem_of_getElem? (i := 551) (by decide +kernel)) (by decide +kernel)), (mx_w (List.mem_of_getElem? (i := 14) (by decide +kernel)) (by decide +kernel)), rfl⟩
theorem s_Pa_dispatch_71 : mx_sV M_Pa_dispatch M_Tr_outerList 71 2 7 12 T_Tr := ⟨q_Tr_outerList, ⟨by decide, by decide⟩, (mx_w (List.mem_of_getElem? (i := 536) (by decide +kernel)) (by decide +kernel)), (mx_w (List.mem_of_getElem? (i := 537) (by decide +kernel)) (by decide +kernel)), (mx_w (List.mem_of_getElem? (i := 538) (by decide +kernel)) (by decide +kernel)), rfl⟩
theorem s_Pa_dispatch_76 : mx_sV M_Pa_dispatch M_Pa_carry 76 2 4 12 T_Pa := ⟨q_Pa_carry, ⟨by decide, by decide⟩, (mx_w (List.mem_of_getElem? (i := 568) (by decide +kernel)) (by decide +kernel)), (mx_w (List.mem_of_getElem? (i := 570) (by decide +kernel)) (by decide +kernel)), (mx_w (List.mem_of_getElem? (i := 15) (by decide +kernel)) (by decide +kernel)), rfl⟩
theorem s_Pa_dispatch_79 : mx_sV M_Pa_dispatch M_Tr_meetingPoint 79 0 7 12 T_Tr := ⟨q_Tr_meetingPoint, ⟨by decide, by decide⟩, (mx_w (List.mem_of_getElem? (i := 553) (by decide +kernel)) (by decide +kernel)), (mx_w (List.mem_of_getElem? (i := 554) (by decide +kernel)) (by decide +kernel)), (mx_w (List.mem_of_getElem? (i := 555) (by decide +kernel)) (by decide +kernel)), rfl⟩
theorem s_Pa_dispatch_83 : mx_sV M_Pa_dispatch M_Sm_isSwitched 83 2 5 4 T_Sm := ⟨q_Sm_isSwitched, ⟨by decide, by decide⟩, (mx_w (List.mem_of_getElem? (i := 563) (by decide +kernel)) (by decide +kernel)), (mx_w (List.mem_of_getElem? (i := 409) (by decide +kernel)) (by decide +kernel)), (mx_w (List.mem_of_getElem? (i := 410) (by decide +kernel)) (by decide +kernel)), rfl⟩
theorem s_Pa_dispatch_88 : mx_sV M_Pa_dispatch M_Pa_putOut 88 3 4 12 T_Pa := ⟨q_Pa_putOut, ⟨by decide, by decide⟩, (mx_w (List.mem_of_getElem? (i := 572) (by decide +kernel)) (by decide +kernel)), (mx_w (List.mem_of_getElem? (i := 574) (by decide +kernel)) (by decide +kernel)), (mx_w (List.mem_of_getElem? (i := 16) (by decide +kernel)) (by decide +kernel)), rfl⟩
theorem s_Pa_dispatch_92 : mx_sV M_Pa_dispatch M_Pa_renewCarriers 92 2 4 12 T_Pa := ⟨q_Pa_renewCarriers, ⟨by decide, by decide⟩, (mx_w (List.mem_of_getElem? (i := 586) (by decide +kernel)) (by decide +kernel)), (mx_w (List.mem_of_getElem? (i := 588) (by decide +kernel)) (by decide +kernel)), (mx_w (List.mem_of_getElem? (i := 18) (by decide +kernel)) (by decide +kernel)), rfl⟩
theorem s_Pa_dispatch_95 : mx_sV M_Pa_dispatch M_Pa_listen 95 0 4 12 T_Pa := ⟨q_Pa_listen, ⟨by decide, by decide⟩, (mx_w (List.mem_of_getElem? (i := 590) (by decide +kernel)) (by decide +kernel)), (mx_w (List.mem_of_getElem? (i := 592) (by decide +kernel)) (by decide +kernel)), (mx_w (List.mem_of_getElem? (i := 19) (by decide +kernel)) (by decide +kernel)), rfl⟩
theorem s_Pa_switchJoined_98 : mx_sV M_Pa_switchJoined M_Sm_renew 98 2 5 4 T_Sm := ⟨q_Sm_renew, ⟨by decide, by decide⟩, (mx_w (List.mem_of_getElem? (i := 532) (by decide +kernel)) (by decide +kernel)), (mx_w (List.mem_of_getElem? (i := 533) (by decide +kernel)) (by decide +kernel)), (mx_w (List.mem_of_getElem? (i := 534) (by decide +kernel)) (by decide +kernel)), rfl⟩
theorem s_Pa_switchJoined_71 : mx_sV M_Pa_switchJoined M_Tr_outerList 71 2 7 12 T_Tr := ⟨q_Tr_outerList, ⟨by decide, by decide⟩, (mx_w (List.mem_of_getElem? (i := 536) (by decide +kernel)) (by decide +kernel)), (mx_w (List.mem_of_getElem? (i := 537) (by decide +kernel)) (by decide +kernel)), (mx_w (List.mem_of_getElem? (i := 538) (by decide +kernel)) (by decide +kernel)), rfl⟩
theorem s_Pa_switchJoined_101 : mx_sV M_Pa_switchJoined M_Sm_switchOver 101 2 5 4 T_Sm := ⟨q_Sm_switchOver, ⟨by decide, by decide⟩, (mx_w (List.mem_of_getElem? (i := 540) (by decide +kernel)) (by decide +kernel)), (mx_w (List.mem_of_getElem? (i := 541) (by decide +kernel)) (by decide +kernel)), (mx_w (List.mem_of_getElem? (i := 542) (by decide +kernel)) (by decide +kernel)), rfl⟩
theorem s_Pa_switchJoined_104 : mx_sV M_Pa_switchJoined M_Tr_sourceJoinOf 104 2 7 12 T_Tr := ⟨q_Tr_sourceJoinOf, ⟨by decide, by decide⟩, (mx_w (List.mem_of_getElem? (i := 545) (by decide +kernel)) (by decide +kernel)), (mx_w (List.mem_of_getElem? (i := 546) (by decide +kernel)) (by decide +kernel)), (mx_w (List.mem_of_getElem? (i := 547) (by decide +kernel)) (by decide +kernel)), rfl⟩
theorem s_Sm_renew_27 : mx_sV M_Sm_renew M_Ck_time 27 0 0 1 T_Ck := ⟨q_Ck_time, ⟨by decide, by decide⟩, (mx_w (List.mem_of_getElem? (i := 423) (by decide +kernel)) (by decide +kernel)), (mx_w (List.mem_of_getElem? (i := 381) (by decide +kernel)) (by decide +kernel)), (mx_w (List.mem_of_getElem? (i := 382) (by decide +kernel)) (by decide +kernel)), rfl⟩
theorem s_Sm_switchOver_37 : mx_sV M_Sm_switchOver M_Sm_renew 37 2 5 4 T_Sm := ⟨q_Sm_renew, ⟨by decide, by decide⟩, (mx_w (List.mem_of_getElem? (i := 544) (by decide +kernel)) (by decide +kernel)), (mx_w (List.mem_of_getElem? (i := 533) (by decide +kernel)) (by decide +kernel)), (mx_w (List.mem_of_getElem? (i := 534) (by decide +kernel)) (by decide +kernel)), rfl⟩
theorem s_Pa_register_79 : mx_sV M_Pa_register M_Tr_meetingPoint 79 0 7 12 T_Tr := ⟨q_Tr_meetingPoint, ⟨by decide, by decide⟩, (mx_w (List.mem_of_getElem? (i := 553) (by decide +kernel)) (by decide +kernel)), (mx_w (List.mem_of_getElem? (i := 554) (by decide +kernel)) (by decide +kernel)), (mx_w (List.mem_of_getElem? (i := 555) (by decide +kernel)) (by decide +kernel)), rfl⟩
theorem s_Pa_register_107 : mx_sV M_Pa_register M_Ne_areConnected 107 2 3 4 T_Ne := ⟨q_Ne_areConnected, ⟨by decide, by decide⟩, (mx_w (List.mem_of_getElem? (i := 557) (by decide +kernel)) (by decide +kernel)), (mx_w (List.mem_of_getElem? (i := 126) (by decide +kernel)) (by decide +kernel)), (mx_w (List.mem_of_getElem? (i := 127) (by decide +kernel)) (by decide +kernel)), rfl⟩
theorem s_Pa_register_112 : mx_sV M_Pa_register M_Sm_isQuiet 112 1 5 4 T_Sm := ⟨q_Sm_isQuiet, ⟨by decide, by decide⟩, (mx_w (List.mem_of_getElem? (i := 558) (by decide +kernel)) (by decide +kernel)), (mx_w (List.mem_of_getElem? (i := 559) (by decide +kernel)) (by decide +kernel)), (mx_w (List.mem_of_getElem? (i := 560) (by decide +kernel)) (by decide +kernel)), rfl⟩
theorem s_Pa_register_116 : mx_sV M_Pa_register M_Ta_count 116 1 6 1 T_Ta := ⟨q_Ta_count, ⟨by decide, by decide⟩, (mx_w (List.mem_of_getElem? (i := 562) (by decide +kernel)) (by decide +kernel)), (mx_w (List.mem_of_getElem? (i := 394) (by decide +kernel)) (by decide +kernel)), (mx_w (List.mem_of_getElem? (i := 395) (by decide +kernel)) (by decide +kernel)), rfl⟩
theorem s_Pa_register_98 : mx_sV M_Pa_register M_Sm_renew 98 2 5 4 T_Sm := ⟨q_Sm_renew, ⟨by decide, by decide⟩, (mx_w (List.mem_of_getElem? (i := 532) (by decide +kernel)) (by decide +kernel)), (mx_w (List.mem_of_getElem? (i := 533) (by decide +kernel)) (by decide +kernel)), (mx_w (List.mem_of_getElem? (i := 534) (by decide +kernel)) (by decide +kernel)), rfl⟩
theorem s_Pa_register_83 : mx_sV M_Pa_register M_Sm_isSwitched 83 2 5 4 T_Sm := ⟨q_Sm_isSwitched, ⟨by decide, by decide⟩, (mx_w (List.mem_of_getElem? (i := 563) (by decide +kernel)) (by decide +kernel)), (mx_w (List.mem_of_getElem? (i := 409) (by decide +kernel)) (by decide +kernel)), (mx_w (List.mem_of_getElem? (i := 410) (by decide +kernel)) (by decide +kernel)), rfl⟩
theorem s_Pa_register_71 : mx_sV M_Pa_register M_Tr_outerList 71 2 7 12 T_Tr := ⟨q_Tr_outerList, ⟨by decide, by decide⟩, (mx_w (List.mem_of_getElem? (i := 536) (by decide +kernel)) (by decide +kernel)), (mx_w (List.mem_of_getElem? (i := 537) (by decide +kernel)) (by decide +kernel)), (mx_w (List.mem_of_getElem? (i := 538) (by decide +kernel)) (by decide +kernel)), rfl⟩
theorem s_Pa_register_122 : mx_sV M_Pa_register M_Sm_silence 122 1 5 4 T_Sm := ⟨q_Sm_silence, ⟨by decide, by decide⟩, (mx_w (List.mem_of_getElem? (i := 564) (by decide +kernel)) (by decide +kernel)), (mx_w (List.mem_of_getElem? (i := 565) (by decide +kernel)) (by decide +kernel)), (mx_w (List.mem_of_getElem? (i := 566) (by decide +kernel)) (by decide +kernel)), rfl⟩
theorem s_Sm_isQuiet_27 : mx_sV M_Sm_isQuiet M_Ck_time 27 0 0 1 T_Ck := ⟨q_Ck_time, ⟨by decide, by decide⟩, (mx_w (List.mem_of_getElem? (i := 423) (by decide +kernel)) (by decide +kernel)), (mx_w (List.mem_of_getElem? (i := 381) (by decide +kernel)) (by decide +kernel)), (mx_w (List.mem_of_getElem? (i := 382) (by decide +kernel)) (by decide +kernel)), rfl⟩
theorem s_Sm_silence_27 : mx_sV M_Sm_silence M_Ck_time 27 0 0 1 T_Ck := ⟨q_Ck_time, ⟨by decide, by decide⟩, (mx_w (List.mem_of_getElem? (i := 423) (by decide +kernel)) (by decide +kernel)), (mx_w (List.mem_of_getElem? (i := 381) (by decide +kernel)) (by decide +kernel)), (mx_w (List.mem_of_getElem? (i := 382) (by decide +kernel)) (by decide +kernel)), rfl⟩
theorem s_Pa_putOut_83 : mx_sV M_Pa_putOut M_Sm_isSwitched 83 2 5 4 T_Sm := ⟨q_Sm_isSwitched, ⟨by decide, by decide⟩, (mx_w (List.mem_of_getElem? (i := 563) (by decide +kernel)) (by decide +kernel)), (mx_w (List.mem_of_getElem? (i := 409) (by decide +kernel)) (by decide +kernel)), (mx_w (List.mem_of_getElem? (i := 410) (by decide +kernel)) (by decide +kernel)), rfl⟩
theorem s_Pa_putOut_71 : mx_sV M_Pa_putOut M_Tr_outerList 71 2 7 12 T_Tr := ⟨q_Tr_outerList, ⟨by decide, by decide⟩, (mx_w (List.mem_of_getElem? (i := 536) (by decide +kernel)) (by decide +kernel)), (mx_w (List.mem_of_getElem? (i := 537) (by decide +kernel)) (by decide +kernel)), (mx_w (List.mem_of_getElem? (i := 538) (by decide +kernel)) (by decide +kernel)), rfl⟩
theorem s_Pa_putOut_125 : mx_sV M_Pa_putOut M_Tr_innerList 125 2 7 12 T_Tr := ⟨q_Tr_innerList, ⟨by decide, by decide⟩, (mx_w (List.mem_of_getElem? (i := 576) (by decide +kernel)) (by decide +kernel)), (mx_w (List.mem_of_getElem? (i := 577) (by decide +kernel)) (by decide +kernel)), (mx_w (List.mem_of_getElem? (i := 578) (by decide +kernel)) (by decide +kernel)), rfl⟩
theorem s_Pa_putOut_128 : mx_sSN M_Pa_putOut M_MT_holds 128 2 "MulticastTrees" := ⟨q_MT_holds, ⟨by decide, by decide⟩, (List.mem_of_getElem? (i := 580) (by decide +kernel)), (mx_w (List.mem_of_getElem? (i := 413) (by decide +kernel)) (by decide +kernel))⟩
theorem s_Pa_putOut_131 : mx_sV M_Pa_putOut M_Pa_cross 131 4 4 12 T_Pa := ⟨q_Pa_cross, ⟨by decide, by decide⟩, (mx_w (List.mem_of_getElem? (i := 581) (by decide +kernel)) (by decide +kernel)), (mx_w (List.mem_of_getElem? (i := 583) (by decide +kernel)) (by decide +kernel)), (mx_w (List.mem_of_getElem? (i := 17) (by decide +kernel)) (by decide +kernel)), rfl⟩
theorem s_Pa_cross_83 : mx_sV M_Pa_cross M_Sm_isSwitched 83 2 5 4 T_Sm := ⟨q_Sm_isSwitched, ⟨by decide, by decide⟩, (mx_w (List.mem_of_getElem? (i := 563) (by decide +kernel)) (by decide +kernel)), (mx_w (List.mem_of_getElem? (i := 409) (by decide +kernel)) (by decide +kernel)), (mx_w (List.mem_of_getElem? (i := 410) (by decide +kernel)) (by decide +kernel)), rfl⟩
theorem s_Pa_cross_79 : mx_sV M_Pa_cross M_Tr_meetingPoint 79 0 7 12 T_Tr := ⟨q_Tr_meetingPoint, ⟨by decide, by decide⟩, (mx_w (List.mem_of_getElem? (i := 553) (by decide +kernel)) (by decide +kernel)), (mx_w (List.mem_of_getElem? (i := 554) (by decide +kernel)) (by decide +kernel)), (mx_w (List.mem_of_getElem? (i := 555) (by decide +kernel)) (by decide +kernel)), rfl⟩
theorem s_Pa_cross_135 : mx_sV M_Pa_cross M_Ne_nextTowards 135 2 3 4 T_Ne := ⟨q_Ne_nextTowards, ⟨by decide, by decide⟩, (mx_w (List.mem_of_getElem? (i := 585) (by decide +kernel)) (by decide +kernel)), (mx_w (List.mem_of_getElem? (i := 385) (by decide +kernel)) (by decide +kernel)), (mx_w (List.mem_of_getElem? (i := 386) (by decide +kernel)) (by decide +kernel)), rfl⟩
theorem s_Pa_cross_76 : mx_sV M_Pa_cross M_Pa_carry 76 2 4 12 T_Pa := ⟨q_Pa_carry, ⟨by decide, by decide⟩, (mx_w (List.mem_of_getElem? (i := 568) (by decide +kernel)) (by decide +kernel)), (mx_w (List.mem_of_getElem? (i := 570) (by decide +kernel)) (by decide +kernel)), (mx_w (List.mem_of_getElem? (i := 15) (by decide +kernel)) (by decide +kernel)), rfl⟩
theorem s_Pa_renewCarriers_83 : mx_sV M_Pa_renewCarriers M_Sm_isSwitched 83 2 5 4 T_Sm := ⟨q_Sm_isSwitched, ⟨by decide, by decide⟩, (mx_w (List.mem_of_getElem? (i := 563) (by decide +kernel)) (by decide +kernel)), (mx_w (List.mem_of_getElem? (i := 409) (by decide +kernel)) (by decide +kernel)), (mx_w (List.mem_of_getElem? (i := 410) (by decide +kernel)) (by decide +kernel)), rfl⟩
theorem s_Pa_renewCarriers_58 : mx_sV M_Pa_renewCarriers M_La_isMarked 58 2 2 5 T_La := ⟨q_La_isMarked, ⟨by decide, by decide⟩, (mx_w (List.mem_of_getElem? (i := 527) (by decide +kernel)) (by decide +kernel)), (mx_w (List.mem_of_getElem? (i := 377) (by decide +kernel)) (by decide +kernel)), (mx_w (List.mem_of_getElem? (i := 378) (by decide +kernel)) (by decide +kernel)), rfl⟩
theorem s_Pa_renewCarriers_98 : mx_sV M_Pa_renewCarriers M_Sm_renew 98 2 5 4 T_Sm := ⟨q_Sm_renew, ⟨by decide, by decide⟩, (mx_w (List.mem_of_getElem? (i := 532) (by decide +kernel)) (by decide +kernel)), (mx_w (List.mem_of_getElem? (i := 533) (by decide +kernel)) (by decide +kernel)), (mx_w (List.mem_of_getElem? (i := 534) (by decide +kernel)) (by decide +kernel)), rfl⟩
theorem s_Pa_listen_128 : mx_sSN M_Pa_listen M_MT_holds 128 2 "MulticastTrees" := ⟨q_MT_holds, ⟨by decide, by decide⟩, (List.mem_of_getElem? (i := 580) (by decide +kernel)), (mx_w (List.mem_of_getElem? (i := 413) (by decide +kernel)) (by decide +kernel))⟩
theorem s_Pa_listen_138 : mx_sV M_Pa_listen M_La_hearsOrLoses 138 1 2 5 T_La := ⟨q_La_hearsOrLoses, ⟨by decide, by decide⟩, (mx_w (List.mem_of_getElem? (i := 594) (by decide +kernel)) (by decide +kernel)), (mx_w (List.mem_of_getElem? (i := 595) (by decide +kernel)) (by decide +kernel)), (mx_w (List.mem_of_getElem? (i := 596) (by decide +kernel)) (by decide +kernel)), rfl⟩
theorem s_MT_crossings_151 : mx_sV M_MT_crossings M_Pa_crossingCount 151 0 4 12 T_Pa := ⟨q_Pa_crossingCount, ⟨by decide, by decide⟩, (mx_w (List.mem_of_getElem? (i := 612) (by decide +kernel)) (by decide +kernel)), (mx_w (List.mem_of_getElem? (i := 613) (by decide +kernel)) (by decide +kernel)), (mx_w (List.mem_of_getElem? (i := 614) (by decide +kernel)) (by decide +kernel)), rfl⟩
theorem s_MT_drops_154 : mx_sV M_MT_drops M_Pa_dropCount 154 0 4 12 T_Pa := ⟨q_Pa_dropCount, ⟨by decide, by decide⟩, (mx_w (List.mem_of_getElem? (i := 620) (by decide +kernel)) (by decide +kernel)), (mx_w (List.mem_of_getElem? (i := 621) (by decide +kernel)) (by decide +kernel)), (mx_w (List.mem_of_getElem? (i := 622) (by decide +kernel)) (by decide +kernel)), rfl⟩
theorem s_MT_reached_157 : mx_sV M_MT_reached M_Pa_reachedLans 157 0 4 12 T_Pa := ⟨q_Pa_reachedLans, ⟨by decide, by decide⟩, (mx_w (List.mem_of_getElem? (i := 628) (by decide +kernel)) (by decide +kernel)), (mx_w (List.mem_of_getElem? (i := 629) (by decide +kernel)) (by decide +kernel)), (mx_w (List.mem_of_getElem? (i := 630) (by decide +kernel)) (by decide +kernel)), rfl⟩
theorem s_MT_heard_141 : mx_sV M_MT_heard M_Pa_heardBy 141 0 4 12 T_Pa := ⟨q_Pa_heardBy, ⟨by decide, by decide⟩, (mx_w (List.mem_of_getElem? (i := 598) (by decide +kernel)) (by decide +kernel)), (mx_w (List.mem_of_getElem? (i := 599) (by decide +kernel)) (by decide +kernel)), (mx_w (List.mem_of_getElem? (i := 600) (by decide +kernel)) (by decide +kernel)), rfl⟩
theorem s_MT_shared_9 : mx_sS M_MT_shared M_MT_isRouter 9 1 := ⟨q_MT_isRouter, ⟨by decide, by decide⟩, (mx_w (List.mem_of_getElem? (i := 70) (by decide +kernel)) (by decide +kernel)), (mx_w (List.mem_of_getElem? (i := 71) (by decide +kernel)) (by decide +kernel))⟩
theorem s_MT_shared_101 : mx_sS M_MT_shared M_MT_isGroup 101 1 := ⟨q_MT_isGroup, ⟨by decide, by decide⟩, (mx_w (List.mem_of_getElem? (i := 445) (by decide +kernel)) (by decide +kernel)), (mx_w (List.mem_of_getElem? (i := 446) (by decide +kernel)) (by decide +kernel))⟩
theorem s_MT_shared_160 : mx_sV M_MT_shared M_Tr_sharedJoinOf 160 2 7 12 T_Tr := ⟨q_Tr_sharedJoinOf, ⟨by decide, by decide⟩, (mx_w (List.mem_of_getElem? (i := 640) (by decide +kernel)) (by decide +kernel)), (mx_w (List.mem_of_getElem? (i := 641) (by decide +kernel)) (by decide +kernel)), (mx_w (List.mem_of_getElem? (i := 642) (by decide +kernel)) (by decide +kernel)), rfl⟩
theorem s_MT_entry_9 : mx_sS M_MT_entry M_MT_isRouter 9 1 := ⟨q_MT_isRouter, ⟨by decide, by decide⟩, (mx_w (List.mem_of_getElem? (i := 70) (by decide +kernel)) (by decide +kernel)), (mx_w (List.mem_of_getElem? (i := 71) (by decide +kernel)) (by decide +kernel))⟩
theorem s_MT_entry_101 : mx_sS M_MT_entry M_MT_isGroup 101 1 := ⟨q_MT_isGroup, ⟨by decide, by decide⟩, (mx_w (List.mem_of_getElem? (i := 445) (by decide +kernel)) (by decide +kernel)), (mx_w (List.mem_of_getElem? (i := 446) (by decide +kernel)) (by decide +kernel))⟩
theorem s_MT_entry_131 : mx_sS M_MT_entry M_MT_streamOf 131 2 := ⟨q_MT_streamOf, ⟨by decide, by decide⟩, (mx_w (List.mem_of_getElem? (i := 513) (by decide +kernel)) (by decide +kernel)), (mx_w (List.mem_of_getElem? (i := 402) (by decide +kernel)) (by decide +kernel))⟩
theorem s_MT_entry_163 : mx_sV M_MT_entry M_Tr_outerList 163 2 7 12 T_Tr := ⟨q_Tr_outerList, ⟨by decide, by decide⟩, (mx_w (List.mem_of_getElem? (i := 648) (by decide +kernel)) (by decide +kernel)), (mx_w (List.mem_of_getElem? (i := 537) (by decide +kernel)) (by decide +kernel)), (mx_w (List.mem_of_getElem? (i := 538) (by decide +kernel)) (by decide +kernel)), rfl⟩
theorem s_MT_entry_145 : mx_sS M_MT_entry M_JI_bitCount 145 1 := ⟨q_JI_bitCount, ⟨by decide, by decide⟩, (mx_w (List.mem_of_getElem? (i := 602) (by decide +kernel)) (by decide +kernel)), (mx_w (List.mem_of_getElem? (i := 603) (by decide +kernel)) (by decide +kernel))⟩
theorem s_MT_entry_166 : mx_sV M_MT_entry M_Sm_isAlive 166 2 5 4 T_Sm := ⟨q_Sm_isAlive, ⟨by decide, by decide⟩, (mx_w (List.mem_of_getElem? (i := 649) (by decide +kernel)) (by decide +kernel)), (mx_w (List.mem_of_getElem? (i := 420) (by decide +kernel)) (by decide +kernel)), (mx_w (List.mem_of_getElem? (i := 421) (by decide +kernel)) (by decide +kernel)), rfl⟩
theorem s_MT_entry_169 : mx_sV M_MT_entry M_Sm_isSwitched 169 2 5 4 T_Sm := ⟨q_Sm_isSwitched, ⟨by decide, by decide⟩, (mx_w (List.mem_of_getElem? (i := 650) (by decide +kernel)) (by decide +kernel)), (mx_w (List.mem_of_getElem? (i := 409) (by decide +kernel)) (by decide +kernel)), (mx_w (List.mem_of_getElem? (i := 410) (by decide +kernel)) (by decide +kernel)), rfl⟩
theorem s_MT_entry_172 : mx_sV M_MT_entry M_Tr_cutOf 172 2 7 12 T_Tr := ⟨q_Tr_cutOf, ⟨by decide, by decide⟩, (mx_w (List.mem_of_getElem? (i := 651) (by decide +kernel)) (by decide +kernel)), (mx_w (List.mem_of_getElem? (i := 652) (by decide +kernel)) (by decide +kernel)), (mx_w (List.mem_of_getElem? (i := 653) (by decide +kernel)) (by decide +kernel)), rfl⟩
theorem s_MT_entry_175 : mx_sV M_MT_entry M_Tr_sourceJoinOf 175 2 7 12 T_Tr := ⟨q_Tr_sourceJoinOf, ⟨by decide, by decide⟩, (mx_w (List.mem_of_getElem? (i := 655) (by decide +kernel)) (by decide +kernel)), (mx_w (List.mem_of_getElem? (i := 546) (by decide +kernel)) (by decide +kernel)), (mx_w (List.mem_of_getElem? (i := 547) (by decide +kernel)) (by decide +kernel)), rfl⟩
theorem s_MT_messages_178 : mx_sV M_MT_messages M_Ta_countOf 178 1 6 1 T_Ta := ⟨q_Ta_countOf, ⟨by decide, by decide⟩, (mx_w (List.mem_of_getElem? (i := 660) (by decide +kernel)) (by decide +kernel)), (mx_w (List.mem_of_getElem? (i := 661) (by decide +kernel)) (by decide +kernel)), (mx_w (List.mem_of_getElem? (i := 662) (by decide +kernel)) (by decide +kernel)), rfl⟩
theorem s_MT_lose_9 : mx_sS M_MT_lose M_MT_isRouter 9 1 := ⟨q_MT_isRouter, ⟨by decide, by decide⟩, (mx_w (List.mem_of_getElem? (i := 70) (by decide +kernel)) (by decide +kernel)), (mx_w (List.mem_of_getElem? (i := 71) (by decide +kernel)) (by decide +kernel))⟩
theorem s_MT_lose_181 : mx_sV M_MT_lose M_La_setLosses 181 2 2 5 T_La := ⟨q_La_setLosses, ⟨by decide, by decide⟩, (mx_w (List.mem_of_getElem? (i := 668) (by decide +kernel)) (by decide +kernel)), (mx_w (List.mem_of_getElem? (i := 669) (by decide +kernel)) (by decide +kernel)), (mx_w (List.mem_of_getElem? (i := 670) (by decide +kernel)) (by decide +kernel)), rfl⟩
theorem s_MT_publish_9 : mx_sS M_MT_publish M_MT_isRouter 9 1 := ⟨q_MT_isRouter, ⟨by decide, by decide⟩, (mx_w (List.mem_of_getElem? (i := 70) (by decide +kernel)) (by decide +kernel)), (mx_w (List.mem_of_getElem? (i := 71) (by decide +kernel)) (by decide +kernel))⟩
theorem s_MT_publish_101 : mx_sS M_MT_publish M_MT_isGroup 101 1 := ⟨q_MT_isGroup, ⟨by decide, by decide⟩, (mx_w (List.mem_of_getElem? (i := 445) (by decide +kernel)) (by decide +kernel)), (mx_w (List.mem_of_getElem? (i := 446) (by decide +kernel)) (by decide +kernel))⟩
theorem s_MT_publish_184 : mx_sV M_MT_publish M_Fi_isFull 184 0 1 13 T_Fi := ⟨q_Fi_isFull, ⟨by decide, by decide⟩, (mx_w (List.mem_of_getElem? (i := 676) (by decide +kernel)) (by decide +kernel)), (mx_w (List.mem_of_getElem? (i := 677) (by decide +kernel)) (by decide +kernel)), (mx_w (List.mem_of_getElem? (i := 678) (by decide +kernel)) (by decide +kernel)), rfl⟩
theorem s_MT_publish_187 : mx_sV M_MT_publish M_Fi_create 187 3 1 13 T_Fi := ⟨q_Fi_create, ⟨by decide, by decide⟩, (mx_w (List.mem_of_getElem? (i := 680) (by decide +kernel)) (by decide +kernel)), (mx_w (List.mem_of_getElem? (i := 681) (by decide +kernel)) (by decide +kernel)), (mx_w (List.mem_of_getElem? (i := 682) (by decide +kernel)) (by decide +kernel)), rfl⟩
theorem s_MT_emit_191 : mx_sV M_MT_emit M_Fi_exists 191 1 1 13 T_Fi := ⟨q_Fi_exists, ⟨by decide, by decide⟩, (mx_w (List.mem_of_getElem? (i := 688) (by decide +kernel)) (by decide +kernel)), (mx_w (List.mem_of_getElem? (i := 689) (by decide +kernel)) (by decide +kernel)), (mx_w (List.mem_of_getElem? (i := 690) (by decide +kernel)) (by decide +kernel)), rfl⟩
theorem s_MT_emit_194 : mx_sV M_MT_emit M_Fi_sourceOf 194 1 1 13 T_Fi := ⟨q_Fi_sourceOf, ⟨by decide, by decide⟩, (mx_w (List.mem_of_getElem? (i := 692) (by decide +kernel)) (by decide +kernel)), (mx_w (List.mem_of_getElem? (i := 693) (by decide +kernel)) (by decide +kernel)), (mx_w (List.mem_of_getElem? (i := 694) (by decide +kernel)) (by decide +kernel)), rfl⟩
theorem s_MT_emit_197 : mx_sV M_MT_emit M_Fi_groupOf 197 1 1 13 T_Fi := ⟨q_Fi_groupOf, ⟨by decide, by decide⟩, (mx_w (List.mem_of_getElem? (i := 696) (by decide +kernel)) (by decide +kernel)), (mx_w (List.mem_of_getElem? (i := 697) (by decide +kernel)) (by decide +kernel)), (mx_w (List.mem_of_getElem? (i := 698) (by decide +kernel)) (by decide +kernel)), rfl⟩
theorem s_MT_emit_200 : mx_sV M_MT_emit M_MT_send 200 2 8 8 T_MT := ⟨q_MT_send, ⟨by decide, by decide⟩, (mx_w (List.mem_of_getElem? (i := 700) (by decide +kernel)) (by decide +kernel)), (mx_w (List.mem_of_getElem? (i := 510) (by decide +kernel)) (by decide +kernel)), (mx_w (List.mem_of_getElem? (i := 511) (by decide +kernel)) (by decide +kernel)), rfl⟩
theorem s_MT_emit_203 : mx_sV M_MT_emit M_Fi_takeTurn 203 1 1 13 T_Fi := ⟨q_Fi_takeTurn, ⟨by decide, by decide⟩, (mx_w (List.mem_of_getElem? (i := 701) (by decide +kernel)) (by decide +kernel)), (mx_w (List.mem_of_getElem? (i := 702) (by decide +kernel)) (by decide +kernel)), (mx_w (List.mem_of_getElem? (i := 703) (by decide +kernel)) (by decide +kernel)), rfl⟩
theorem s_MT_emit_141 : mx_sV M_MT_emit M_Pa_heardBy 141 0 4 12 T_Pa := ⟨q_Pa_heardBy, ⟨by decide, by decide⟩, (mx_w (List.mem_of_getElem? (i := 598) (by decide +kernel)) (by decide +kernel)), (mx_w (List.mem_of_getElem? (i := 599) (by decide +kernel)) (by decide +kernel)), (mx_w (List.mem_of_getElem? (i := 600) (by decide +kernel)) (by decide +kernel)), rfl⟩
theorem s_MT_emit_206 : mx_sV M_MT_emit M_Fi_deliver 206 3 1 13 T_Fi := ⟨q_Fi_deliver, ⟨by decide, by decide⟩, (mx_w (List.mem_of_getElem? (i := 706) (by decide +kernel)) (by decide +kernel)), (mx_w (List.mem_of_getElem? (i := 707) (by decide +kernel)) (by decide +kernel)), (mx_w (List.mem_of_getElem? (i := 708) (by decide +kernel)) (by decide +kernel)), rfl⟩
theorem s_Fi_takeTurn_57 : mx_sSN M_Fi_takeTurn M_MT_holds 57 2 "MulticastTrees" := ⟨q_MT_holds, ⟨by decide, by decide⟩, (List.mem_of_getElem? (i := 705) (by decide +kernel)), (mx_w (List.mem_of_getElem? (i := 413) (by decide +kernel)) (by decide +kernel))⟩
theorem s_Fi_deliver_57 : mx_sSN M_Fi_deliver M_MT_holds 57 2 "MulticastTrees" := ⟨q_MT_holds, ⟨by decide, by decide⟩, (List.mem_of_getElem? (i := 705) (by decide +kernel)), (mx_w (List.mem_of_getElem? (i := 413) (by decide +kernel)) (by decide +kernel))⟩
theorem s_Fi_deliver_61 : mx_sV M_Fi_deliver M_La_hasMembers 61 2 2 5 T_La := ⟨q_La_hasMembers, ⟨by decide, by decide⟩, (mx_w (List.mem_of_getElem? (i := 710) (by decide +kernel)) (by decide +kernel)), (mx_w (List.mem_of_getElem? (i := 470) (by decide +kernel)) (by decide +kernel)), (mx_w (List.mem_of_getElem? (i := 471) (by decide +kernel)) (by decide +kernel)), rfl⟩
theorem s_Fi_deliver_66 : mx_sV M_Fi_deliver M_Fi_store 66 3 1 13 T_Fi := ⟨q_Fi_store, ⟨by decide, by decide⟩, (mx_w (List.mem_of_getElem? (i := 711) (by decide +kernel)) (by decide +kernel)), (mx_w (List.mem_of_getElem? (i := 713) (by decide +kernel)) (by decide +kernel)), (mx_w (List.mem_of_getElem? (i := 20) (by decide +kernel)) (by decide +kernel)), rfl⟩
theorem s_Fi_store_70 : mx_sS M_Fi_store M_JM_min 70 2 := ⟨q_JM_min, ⟨by decide, by decide⟩, (mx_w (List.mem_of_getElem? (i := 715) (by decide +kernel)) (by decide +kernel)), (mx_w (List.mem_of_getElem? (i := 119) (by decide +kernel)) (by decide +kernel))⟩
theorem s_Fi_store_76 : mx_sS M_Fi_store M_JM_max 76 2 := ⟨q_JM_max, ⟨by decide, by decide⟩, (mx_w (List.mem_of_getElem? (i := 716) (by decide +kernel)) (by decide +kernel)), (mx_w (List.mem_of_getElem? (i := 717) (by decide +kernel)) (by decide +kernel))⟩
theorem s_MT_requests_191 : mx_sV M_MT_requests M_Fi_exists 191 1 1 13 T_Fi := ⟨q_Fi_exists, ⟨by decide, by decide⟩, (mx_w (List.mem_of_getElem? (i := 688) (by decide +kernel)) (by decide +kernel)), (mx_w (List.mem_of_getElem? (i := 689) (by decide +kernel)) (by decide +kernel)), (mx_w (List.mem_of_getElem? (i := 690) (by decide +kernel)) (by decide +kernel)), rfl⟩
theorem s_MT_requests_209 : mx_sV M_MT_requests M_Fi_askAgain 209 1 1 13 T_Fi := ⟨q_Fi_askAgain, ⟨by decide, by decide⟩, (mx_w (List.mem_of_getElem? (i := 723) (by decide +kernel)) (by decide +kernel)), (mx_w (List.mem_of_getElem? (i := 724) (by decide +kernel)) (by decide +kernel)), (mx_w (List.mem_of_getElem? (i := 725) (by decide +kernel)) (by decide +kernel)), rfl⟩
theorem s_Fi_askAgain_79 : mx_sV M_Fi_askAgain M_Fi_drawWaits 79 1 1 13 T_Fi := ⟨q_Fi_drawWaits, ⟨by decide, by decide⟩, (mx_w (List.mem_of_getElem? (i := 727) (by decide +kernel)) (by decide +kernel)), (mx_w (List.mem_of_getElem? (i := 729) (by decide +kernel)) (by decide +kernel)), (mx_w (List.mem_of_getElem? (i := 21) (by decide +kernel)) (by decide +kernel)), rfl⟩
theorem s_Fi_askAgain_83 : mx_sV M_Fi_askAgain M_Fi_missingAt 83 2 1 13 T_Fi := ⟨q_Fi_missingAt, ⟨by decide, by decide⟩, (mx_w (List.mem_of_getElem? (i := 736) (by decide +kernel)) (by decide +kernel)), (mx_w (List.mem_of_getElem? (i := 738) (by decide +kernel)) (by decide +kernel)), (mx_w (List.mem_of_getElem? (i := 23) (by decide +kernel)) (by decide +kernel)), rfl⟩
theorem s_Fi_askAgain_86 : mx_sV M_Fi_askAgain M_Ta_count 86 1 6 1 T_Ta := ⟨q_Ta_count, ⟨by decide, by decide⟩, (mx_w (List.mem_of_getElem? (i := 745) (by decide +kernel)) (by decide +kernel)), (mx_w (List.mem_of_getElem? (i := 394) (by decide +kernel)) (by decide +kernel)), (mx_w (List.mem_of_getElem? (i := 395) (by decide +kernel)) (by decide +kernel)), rfl⟩
theorem s_Fi_drawWaits_90 : mx_sV M_Fi_drawWaits M_Fi_takesPart 90 2 1 13 T_Fi := ⟨q_Fi_takesPart, ⟨by decide, by decide⟩, (mx_w (List.mem_of_getElem? (i := 731) (by decide +kernel)) (by decide +kernel)), (mx_w (List.mem_of_getElem? (i := 733) (by decide +kernel)) (by decide +kernel)), (mx_w (List.mem_of_getElem? (i := 22) (by decide +kernel)) (by decide +kernel)), rfl⟩
theorem s_Fi_drawWaits_93 : mx_sV M_Fi_drawWaits M_Fi_draw 93 0 1 13 T_Fi := ⟨q_Fi_draw, ⟨by decide, by decide⟩, (mx_w (List.mem_of_getElem? (i := 740) (by decide +kernel)) (by decide +kernel)), (mx_w (List.mem_of_getElem? (i := 742) (by decide +kernel)) (by decide +kernel)), (mx_w (List.mem_of_getElem? (i := 24) (by decide +kernel)) (by decide +kernel)), rfl⟩
theorem s_Fi_takesPart_97 : mx_sV M_Fi_takesPart M_Ne_areConnected 97 2 3 4 T_Ne := ⟨q_Ne_areConnected, ⟨by decide, by decide⟩, (mx_w (List.mem_of_getElem? (i := 735) (by decide +kernel)) (by decide +kernel)), (mx_w (List.mem_of_getElem? (i := 126) (by decide +kernel)) (by decide +kernel)), (mx_w (List.mem_of_getElem? (i := 127) (by decide +kernel)) (by decide +kernel)), rfl⟩
theorem s_Fi_takesPart_61 : mx_sV M_Fi_takesPart M_La_hasMembers 61 2 2 5 T_La := ⟨q_La_hasMembers, ⟨by decide, by decide⟩, (mx_w (List.mem_of_getElem? (i := 710) (by decide +kernel)) (by decide +kernel)), (mx_w (List.mem_of_getElem? (i := 470) (by decide +kernel)) (by decide +kernel)), (mx_w (List.mem_of_getElem? (i := 471) (by decide +kernel)) (by decide +kernel)), rfl⟩
theorem s_Fi_takesPart_83 : mx_sV M_Fi_takesPart M_Fi_missingAt 83 2 1 13 T_Fi := ⟨q_Fi_missingAt, ⟨by decide, by decide⟩, (mx_w (List.mem_of_getElem? (i := 736) (by decide +kernel)) (by decide +kernel)), (mx_w (List.mem_of_getElem? (i := 738) (by decide +kernel)) (by decide +kernel)), (mx_w (List.mem_of_getElem? (i := 23) (by decide +kernel)) (by decide +kernel)), rfl⟩
theorem s_MT_have_191 : mx_sV M_MT_have M_Fi_exists 191 1 1 13 T_Fi := ⟨q_Fi_exists, ⟨by decide, by decide⟩, (mx_w (List.mem_of_getElem? (i := 688) (by decide +kernel)) (by decide +kernel)), (mx_w (List.mem_of_getElem? (i := 689) (by decide +kernel)) (by decide +kernel)), (mx_w (List.mem_of_getElem? (i := 690) (by decide +kernel)) (by decide +kernel)), rfl⟩
theorem s_MT_have_9 : mx_sS M_MT_have M_MT_isRouter 9 1 := ⟨q_MT_isRouter, ⟨by decide, by decide⟩, (mx_w (List.mem_of_getElem? (i := 70) (by decide +kernel)) (by decide +kernel)), (mx_w (List.mem_of_getElem? (i := 71) (by decide +kernel)) (by decide +kernel))⟩
theorem s_MT_have_212 : mx_sV M_MT_have M_Fi_blocksAt 212 2 1 13 T_Fi := ⟨q_Fi_blocksAt, ⟨by decide, by decide⟩, (mx_w (List.mem_of_getElem? (i := 750) (by decide +kernel)) (by decide +kernel)), (mx_w (List.mem_of_getElem? (i := 751) (by decide +kernel)) (by decide +kernel)), (mx_w (List.mem_of_getElem? (i := 752) (by decide +kernel)) (by decide +kernel)), rfl⟩
theorem so_Mo_init_1 : mx_sO M_Mo_init 1 := ⟨(mx_w (List.mem_of_getElem? (i := 762) (by decide +kernel)) (by decide +kernel)), w_ob, w_oc⟩
theorem s_Mo_init_99 : mx_sS M_Mo_init M_Mo_router 99 1 := ⟨q_Mo_router, ⟨by decide, by decide⟩, (mx_w (List.mem_of_getElem? (i := 763) (by decide +kernel)) (by decide +kernel)), (mx_w (List.mem_of_getElem? (i := 764) (by decide +kernel)) (by decide +kernel))⟩
theorem s_Mo_init_106 : mx_sV M_Mo_init M_Mo_ways 106 0 9 36 T_Mo := ⟨q_Mo_ways, ⟨by decide, by decide⟩, (mx_w (List.mem_of_getElem? (i := 766) (by decide +kernel)) (by decide +kernel)), (mx_w (List.mem_of_getElem? (i := 768) (by decide +kernel)) (by decide +kernel)), (mx_w (List.mem_of_getElem? (i := 25) (by decide +kernel)) (by decide +kernel)), rfl⟩
theorem s_Mo_link_99 : mx_sS M_Mo_link M_Mo_router 99 1 := ⟨q_Mo_router, ⟨by decide, by decide⟩, (mx_w (List.mem_of_getElem? (i := 763) (by decide +kernel)) (by decide +kernel)), (mx_w (List.mem_of_getElem? (i := 764) (by decide +kernel)) (by decide +kernel))⟩
theorem s_Mo_link_106 : mx_sV M_Mo_link M_Mo_ways 106 0 9 36 T_Mo := ⟨q_Mo_ways, ⟨by decide, by decide⟩, (mx_w (List.mem_of_getElem? (i := 766) (by decide +kernel)) (by decide +kernel)), (mx_w (List.mem_of_getElem? (i := 768) (by decide +kernel)) (by decide +kernel)), (mx_w (List.mem_of_getElem? (i := 25) (by decide +kernel)) (by decide +kernel)), rfl⟩
theorem s_Mo_link_109 : mx_sV M_Mo_link M_Mo_settle 109 0 9 36 T_Mo := ⟨q_Mo_settle, ⟨by decide, by decide⟩, (mx_w (List.mem_of_getElem? (i := 884) (by decide +kernel)) (by decide +kernel)), (mx_w (List.mem_of_getElem? (i := 886) (by decide +kernel)) (by decide +kernel)), (mx_w (List.mem_of_getElem? (i := 26) (by decide +kernel)) (by decide +kernel)), rfl⟩
theorem s_Mo_settle_153 : mx_sV M_Mo_settle M_Mo_round 153 0 9 36 T_Mo := ⟨q_Mo_round, ⟨by decide, by decide⟩, (mx_w (List.mem_of_getElem? (i := 888) (by decide +kernel)) (by decide +kernel)), (mx_w (List.mem_of_getElem? (i := 890) (by decide +kernel)) (by decide +kernel)), (mx_w (List.mem_of_getElem? (i := 27) (by decide +kernel)) (by decide +kernel)), rfl⟩
theorem s_Mo_settle_157 : mx_sV M_Mo_settle M_Mo_tell 157 4 9 36 T_Mo := ⟨q_Mo_tell, ⟨by decide, by decide⟩, (mx_w (List.mem_of_getElem? (i := 920) (by decide +kernel)) (by decide +kernel)), (mx_w (List.mem_of_getElem? (i := 922) (by decide +kernel)) (by decide +kernel)), (mx_w (List.mem_of_getElem? (i := 35) (by decide +kernel)) (by decide +kernel)), rfl⟩
theorem s_Mo_round_144 : mx_sV M_Mo_round M_Mo_sharedDue 144 2 9 36 T_Mo := ⟨q_Mo_sharedDue, ⟨by decide, by decide⟩, (mx_w (List.mem_of_getElem? (i := 892) (by decide +kernel)) (by decide +kernel)), (mx_w (List.mem_of_getElem? (i := 894) (by decide +kernel)) (by decide +kernel)), (mx_w (List.mem_of_getElem? (i := 28) (by decide +kernel)) (by decide +kernel)), rfl⟩
theorem s_Mo_round_147 : mx_sV M_Mo_round M_Mo_cutDue 147 2 9 36 T_Mo := ⟨q_Mo_cutDue, ⟨by decide, by decide⟩, (mx_w (List.mem_of_getElem? (i := 900) (by decide +kernel)) (by decide +kernel)), (mx_w (List.mem_of_getElem? (i := 902) (by decide +kernel)) (by decide +kernel)), (mx_w (List.mem_of_getElem? (i := 30) (by decide +kernel)) (by decide +kernel)), rfl⟩
theorem s_Mo_round_150 : mx_sV M_Mo_round M_Mo_pullDue 150 2 9 36 T_Mo := ⟨q_Mo_pullDue, ⟨by decide, by decide⟩, (mx_w (List.mem_of_getElem? (i := 916) (by decide +kernel)) (by decide +kernel)), (mx_w (List.mem_of_getElem? (i := 918) (by decide +kernel)) (by decide +kernel)), (mx_w (List.mem_of_getElem? (i := 34) (by decide +kernel)) (by decide +kernel)), rfl⟩
theorem s_Mo_sharedDue_130 : mx_sV M_Mo_sharedDue M_Mo_onLan 130 2 9 36 T_Mo := ⟨q_Mo_onLan, ⟨by decide, by decide⟩, (mx_w (List.mem_of_getElem? (i := 896) (by decide +kernel)) (by decide +kernel)), (mx_w (List.mem_of_getElem? (i := 898) (by decide +kernel)) (by decide +kernel)), (mx_w (List.mem_of_getElem? (i := 29) (by decide +kernel)) (by decide +kernel)), rfl⟩
theorem s_Mo_cutDue_140 : mx_sV M_Mo_cutDue M_Mo_many 140 3 9 36 T_Mo := ⟨q_Mo_many, ⟨by decide, by decide⟩, (mx_w (List.mem_of_getElem? (i := 904) (by decide +kernel)) (by decide +kernel)), (mx_w (List.mem_of_getElem? (i := 906) (by decide +kernel)) (by decide +kernel)), (mx_w (List.mem_of_getElem? (i := 31) (by decide +kernel)) (by decide +kernel)), rfl⟩
theorem s_Mo_many_130 : mx_sV M_Mo_many M_Mo_onLan 130 2 9 36 T_Mo := ⟨q_Mo_onLan, ⟨by decide, by decide⟩, (mx_w (List.mem_of_getElem? (i := 896) (by decide +kernel)) (by decide +kernel)), (mx_w (List.mem_of_getElem? (i := 898) (by decide +kernel)) (by decide +kernel)), (mx_w (List.mem_of_getElem? (i := 29) (by decide +kernel)) (by decide +kernel)), rfl⟩
theorem s_Mo_many_137 : mx_sV M_Mo_many M_Mo_outer 137 3 9 36 T_Mo := ⟨q_Mo_outer, ⟨by decide, by decide⟩, (mx_w (List.mem_of_getElem? (i := 908) (by decide +kernel)) (by decide +kernel)), (mx_w (List.mem_of_getElem? (i := 910) (by decide +kernel)) (by decide +kernel)), (mx_w (List.mem_of_getElem? (i := 32) (by decide +kernel)) (by decide +kernel)), rfl⟩
theorem s_Mo_many_134 : mx_sV M_Mo_many M_Mo_inner 134 3 9 36 T_Mo := ⟨q_Mo_inner, ⟨by decide, by decide⟩, (mx_w (List.mem_of_getElem? (i := 912) (by decide +kernel)) (by decide +kernel)), (mx_w (List.mem_of_getElem? (i := 914) (by decide +kernel)) (by decide +kernel)), (mx_w (List.mem_of_getElem? (i := 33) (by decide +kernel)) (by decide +kernel)), rfl⟩
theorem s_Mo_outer_134 : mx_sV M_Mo_outer M_Mo_inner 134 3 9 36 T_Mo := ⟨q_Mo_inner, ⟨by decide, by decide⟩, (mx_w (List.mem_of_getElem? (i := 912) (by decide +kernel)) (by decide +kernel)), (mx_w (List.mem_of_getElem? (i := 914) (by decide +kernel)) (by decide +kernel)), (mx_w (List.mem_of_getElem? (i := 33) (by decide +kernel)) (by decide +kernel)), rfl⟩
theorem s_Mo_pullDue_140 : mx_sV M_Mo_pullDue M_Mo_many 140 3 9 36 T_Mo := ⟨q_Mo_many, ⟨by decide, by decide⟩, (mx_w (List.mem_of_getElem? (i := 904) (by decide +kernel)) (by decide +kernel)), (mx_w (List.mem_of_getElem? (i := 906) (by decide +kernel)) (by decide +kernel)), (mx_w (List.mem_of_getElem? (i := 31) (by decide +kernel)) (by decide +kernel)), rfl⟩
theorem s_Mo_distance_99 : mx_sS M_Mo_distance M_Mo_router 99 1 := ⟨q_Mo_router, ⟨by decide, by decide⟩, (mx_w (List.mem_of_getElem? (i := 763) (by decide +kernel)) (by decide +kernel)), (mx_w (List.mem_of_getElem? (i := 764) (by decide +kernel)) (by decide +kernel))⟩
theorem s_Mo_hop_99 : mx_sS M_Mo_hop M_Mo_router 99 1 := ⟨q_Mo_router, ⟨by decide, by decide⟩, (mx_w (List.mem_of_getElem? (i := 763) (by decide +kernel)) (by decide +kernel)), (mx_w (List.mem_of_getElem? (i := 764) (by decide +kernel)) (by decide +kernel))⟩
theorem s_Mo_join_118 : mx_sV M_Mo_join M_Mo_isHost 118 3 9 36 T_Mo := ⟨q_Mo_isHost, ⟨by decide, by decide⟩, (mx_w (List.mem_of_getElem? (i := 936) (by decide +kernel)) (by decide +kernel)), (mx_w (List.mem_of_getElem? (i := 938) (by decide +kernel)) (by decide +kernel)), (mx_w (List.mem_of_getElem? (i := 36) (by decide +kernel)) (by decide +kernel)), rfl⟩
theorem s_Mo_join_122 : mx_sV M_Mo_join M_Mo_report 122 3 9 36 T_Mo := ⟨q_Mo_report, ⟨by decide, by decide⟩, (mx_w (List.mem_of_getElem? (i := 943) (by decide +kernel)) (by decide +kernel)), (mx_w (List.mem_of_getElem? (i := 945) (by decide +kernel)) (by decide +kernel)), (mx_w (List.mem_of_getElem? (i := 37) (by decide +kernel)) (by decide +kernel)), rfl⟩
theorem s_Mo_join_109 : mx_sV M_Mo_join M_Mo_settle 109 0 9 36 T_Mo := ⟨q_Mo_settle, ⟨by decide, by decide⟩, (mx_w (List.mem_of_getElem? (i := 884) (by decide +kernel)) (by decide +kernel)), (mx_w (List.mem_of_getElem? (i := 886) (by decide +kernel)) (by decide +kernel)), (mx_w (List.mem_of_getElem? (i := 26) (by decide +kernel)) (by decide +kernel)), rfl⟩
theorem s_Mo_isHost_99 : mx_sS M_Mo_isHost M_Mo_router 99 1 := ⟨q_Mo_router, ⟨by decide, by decide⟩, (mx_w (List.mem_of_getElem? (i := 763) (by decide +kernel)) (by decide +kernel)), (mx_w (List.mem_of_getElem? (i := 764) (by decide +kernel)) (by decide +kernel))⟩
theorem s_Mo_isHost_115 : mx_sS M_Mo_isHost M_Mo_isGroup 115 1 := ⟨q_Mo_isGroup, ⟨by decide, by decide⟩, (mx_w (List.mem_of_getElem? (i := 940) (by decide +kernel)) (by decide +kernel)), (mx_w (List.mem_of_getElem? (i := 941) (by decide +kernel)) (by decide +kernel))⟩
theorem s_Mo_leave_118 : mx_sV M_Mo_leave M_Mo_isHost 118 3 9 36 T_Mo := ⟨q_Mo_isHost, ⟨by decide, by decide⟩, (mx_w (List.mem_of_getElem? (i := 936) (by decide +kernel)) (by decide +kernel)), (mx_w (List.mem_of_getElem? (i := 938) (by decide +kernel)) (by decide +kernel)), (mx_w (List.mem_of_getElem? (i := 36) (by decide +kernel)) (by decide +kernel)), rfl⟩
theorem s_Mo_leave_126 : mx_sV M_Mo_leave M_Mo_lowest 126 2 9 36 T_Mo := ⟨q_Mo_lowest, ⟨by decide, by decide⟩, (mx_w (List.mem_of_getElem? (i := 951) (by decide +kernel)) (by decide +kernel)), (mx_w (List.mem_of_getElem? (i := 953) (by decide +kernel)) (by decide +kernel)), (mx_w (List.mem_of_getElem? (i := 38) (by decide +kernel)) (by decide +kernel)), rfl⟩
theorem s_Mo_leave_122 : mx_sV M_Mo_leave M_Mo_report 122 3 9 36 T_Mo := ⟨q_Mo_report, ⟨by decide, by decide⟩, (mx_w (List.mem_of_getElem? (i := 943) (by decide +kernel)) (by decide +kernel)), (mx_w (List.mem_of_getElem? (i := 945) (by decide +kernel)) (by decide +kernel)), (mx_w (List.mem_of_getElem? (i := 37) (by decide +kernel)) (by decide +kernel)), rfl⟩
theorem s_Mo_leave_109 : mx_sV M_Mo_leave M_Mo_settle 109 0 9 36 T_Mo := ⟨q_Mo_settle, ⟨by decide, by decide⟩, (mx_w (List.mem_of_getElem? (i := 884) (by decide +kernel)) (by decide +kernel)), (mx_w (List.mem_of_getElem? (i := 886) (by decide +kernel)) (by decide +kernel)), (mx_w (List.mem_of_getElem? (i := 26) (by decide +kernel)) (by decide +kernel)), rfl⟩
theorem s_Mo_marked_99 : mx_sS M_Mo_marked M_Mo_router 99 1 := ⟨q_Mo_router, ⟨by decide, by decide⟩, (mx_w (List.mem_of_getElem? (i := 763) (by decide +kernel)) (by decide +kernel)), (mx_w (List.mem_of_getElem? (i := 764) (by decide +kernel)) (by decide +kernel))⟩
theorem s_Mo_marked_115 : mx_sS M_Mo_marked M_Mo_isGroup 115 1 := ⟨q_Mo_isGroup, ⟨by decide, by decide⟩, (mx_w (List.mem_of_getElem? (i := 940) (by decide +kernel)) (by decide +kernel)), (mx_w (List.mem_of_getElem? (i := 941) (by decide +kernel)) (by decide +kernel))⟩
theorem s_Mo_marked_130 : mx_sV M_Mo_marked M_Mo_onLan 130 2 9 36 T_Mo := ⟨q_Mo_onLan, ⟨by decide, by decide⟩, (mx_w (List.mem_of_getElem? (i := 896) (by decide +kernel)) (by decide +kernel)), (mx_w (List.mem_of_getElem? (i := 898) (by decide +kernel)) (by decide +kernel)), (mx_w (List.mem_of_getElem? (i := 29) (by decide +kernel)) (by decide +kernel)), rfl⟩
theorem s_Mo_pass_126 : mx_sV M_Mo_pass M_Mo_lowest 126 2 9 36 T_Mo := ⟨q_Mo_lowest, ⟨by decide, by decide⟩, (mx_w (List.mem_of_getElem? (i := 951) (by decide +kernel)) (by decide +kernel)), (mx_w (List.mem_of_getElem? (i := 953) (by decide +kernel)) (by decide +kernel)), (mx_w (List.mem_of_getElem? (i := 38) (by decide +kernel)) (by decide +kernel)), rfl⟩
theorem s_Mo_pass_122 : mx_sV M_Mo_pass M_Mo_report 122 3 9 36 T_Mo := ⟨q_Mo_report, ⟨by decide, by decide⟩, (mx_w (List.mem_of_getElem? (i := 943) (by decide +kernel)) (by decide +kernel)), (mx_w (List.mem_of_getElem? (i := 945) (by decide +kernel)) (by decide +kernel)), (mx_w (List.mem_of_getElem? (i := 37) (by decide +kernel)) (by decide +kernel)), rfl⟩
theorem s_Mo_pass_109 : mx_sV M_Mo_pass M_Mo_settle 109 0 9 36 T_Mo := ⟨q_Mo_settle, ⟨by decide, by decide⟩, (mx_w (List.mem_of_getElem? (i := 884) (by decide +kernel)) (by decide +kernel)), (mx_w (List.mem_of_getElem? (i := 886) (by decide +kernel)) (by decide +kernel)), (mx_w (List.mem_of_getElem? (i := 26) (by decide +kernel)) (by decide +kernel)), rfl⟩
theorem s_Mo_shared_99 : mx_sS M_Mo_shared M_Mo_router 99 1 := ⟨q_Mo_router, ⟨by decide, by decide⟩, (mx_w (List.mem_of_getElem? (i := 763) (by decide +kernel)) (by decide +kernel)), (mx_w (List.mem_of_getElem? (i := 764) (by decide +kernel)) (by decide +kernel))⟩
theorem s_Mo_shared_115 : mx_sS M_Mo_shared M_Mo_isGroup 115 1 := ⟨q_Mo_isGroup, ⟨by decide, by decide⟩, (mx_w (List.mem_of_getElem? (i := 940) (by decide +kernel)) (by decide +kernel)), (mx_w (List.mem_of_getElem? (i := 941) (by decide +kernel)) (by decide +kernel))⟩
theorem s_Mo_entry_99 : mx_sS M_Mo_entry M_Mo_router 99 1 := ⟨q_Mo_router, ⟨by decide, by decide⟩, (mx_w (List.mem_of_getElem? (i := 763) (by decide +kernel)) (by decide +kernel)), (mx_w (List.mem_of_getElem? (i := 764) (by decide +kernel)) (by decide +kernel))⟩
theorem s_Mo_entry_115 : mx_sS M_Mo_entry M_Mo_isGroup 115 1 := ⟨q_Mo_isGroup, ⟨by decide, by decide⟩, (mx_w (List.mem_of_getElem? (i := 940) (by decide +kernel)) (by decide +kernel)), (mx_w (List.mem_of_getElem? (i := 941) (by decide +kernel)) (by decide +kernel))⟩
theorem s_Mo_entry_140 : mx_sV M_Mo_entry M_Mo_many 140 3 9 36 T_Mo := ⟨q_Mo_many, ⟨by decide, by decide⟩, (mx_w (List.mem_of_getElem? (i := 904) (by decide +kernel)) (by decide +kernel)), (mx_w (List.mem_of_getElem? (i := 906) (by decide +kernel)) (by decide +kernel)), (mx_w (List.mem_of_getElem? (i := 31) (by decide +kernel)) (by decide +kernel)), rfl⟩
theorem s_Mo_send_164 : mx_sV M_Mo_send M_Mo_refused 164 2 9 36 T_Mo := ⟨q_Mo_refused, ⟨by decide, by decide⟩, (mx_w (List.mem_of_getElem? (i := 979) (by decide +kernel)) (by decide +kernel)), (mx_w (List.mem_of_getElem? (i := 981) (by decide +kernel)) (by decide +kernel)), (mx_w (List.mem_of_getElem? (i := 39) (by decide +kernel)) (by decide +kernel)), rfl⟩
theorem s_Mo_send_167 : mx_sV M_Mo_send M_Mo_packet 167 2 9 36 T_Mo := ⟨q_Mo_packet, ⟨by decide, by decide⟩, (mx_w (List.mem_of_getElem? (i := 987) (by decide +kernel)) (by decide +kernel)), (mx_w (List.mem_of_getElem? (i := 989) (by decide +kernel)) (by decide +kernel)), (mx_w (List.mem_of_getElem? (i := 41) (by decide +kernel)) (by decide +kernel)), rfl⟩
theorem s_Mo_refused_99 : mx_sS M_Mo_refused M_Mo_router 99 1 := ⟨q_Mo_router, ⟨by decide, by decide⟩, (mx_w (List.mem_of_getElem? (i := 763) (by decide +kernel)) (by decide +kernel)), (mx_w (List.mem_of_getElem? (i := 764) (by decide +kernel)) (by decide +kernel))⟩
theorem s_Mo_refused_115 : mx_sS M_Mo_refused M_Mo_isGroup 115 1 := ⟨q_Mo_isGroup, ⟨by decide, by decide⟩, (mx_w (List.mem_of_getElem? (i := 940) (by decide +kernel)) (by decide +kernel)), (mx_w (List.mem_of_getElem? (i := 941) (by decide +kernel)) (by decide +kernel))⟩
theorem s_Mo_refused_161 : mx_sV M_Mo_refused M_Mo_runs 161 1 9 36 T_Mo := ⟨q_Mo_runs, ⟨by decide, by decide⟩, (mx_w (List.mem_of_getElem? (i := 983) (by decide +kernel)) (by decide +kernel)), (mx_w (List.mem_of_getElem? (i := 985) (by decide +kernel)) (by decide +kernel)), (mx_w (List.mem_of_getElem? (i := 40) (by decide +kernel)) (by decide +kernel)), rfl⟩
theorem s_Mo_packet_140 : mx_sV M_Mo_packet M_Mo_many 140 3 9 36 T_Mo := ⟨q_Mo_many, ⟨by decide, by decide⟩, (mx_w (List.mem_of_getElem? (i := 904) (by decide +kernel)) (by decide +kernel)), (mx_w (List.mem_of_getElem? (i := 906) (by decide +kernel)) (by decide +kernel)), (mx_w (List.mem_of_getElem? (i := 31) (by decide +kernel)) (by decide +kernel)), rfl⟩
theorem s_Mo_packet_182 : mx_sV M_Mo_packet M_Mo_register 182 2 9 36 T_Mo := ⟨q_Mo_register, ⟨by decide, by decide⟩, (mx_w (List.mem_of_getElem? (i := 991) (by decide +kernel)) (by decide +kernel)), (mx_w (List.mem_of_getElem? (i := 993) (by decide +kernel)) (by decide +kernel)), (mx_w (List.mem_of_getElem? (i := 42) (by decide +kernel)) (by decide +kernel)), rfl⟩
theorem s_Mo_packet_185 : mx_sV M_Mo_packet M_Mo_putOut 185 3 9 36 T_Mo := ⟨q_Mo_putOut, ⟨by decide, by decide⟩, (mx_w (List.mem_of_getElem? (i := 995) (by decide +kernel)) (by decide +kernel)), (mx_w (List.mem_of_getElem? (i := 997) (by decide +kernel)) (by decide +kernel)), (mx_w (List.mem_of_getElem? (i := 43) (by decide +kernel)) (by decide +kernel)), rfl⟩
theorem s_Mo_packet_188 : mx_sV M_Mo_packet M_Mo_arrive 188 2 9 36 T_Mo := ⟨q_Mo_arrive, ⟨by decide, by decide⟩, (mx_w (List.mem_of_getElem? (i := 999) (by decide +kernel)) (by decide +kernel)), (mx_w (List.mem_of_getElem? (i := 1001) (by decide +kernel)) (by decide +kernel)), (mx_w (List.mem_of_getElem? (i := 44) (by decide +kernel)) (by decide +kernel)), rfl⟩
theorem s_Mo_register_140 : mx_sV M_Mo_register M_Mo_many 140 3 9 36 T_Mo := ⟨q_Mo_many, ⟨by decide, by decide⟩, (mx_w (List.mem_of_getElem? (i := 904) (by decide +kernel)) (by decide +kernel)), (mx_w (List.mem_of_getElem? (i := 906) (by decide +kernel)) (by decide +kernel)), (mx_w (List.mem_of_getElem? (i := 31) (by decide +kernel)) (by decide +kernel)), rfl⟩
theorem s_Mo_putOut_130 : mx_sV M_Mo_putOut M_Mo_onLan 130 2 9 36 T_Mo := ⟨q_Mo_onLan, ⟨by decide, by decide⟩, (mx_w (List.mem_of_getElem? (i := 896) (by decide +kernel)) (by decide +kernel)), (mx_w (List.mem_of_getElem? (i := 898) (by decide +kernel)) (by decide +kernel)), (mx_w (List.mem_of_getElem? (i := 29) (by decide +kernel)) (by decide +kernel)), rfl⟩
theorem s_Mo_putOut_137 : mx_sV M_Mo_putOut M_Mo_outer 137 3 9 36 T_Mo := ⟨q_Mo_outer, ⟨by decide, by decide⟩, (mx_w (List.mem_of_getElem? (i := 908) (by decide +kernel)) (by decide +kernel)), (mx_w (List.mem_of_getElem? (i := 910) (by decide +kernel)) (by decide +kernel)), (mx_w (List.mem_of_getElem? (i := 32) (by decide +kernel)) (by decide +kernel)), rfl⟩
theorem s_Mo_putOut_134 : mx_sV M_Mo_putOut M_Mo_inner 134 3 9 36 T_Mo := ⟨q_Mo_inner, ⟨by decide, by decide⟩, (mx_w (List.mem_of_getElem? (i := 912) (by decide +kernel)) (by decide +kernel)), (mx_w (List.mem_of_getElem? (i := 914) (by decide +kernel)) (by decide +kernel)), (mx_w (List.mem_of_getElem? (i := 33) (by decide +kernel)) (by decide +kernel)), rfl⟩
theorem s_Mo_arrive_130 : mx_sV M_Mo_arrive M_Mo_onLan 130 2 9 36 T_Mo := ⟨q_Mo_onLan, ⟨by decide, by decide⟩, (mx_w (List.mem_of_getElem? (i := 896) (by decide +kernel)) (by decide +kernel)), (mx_w (List.mem_of_getElem? (i := 898) (by decide +kernel)) (by decide +kernel)), (mx_w (List.mem_of_getElem? (i := 29) (by decide +kernel)) (by decide +kernel)), rfl⟩
theorem s_Mo_arrive_109 : mx_sV M_Mo_arrive M_Mo_settle 109 0 9 36 T_Mo := ⟨q_Mo_settle, ⟨by decide, by decide⟩, (mx_w (List.mem_of_getElem? (i := 884) (by decide +kernel)) (by decide +kernel)), (mx_w (List.mem_of_getElem? (i := 886) (by decide +kernel)) (by decide +kernel)), (mx_w (List.mem_of_getElem? (i := 26) (by decide +kernel)) (by decide +kernel)), rfl⟩
theorem s_Mo_lose_99 : mx_sS M_Mo_lose M_Mo_router 99 1 := ⟨q_Mo_router, ⟨by decide, by decide⟩, (mx_w (List.mem_of_getElem? (i := 763) (by decide +kernel)) (by decide +kernel)), (mx_w (List.mem_of_getElem? (i := 764) (by decide +kernel)) (by decide +kernel))⟩
theorem s_Mo_publish_99 : mx_sS M_Mo_publish M_Mo_router 99 1 := ⟨q_Mo_router, ⟨by decide, by decide⟩, (mx_w (List.mem_of_getElem? (i := 763) (by decide +kernel)) (by decide +kernel)), (mx_w (List.mem_of_getElem? (i := 764) (by decide +kernel)) (by decide +kernel))⟩
theorem s_Mo_publish_115 : mx_sS M_Mo_publish M_Mo_isGroup 115 1 := ⟨q_Mo_isGroup, ⟨by decide, by decide⟩, (mx_w (List.mem_of_getElem? (i := 940) (by decide +kernel)) (by decide +kernel)), (mx_w (List.mem_of_getElem? (i := 941) (by decide +kernel)) (by decide +kernel))⟩
theorem s_Mo_emit_194 : mx_sV M_Mo_emit M_Mo_isFile 194 1 9 36 T_Mo := ⟨q_Mo_isFile, ⟨by decide, by decide⟩, (mx_w (List.mem_of_getElem? (i := 1031) (by decide +kernel)) (by decide +kernel)), (mx_w (List.mem_of_getElem? (i := 1033) (by decide +kernel)) (by decide +kernel)), (mx_w (List.mem_of_getElem? (i := 45) (by decide +kernel)) (by decide +kernel)), rfl⟩
theorem s_Mo_emit_164 : mx_sV M_Mo_emit M_Mo_refused 164 2 9 36 T_Mo := ⟨q_Mo_refused, ⟨by decide, by decide⟩, (mx_w (List.mem_of_getElem? (i := 979) (by decide +kernel)) (by decide +kernel)), (mx_w (List.mem_of_getElem? (i := 981) (by decide +kernel)) (by decide +kernel)), (mx_w (List.mem_of_getElem? (i := 39) (by decide +kernel)) (by decide +kernel)), rfl⟩
theorem s_Mo_emit_197 : mx_sV M_Mo_emit M_Mo_take 197 1 9 36 T_Mo := ⟨q_Mo_take, ⟨by decide, by decide⟩, (mx_w (List.mem_of_getElem? (i := 1035) (by decide +kernel)) (by decide +kernel)), (mx_w (List.mem_of_getElem? (i := 1037) (by decide +kernel)) (by decide +kernel)), (mx_w (List.mem_of_getElem? (i := 46) (by decide +kernel)) (by decide +kernel)), rfl⟩
theorem s_Mo_emit_167 : mx_sV M_Mo_emit M_Mo_packet 167 2 9 36 T_Mo := ⟨q_Mo_packet, ⟨by decide, by decide⟩, (mx_w (List.mem_of_getElem? (i := 987) (by decide +kernel)) (by decide +kernel)), (mx_w (List.mem_of_getElem? (i := 989) (by decide +kernel)) (by decide +kernel)), (mx_w (List.mem_of_getElem? (i := 41) (by decide +kernel)) (by decide +kernel)), rfl⟩
theorem s_Mo_emit_126 : mx_sV M_Mo_emit M_Mo_lowest 126 2 9 36 T_Mo := ⟨q_Mo_lowest, ⟨by decide, by decide⟩, (mx_w (List.mem_of_getElem? (i := 951) (by decide +kernel)) (by decide +kernel)), (mx_w (List.mem_of_getElem? (i := 953) (by decide +kernel)) (by decide +kernel)), (mx_w (List.mem_of_getElem? (i := 38) (by decide +kernel)) (by decide +kernel)), rfl⟩
theorem s_Mo_requests_194 : mx_sV M_Mo_requests M_Mo_isFile 194 1 9 36 T_Mo := ⟨q_Mo_isFile, ⟨by decide, by decide⟩, (mx_w (List.mem_of_getElem? (i := 1031) (by decide +kernel)) (by decide +kernel)), (mx_w (List.mem_of_getElem? (i := 1033) (by decide +kernel)) (by decide +kernel)), (mx_w (List.mem_of_getElem? (i := 45) (by decide +kernel)) (by decide +kernel)), rfl⟩
theorem s_Mo_requests_126 : mx_sV M_Mo_requests M_Mo_lowest 126 2 9 36 T_Mo := ⟨q_Mo_lowest, ⟨by decide, by decide⟩, (mx_w (List.mem_of_getElem? (i := 951) (by decide +kernel)) (by decide +kernel)), (mx_w (List.mem_of_getElem? (i := 953) (by decide +kernel)) (by decide +kernel)), (mx_w (List.mem_of_getElem? (i := 38) (by decide +kernel)) (by decide +kernel)), rfl⟩
theorem s_Mo_requests_201 : mx_sV M_Mo_requests M_Mo_missing 201 2 9 36 T_Mo := ⟨q_Mo_missing, ⟨by decide, by decide⟩, (mx_w (List.mem_of_getElem? (i := 1043) (by decide +kernel)) (by decide +kernel)), (mx_w (List.mem_of_getElem? (i := 1045) (by decide +kernel)) (by decide +kernel)), (mx_w (List.mem_of_getElem? (i := 47) (by decide +kernel)) (by decide +kernel)), rfl⟩
theorem s_Mo_have_194 : mx_sV M_Mo_have M_Mo_isFile 194 1 9 36 T_Mo := ⟨q_Mo_isFile, ⟨by decide, by decide⟩, (mx_w (List.mem_of_getElem? (i := 1031) (by decide +kernel)) (by decide +kernel)), (mx_w (List.mem_of_getElem? (i := 1033) (by decide +kernel)) (by decide +kernel)), (mx_w (List.mem_of_getElem? (i := 45) (by decide +kernel)) (by decide +kernel)), rfl⟩
theorem s_Mo_have_99 : mx_sS M_Mo_have M_Mo_router 99 1 := ⟨q_Mo_router, ⟨by decide, by decide⟩, (mx_w (List.mem_of_getElem? (i := 763) (by decide +kernel)) (by decide +kernel)), (mx_w (List.mem_of_getElem? (i := 764) (by decide +kernel)) (by decide +kernel))⟩
theorem s_Lw_law_9 : mx_sS M_Lw_law M_Lw_cell 9 2 := ⟨q_Lw_cell, ⟨by decide, by decide⟩, (mx_w (List.mem_of_getElem? (i := 754) (by decide +kernel)) (by decide +kernel)), (mx_w (List.mem_of_getElem? (i := 755) (by decide +kernel)) (by decide +kernel))⟩
theorem s_Lw_law_15 : mx_sI M_Lw_law M_MT_init 15 1 := ⟨rfl, rfl, q_MT_init, ⟨by decide, by decide⟩, (mx_w (List.mem_of_getElem? (i := 64) (by decide +kernel)) (by decide +kernel)), (mx_w (List.mem_of_getElem? (i := 65) (by decide +kernel)) (by decide +kernel))⟩
theorem s_Lw_law_20 : mx_sI M_Lw_law M_Mo_init 20 1 := ⟨rfl, rfl, q_Mo_init, ⟨by decide, by decide⟩, (mx_w (List.mem_of_getElem? (i := 759) (by decide +kernel)) (by decide +kernel)), (mx_w (List.mem_of_getElem? (i := 760) (by decide +kernel)) (by decide +kernel))⟩
theorem s_Lw_law_21 : mx_sV M_Lw_law M_MT_link 21 3 8 8 T_MT := ⟨q_MT_link, ⟨by decide, by decide⟩, (mx_w (List.mem_of_getElem? (i := 352) (by decide +kernel)) (by decide +kernel)), (mx_w (List.mem_of_getElem? (i := 353) (by decide +kernel)) (by decide +kernel)), (mx_w (List.mem_of_getElem? (i := 354) (by decide +kernel)) (by decide +kernel)), rfl⟩
theorem s_Lw_law_25 : mx_sV M_Lw_law M_Mo_link 25 3 9 36 T_Mo := ⟨q_Mo_link, ⟨by decide, by decide⟩, (mx_w (List.mem_of_getElem? (i := 880) (by decide +kernel)) (by decide +kernel)), (mx_w (List.mem_of_getElem? (i := 881) (by decide +kernel)) (by decide +kernel)), (mx_w (List.mem_of_getElem? (i := 882) (by decide +kernel)) (by decide +kernel)), rfl⟩
theorem s_Lw_law_26 : mx_sV M_Lw_law M_MT_distance 26 2 8 8 T_MT := ⟨q_MT_distance, ⟨by decide, by decide⟩, (mx_w (List.mem_of_getElem? (i := 424) (by decide +kernel)) (by decide +kernel)), (mx_w (List.mem_of_getElem? (i := 425) (by decide +kernel)) (by decide +kernel)), (mx_w (List.mem_of_getElem? (i := 426) (by decide +kernel)) (by decide +kernel)), rfl⟩
theorem s_Lw_law_30 : mx_sV M_Lw_law M_Mo_distance 30 2 9 36 T_Mo := ⟨q_Mo_distance, ⟨by decide, by decide⟩, (mx_w (List.mem_of_getElem? (i := 924) (by decide +kernel)) (by decide +kernel)), (mx_w (List.mem_of_getElem? (i := 925) (by decide +kernel)) (by decide +kernel)), (mx_w (List.mem_of_getElem? (i := 926) (by decide +kernel)) (by decide +kernel)), rfl⟩
theorem s_Lw_law_31 : mx_sV M_Lw_law M_MT_hop 31 2 8 8 T_MT := ⟨q_MT_hop, ⟨by decide, by decide⟩, (mx_w (List.mem_of_getElem? (i := 433) (by decide +kernel)) (by decide +kernel)), (mx_w (List.mem_of_getElem? (i := 434) (by decide +kernel)) (by decide +kernel)), (mx_w (List.mem_of_getElem? (i := 435) (by decide +kernel)) (by decide +kernel)), rfl⟩
theorem s_Lw_law_34 : mx_sV M_Lw_law M_Mo_hop 34 2 9 36 T_Mo := ⟨q_Mo_hop, ⟨by decide, by decide⟩, (mx_w (List.mem_of_getElem? (i := 928) (by decide +kernel)) (by decide +kernel)), (mx_w (List.mem_of_getElem? (i := 929) (by decide +kernel)) (by decide +kernel)), (mx_w (List.mem_of_getElem? (i := 930) (by decide +kernel)) (by decide +kernel)), rfl⟩
theorem s_Lw_law_35 : mx_sV M_Lw_law M_MT_join 35 3 8 8 T_MT := ⟨q_MT_join, ⟨by decide, by decide⟩, (mx_w (List.mem_of_getElem? (i := 438) (by decide +kernel)) (by decide +kernel)), (mx_w (List.mem_of_getElem? (i := 439) (by decide +kernel)) (by decide +kernel)), (mx_w (List.mem_of_getElem? (i := 440) (by decide +kernel)) (by decide +kernel)), rfl⟩
theorem s_Lw_law_38 : mx_sV M_Lw_law M_Mo_join 38 3 9 36 T_Mo := ⟨q_Mo_join, ⟨by decide, by decide⟩, (mx_w (List.mem_of_getElem? (i := 932) (by decide +kernel)) (by decide +kernel)), (mx_w (List.mem_of_getElem? (i := 933) (by decide +kernel)) (by decide +kernel)), (mx_w (List.mem_of_getElem? (i := 934) (by decide +kernel)) (by decide +kernel)), rfl⟩
theorem s_Lw_law_39 : mx_sV M_Lw_law M_MT_leave 39 4 8 8 T_MT := ⟨q_MT_leave, ⟨by decide, by decide⟩, (mx_w (List.mem_of_getElem? (i := 461) (by decide +kernel)) (by decide +kernel)), (mx_w (List.mem_of_getElem? (i := 462) (by decide +kernel)) (by decide +kernel)), (mx_w (List.mem_of_getElem? (i := 463) (by decide +kernel)) (by decide +kernel)), rfl⟩
theorem s_Lw_law_43 : mx_sV M_Lw_law M_Mo_leave 43 4 9 36 T_Mo := ⟨q_Mo_leave, ⟨by decide, by decide⟩, (mx_w (List.mem_of_getElem? (i := 947) (by decide +kernel)) (by decide +kernel)), (mx_w (List.mem_of_getElem? (i := 948) (by decide +kernel)) (by decide +kernel)), (mx_w (List.mem_of_getElem? (i := 949) (by decide +kernel)) (by decide +kernel)), rfl⟩
theorem s_Lw_law_44 : mx_sV M_Lw_law M_MT_marked 44 2 8 8 T_MT := ⟨q_MT_marked, ⟨by decide, by decide⟩, (mx_w (List.mem_of_getElem? (i := 479) (by decide +kernel)) (by decide +kernel)), (mx_w (List.mem_of_getElem? (i := 480) (by decide +kernel)) (by decide +kernel)), (mx_w (List.mem_of_getElem? (i := 481) (by decide +kernel)) (by decide +kernel)), rfl⟩
theorem s_Lw_law_47 : mx_sV M_Lw_law M_Mo_marked 47 2 9 36 T_Mo := ⟨q_Mo_marked, ⟨by decide, by decide⟩, (mx_w (List.mem_of_getElem? (i := 955) (by decide +kernel)) (by decide +kernel)), (mx_w (List.mem_of_getElem? (i := 956) (by decide +kernel)) (by decide +kernel)), (mx_w (List.mem_of_getElem? (i := 957) (by decide +kernel)) (by decide +kernel)), rfl⟩
theorem s_Lw_law_48 : mx_sV M_Lw_law M_MT_pass 48 1 8 8 T_MT := ⟨q_MT_pass, ⟨by decide, by decide⟩, (mx_w (List.mem_of_getElem? (i := 488) (by decide +kernel)) (by decide +kernel)), (mx_w (List.mem_of_getElem? (i := 489) (by decide +kernel)) (by decide +kernel)), (mx_w (List.mem_of_getElem? (i := 490) (by decide +kernel)) (by decide +kernel)), rfl⟩
theorem s_Lw_law_52 : mx_sV M_Lw_law M_Mo_pass 52 1 9 36 T_Mo := ⟨q_Mo_pass, ⟨by decide, by decide⟩, (mx_w (List.mem_of_getElem? (i := 959) (by decide +kernel)) (by decide +kernel)), (mx_w (List.mem_of_getElem? (i := 960) (by decide +kernel)) (by decide +kernel)), (mx_w (List.mem_of_getElem? (i := 961) (by decide +kernel)) (by decide +kernel)), rfl⟩
theorem s_Lw_law_53 : mx_sV M_Lw_law M_MT_send 53 2 8 8 T_MT := ⟨q_MT_send, ⟨by decide, by decide⟩, (mx_w (List.mem_of_getElem? (i := 509) (by decide +kernel)) (by decide +kernel)), (mx_w (List.mem_of_getElem? (i := 510) (by decide +kernel)) (by decide +kernel)), (mx_w (List.mem_of_getElem? (i := 511) (by decide +kernel)) (by decide +kernel)), rfl⟩
theorem s_Lw_law_56 : mx_sV M_Lw_law M_Mo_send 56 2 9 36 T_Mo := ⟨q_Mo_send, ⟨by decide, by decide⟩, (mx_w (List.mem_of_getElem? (i := 975) (by decide +kernel)) (by decide +kernel)), (mx_w (List.mem_of_getElem? (i := 976) (by decide +kernel)) (by decide +kernel)), (mx_w (List.mem_of_getElem? (i := 977) (by decide +kernel)) (by decide +kernel)), rfl⟩
theorem s_Lw_law_57 : mx_sV M_Lw_law M_MT_crossings 57 0 8 8 T_MT := ⟨q_MT_crossings, ⟨by decide, by decide⟩, (mx_w (List.mem_of_getElem? (i := 608) (by decide +kernel)) (by decide +kernel)), (mx_w (List.mem_of_getElem? (i := 609) (by decide +kernel)) (by decide +kernel)), (mx_w (List.mem_of_getElem? (i := 610) (by decide +kernel)) (by decide +kernel)), rfl⟩
theorem s_Lw_law_61 : mx_sV M_Lw_law M_Mo_crossings 61 0 9 36 T_Mo := ⟨q_Mo_crossings, ⟨by decide, by decide⟩, (mx_w (List.mem_of_getElem? (i := 1003) (by decide +kernel)) (by decide +kernel)), (mx_w (List.mem_of_getElem? (i := 1004) (by decide +kernel)) (by decide +kernel)), (mx_w (List.mem_of_getElem? (i := 1005) (by decide +kernel)) (by decide +kernel)), rfl⟩
theorem s_Lw_law_62 : mx_sV M_Lw_law M_MT_drops 62 0 8 8 T_MT := ⟨q_MT_drops, ⟨by decide, by decide⟩, (mx_w (List.mem_of_getElem? (i := 616) (by decide +kernel)) (by decide +kernel)), (mx_w (List.mem_of_getElem? (i := 617) (by decide +kernel)) (by decide +kernel)), (mx_w (List.mem_of_getElem? (i := 618) (by decide +kernel)) (by decide +kernel)), rfl⟩
theorem s_Lw_law_65 : mx_sV M_Lw_law M_Mo_drops 65 0 9 36 T_Mo := ⟨q_Mo_drops, ⟨by decide, by decide⟩, (mx_w (List.mem_of_getElem? (i := 1007) (by decide +kernel)) (by decide +kernel)), (mx_w (List.mem_of_getElem? (i := 1008) (by decide +kernel)) (by decide +kernel)), (mx_w (List.mem_of_getElem? (i := 1009) (by decide +kernel)) (by decide +kernel)), rfl⟩
theorem s_Lw_law_66 : mx_sV M_Lw_law M_MT_reached 66 0 8 8 T_MT := ⟨q_MT_reached, ⟨by decide, by decide⟩, (mx_w (List.mem_of_getElem? (i := 624) (by decide +kernel)) (by decide +kernel)), (mx_w (List.mem_of_getElem? (i := 625) (by decide +kernel)) (by decide +kernel)), (mx_w (List.mem_of_getElem? (i := 626) (by decide +kernel)) (by decide +kernel)), rfl⟩
theorem s_Lw_law_69 : mx_sV M_Lw_law M_Mo_reached 69 0 9 36 T_Mo := ⟨q_Mo_reached, ⟨by decide, by decide⟩, (mx_w (List.mem_of_getElem? (i := 1011) (by decide +kernel)) (by decide +kernel)), (mx_w (List.mem_of_getElem? (i := 1012) (by decide +kernel)) (by decide +kernel)), (mx_w (List.mem_of_getElem? (i := 1013) (by decide +kernel)) (by decide +kernel)), rfl⟩
theorem s_Lw_law_70 : mx_sV M_Lw_law M_MT_heard 70 0 8 8 T_MT := ⟨q_MT_heard, ⟨by decide, by decide⟩, (mx_w (List.mem_of_getElem? (i := 632) (by decide +kernel)) (by decide +kernel)), (mx_w (List.mem_of_getElem? (i := 633) (by decide +kernel)) (by decide +kernel)), (mx_w (List.mem_of_getElem? (i := 634) (by decide +kernel)) (by decide +kernel)), rfl⟩
theorem s_Lw_law_73 : mx_sV M_Lw_law M_Mo_heard 73 0 9 36 T_Mo := ⟨q_Mo_heard, ⟨by decide, by decide⟩, (mx_w (List.mem_of_getElem? (i := 1015) (by decide +kernel)) (by decide +kernel)), (mx_w (List.mem_of_getElem? (i := 1016) (by decide +kernel)) (by decide +kernel)), (mx_w (List.mem_of_getElem? (i := 1017) (by decide +kernel)) (by decide +kernel)), rfl⟩
theorem s_Lw_law_74 : mx_sV M_Lw_law M_MT_shared 74 2 8 8 T_MT := ⟨q_MT_shared, ⟨by decide, by decide⟩, (mx_w (List.mem_of_getElem? (i := 636) (by decide +kernel)) (by decide +kernel)), (mx_w (List.mem_of_getElem? (i := 637) (by decide +kernel)) (by decide +kernel)), (mx_w (List.mem_of_getElem? (i := 638) (by decide +kernel)) (by decide +kernel)), rfl⟩
theorem s_Lw_law_77 : mx_sV M_Lw_law M_Mo_shared 77 2 9 36 T_Mo := ⟨q_Mo_shared, ⟨by decide, by decide⟩, (mx_w (List.mem_of_getElem? (i := 963) (by decide +kernel)) (by decide +kernel)), (mx_w (List.mem_of_getElem? (i := 964) (by decide +kernel)) (by decide +kernel)), (mx_w (List.mem_of_getElem? (i := 965) (by decide +kernel)) (by decide +kernel)), rfl⟩
theorem s_Lw_law_78 : mx_sV M_Lw_law M_MT_entry 78 3 8 8 T_MT := ⟨q_MT_entry, ⟨by decide, by decide⟩, (mx_w (List.mem_of_getElem? (i := 644) (by decide +kernel)) (by decide +kernel)), (mx_w (List.mem_of_getElem? (i := 645) (by decide +kernel)) (by decide +kernel)), (mx_w (List.mem_of_getElem? (i := 646) (by decide +kernel)) (by decide +kernel)), rfl⟩
theorem s_Lw_law_82 : mx_sV M_Lw_law M_Mo_entry 82 3 9 36 T_Mo := ⟨q_Mo_entry, ⟨by decide, by decide⟩, (mx_w (List.mem_of_getElem? (i := 967) (by decide +kernel)) (by decide +kernel)), (mx_w (List.mem_of_getElem? (i := 968) (by decide +kernel)) (by decide +kernel)), (mx_w (List.mem_of_getElem? (i := 969) (by decide +kernel)) (by decide +kernel)), rfl⟩
theorem s_Lw_law_83 : mx_sV M_Lw_law M_MT_messages 83 1 8 8 T_MT := ⟨q_MT_messages, ⟨by decide, by decide⟩, (mx_w (List.mem_of_getElem? (i := 656) (by decide +kernel)) (by decide +kernel)), (mx_w (List.mem_of_getElem? (i := 657) (by decide +kernel)) (by decide +kernel)), (mx_w (List.mem_of_getElem? (i := 658) (by decide +kernel)) (by decide +kernel)), rfl⟩
theorem s_Lw_law_87 : mx_sV M_Lw_law M_Mo_messages 87 1 9 36 T_Mo := ⟨q_Mo_messages, ⟨by decide, by decide⟩, (mx_w (List.mem_of_getElem? (i := 971) (by decide +kernel)) (by decide +kernel)), (mx_w (List.mem_of_getElem? (i := 972) (by decide +kernel)) (by decide +kernel)), (mx_w (List.mem_of_getElem? (i := 973) (by decide +kernel)) (by decide +kernel)), rfl⟩
theorem s_Lw_law_88 : mx_sV M_Lw_law M_MT_lose 88 2 8 8 T_MT := ⟨q_MT_lose, ⟨by decide, by decide⟩, (mx_w (List.mem_of_getElem? (i := 664) (by decide +kernel)) (by decide +kernel)), (mx_w (List.mem_of_getElem? (i := 665) (by decide +kernel)) (by decide +kernel)), (mx_w (List.mem_of_getElem? (i := 666) (by decide +kernel)) (by decide +kernel)), rfl⟩
theorem s_Lw_law_92 : mx_sV M_Lw_law M_Mo_lose 92 2 9 36 T_Mo := ⟨q_Mo_lose, ⟨by decide, by decide⟩, (mx_w (List.mem_of_getElem? (i := 1019) (by decide +kernel)) (by decide +kernel)), (mx_w (List.mem_of_getElem? (i := 1020) (by decide +kernel)) (by decide +kernel)), (mx_w (List.mem_of_getElem? (i := 1021) (by decide +kernel)) (by decide +kernel)), rfl⟩
theorem s_Lw_law_93 : mx_sV M_Lw_law M_MT_publish 93 3 8 8 T_MT := ⟨q_MT_publish, ⟨by decide, by decide⟩, (mx_w (List.mem_of_getElem? (i := 672) (by decide +kernel)) (by decide +kernel)), (mx_w (List.mem_of_getElem? (i := 673) (by decide +kernel)) (by decide +kernel)), (mx_w (List.mem_of_getElem? (i := 674) (by decide +kernel)) (by decide +kernel)), rfl⟩
theorem s_Lw_law_96 : mx_sV M_Lw_law M_Mo_publish 96 3 9 36 T_Mo := ⟨q_Mo_publish, ⟨by decide, by decide⟩, (mx_w (List.mem_of_getElem? (i := 1023) (by decide +kernel)) (by decide +kernel)), (mx_w (List.mem_of_getElem? (i := 1024) (by decide +kernel)) (by decide +kernel)), (mx_w (List.mem_of_getElem? (i := 1025) (by decide +kernel)) (by decide +kernel)), rfl⟩
theorem s_Lw_law_97 : mx_sV M_Lw_law M_MT_emit 97 1 8 8 T_MT := ⟨q_MT_emit, ⟨by decide, by decide⟩, (mx_w (List.mem_of_getElem? (i := 684) (by decide +kernel)) (by decide +kernel)), (mx_w (List.mem_of_getElem? (i := 685) (by decide +kernel)) (by decide +kernel)), (mx_w (List.mem_of_getElem? (i := 686) (by decide +kernel)) (by decide +kernel)), rfl⟩
theorem s_Lw_law_100 : mx_sV M_Lw_law M_Mo_emit 100 1 9 36 T_Mo := ⟨q_Mo_emit, ⟨by decide, by decide⟩, (mx_w (List.mem_of_getElem? (i := 1027) (by decide +kernel)) (by decide +kernel)), (mx_w (List.mem_of_getElem? (i := 1028) (by decide +kernel)) (by decide +kernel)), (mx_w (List.mem_of_getElem? (i := 1029) (by decide +kernel)) (by decide +kernel)), rfl⟩
theorem s_Lw_law_101 : mx_sV M_Lw_law M_MT_requests 101 1 8 8 T_MT := ⟨q_MT_requests, ⟨by decide, by decide⟩, (mx_w (List.mem_of_getElem? (i := 719) (by decide +kernel)) (by decide +kernel)), (mx_w (List.mem_of_getElem? (i := 720) (by decide +kernel)) (by decide +kernel)), (mx_w (List.mem_of_getElem? (i := 721) (by decide +kernel)) (by decide +kernel)), rfl⟩
theorem s_Lw_law_104 : mx_sV M_Lw_law M_Mo_requests 104 1 9 36 T_Mo := ⟨q_Mo_requests, ⟨by decide, by decide⟩, (mx_w (List.mem_of_getElem? (i := 1039) (by decide +kernel)) (by decide +kernel)), (mx_w (List.mem_of_getElem? (i := 1040) (by decide +kernel)) (by decide +kernel)), (mx_w (List.mem_of_getElem? (i := 1041) (by decide +kernel)) (by decide +kernel)), rfl⟩
theorem s_Lw_law_105 : mx_sV M_Lw_law M_MT_have 105 2 8 8 T_MT := ⟨q_MT_have, ⟨by decide, by decide⟩, (mx_w (List.mem_of_getElem? (i := 746) (by decide +kernel)) (by decide +kernel)), (mx_w (List.mem_of_getElem? (i := 747) (by decide +kernel)) (by decide +kernel)), (mx_w (List.mem_of_getElem? (i := 748) (by decide +kernel)) (by decide +kernel)), rfl⟩
theorem s_Lw_law_108 : mx_sV M_Lw_law M_Mo_have 108 2 9 36 T_Mo := ⟨q_Mo_have, ⟨by decide, by decide⟩, (mx_w (List.mem_of_getElem? (i := 1048) (by decide +kernel)) (by decide +kernel)), (mx_w (List.mem_of_getElem? (i := 1049) (by decide +kernel)) (by decide +kernel)), (mx_w (List.mem_of_getElem? (i := 1050) (by decide +kernel)) (by decide +kernel)), rfl⟩
end
section
/-! each instruction decoded -/
theorem d_Ck_init_0 : decode M_Ck_init.2.1 0 = .ok (.aload_n 0, 1) := by decide +kernel
theorem d_Ck_init_1 : decode M_Ck_init.2.1 1 = .ok (.invokespecial 1, 3) := by decide +kernel
theorem d_Ck_init_4 : decode M_Ck_init.2.1 4 = .ok (.aload_n 0, 1) := by decide +kernel
theorem d_Ck_init_5 : decode M_Ck_init.2.1 5 = .ok (.iconst 0, 1) := by decide +kernel
theorem d_Ck_init_6 : decode M_Ck_init.2.1 6 = .ok (.putfield 7, 3) := by decide +kernel
theorem d_Ck_init_9 : decode M_Ck_init.2.1 9 = .ok (.return_, 1) := by decide +kernel
theorem d_Ta_init_0 : decode M_Ta_init.2.1 0 = .ok (.aload_n 0, 1) := by decide +kernel
theorem d_Ta_init_1 : decode M_Ta_init.2.1 1 = .ok (.invokespecial 3, 3) := by decide +kernel
theorem d_Ta_init_4 : decode M_Ta_init.2.1 4 = .ok (.aload_n 0, 1) := by decide +kernel
theorem d_Ta_init_5 : decode M_Ta_init.2.1 5 = .ok (.bipush 10, 2) := by decide +kernel
theorem d_Ta_init_7 : decode M_Ta_init.2.1 7 = .ok (.newarray .int, 2) := by decide +kernel
theorem d_Ta_init_9 : decode M_Ta_init.2.1 9 = .ok (.putfield 9, 3) := by decide +kernel
theorem d_Ta_init_12 : decode M_Ta_init.2.1 12 = .ok (.return_, 1) := by decide +kernel
theorem d_Ne_init_0 : decode M_Ne_init.2.1 0 = .ok (.aload_n 0, 1) := by decide +kernel
theorem d_Ne_init_1 : decode M_Ne_init.2.1 1 = .ok (.invokespecial 3, 3) := by decide +kernel
theorem d_Ne_init_4 : decode M_Ne_init.2.1 4 = .ok (.aload_n 0, 1) := by decide +kernel
theorem d_Ne_init_5 : decode M_Ne_init.2.1 5 = .ok (.bipush 6, 2) := by decide +kernel
theorem d_Ne_init_7 : decode M_Ne_init.2.1 7 = .ok (.bipush 6, 2) := by decide +kernel
theorem d_Ne_init_9 : decode M_Ne_init.2.1 9 = .ok (.multianewarray 9 2, 4) := by decide +kernel
theorem d_Ne_init_13 : decode M_Ne_init.2.1 13 = .ok (.putfield 11, 3) := by decide +kernel
theorem d_Ne_init_16 : decode M_Ne_init.2.1 16 = .ok (.aload_n 0, 1) := by decide +kernel
theorem d_Ne_init_17 : decode M_Ne_init.2.1 17 = .ok (.bipush 6, 2) := by decide +kernel
theorem d_Ne_init_19 : decode M_Ne_init.2.1 19 = .ok (.bipush 6, 2) := by decide +kernel
theorem d_Ne_init_21 : decode M_Ne_init.2.1 21 = .ok (.multianewarray 9 2, 4) := by decide +kernel
theorem d_Ne_init_25 : decode M_Ne_init.2.1 25 = .ok (.putfield 16, 3) := by decide +kernel
theorem d_Ne_init_28 : decode M_Ne_init.2.1 28 = .ok (.aload_n 0, 1) := by decide +kernel
theorem d_Ne_init_29 : decode M_Ne_init.2.1 29 = .ok (.bipush 6, 2) := by decide +kernel
theorem d_Ne_init_31 : decode M_Ne_init.2.1 31 = .ok (.bipush 6, 2) := by decide +kernel
theorem d_Ne_init_33 : decode M_Ne_init.2.1 33 = .ok (.multianewarray 9 2, 4) := by decide +kernel
theorem d_Ne_init_37 : decode M_Ne_init.2.1 37 = .ok (.putfield 19, 3) := by decide +kernel
theorem d_Ne_init_40 : decode M_Ne_init.2.1 40 = .ok (.aload_n 0, 1) := by decide +kernel
theorem d_Ne_init_41 : decode M_Ne_init.2.1 41 = .ok (.bipush 6, 2) := by decide +kernel
theorem d_Ne_init_43 : decode M_Ne_init.2.1 43 = .ok (.bipush 6, 2) := by decide +kernel
theorem d_Ne_init_45 : decode M_Ne_init.2.1 45 = .ok (.multianewarray 9 2, 4) := by decide +kernel
theorem d_Ne_init_49 : decode M_Ne_init.2.1 49 = .ok (.putfield 22, 3) := by decide +kernel
theorem d_Ne_init_52 : decode M_Ne_init.2.1 52 = .ok (.aload_n 0, 1) := by decide +kernel
theorem d_Ne_init_53 : decode M_Ne_init.2.1 53 = .ok (.invokevirtual 25, 3) := by decide +kernel
theorem d_Ne_init_56 : decode M_Ne_init.2.1 56 = .ok (.return_, 1) := by decide +kernel
theorem d_Ne_measure_0 : decode M_Ne_measure.2.1 0 = .ok (.aload_n 0, 1) := by decide +kernel
theorem d_Ne_measure_1 : decode M_Ne_measure.2.1 1 = .ok (.invokevirtual 28, 3) := by decide +kernel
theorem d_Ne_measure_4 : decode M_Ne_measure.2.1 4 = .ok (.iconst 0, 1) := by decide +kernel
theorem d_Ne_measure_5 : decode M_Ne_measure.2.1 5 = .ok (.istore_n 1, 1) := by decide +kernel
theorem d_Ne_measure_6 : decode M_Ne_measure.2.1 6 = .ok (.iload_n 1, 1) := by decide +kernel
theorem d_Ne_measure_7 : decode M_Ne_measure.2.1 7 = .ok (.bipush 6, 2) := by decide +kernel
theorem d_Ne_measure_9 : decode M_Ne_measure.2.1 9 = .ok (.if_icmp .ge 14, 3) := by decide +kernel
theorem d_Ne_measure_12 : decode M_Ne_measure.2.1 12 = .ok (.aload_n 0, 1) := by decide +kernel
theorem d_Ne_measure_13 : decode M_Ne_measure.2.1 13 = .ok (.iload_n 1, 1) := by decide +kernel
theorem d_Ne_measure_14 : decode M_Ne_measure.2.1 14 = .ok (.invokevirtual 31, 3) := by decide +kernel
theorem d_Ne_measure_17 : decode M_Ne_measure.2.1 17 = .ok (.iinc 1 1, 3) := by decide +kernel
theorem d_Ne_measure_20 : decode M_Ne_measure.2.1 20 = .ok (.goto (-14), 3) := by decide +kernel
theorem d_Ne_measure_23 : decode M_Ne_measure.2.1 23 = .ok (.iconst 0, 1) := by decide +kernel
theorem d_Ne_measure_24 : decode M_Ne_measure.2.1 24 = .ok (.istore_n 1, 1) := by decide +kernel
theorem d_Ne_measure_25 : decode M_Ne_measure.2.1 25 = .ok (.iload_n 1, 1) := by decide +kernel
theorem d_Ne_measure_26 : decode M_Ne_measure.2.1 26 = .ok (.bipush 6, 2) := by decide +kernel
theorem d_Ne_measure_28 : decode M_Ne_measure.2.1 28 = .ok (.if_icmp .ge 42, 3) := by decide +kernel
theorem d_Ne_measure_31 : decode M_Ne_measure.2.1 31 = .ok (.iconst 0, 1) := by decide +kernel
theorem d_Ne_measure_32 : decode M_Ne_measure.2.1 32 = .ok (.istore_n 2, 1) := by decide +kernel
theorem d_Ne_measure_33 : decode M_Ne_measure.2.1 33 = .ok (.iload_n 2, 1) := by decide +kernel
theorem d_Ne_measure_34 : decode M_Ne_measure.2.1 34 = .ok (.bipush 6, 2) := by decide +kernel
theorem d_Ne_measure_36 : decode M_Ne_measure.2.1 36 = .ok (.if_icmp .ge 23, 3) := by decide +kernel
theorem d_Ne_measure_39 : decode M_Ne_measure.2.1 39 = .ok (.aload_n 0, 1) := by decide +kernel
theorem d_Ne_measure_40 : decode M_Ne_measure.2.1 40 = .ok (.getfield 19, 3) := by decide +kernel
theorem d_Ne_measure_43 : decode M_Ne_measure.2.1 43 = .ok (.iload_n 2, 1) := by decide +kernel
theorem d_Ne_measure_44 : decode M_Ne_measure.2.1 44 = .ok (.aaload, 1) := by decide +kernel
theorem d_Ne_measure_45 : decode M_Ne_measure.2.1 45 = .ok (.iload_n 1, 1) := by decide +kernel
theorem d_Ne_measure_46 : decode M_Ne_measure.2.1 46 = .ok (.aload_n 0, 1) := by decide +kernel
theorem d_Ne_measure_47 : decode M_Ne_measure.2.1 47 = .ok (.iload_n 2, 1) := by decide +kernel
theorem d_Ne_measure_48 : decode M_Ne_measure.2.1 48 = .ok (.iload_n 1, 1) := by decide +kernel
theorem d_Ne_measure_49 : decode M_Ne_measure.2.1 49 = .ok (.invokevirtual 35, 3) := by decide +kernel
theorem d_Ne_measure_52 : decode M_Ne_measure.2.1 52 = .ok (.iastore, 1) := by decide +kernel
theorem d_Ne_measure_53 : decode M_Ne_measure.2.1 53 = .ok (.iinc 2 1, 3) := by decide +kernel
theorem d_Ne_measure_56 : decode M_Ne_measure.2.1 56 = .ok (.goto (-23), 3) := by decide +kernel
theorem d_Ne_measure_59 : decode M_Ne_measure.2.1 59 = .ok (.aload_n 0, 1) := by decide +kernel
theorem d_Ne_measure_60 : decode M_Ne_measure.2.1 60 = .ok (.iload_n 1, 1) := by decide +kernel
theorem d_Ne_measure_61 : decode M_Ne_measure.2.1 61 = .ok (.invokevirtual 39, 3) := by decide +kernel
theorem d_Ne_measure_64 : decode M_Ne_measure.2.1 64 = .ok (.iinc 1 1, 3) := by decide +kernel
theorem d_Ne_measure_67 : decode M_Ne_measure.2.1 67 = .ok (.goto (-42), 3) := by decide +kernel
theorem d_Ne_measure_70 : decode M_Ne_measure.2.1 70 = .ok (.return_, 1) := by decide +kernel
theorem d_Ne_startLengths_0 : decode M_Ne_startLengths.2.1 0 = .ok (.iconst 0, 1) := by decide +kernel
theorem d_Ne_startLengths_1 : decode M_Ne_startLengths.2.1 1 = .ok (.istore_n 1, 1) := by decide +kernel
theorem d_Ne_startLengths_2 : decode M_Ne_startLengths.2.1 2 = .ok (.iload_n 1, 1) := by decide +kernel
theorem d_Ne_startLengths_3 : decode M_Ne_startLengths.2.1 3 = .ok (.bipush 6, 2) := by decide +kernel
theorem d_Ne_startLengths_5 : decode M_Ne_startLengths.2.1 5 = .ok (.if_icmp .ge 63, 3) := by decide +kernel
theorem d_Ne_startLengths_8 : decode M_Ne_startLengths.2.1 8 = .ok (.iconst 0, 1) := by decide +kernel
theorem d_Ne_startLengths_9 : decode M_Ne_startLengths.2.1 9 = .ok (.istore_n 2, 1) := by decide +kernel
theorem d_Ne_startLengths_10 : decode M_Ne_startLengths.2.1 10 = .ok (.iload_n 2, 1) := by decide +kernel
theorem d_Ne_startLengths_11 : decode M_Ne_startLengths.2.1 11 = .ok (.bipush 6, 2) := by decide +kernel
theorem d_Ne_startLengths_13 : decode M_Ne_startLengths.2.1 13 = .ok (.if_icmp .ge 40, 3) := by decide +kernel
theorem d_Ne_startLengths_16 : decode M_Ne_startLengths.2.1 16 = .ok (.aload_n 0, 1) := by decide +kernel
theorem d_Ne_startLengths_17 : decode M_Ne_startLengths.2.1 17 = .ok (.getfield 16, 3) := by decide +kernel
theorem d_Ne_startLengths_20 : decode M_Ne_startLengths.2.1 20 = .ok (.iload_n 1, 1) := by decide +kernel
theorem d_Ne_startLengths_21 : decode M_Ne_startLengths.2.1 21 = .ok (.aaload, 1) := by decide +kernel
theorem d_Ne_startLengths_22 : decode M_Ne_startLengths.2.1 22 = .ok (.iload_n 2, 1) := by decide +kernel
theorem d_Ne_startLengths_23 : decode M_Ne_startLengths.2.1 23 = .ok (.aload_n 0, 1) := by decide +kernel
theorem d_Ne_startLengths_24 : decode M_Ne_startLengths.2.1 24 = .ok (.iload_n 1, 1) := by decide +kernel
theorem d_Ne_startLengths_25 : decode M_Ne_startLengths.2.1 25 = .ok (.iload_n 2, 1) := by decide +kernel
theorem d_Ne_startLengths_26 : decode M_Ne_startLengths.2.1 26 = .ok (.invokevirtual 42, 3) := by decide +kernel
theorem d_Ne_startLengths_29 : decode M_Ne_startLengths.2.1 29 = .ok (.ifCond .eq 14, 3) := by decide +kernel
theorem d_Ne_startLengths_32 : decode M_Ne_startLengths.2.1 32 = .ok (.aload_n 0, 1) := by decide +kernel
theorem d_Ne_startLengths_33 : decode M_Ne_startLengths.2.1 33 = .ok (.getfield 11, 3) := by decide +kernel
theorem d_Ne_startLengths_36 : decode M_Ne_startLengths.2.1 36 = .ok (.iload_n 1, 1) := by decide +kernel
theorem d_Ne_startLengths_37 : decode M_Ne_startLengths.2.1 37 = .ok (.aaload, 1) := by decide +kernel
theorem d_Ne_startLengths_38 : decode M_Ne_startLengths.2.1 38 = .ok (.iload_n 2, 1) := by decide +kernel
theorem d_Ne_startLengths_39 : decode M_Ne_startLengths.2.1 39 = .ok (.iaload, 1) := by decide +kernel
theorem d_Ne_startLengths_40 : decode M_Ne_startLengths.2.1 40 = .ok (.goto 6, 3) := by decide +kernel
theorem d_Ne_startLengths_43 : decode M_Ne_startLengths.2.1 43 = .ok (.sipush 1000, 3) := by decide +kernel
theorem d_Ne_startLengths_46 : decode M_Ne_startLengths.2.1 46 = .ok (.iastore, 1) := by decide +kernel
theorem d_Ne_startLengths_47 : decode M_Ne_startLengths.2.1 47 = .ok (.iinc 2 1, 3) := by decide +kernel
theorem d_Ne_startLengths_50 : decode M_Ne_startLengths.2.1 50 = .ok (.goto (-40), 3) := by decide +kernel
theorem d_Ne_startLengths_53 : decode M_Ne_startLengths.2.1 53 = .ok (.aload_n 0, 1) := by decide +kernel
theorem d_Ne_startLengths_54 : decode M_Ne_startLengths.2.1 54 = .ok (.getfield 16, 3) := by decide +kernel
theorem d_Ne_startLengths_57 : decode M_Ne_startLengths.2.1 57 = .ok (.iload_n 1, 1) := by decide +kernel
theorem d_Ne_startLengths_58 : decode M_Ne_startLengths.2.1 58 = .ok (.aaload, 1) := by decide +kernel
theorem d_Ne_startLengths_59 : decode M_Ne_startLengths.2.1 59 = .ok (.iload_n 1, 1) := by decide +kernel
theorem d_Ne_startLengths_60 : decode M_Ne_startLengths.2.1 60 = .ok (.iconst 0, 1) := by decide +kernel
theorem d_Ne_startLengths_61 : decode M_Ne_startLengths.2.1 61 = .ok (.iastore, 1) := by decide +kernel
theorem d_Ne_startLengths_62 : decode M_Ne_startLengths.2.1 62 = .ok (.iinc 1 1, 3) := by decide +kernel
theorem d_Ne_startLengths_65 : decode M_Ne_startLengths.2.1 65 = .ok (.goto (-63), 3) := by decide +kernel
theorem d_Ne_startLengths_68 : decode M_Ne_startLengths.2.1 68 = .ok (.return_, 1) := by decide +kernel
theorem d_Ne_areLinked_0 : decode M_Ne_areLinked.2.1 0 = .ok (.aload_n 0, 1) := by decide +kernel
theorem d_Ne_areLinked_1 : decode M_Ne_areLinked.2.1 1 = .ok (.getfield 11, 3) := by decide +kernel
theorem d_Ne_areLinked_4 : decode M_Ne_areLinked.2.1 4 = .ok (.iload_n 1, 1) := by decide +kernel
theorem d_Ne_areLinked_5 : decode M_Ne_areLinked.2.1 5 = .ok (.aaload, 1) := by decide +kernel
theorem d_Ne_areLinked_6 : decode M_Ne_areLinked.2.1 6 = .ok (.iload_n 2, 1) := by decide +kernel
theorem d_Ne_areLinked_7 : decode M_Ne_areLinked.2.1 7 = .ok (.iaload, 1) := by decide +kernel
theorem d_Ne_areLinked_8 : decode M_Ne_areLinked.2.1 8 = .ok (.ifCond .eq 7, 3) := by decide +kernel
theorem d_Ne_areLinked_11 : decode M_Ne_areLinked.2.1 11 = .ok (.iconst 1, 1) := by decide +kernel
theorem d_Ne_areLinked_12 : decode M_Ne_areLinked.2.1 12 = .ok (.goto 4, 3) := by decide +kernel
theorem d_Ne_areLinked_15 : decode M_Ne_areLinked.2.1 15 = .ok (.iconst 0, 1) := by decide +kernel
theorem d_Ne_areLinked_16 : decode M_Ne_areLinked.2.1 16 = .ok (.ireturn, 1) := by decide +kernel
theorem d_Ne_shortenBy_0 : decode M_Ne_shortenBy.2.1 0 = .ok (.iconst 0, 1) := by decide +kernel
theorem d_Ne_shortenBy_1 : decode M_Ne_shortenBy.2.1 1 = .ok (.istore_n 2, 1) := by decide +kernel
theorem d_Ne_shortenBy_2 : decode M_Ne_shortenBy.2.1 2 = .ok (.iload_n 2, 1) := by decide +kernel
theorem d_Ne_shortenBy_3 : decode M_Ne_shortenBy.2.1 3 = .ok (.bipush 6, 2) := by decide +kernel
theorem d_Ne_shortenBy_5 : decode M_Ne_shortenBy.2.1 5 = .ok (.if_icmp .ge 59, 3) := by decide +kernel
theorem d_Ne_shortenBy_8 : decode M_Ne_shortenBy.2.1 8 = .ok (.iconst 0, 1) := by decide +kernel
theorem d_Ne_shortenBy_9 : decode M_Ne_shortenBy.2.1 9 = .ok (.istore_n 3, 1) := by decide +kernel
theorem d_Ne_shortenBy_10 : decode M_Ne_shortenBy.2.1 10 = .ok (.iload_n 3, 1) := by decide +kernel
theorem d_Ne_shortenBy_11 : decode M_Ne_shortenBy.2.1 11 = .ok (.bipush 6, 2) := by decide +kernel
theorem d_Ne_shortenBy_13 : decode M_Ne_shortenBy.2.1 13 = .ok (.if_icmp .ge 45, 3) := by decide +kernel
theorem d_Ne_shortenBy_16 : decode M_Ne_shortenBy.2.1 16 = .ok (.aload_n 0, 1) := by decide +kernel
theorem d_Ne_shortenBy_17 : decode M_Ne_shortenBy.2.1 17 = .ok (.getfield 16, 3) := by decide +kernel
theorem d_Ne_shortenBy_20 : decode M_Ne_shortenBy.2.1 20 = .ok (.iload_n 2, 1) := by decide +kernel
theorem d_Ne_shortenBy_21 : decode M_Ne_shortenBy.2.1 21 = .ok (.aaload, 1) := by decide +kernel
theorem d_Ne_shortenBy_22 : decode M_Ne_shortenBy.2.1 22 = .ok (.iload_n 3, 1) := by decide +kernel
theorem d_Ne_shortenBy_23 : decode M_Ne_shortenBy.2.1 23 = .ok (.aload_n 0, 1) := by decide +kernel
theorem d_Ne_shortenBy_24 : decode M_Ne_shortenBy.2.1 24 = .ok (.getfield 16, 3) := by decide +kernel
theorem d_Ne_shortenBy_27 : decode M_Ne_shortenBy.2.1 27 = .ok (.iload_n 2, 1) := by decide +kernel
theorem d_Ne_shortenBy_28 : decode M_Ne_shortenBy.2.1 28 = .ok (.aaload, 1) := by decide +kernel
theorem d_Ne_shortenBy_29 : decode M_Ne_shortenBy.2.1 29 = .ok (.iload_n 3, 1) := by decide +kernel
theorem d_Ne_shortenBy_30 : decode M_Ne_shortenBy.2.1 30 = .ok (.iaload, 1) := by decide +kernel
theorem d_Ne_shortenBy_31 : decode M_Ne_shortenBy.2.1 31 = .ok (.aload_n 0, 1) := by decide +kernel
theorem d_Ne_shortenBy_32 : decode M_Ne_shortenBy.2.1 32 = .ok (.getfield 16, 3) := by decide +kernel
theorem d_Ne_shortenBy_35 : decode M_Ne_shortenBy.2.1 35 = .ok (.iload_n 2, 1) := by decide +kernel
theorem d_Ne_shortenBy_36 : decode M_Ne_shortenBy.2.1 36 = .ok (.aaload, 1) := by decide +kernel
theorem d_Ne_shortenBy_37 : decode M_Ne_shortenBy.2.1 37 = .ok (.iload_n 1, 1) := by decide +kernel
theorem d_Ne_shortenBy_38 : decode M_Ne_shortenBy.2.1 38 = .ok (.iaload, 1) := by decide +kernel
theorem d_Ne_shortenBy_39 : decode M_Ne_shortenBy.2.1 39 = .ok (.aload_n 0, 1) := by decide +kernel
theorem d_Ne_shortenBy_40 : decode M_Ne_shortenBy.2.1 40 = .ok (.getfield 16, 3) := by decide +kernel
theorem d_Ne_shortenBy_43 : decode M_Ne_shortenBy.2.1 43 = .ok (.iload_n 1, 1) := by decide +kernel
theorem d_Ne_shortenBy_44 : decode M_Ne_shortenBy.2.1 44 = .ok (.aaload, 1) := by decide +kernel
theorem d_Ne_shortenBy_45 : decode M_Ne_shortenBy.2.1 45 = .ok (.iload_n 3, 1) := by decide +kernel
theorem d_Ne_shortenBy_46 : decode M_Ne_shortenBy.2.1 46 = .ok (.iaload, 1) := by decide +kernel
theorem d_Ne_shortenBy_47 : decode M_Ne_shortenBy.2.1 47 = .ok (.iadd, 1) := by decide +kernel
theorem d_Ne_shortenBy_48 : decode M_Ne_shortenBy.2.1 48 = .ok (.invokestatic 46, 3) := by decide +kernel
theorem d_Ne_shortenBy_51 : decode M_Ne_shortenBy.2.1 51 = .ok (.iastore, 1) := by decide +kernel
theorem d_Ne_shortenBy_52 : decode M_Ne_shortenBy.2.1 52 = .ok (.iinc 3 1, 3) := by decide +kernel
theorem d_Ne_shortenBy_55 : decode M_Ne_shortenBy.2.1 55 = .ok (.goto (-45), 3) := by decide +kernel
theorem d_Ne_shortenBy_58 : decode M_Ne_shortenBy.2.1 58 = .ok (.iinc 2 1, 3) := by decide +kernel
theorem d_Ne_shortenBy_61 : decode M_Ne_shortenBy.2.1 61 = .ok (.goto (-59), 3) := by decide +kernel
theorem d_Ne_shortenBy_64 : decode M_Ne_shortenBy.2.1 64 = .ok (.return_, 1) := by decide +kernel
theorem d_JM_min_0 : decode M_JM_min.2.1 0 = .ok (.iload_n 0, 1) := by decide +kernel
theorem d_JM_min_1 : decode M_JM_min.2.1 1 = .ok (.iload_n 1, 1) := by decide +kernel
theorem d_JM_min_2 : decode M_JM_min.2.1 2 = .ok (.if_icmp .gt 7, 3) := by decide +kernel
theorem d_JM_min_5 : decode M_JM_min.2.1 5 = .ok (.iload_n 0, 1) := by decide +kernel
theorem d_JM_min_6 : decode M_JM_min.2.1 6 = .ok (.goto 4, 3) := by decide +kernel
theorem d_JM_min_9 : decode M_JM_min.2.1 9 = .ok (.iload_n 1, 1) := by decide +kernel
theorem d_JM_min_10 : decode M_JM_min.2.1 10 = .ok (.ireturn, 1) := by decide +kernel
theorem d_Ne_findNext_0 : decode M_Ne_findNext.2.1 0 = .ok (.iload_n 1, 1) := by decide +kernel
theorem d_Ne_findNext_1 : decode M_Ne_findNext.2.1 1 = .ok (.iload_n 2, 1) := by decide +kernel
theorem d_Ne_findNext_2 : decode M_Ne_findNext.2.1 2 = .ok (.if_icmp .eq 12, 3) := by decide +kernel
theorem d_Ne_findNext_5 : decode M_Ne_findNext.2.1 5 = .ok (.aload_n 0, 1) := by decide +kernel
theorem d_Ne_findNext_6 : decode M_Ne_findNext.2.1 6 = .ok (.iload_n 1, 1) := by decide +kernel
theorem d_Ne_findNext_7 : decode M_Ne_findNext.2.1 7 = .ok (.iload_n 2, 1) := by decide +kernel
theorem d_Ne_findNext_8 : decode M_Ne_findNext.2.1 8 = .ok (.invokevirtual 51, 3) := by decide +kernel
theorem d_Ne_findNext_11 : decode M_Ne_findNext.2.1 11 = .ok (.ifCond .ne 5, 3) := by decide +kernel
theorem d_Ne_findNext_14 : decode M_Ne_findNext.2.1 14 = .ok (.iconst (-1), 1) := by decide +kernel
theorem d_Ne_findNext_15 : decode M_Ne_findNext.2.1 15 = .ok (.ireturn, 1) := by decide +kernel
theorem d_Ne_findNext_16 : decode M_Ne_findNext.2.1 16 = .ok (.iconst 0, 1) := by decide +kernel
theorem d_Ne_findNext_17 : decode M_Ne_findNext.2.1 17 = .ok (.istore_n 3, 1) := by decide +kernel
theorem d_Ne_findNext_18 : decode M_Ne_findNext.2.1 18 = .ok (.iload_n 3, 1) := by decide +kernel
theorem d_Ne_findNext_19 : decode M_Ne_findNext.2.1 19 = .ok (.bipush 6, 2) := by decide +kernel
theorem d_Ne_findNext_21 : decode M_Ne_findNext.2.1 21 = .ok (.if_icmp .ge 48, 3) := by decide +kernel
theorem d_Ne_findNext_24 : decode M_Ne_findNext.2.1 24 = .ok (.aload_n 0, 1) := by decide +kernel
theorem d_Ne_findNext_25 : decode M_Ne_findNext.2.1 25 = .ok (.iload_n 1, 1) := by decide +kernel
theorem d_Ne_findNext_26 : decode M_Ne_findNext.2.1 26 = .ok (.iload_n 3, 1) := by decide +kernel
theorem d_Ne_findNext_27 : decode M_Ne_findNext.2.1 27 = .ok (.invokevirtual 42, 3) := by decide +kernel
theorem d_Ne_findNext_30 : decode M_Ne_findNext.2.1 30 = .ok (.ifCond .eq 33, 3) := by decide +kernel
theorem d_Ne_findNext_33 : decode M_Ne_findNext.2.1 33 = .ok (.aload_n 0, 1) := by decide +kernel
theorem d_Ne_findNext_34 : decode M_Ne_findNext.2.1 34 = .ok (.getfield 11, 3) := by decide +kernel
theorem d_Ne_findNext_37 : decode M_Ne_findNext.2.1 37 = .ok (.iload_n 1, 1) := by decide +kernel
theorem d_Ne_findNext_38 : decode M_Ne_findNext.2.1 38 = .ok (.aaload, 1) := by decide +kernel
theorem d_Ne_findNext_39 : decode M_Ne_findNext.2.1 39 = .ok (.iload_n 3, 1) := by decide +kernel
theorem d_Ne_findNext_40 : decode M_Ne_findNext.2.1 40 = .ok (.iaload, 1) := by decide +kernel
theorem d_Ne_findNext_41 : decode M_Ne_findNext.2.1 41 = .ok (.aload_n 0, 1) := by decide +kernel
theorem d_Ne_findNext_42 : decode M_Ne_findNext.2.1 42 = .ok (.getfield 16, 3) := by decide +kernel
theorem d_Ne_findNext_45 : decode M_Ne_findNext.2.1 45 = .ok (.iload_n 3, 1) := by decide +kernel
theorem d_Ne_findNext_46 : decode M_Ne_findNext.2.1 46 = .ok (.aaload, 1) := by decide +kernel
theorem d_Ne_findNext_47 : decode M_Ne_findNext.2.1 47 = .ok (.iload_n 2, 1) := by decide +kernel
theorem d_Ne_findNext_48 : decode M_Ne_findNext.2.1 48 = .ok (.iaload, 1) := by decide +kernel
theorem d_Ne_findNext_49 : decode M_Ne_findNext.2.1 49 = .ok (.iadd, 1) := by decide +kernel
theorem d_Ne_findNext_50 : decode M_Ne_findNext.2.1 50 = .ok (.aload_n 0, 1) := by decide +kernel
theorem d_Ne_findNext_51 : decode M_Ne_findNext.2.1 51 = .ok (.getfield 16, 3) := by decide +kernel
theorem d_Ne_findNext_54 : decode M_Ne_findNext.2.1 54 = .ok (.iload_n 1, 1) := by decide +kernel
theorem d_Ne_findNext_55 : decode M_Ne_findNext.2.1 55 = .ok (.aaload, 1) := by decide +kernel
theorem d_Ne_findNext_56 : decode M_Ne_findNext.2.1 56 = .ok (.iload_n 2, 1) := by decide +kernel
theorem d_Ne_findNext_57 : decode M_Ne_findNext.2.1 57 = .ok (.iaload, 1) := by decide +kernel
theorem d_Ne_findNext_58 : decode M_Ne_findNext.2.1 58 = .ok (.if_icmp .ne 5, 3) := by decide +kernel
theorem d_Ne_findNext_61 : decode M_Ne_findNext.2.1 61 = .ok (.iload_n 3, 1) := by decide +kernel
theorem d_Ne_findNext_62 : decode M_Ne_findNext.2.1 62 = .ok (.ireturn, 1) := by decide +kernel
theorem d_Ne_findNext_63 : decode M_Ne_findNext.2.1 63 = .ok (.iinc 3 1, 3) := by decide +kernel
theorem d_Ne_findNext_66 : decode M_Ne_findNext.2.1 66 = .ok (.goto (-48), 3) := by decide +kernel
theorem d_Ne_findNext_69 : decode M_Ne_findNext.2.1 69 = .ok (.iconst (-1), 1) := by decide +kernel
theorem d_Ne_findNext_70 : decode M_Ne_findNext.2.1 70 = .ok (.ireturn, 1) := by decide +kernel
theorem d_Ne_areConnected_0 : decode M_Ne_areConnected.2.1 0 = .ok (.aload_n 0, 1) := by decide +kernel
theorem d_Ne_areConnected_1 : decode M_Ne_areConnected.2.1 1 = .ok (.getfield 16, 3) := by decide +kernel
theorem d_Ne_areConnected_4 : decode M_Ne_areConnected.2.1 4 = .ok (.iload_n 1, 1) := by decide +kernel
theorem d_Ne_areConnected_5 : decode M_Ne_areConnected.2.1 5 = .ok (.aaload, 1) := by decide +kernel
theorem d_Ne_areConnected_6 : decode M_Ne_areConnected.2.1 6 = .ok (.iload_n 2, 1) := by decide +kernel
theorem d_Ne_areConnected_7 : decode M_Ne_areConnected.2.1 7 = .ok (.iaload, 1) := by decide +kernel
theorem d_Ne_areConnected_8 : decode M_Ne_areConnected.2.1 8 = .ok (.sipush 1000, 3) := by decide +kernel
theorem d_Ne_areConnected_11 : decode M_Ne_areConnected.2.1 11 = .ok (.if_icmp .ge 7, 3) := by decide +kernel
theorem d_Ne_areConnected_14 : decode M_Ne_areConnected.2.1 14 = .ok (.iconst 1, 1) := by decide +kernel
theorem d_Ne_areConnected_15 : decode M_Ne_areConnected.2.1 15 = .ok (.goto 4, 3) := by decide +kernel
theorem d_Ne_areConnected_18 : decode M_Ne_areConnected.2.1 18 = .ok (.iconst 0, 1) := by decide +kernel
theorem d_Ne_areConnected_19 : decode M_Ne_areConnected.2.1 19 = .ok (.ireturn, 1) := by decide +kernel
theorem d_Ne_orderTowards_0 : decode M_Ne_orderTowards.2.1 0 = .ok (.aload_n 0, 1) := by decide +kernel
theorem d_Ne_orderTowards_1 : decode M_Ne_orderTowards.2.1 1 = .ok (.getfield 22, 3) := by decide +kernel
theorem d_Ne_orderTowards_4 : decode M_Ne_orderTowards.2.1 4 = .ok (.iload_n 1, 1) := by decide +kernel
theorem d_Ne_orderTowards_5 : decode M_Ne_orderTowards.2.1 5 = .ok (.aaload, 1) := by decide +kernel
theorem d_Ne_orderTowards_6 : decode M_Ne_orderTowards.2.1 6 = .ok (.astore_n 2, 1) := by decide +kernel
theorem d_Ne_orderTowards_7 : decode M_Ne_orderTowards.2.1 7 = .ok (.iconst 0, 1) := by decide +kernel
theorem d_Ne_orderTowards_8 : decode M_Ne_orderTowards.2.1 8 = .ok (.istore_n 3, 1) := by decide +kernel
theorem d_Ne_orderTowards_9 : decode M_Ne_orderTowards.2.1 9 = .ok (.iload_n 3, 1) := by decide +kernel
theorem d_Ne_orderTowards_10 : decode M_Ne_orderTowards.2.1 10 = .ok (.bipush 6, 2) := by decide +kernel
theorem d_Ne_orderTowards_12 : decode M_Ne_orderTowards.2.1 12 = .ok (.if_icmp .ge 62, 3) := by decide +kernel
theorem d_Ne_orderTowards_15 : decode M_Ne_orderTowards.2.1 15 = .ok (.iload_n 3, 1) := by decide +kernel
theorem d_Ne_orderTowards_16 : decode M_Ne_orderTowards.2.1 16 = .ok (.istore 4, 2) := by decide +kernel
theorem d_Ne_orderTowards_18 : decode M_Ne_orderTowards.2.1 18 = .ok (.iload 4, 2) := by decide +kernel
theorem d_Ne_orderTowards_20 : decode M_Ne_orderTowards.2.1 20 = .ok (.ifCond .le 43, 3) := by decide +kernel
theorem d_Ne_orderTowards_23 : decode M_Ne_orderTowards.2.1 23 = .ok (.aload_n 0, 1) := by decide +kernel
theorem d_Ne_orderTowards_24 : decode M_Ne_orderTowards.2.1 24 = .ok (.getfield 16, 3) := by decide +kernel
theorem d_Ne_orderTowards_27 : decode M_Ne_orderTowards.2.1 27 = .ok (.aload_n 2, 1) := by decide +kernel
theorem d_Ne_orderTowards_28 : decode M_Ne_orderTowards.2.1 28 = .ok (.iload 4, 2) := by decide +kernel
theorem d_Ne_orderTowards_30 : decode M_Ne_orderTowards.2.1 30 = .ok (.iconst 1, 1) := by decide +kernel
theorem d_Ne_orderTowards_31 : decode M_Ne_orderTowards.2.1 31 = .ok (.isub, 1) := by decide +kernel
theorem d_Ne_orderTowards_32 : decode M_Ne_orderTowards.2.1 32 = .ok (.iaload, 1) := by decide +kernel
theorem d_Ne_orderTowards_33 : decode M_Ne_orderTowards.2.1 33 = .ok (.aaload, 1) := by decide +kernel
theorem d_Ne_orderTowards_34 : decode M_Ne_orderTowards.2.1 34 = .ok (.iload_n 1, 1) := by decide +kernel
theorem d_Ne_orderTowards_35 : decode M_Ne_orderTowards.2.1 35 = .ok (.iaload, 1) := by decide +kernel
theorem d_Ne_orderTowards_36 : decode M_Ne_orderTowards.2.1 36 = .ok (.aload_n 0, 1) := by decide +kernel
theorem d_Ne_orderTowards_37 : decode M_Ne_orderTowards.2.1 37 = .ok (.getfield 16, 3) := by decide +kernel
theorem d_Ne_orderTowards_40 : decode M_Ne_orderTowards.2.1 40 = .ok (.iload_n 3, 1) := by decide +kernel
theorem d_Ne_orderTowards_41 : decode M_Ne_orderTowards.2.1 41 = .ok (.aaload, 1) := by decide +kernel
theorem d_Ne_orderTowards_42 : decode M_Ne_orderTowards.2.1 42 = .ok (.iload_n 1, 1) := by decide +kernel
theorem d_Ne_orderTowards_43 : decode M_Ne_orderTowards.2.1 43 = .ok (.iaload, 1) := by decide +kernel
theorem d_Ne_orderTowards_44 : decode M_Ne_orderTowards.2.1 44 = .ok (.if_icmp .ge 19, 3) := by decide +kernel
theorem d_Ne_orderTowards_47 : decode M_Ne_orderTowards.2.1 47 = .ok (.aload_n 2, 1) := by decide +kernel
theorem d_Ne_orderTowards_48 : decode M_Ne_orderTowards.2.1 48 = .ok (.iload 4, 2) := by decide +kernel
theorem d_Ne_orderTowards_50 : decode M_Ne_orderTowards.2.1 50 = .ok (.aload_n 2, 1) := by decide +kernel
theorem d_Ne_orderTowards_51 : decode M_Ne_orderTowards.2.1 51 = .ok (.iload 4, 2) := by decide +kernel
theorem d_Ne_orderTowards_53 : decode M_Ne_orderTowards.2.1 53 = .ok (.iconst 1, 1) := by decide +kernel
theorem d_Ne_orderTowards_54 : decode M_Ne_orderTowards.2.1 54 = .ok (.isub, 1) := by decide +kernel
theorem d_Ne_orderTowards_55 : decode M_Ne_orderTowards.2.1 55 = .ok (.iaload, 1) := by decide +kernel
theorem d_Ne_orderTowards_56 : decode M_Ne_orderTowards.2.1 56 = .ok (.iastore, 1) := by decide +kernel
theorem d_Ne_orderTowards_57 : decode M_Ne_orderTowards.2.1 57 = .ok (.iinc 4 (-1), 3) := by decide +kernel
theorem d_Ne_orderTowards_60 : decode M_Ne_orderTowards.2.1 60 = .ok (.goto (-42), 3) := by decide +kernel
theorem d_Ne_orderTowards_63 : decode M_Ne_orderTowards.2.1 63 = .ok (.aload_n 2, 1) := by decide +kernel
theorem d_Ne_orderTowards_64 : decode M_Ne_orderTowards.2.1 64 = .ok (.iload 4, 2) := by decide +kernel
theorem d_Ne_orderTowards_66 : decode M_Ne_orderTowards.2.1 66 = .ok (.iload_n 3, 1) := by decide +kernel
theorem d_Ne_orderTowards_67 : decode M_Ne_orderTowards.2.1 67 = .ok (.iastore, 1) := by decide +kernel
theorem d_Ne_orderTowards_68 : decode M_Ne_orderTowards.2.1 68 = .ok (.iinc 3 1, 3) := by decide +kernel
theorem d_Ne_orderTowards_71 : decode M_Ne_orderTowards.2.1 71 = .ok (.goto (-62), 3) := by decide +kernel
theorem d_Ne_orderTowards_74 : decode M_Ne_orderTowards.2.1 74 = .ok (.return_, 1) := by decide +kernel
theorem d_La_init_0 : decode M_La_init.2.1 0 = .ok (.aload_n 0, 1) := by decide +kernel
theorem d_La_init_1 : decode M_La_init.2.1 1 = .ok (.invokespecial 3, 3) := by decide +kernel
theorem d_La_init_4 : decode M_La_init.2.1 4 = .ok (.aload_n 0, 1) := by decide +kernel
theorem d_La_init_5 : decode M_La_init.2.1 5 = .ok (.bipush 6, 2) := by decide +kernel
theorem d_La_init_7 : decode M_La_init.2.1 7 = .ok (.iconst 3, 1) := by decide +kernel
theorem d_La_init_8 : decode M_La_init.2.1 8 = .ok (.multianewarray 9 2, 4) := by decide +kernel
theorem d_La_init_12 : decode M_La_init.2.1 12 = .ok (.putfield 11, 3) := by decide +kernel
theorem d_La_init_15 : decode M_La_init.2.1 15 = .ok (.aload_n 0, 1) := by decide +kernel
theorem d_La_init_16 : decode M_La_init.2.1 16 = .ok (.bipush 6, 2) := by decide +kernel
theorem d_La_init_18 : decode M_La_init.2.1 18 = .ok (.iconst 3, 1) := by decide +kernel
theorem d_La_init_19 : decode M_La_init.2.1 19 = .ok (.multianewarray 9 2, 4) := by decide +kernel
theorem d_La_init_23 : decode M_La_init.2.1 23 = .ok (.putfield 16, 3) := by decide +kernel
theorem d_La_init_26 : decode M_La_init.2.1 26 = .ok (.aload_n 0, 1) := by decide +kernel
theorem d_La_init_27 : decode M_La_init.2.1 27 = .ok (.bipush 6, 2) := by decide +kernel
theorem d_La_init_29 : decode M_La_init.2.1 29 = .ok (.iconst 3, 1) := by decide +kernel
theorem d_La_init_30 : decode M_La_init.2.1 30 = .ok (.multianewarray 9 2, 4) := by decide +kernel
theorem d_La_init_34 : decode M_La_init.2.1 34 = .ok (.putfield 19, 3) := by decide +kernel
theorem d_La_init_37 : decode M_La_init.2.1 37 = .ok (.aload_n 0, 1) := by decide +kernel
theorem d_La_init_38 : decode M_La_init.2.1 38 = .ok (.bipush 6, 2) := by decide +kernel
theorem d_La_init_40 : decode M_La_init.2.1 40 = .ok (.newarray .int, 2) := by decide +kernel
theorem d_La_init_42 : decode M_La_init.2.1 42 = .ok (.putfield 22, 3) := by decide +kernel
theorem d_La_init_45 : decode M_La_init.2.1 45 = .ok (.aload_n 0, 1) := by decide +kernel
theorem d_La_init_46 : decode M_La_init.2.1 46 = .ok (.aload_n 1, 1) := by decide +kernel
theorem d_La_init_47 : decode M_La_init.2.1 47 = .ok (.putfield 26, 3) := by decide +kernel
theorem d_La_init_50 : decode M_La_init.2.1 50 = .ok (.iconst 0, 1) := by decide +kernel
theorem d_La_init_51 : decode M_La_init.2.1 51 = .ok (.istore_n 2, 1) := by decide +kernel
theorem d_La_init_52 : decode M_La_init.2.1 52 = .ok (.iload_n 2, 1) := by decide +kernel
theorem d_La_init_53 : decode M_La_init.2.1 53 = .ok (.bipush 6, 2) := by decide +kernel
theorem d_La_init_55 : decode M_La_init.2.1 55 = .ok (.if_icmp .ge 19, 3) := by decide +kernel
theorem d_La_init_58 : decode M_La_init.2.1 58 = .ok (.aload_n 0, 1) := by decide +kernel
theorem d_La_init_59 : decode M_La_init.2.1 59 = .ok (.getfield 19, 3) := by decide +kernel
theorem d_La_init_62 : decode M_La_init.2.1 62 = .ok (.iload_n 2, 1) := by decide +kernel
theorem d_La_init_63 : decode M_La_init.2.1 63 = .ok (.aaload, 1) := by decide +kernel
theorem d_La_init_64 : decode M_La_init.2.1 64 = .ok (.iconst (-1), 1) := by decide +kernel
theorem d_La_init_65 : decode M_La_init.2.1 65 = .ok (.invokestatic 30, 3) := by decide +kernel
theorem d_La_init_68 : decode M_La_init.2.1 68 = .ok (.iinc 2 1, 3) := by decide +kernel
theorem d_La_init_71 : decode M_La_init.2.1 71 = .ok (.goto (-19), 3) := by decide +kernel
theorem d_La_init_74 : decode M_La_init.2.1 74 = .ok (.return_, 1) := by decide +kernel
theorem d_JA_fill_0 : decode M_JA_fill.2.1 0 = .ok (.iconst 0, 1) := by decide +kernel
theorem d_JA_fill_1 : decode M_JA_fill.2.1 1 = .ok (.istore_n 2, 1) := by decide +kernel
theorem d_JA_fill_2 : decode M_JA_fill.2.1 2 = .ok (.aload_n 0, 1) := by decide +kernel
theorem d_JA_fill_3 : decode M_JA_fill.2.1 3 = .ok (.arraylength, 1) := by decide +kernel
theorem d_JA_fill_4 : decode M_JA_fill.2.1 4 = .ok (.istore_n 3, 1) := by decide +kernel
theorem d_JA_fill_5 : decode M_JA_fill.2.1 5 = .ok (.iload_n 2, 1) := by decide +kernel
theorem d_JA_fill_6 : decode M_JA_fill.2.1 6 = .ok (.iload_n 3, 1) := by decide +kernel
theorem d_JA_fill_7 : decode M_JA_fill.2.1 7 = .ok (.if_icmp .ge 13, 3) := by decide +kernel
theorem d_JA_fill_10 : decode M_JA_fill.2.1 10 = .ok (.aload_n 0, 1) := by decide +kernel
theorem d_JA_fill_11 : decode M_JA_fill.2.1 11 = .ok (.iload_n 2, 1) := by decide +kernel
theorem d_JA_fill_12 : decode M_JA_fill.2.1 12 = .ok (.iload_n 1, 1) := by decide +kernel
theorem d_JA_fill_13 : decode M_JA_fill.2.1 13 = .ok (.iastore, 1) := by decide +kernel
theorem d_JA_fill_14 : decode M_JA_fill.2.1 14 = .ok (.iinc 2 1, 3) := by decide +kernel
theorem d_JA_fill_17 : decode M_JA_fill.2.1 17 = .ok (.goto (-12), 3) := by decide +kernel
theorem d_JA_fill_20 : decode M_JA_fill.2.1 20 = .ok (.return_, 1) := by decide +kernel
theorem d_Sm_init_0 : decode M_Sm_init.2.1 0 = .ok (.aload_n 0, 1) := by decide +kernel
theorem d_Sm_init_1 : decode M_Sm_init.2.1 1 = .ok (.invokespecial 3, 3) := by decide +kernel
theorem d_Sm_init_4 : decode M_Sm_init.2.1 4 = .ok (.aload_n 0, 1) := by decide +kernel
theorem d_Sm_init_5 : decode M_Sm_init.2.1 5 = .ok (.bipush 18, 2) := by decide +kernel
theorem d_Sm_init_7 : decode M_Sm_init.2.1 7 = .ok (.bipush 6, 2) := by decide +kernel
theorem d_Sm_init_9 : decode M_Sm_init.2.1 9 = .ok (.multianewarray 9 2, 4) := by decide +kernel
theorem d_Sm_init_13 : decode M_Sm_init.2.1 13 = .ok (.putfield 11, 3) := by decide +kernel
theorem d_Sm_init_16 : decode M_Sm_init.2.1 16 = .ok (.aload_n 0, 1) := by decide +kernel
theorem d_Sm_init_17 : decode M_Sm_init.2.1 17 = .ok (.bipush 18, 2) := by decide +kernel
theorem d_Sm_init_19 : decode M_Sm_init.2.1 19 = .ok (.newarray .int, 2) := by decide +kernel
theorem d_Sm_init_21 : decode M_Sm_init.2.1 21 = .ok (.putfield 16, 3) := by decide +kernel
theorem d_Sm_init_24 : decode M_Sm_init.2.1 24 = .ok (.aload_n 0, 1) := by decide +kernel
theorem d_Sm_init_25 : decode M_Sm_init.2.1 25 = .ok (.bipush 18, 2) := by decide +kernel
theorem d_Sm_init_27 : decode M_Sm_init.2.1 27 = .ok (.newarray .int, 2) := by decide +kernel
theorem d_Sm_init_29 : decode M_Sm_init.2.1 29 = .ok (.putfield 20, 3) := by decide +kernel
theorem d_Sm_init_32 : decode M_Sm_init.2.1 32 = .ok (.aload_n 0, 1) := by decide +kernel
theorem d_Sm_init_33 : decode M_Sm_init.2.1 33 = .ok (.aload_n 1, 1) := by decide +kernel
theorem d_Sm_init_34 : decode M_Sm_init.2.1 34 = .ok (.putfield 23, 3) := by decide +kernel
theorem d_Sm_init_37 : decode M_Sm_init.2.1 37 = .ok (.return_, 1) := by decide +kernel
theorem d_Ne_costOf_0 : decode M_Ne_costOf.2.1 0 = .ok (.aload_n 0, 1) := by decide +kernel
theorem d_Ne_costOf_1 : decode M_Ne_costOf.2.1 1 = .ok (.getfield 11, 3) := by decide +kernel
theorem d_Ne_costOf_4 : decode M_Ne_costOf.2.1 4 = .ok (.iload_n 1, 1) := by decide +kernel
theorem d_Ne_costOf_5 : decode M_Ne_costOf.2.1 5 = .ok (.aaload, 1) := by decide +kernel
theorem d_Ne_costOf_6 : decode M_Ne_costOf.2.1 6 = .ok (.iload_n 2, 1) := by decide +kernel
theorem d_Ne_costOf_7 : decode M_Ne_costOf.2.1 7 = .ok (.iaload, 1) := by decide +kernel
theorem d_Ne_costOf_8 : decode M_Ne_costOf.2.1 8 = .ok (.ireturn, 1) := by decide +kernel
theorem d_Ne_setCost_0 : decode M_Ne_setCost.2.1 0 = .ok (.aload_n 0, 1) := by decide +kernel
theorem d_Ne_setCost_1 : decode M_Ne_setCost.2.1 1 = .ok (.getfield 11, 3) := by decide +kernel
theorem d_Ne_setCost_4 : decode M_Ne_setCost.2.1 4 = .ok (.iload_n 1, 1) := by decide +kernel
theorem d_Ne_setCost_5 : decode M_Ne_setCost.2.1 5 = .ok (.aaload, 1) := by decide +kernel
theorem d_Ne_setCost_6 : decode M_Ne_setCost.2.1 6 = .ok (.iload_n 2, 1) := by decide +kernel
theorem d_Ne_setCost_7 : decode M_Ne_setCost.2.1 7 = .ok (.iload_n 3, 1) := by decide +kernel
theorem d_Ne_setCost_8 : decode M_Ne_setCost.2.1 8 = .ok (.iastore, 1) := by decide +kernel
theorem d_Ne_setCost_9 : decode M_Ne_setCost.2.1 9 = .ok (.aload_n 0, 1) := by decide +kernel
theorem d_Ne_setCost_10 : decode M_Ne_setCost.2.1 10 = .ok (.getfield 11, 3) := by decide +kernel
theorem d_Ne_setCost_13 : decode M_Ne_setCost.2.1 13 = .ok (.iload_n 2, 1) := by decide +kernel
theorem d_Ne_setCost_14 : decode M_Ne_setCost.2.1 14 = .ok (.aaload, 1) := by decide +kernel
theorem d_Ne_setCost_15 : decode M_Ne_setCost.2.1 15 = .ok (.iload_n 1, 1) := by decide +kernel
theorem d_Ne_setCost_16 : decode M_Ne_setCost.2.1 16 = .ok (.iload_n 3, 1) := by decide +kernel
theorem d_Ne_setCost_17 : decode M_Ne_setCost.2.1 17 = .ok (.iastore, 1) := by decide +kernel
theorem d_Ne_setCost_18 : decode M_Ne_setCost.2.1 18 = .ok (.aload_n 0, 1) := by decide +kernel
theorem d_Ne_setCost_19 : decode M_Ne_setCost.2.1 19 = .ok (.invokevirtual 25, 3) := by decide +kernel
theorem d_Ne_setCost_22 : decode M_Ne_setCost.2.1 22 = .ok (.return_, 1) := by decide +kernel
theorem d_Ne_fromFarthest_0 : decode M_Ne_fromFarthest.2.1 0 = .ok (.aload_n 0, 1) := by decide +kernel
theorem d_Ne_fromFarthest_1 : decode M_Ne_fromFarthest.2.1 1 = .ok (.getfield 22, 3) := by decide +kernel
theorem d_Ne_fromFarthest_4 : decode M_Ne_fromFarthest.2.1 4 = .ok (.iload_n 1, 1) := by decide +kernel
theorem d_Ne_fromFarthest_5 : decode M_Ne_fromFarthest.2.1 5 = .ok (.aaload, 1) := by decide +kernel
theorem d_Ne_fromFarthest_6 : decode M_Ne_fromFarthest.2.1 6 = .ok (.iload_n 2, 1) := by decide +kernel
theorem d_Ne_fromFarthest_7 : decode M_Ne_fromFarthest.2.1 7 = .ok (.iaload, 1) := by decide +kernel
theorem d_Ne_fromFarthest_8 : decode M_Ne_fromFarthest.2.1 8 = .ok (.ireturn, 1) := by decide +kernel
theorem d_La_isMarked_0 : decode M_La_isMarked.2.1 0 = .ok (.aload_n 0, 1) := by decide +kernel
theorem d_La_isMarked_1 : decode M_La_isMarked.2.1 1 = .ok (.getfield 26, 3) := by decide +kernel
theorem d_La_isMarked_4 : decode M_La_isMarked.2.1 4 = .ok (.invokevirtual 40, 3) := by decide +kernel
theorem d_La_isMarked_7 : decode M_La_isMarked.2.1 7 = .ok (.aload_n 0, 1) := by decide +kernel
theorem d_La_isMarked_8 : decode M_La_isMarked.2.1 8 = .ok (.getfield 16, 3) := by decide +kernel
theorem d_La_isMarked_11 : decode M_La_isMarked.2.1 11 = .ok (.iload_n 1, 1) := by decide +kernel
theorem d_La_isMarked_12 : decode M_La_isMarked.2.1 12 = .ok (.aaload, 1) := by decide +kernel
theorem d_La_isMarked_13 : decode M_La_isMarked.2.1 13 = .ok (.iload_n 2, 1) := by decide +kernel
theorem d_La_isMarked_14 : decode M_La_isMarked.2.1 14 = .ok (.iaload, 1) := by decide +kernel
theorem d_La_isMarked_15 : decode M_La_isMarked.2.1 15 = .ok (.if_icmp .ge 7, 3) := by decide +kernel
theorem d_La_isMarked_18 : decode M_La_isMarked.2.1 18 = .ok (.iconst 1, 1) := by decide +kernel
theorem d_La_isMarked_19 : decode M_La_isMarked.2.1 19 = .ok (.goto 4, 3) := by decide +kernel
theorem d_La_isMarked_22 : decode M_La_isMarked.2.1 22 = .ok (.iconst 0, 1) := by decide +kernel
theorem d_La_isMarked_23 : decode M_La_isMarked.2.1 23 = .ok (.ireturn, 1) := by decide +kernel
theorem d_Ck_time_0 : decode M_Ck_time.2.1 0 = .ok (.aload_n 0, 1) := by decide +kernel
theorem d_Ck_time_1 : decode M_Ck_time.2.1 1 = .ok (.getfield 7, 3) := by decide +kernel
theorem d_Ck_time_4 : decode M_Ck_time.2.1 4 = .ok (.ireturn, 1) := by decide +kernel
theorem d_Ne_nextTowards_0 : decode M_Ne_nextTowards.2.1 0 = .ok (.aload_n 0, 1) := by decide +kernel
theorem d_Ne_nextTowards_1 : decode M_Ne_nextTowards.2.1 1 = .ok (.getfield 19, 3) := by decide +kernel
theorem d_Ne_nextTowards_4 : decode M_Ne_nextTowards.2.1 4 = .ok (.iload_n 1, 1) := by decide +kernel
theorem d_Ne_nextTowards_5 : decode M_Ne_nextTowards.2.1 5 = .ok (.aaload, 1) := by decide +kernel
theorem d_Ne_nextTowards_6 : decode M_Ne_nextTowards.2.1 6 = .ok (.iload_n 2, 1) := by decide +kernel
theorem d_Ne_nextTowards_7 : decode M_Ne_nextTowards.2.1 7 = .ok (.iaload, 1) := by decide +kernel
theorem d_Ne_nextTowards_8 : decode M_Ne_nextTowards.2.1 8 = .ok (.ireturn, 1) := by decide +kernel
theorem d_Ta_count_0 : decode M_Ta_count.2.1 0 = .ok (.aload_n 0, 1) := by decide +kernel
theorem d_Ta_count_1 : decode M_Ta_count.2.1 1 = .ok (.getfield 9, 3) := by decide +kernel
theorem d_Ta_count_4 : decode M_Ta_count.2.1 4 = .ok (.iload_n 1, 1) := by decide +kernel
theorem d_Ta_count_5 : decode M_Ta_count.2.1 5 = .ok (.dup2, 1) := by decide +kernel
theorem d_Ta_count_6 : decode M_Ta_count.2.1 6 = .ok (.iaload, 1) := by decide +kernel
theorem d_Ta_count_7 : decode M_Ta_count.2.1 7 = .ok (.iconst 1, 1) := by decide +kernel
theorem d_Ta_count_8 : decode M_Ta_count.2.1 8 = .ok (.iadd, 1) := by decide +kernel
theorem d_Ta_count_9 : decode M_Ta_count.2.1 9 = .ok (.iastore, 1) := by decide +kernel
theorem d_Ta_count_10 : decode M_Ta_count.2.1 10 = .ok (.return_, 1) := by decide +kernel
theorem d_Sm_isSwitched_0 : decode M_Sm_isSwitched.2.1 0 = .ok (.aload_n 0, 1) := by decide +kernel
theorem d_Sm_isSwitched_1 : decode M_Sm_isSwitched.2.1 1 = .ok (.getfield 16, 3) := by decide +kernel
theorem d_Sm_isSwitched_4 : decode M_Sm_isSwitched.2.1 4 = .ok (.iload_n 1, 1) := by decide +kernel
theorem d_Sm_isSwitched_5 : decode M_Sm_isSwitched.2.1 5 = .ok (.iaload, 1) := by decide +kernel
theorem d_Sm_isSwitched_6 : decode M_Sm_isSwitched.2.1 6 = .ok (.iload_n 2, 1) := by decide +kernel
theorem d_Sm_isSwitched_7 : decode M_Sm_isSwitched.2.1 7 = .ok (.invokestatic 33, 3) := by decide +kernel
theorem d_Sm_isSwitched_10 : decode M_Sm_isSwitched.2.1 10 = .ok (.ireturn, 1) := by decide +kernel
theorem d_Sm_isAlive_0 : decode M_Sm_isAlive.2.1 0 = .ok (.aload_n 0, 1) := by decide +kernel
theorem d_Sm_isAlive_1 : decode M_Sm_isAlive.2.1 1 = .ok (.getfield 23, 3) := by decide +kernel
theorem d_Sm_isAlive_4 : decode M_Sm_isAlive.2.1 4 = .ok (.invokevirtual 27, 3) := by decide +kernel
theorem d_Sm_isAlive_7 : decode M_Sm_isAlive.2.1 7 = .ok (.aload_n 0, 1) := by decide +kernel
theorem d_Sm_isAlive_8 : decode M_Sm_isAlive.2.1 8 = .ok (.getfield 11, 3) := by decide +kernel
theorem d_Sm_isAlive_11 : decode M_Sm_isAlive.2.1 11 = .ok (.iload_n 1, 1) := by decide +kernel
theorem d_Sm_isAlive_12 : decode M_Sm_isAlive.2.1 12 = .ok (.aaload, 1) := by decide +kernel
theorem d_Sm_isAlive_13 : decode M_Sm_isAlive.2.1 13 = .ok (.iload_n 2, 1) := by decide +kernel
theorem d_Sm_isAlive_14 : decode M_Sm_isAlive.2.1 14 = .ok (.iaload, 1) := by decide +kernel
theorem d_Sm_isAlive_15 : decode M_Sm_isAlive.2.1 15 = .ok (.if_icmp .ge 7, 3) := by decide +kernel
theorem d_Sm_isAlive_18 : decode M_Sm_isAlive.2.1 18 = .ok (.iconst 1, 1) := by decide +kernel
theorem d_Sm_isAlive_19 : decode M_Sm_isAlive.2.1 19 = .ok (.goto 4, 3) := by decide +kernel
theorem d_Sm_isAlive_22 : decode M_Sm_isAlive.2.1 22 = .ok (.iconst 0, 1) := by decide +kernel
theorem d_Sm_isAlive_23 : decode M_Sm_isAlive.2.1 23 = .ok (.ireturn, 1) := by decide +kernel
theorem d_Ne_lengthOf_0 : decode M_Ne_lengthOf.2.1 0 = .ok (.aload_n 0, 1) := by decide +kernel
theorem d_Ne_lengthOf_1 : decode M_Ne_lengthOf.2.1 1 = .ok (.getfield 16, 3) := by decide +kernel
theorem d_Ne_lengthOf_4 : decode M_Ne_lengthOf.2.1 4 = .ok (.iload_n 1, 1) := by decide +kernel
theorem d_Ne_lengthOf_5 : decode M_Ne_lengthOf.2.1 5 = .ok (.aaload, 1) := by decide +kernel
theorem d_Ne_lengthOf_6 : decode M_Ne_lengthOf.2.1 6 = .ok (.iload_n 2, 1) := by decide +kernel
theorem d_Ne_lengthOf_7 : decode M_Ne_lengthOf.2.1 7 = .ok (.iaload, 1) := by decide +kernel
theorem d_Ne_lengthOf_8 : decode M_Ne_lengthOf.2.1 8 = .ok (.ireturn, 1) := by decide +kernel
theorem d_La_isMember_0 : decode M_La_isMember.2.1 0 = .ok (.aload_n 0, 1) := by decide +kernel
theorem d_La_isMember_1 : decode M_La_isMember.2.1 1 = .ok (.getfield 11, 3) := by decide +kernel
theorem d_La_isMember_4 : decode M_La_isMember.2.1 4 = .ok (.iload_n 1, 1) := by decide +kernel
theorem d_La_isMember_5 : decode M_La_isMember.2.1 5 = .ok (.aaload, 1) := by decide +kernel
theorem d_La_isMember_6 : decode M_La_isMember.2.1 6 = .ok (.iload_n 3, 1) := by decide +kernel
theorem d_La_isMember_7 : decode M_La_isMember.2.1 7 = .ok (.iaload, 1) := by decide +kernel
theorem d_La_isMember_8 : decode M_La_isMember.2.1 8 = .ok (.iload_n 2, 1) := by decide +kernel
theorem d_La_isMember_9 : decode M_La_isMember.2.1 9 = .ok (.invokestatic 36, 3) := by decide +kernel
theorem d_La_isMember_12 : decode M_La_isMember.2.1 12 = .ok (.ireturn, 1) := by decide +kernel
theorem d_La_admit_0 : decode M_La_admit.2.1 0 = .ok (.aload_n 0, 1) := by decide +kernel
theorem d_La_admit_1 : decode M_La_admit.2.1 1 = .ok (.getfield 11, 3) := by decide +kernel
theorem d_La_admit_4 : decode M_La_admit.2.1 4 = .ok (.iload_n 1, 1) := by decide +kernel
theorem d_La_admit_5 : decode M_La_admit.2.1 5 = .ok (.aaload, 1) := by decide +kernel
theorem d_La_admit_6 : decode M_La_admit.2.1 6 = .ok (.iload_n 3, 1) := by decide +kernel
theorem d_La_admit_7 : decode M_La_admit.2.1 7 = .ok (.dup2, 1) := by decide +kernel
theorem d_La_admit_8 : decode M_La_admit.2.1 8 = .ok (.iaload, 1) := by decide +kernel
theorem d_La_admit_9 : decode M_La_admit.2.1 9 = .ok (.iconst 1, 1) := by decide +kernel
theorem d_La_admit_10 : decode M_La_admit.2.1 10 = .ok (.iload_n 2, 1) := by decide +kernel
theorem d_La_admit_11 : decode M_La_admit.2.1 11 = .ok (.ishl, 1) := by decide +kernel
theorem d_La_admit_12 : decode M_La_admit.2.1 12 = .ok (.ior, 1) := by decide +kernel
theorem d_La_admit_13 : decode M_La_admit.2.1 13 = .ok (.iastore, 1) := by decide +kernel
theorem d_La_admit_14 : decode M_La_admit.2.1 14 = .ok (.aload_n 0, 1) := by decide +kernel
theorem d_La_admit_15 : decode M_La_admit.2.1 15 = .ok (.iload_n 1, 1) := by decide +kernel
theorem d_La_admit_16 : decode M_La_admit.2.1 16 = .ok (.iload_n 2, 1) := by decide +kernel
theorem d_La_admit_17 : decode M_La_admit.2.1 17 = .ok (.iload_n 3, 1) := by decide +kernel
theorem d_La_admit_18 : decode M_La_admit.2.1 18 = .ok (.invokevirtual 49, 3) := by decide +kernel
theorem d_La_admit_21 : decode M_La_admit.2.1 21 = .ok (.return_, 1) := by decide +kernel
theorem d_La_report_0 : decode M_La_report.2.1 0 = .ok (.aload_n 0, 1) := by decide +kernel
theorem d_La_report_1 : decode M_La_report.2.1 1 = .ok (.getfield 16, 3) := by decide +kernel
theorem d_La_report_4 : decode M_La_report.2.1 4 = .ok (.iload_n 1, 1) := by decide +kernel
theorem d_La_report_5 : decode M_La_report.2.1 5 = .ok (.aaload, 1) := by decide +kernel
theorem d_La_report_6 : decode M_La_report.2.1 6 = .ok (.iload_n 3, 1) := by decide +kernel
theorem d_La_report_7 : decode M_La_report.2.1 7 = .ok (.aload_n 0, 1) := by decide +kernel
theorem d_La_report_8 : decode M_La_report.2.1 8 = .ok (.getfield 26, 3) := by decide +kernel
theorem d_La_report_11 : decode M_La_report.2.1 11 = .ok (.invokevirtual 40, 3) := by decide +kernel
theorem d_La_report_14 : decode M_La_report.2.1 14 = .ok (.bipush 12, 2) := by decide +kernel
theorem d_La_report_16 : decode M_La_report.2.1 16 = .ok (.iadd, 1) := by decide +kernel
theorem d_La_report_17 : decode M_La_report.2.1 17 = .ok (.iastore, 1) := by decide +kernel
theorem d_La_report_18 : decode M_La_report.2.1 18 = .ok (.aload_n 0, 1) := by decide +kernel
theorem d_La_report_19 : decode M_La_report.2.1 19 = .ok (.getfield 19, 3) := by decide +kernel
theorem d_La_report_22 : decode M_La_report.2.1 22 = .ok (.iload_n 1, 1) := by decide +kernel
theorem d_La_report_23 : decode M_La_report.2.1 23 = .ok (.aaload, 1) := by decide +kernel
theorem d_La_report_24 : decode M_La_report.2.1 24 = .ok (.iload_n 3, 1) := by decide +kernel
theorem d_La_report_25 : decode M_La_report.2.1 25 = .ok (.iload_n 2, 1) := by decide +kernel
theorem d_La_report_26 : decode M_La_report.2.1 26 = .ok (.iastore, 1) := by decide +kernel
theorem d_La_report_27 : decode M_La_report.2.1 27 = .ok (.return_, 1) := by decide +kernel
theorem d_La_dismiss_0 : decode M_La_dismiss.2.1 0 = .ok (.aload_n 0, 1) := by decide +kernel
theorem d_La_dismiss_1 : decode M_La_dismiss.2.1 1 = .ok (.getfield 11, 3) := by decide +kernel
theorem d_La_dismiss_4 : decode M_La_dismiss.2.1 4 = .ok (.iload_n 1, 1) := by decide +kernel
theorem d_La_dismiss_5 : decode M_La_dismiss.2.1 5 = .ok (.aaload, 1) := by decide +kernel
theorem d_La_dismiss_6 : decode M_La_dismiss.2.1 6 = .ok (.iload_n 3, 1) := by decide +kernel
theorem d_La_dismiss_7 : decode M_La_dismiss.2.1 7 = .ok (.dup2, 1) := by decide +kernel
theorem d_La_dismiss_8 : decode M_La_dismiss.2.1 8 = .ok (.iaload, 1) := by decide +kernel
theorem d_La_dismiss_9 : decode M_La_dismiss.2.1 9 = .ok (.iconst 1, 1) := by decide +kernel
theorem d_La_dismiss_10 : decode M_La_dismiss.2.1 10 = .ok (.iload_n 2, 1) := by decide +kernel
theorem d_La_dismiss_11 : decode M_La_dismiss.2.1 11 = .ok (.ishl, 1) := by decide +kernel
theorem d_La_dismiss_12 : decode M_La_dismiss.2.1 12 = .ok (.iconst (-1), 1) := by decide +kernel
theorem d_La_dismiss_13 : decode M_La_dismiss.2.1 13 = .ok (.ixor, 1) := by decide +kernel
theorem d_La_dismiss_14 : decode M_La_dismiss.2.1 14 = .ok (.iand, 1) := by decide +kernel
theorem d_La_dismiss_15 : decode M_La_dismiss.2.1 15 = .ok (.iastore, 1) := by decide +kernel
theorem d_La_dismiss_16 : decode M_La_dismiss.2.1 16 = .ok (.iload 4, 2) := by decide +kernel
theorem d_La_dismiss_18 : decode M_La_dismiss.2.1 18 = .ok (.ifCond .eq 15, 3) := by decide +kernel
theorem d_La_dismiss_21 : decode M_La_dismiss.2.1 21 = .ok (.aload_n 0, 1) := by decide +kernel
theorem d_La_dismiss_22 : decode M_La_dismiss.2.1 22 = .ok (.getfield 19, 3) := by decide +kernel
theorem d_La_dismiss_25 : decode M_La_dismiss.2.1 25 = .ok (.iload_n 1, 1) := by decide +kernel
theorem d_La_dismiss_26 : decode M_La_dismiss.2.1 26 = .ok (.aaload, 1) := by decide +kernel
theorem d_La_dismiss_27 : decode M_La_dismiss.2.1 27 = .ok (.iload_n 3, 1) := by decide +kernel
theorem d_La_dismiss_28 : decode M_La_dismiss.2.1 28 = .ok (.iaload, 1) := by decide +kernel
theorem d_La_dismiss_29 : decode M_La_dismiss.2.1 29 = .ok (.iload_n 2, 1) := by decide +kernel
theorem d_La_dismiss_30 : decode M_La_dismiss.2.1 30 = .ok (.if_icmp .eq 4, 3) := by decide +kernel
theorem d_La_dismiss_33 : decode M_La_dismiss.2.1 33 = .ok (.return_, 1) := by decide +kernel
theorem d_La_dismiss_34 : decode M_La_dismiss.2.1 34 = .ok (.aload_n 0, 1) := by decide +kernel
theorem d_La_dismiss_35 : decode M_La_dismiss.2.1 35 = .ok (.iload_n 1, 1) := by decide +kernel
theorem d_La_dismiss_36 : decode M_La_dismiss.2.1 36 = .ok (.iload_n 3, 1) := by decide +kernel
theorem d_La_dismiss_37 : decode M_La_dismiss.2.1 37 = .ok (.invokevirtual 53, 3) := by decide +kernel
theorem d_La_dismiss_40 : decode M_La_dismiss.2.1 40 = .ok (.ifCond .eq 12, 3) := by decide +kernel
theorem d_La_dismiss_43 : decode M_La_dismiss.2.1 43 = .ok (.aload_n 0, 1) := by decide +kernel
theorem d_La_dismiss_44 : decode M_La_dismiss.2.1 44 = .ok (.iload_n 1, 1) := by decide +kernel
theorem d_La_dismiss_45 : decode M_La_dismiss.2.1 45 = .ok (.iload_n 3, 1) := by decide +kernel
theorem d_La_dismiss_46 : decode M_La_dismiss.2.1 46 = .ok (.invokevirtual 56, 3) := by decide +kernel
theorem d_La_dismiss_49 : decode M_La_dismiss.2.1 49 = .ok (.goto 40, 3) := by decide +kernel
theorem d_La_dismiss_52 : decode M_La_dismiss.2.1 52 = .ok (.aload_n 0, 1) := by decide +kernel
theorem d_La_dismiss_53 : decode M_La_dismiss.2.1 53 = .ok (.getfield 19, 3) := by decide +kernel
theorem d_La_dismiss_56 : decode M_La_dismiss.2.1 56 = .ok (.iload_n 1, 1) := by decide +kernel
theorem d_La_dismiss_57 : decode M_La_dismiss.2.1 57 = .ok (.aaload, 1) := by decide +kernel
theorem d_La_dismiss_58 : decode M_La_dismiss.2.1 58 = .ok (.iload_n 3, 1) := by decide +kernel
theorem d_La_dismiss_59 : decode M_La_dismiss.2.1 59 = .ok (.iconst (-1), 1) := by decide +kernel
theorem d_La_dismiss_60 : decode M_La_dismiss.2.1 60 = .ok (.iastore, 1) := by decide +kernel
theorem d_La_dismiss_61 : decode M_La_dismiss.2.1 61 = .ok (.aload_n 0, 1) := by decide +kernel
theorem d_La_dismiss_62 : decode M_La_dismiss.2.1 62 = .ok (.getfield 16, 3) := by decide +kernel
theorem d_La_dismiss_65 : decode M_La_dismiss.2.1 65 = .ok (.iload_n 1, 1) := by decide +kernel
theorem d_La_dismiss_66 : decode M_La_dismiss.2.1 66 = .ok (.aaload, 1) := by decide +kernel
theorem d_La_dismiss_67 : decode M_La_dismiss.2.1 67 = .ok (.iload_n 3, 1) := by decide +kernel
theorem d_La_dismiss_68 : decode M_La_dismiss.2.1 68 = .ok (.aload_n 0, 1) := by decide +kernel
theorem d_La_dismiss_69 : decode M_La_dismiss.2.1 69 = .ok (.getfield 16, 3) := by decide +kernel
theorem d_La_dismiss_72 : decode M_La_dismiss.2.1 72 = .ok (.iload_n 1, 1) := by decide +kernel
theorem d_La_dismiss_73 : decode M_La_dismiss.2.1 73 = .ok (.aaload, 1) := by decide +kernel
theorem d_La_dismiss_74 : decode M_La_dismiss.2.1 74 = .ok (.iload_n 3, 1) := by decide +kernel
theorem d_La_dismiss_75 : decode M_La_dismiss.2.1 75 = .ok (.iaload, 1) := by decide +kernel
theorem d_La_dismiss_76 : decode M_La_dismiss.2.1 76 = .ok (.aload_n 0, 1) := by decide +kernel
theorem d_La_dismiss_77 : decode M_La_dismiss.2.1 77 = .ok (.getfield 26, 3) := by decide +kernel
theorem d_La_dismiss_80 : decode M_La_dismiss.2.1 80 = .ok (.invokevirtual 40, 3) := by decide +kernel
theorem d_La_dismiss_83 : decode M_La_dismiss.2.1 83 = .ok (.iconst 2, 1) := by decide +kernel
theorem d_La_dismiss_84 : decode M_La_dismiss.2.1 84 = .ok (.iadd, 1) := by decide +kernel
theorem d_La_dismiss_85 : decode M_La_dismiss.2.1 85 = .ok (.invokestatic 60, 3) := by decide +kernel
theorem d_La_dismiss_88 : decode M_La_dismiss.2.1 88 = .ok (.iastore, 1) := by decide +kernel
theorem d_La_dismiss_89 : decode M_La_dismiss.2.1 89 = .ok (.return_, 1) := by decide +kernel
theorem d_La_hasMembers_0 : decode M_La_hasMembers.2.1 0 = .ok (.aload_n 0, 1) := by decide +kernel
theorem d_La_hasMembers_1 : decode M_La_hasMembers.2.1 1 = .ok (.getfield 11, 3) := by decide +kernel
theorem d_La_hasMembers_4 : decode M_La_hasMembers.2.1 4 = .ok (.iload_n 1, 1) := by decide +kernel
theorem d_La_hasMembers_5 : decode M_La_hasMembers.2.1 5 = .ok (.aaload, 1) := by decide +kernel
theorem d_La_hasMembers_6 : decode M_La_hasMembers.2.1 6 = .ok (.iload_n 2, 1) := by decide +kernel
theorem d_La_hasMembers_7 : decode M_La_hasMembers.2.1 7 = .ok (.iaload, 1) := by decide +kernel
theorem d_La_hasMembers_8 : decode M_La_hasMembers.2.1 8 = .ok (.ifCond .eq 7, 3) := by decide +kernel
theorem d_La_hasMembers_11 : decode M_La_hasMembers.2.1 11 = .ok (.iconst 1, 1) := by decide +kernel
theorem d_La_hasMembers_12 : decode M_La_hasMembers.2.1 12 = .ok (.goto 4, 3) := by decide +kernel
theorem d_La_hasMembers_15 : decode M_La_hasMembers.2.1 15 = .ok (.iconst 0, 1) := by decide +kernel
theorem d_La_hasMembers_16 : decode M_La_hasMembers.2.1 16 = .ok (.ireturn, 1) := by decide +kernel
theorem d_La_reportLowest_0 : decode M_La_reportLowest.2.1 0 = .ok (.iconst 0, 1) := by decide +kernel
theorem d_La_reportLowest_1 : decode M_La_reportLowest.2.1 1 = .ok (.istore_n 3, 1) := by decide +kernel
theorem d_La_reportLowest_2 : decode M_La_reportLowest.2.1 2 = .ok (.iload_n 3, 1) := by decide +kernel
theorem d_La_reportLowest_3 : decode M_La_reportLowest.2.1 3 = .ok (.iconst 4, 1) := by decide +kernel
theorem d_La_reportLowest_4 : decode M_La_reportLowest.2.1 4 = .ok (.if_icmp .ge 27, 3) := by decide +kernel
theorem d_La_reportLowest_7 : decode M_La_reportLowest.2.1 7 = .ok (.aload_n 0, 1) := by decide +kernel
theorem d_La_reportLowest_8 : decode M_La_reportLowest.2.1 8 = .ok (.iload_n 1, 1) := by decide +kernel
theorem d_La_reportLowest_9 : decode M_La_reportLowest.2.1 9 = .ok (.iload_n 3, 1) := by decide +kernel
theorem d_La_reportLowest_10 : decode M_La_reportLowest.2.1 10 = .ok (.iload_n 2, 1) := by decide +kernel
theorem d_La_reportLowest_11 : decode M_La_reportLowest.2.1 11 = .ok (.invokevirtual 66, 3) := by decide +kernel
theorem d_La_reportLowest_14 : decode M_La_reportLowest.2.1 14 = .ok (.ifCond .eq 11, 3) := by decide +kernel
theorem d_La_reportLowest_17 : decode M_La_reportLowest.2.1 17 = .ok (.aload_n 0, 1) := by decide +kernel
theorem d_La_reportLowest_18 : decode M_La_reportLowest.2.1 18 = .ok (.iload_n 1, 1) := by decide +kernel
theorem d_La_reportLowest_19 : decode M_La_reportLowest.2.1 19 = .ok (.iload_n 3, 1) := by decide +kernel
theorem d_La_reportLowest_20 : decode M_La_reportLowest.2.1 20 = .ok (.iload_n 2, 1) := by decide +kernel
theorem d_La_reportLowest_21 : decode M_La_reportLowest.2.1 21 = .ok (.invokevirtual 49, 3) := by decide +kernel
theorem d_La_reportLowest_24 : decode M_La_reportLowest.2.1 24 = .ok (.return_, 1) := by decide +kernel
theorem d_La_reportLowest_25 : decode M_La_reportLowest.2.1 25 = .ok (.iinc 3 1, 3) := by decide +kernel
theorem d_La_reportLowest_28 : decode M_La_reportLowest.2.1 28 = .ok (.goto (-26), 3) := by decide +kernel
theorem d_La_reportLowest_31 : decode M_La_reportLowest.2.1 31 = .ok (.return_, 1) := by decide +kernel
theorem d_La_ticksLeft_0 : decode M_La_ticksLeft.2.1 0 = .ok (.aload_n 0, 1) := by decide +kernel
theorem d_La_ticksLeft_1 : decode M_La_ticksLeft.2.1 1 = .ok (.iload_n 1, 1) := by decide +kernel
theorem d_La_ticksLeft_2 : decode M_La_ticksLeft.2.1 2 = .ok (.iload_n 2, 1) := by decide +kernel
theorem d_La_ticksLeft_3 : decode M_La_ticksLeft.2.1 3 = .ok (.invokevirtual 46, 3) := by decide +kernel
theorem d_La_ticksLeft_6 : decode M_La_ticksLeft.2.1 6 = .ok (.ifCond .eq 22, 3) := by decide +kernel
theorem d_La_ticksLeft_9 : decode M_La_ticksLeft.2.1 9 = .ok (.aload_n 0, 1) := by decide +kernel
theorem d_La_ticksLeft_10 : decode M_La_ticksLeft.2.1 10 = .ok (.getfield 16, 3) := by decide +kernel
theorem d_La_ticksLeft_13 : decode M_La_ticksLeft.2.1 13 = .ok (.iload_n 1, 1) := by decide +kernel
theorem d_La_ticksLeft_14 : decode M_La_ticksLeft.2.1 14 = .ok (.aaload, 1) := by decide +kernel
theorem d_La_ticksLeft_15 : decode M_La_ticksLeft.2.1 15 = .ok (.iload_n 2, 1) := by decide +kernel
theorem d_La_ticksLeft_16 : decode M_La_ticksLeft.2.1 16 = .ok (.iaload, 1) := by decide +kernel
theorem d_La_ticksLeft_17 : decode M_La_ticksLeft.2.1 17 = .ok (.aload_n 0, 1) := by decide +kernel
theorem d_La_ticksLeft_18 : decode M_La_ticksLeft.2.1 18 = .ok (.getfield 26, 3) := by decide +kernel
theorem d_La_ticksLeft_21 : decode M_La_ticksLeft.2.1 21 = .ok (.invokevirtual 40, 3) := by decide +kernel
theorem d_La_ticksLeft_24 : decode M_La_ticksLeft.2.1 24 = .ok (.isub, 1) := by decide +kernel
theorem d_La_ticksLeft_25 : decode M_La_ticksLeft.2.1 25 = .ok (.goto 4, 3) := by decide +kernel
theorem d_La_ticksLeft_28 : decode M_La_ticksLeft.2.1 28 = .ok (.iconst 0, 1) := by decide +kernel
theorem d_La_ticksLeft_29 : decode M_La_ticksLeft.2.1 29 = .ok (.ireturn, 1) := by decide +kernel
theorem d_Ck_tick_0 : decode M_Ck_tick.2.1 0 = .ok (.aload_n 0, 1) := by decide +kernel
theorem d_Ck_tick_1 : decode M_Ck_tick.2.1 1 = .ok (.dup, 1) := by decide +kernel
theorem d_Ck_tick_2 : decode M_Ck_tick.2.1 2 = .ok (.getfield 7, 3) := by decide +kernel
theorem d_Ck_tick_5 : decode M_Ck_tick.2.1 5 = .ok (.iconst 1, 1) := by decide +kernel
theorem d_Ck_tick_6 : decode M_Ck_tick.2.1 6 = .ok (.iadd, 1) := by decide +kernel
theorem d_Ck_tick_7 : decode M_Ck_tick.2.1 7 = .ok (.putfield 7, 3) := by decide +kernel
theorem d_Ck_tick_10 : decode M_Ck_tick.2.1 10 = .ok (.return_, 1) := by decide +kernel
theorem d_Sm_endStale_0 : decode M_Sm_endStale.2.1 0 = .ok (.iconst 0, 1) := by decide +kernel
theorem d_Sm_endStale_1 : decode M_Sm_endStale.2.1 1 = .ok (.istore_n 1, 1) := by decide +kernel
theorem d_Sm_endStale_2 : decode M_Sm_endStale.2.1 2 = .ok (.iload_n 1, 1) := by decide +kernel
theorem d_Sm_endStale_3 : decode M_Sm_endStale.2.1 3 = .ok (.bipush 18, 2) := by decide +kernel
theorem d_Sm_endStale_5 : decode M_Sm_endStale.2.1 5 = .ok (.if_icmp .ge 46, 3) := by decide +kernel
theorem d_Sm_endStale_8 : decode M_Sm_endStale.2.1 8 = .ok (.iconst 0, 1) := by decide +kernel
theorem d_Sm_endStale_9 : decode M_Sm_endStale.2.1 9 = .ok (.istore_n 2, 1) := by decide +kernel
theorem d_Sm_endStale_10 : decode M_Sm_endStale.2.1 10 = .ok (.iload_n 2, 1) := by decide +kernel
theorem d_Sm_endStale_11 : decode M_Sm_endStale.2.1 11 = .ok (.bipush 6, 2) := by decide +kernel
theorem d_Sm_endStale_13 : decode M_Sm_endStale.2.1 13 = .ok (.if_icmp .ge 32, 3) := by decide +kernel
theorem d_Sm_endStale_16 : decode M_Sm_endStale.2.1 16 = .ok (.aload_n 0, 1) := by decide +kernel
theorem d_Sm_endStale_17 : decode M_Sm_endStale.2.1 17 = .ok (.iload_n 1, 1) := by decide +kernel
theorem d_Sm_endStale_18 : decode M_Sm_endStale.2.1 18 = .ok (.iload_n 2, 1) := by decide +kernel
theorem d_Sm_endStale_19 : decode M_Sm_endStale.2.1 19 = .ok (.invokevirtual 41, 3) := by decide +kernel
theorem d_Sm_endStale_22 : decode M_Sm_endStale.2.1 22 = .ok (.ifCond .ne 17, 3) := by decide +kernel
theorem d_Sm_endStale_25 : decode M_Sm_endStale.2.1 25 = .ok (.aload_n 0, 1) := by decide +kernel
theorem d_Sm_endStale_26 : decode M_Sm_endStale.2.1 26 = .ok (.getfield 16, 3) := by decide +kernel
theorem d_Sm_endStale_29 : decode M_Sm_endStale.2.1 29 = .ok (.iload_n 1, 1) := by decide +kernel
theorem d_Sm_endStale_30 : decode M_Sm_endStale.2.1 30 = .ok (.dup2, 1) := by decide +kernel
theorem d_Sm_endStale_31 : decode M_Sm_endStale.2.1 31 = .ok (.iaload, 1) := by decide +kernel
theorem d_Sm_endStale_32 : decode M_Sm_endStale.2.1 32 = .ok (.iconst 1, 1) := by decide +kernel
theorem d_Sm_endStale_33 : decode M_Sm_endStale.2.1 33 = .ok (.iload_n 2, 1) := by decide +kernel
theorem d_Sm_endStale_34 : decode M_Sm_endStale.2.1 34 = .ok (.ishl, 1) := by decide +kernel
theorem d_Sm_endStale_35 : decode M_Sm_endStale.2.1 35 = .ok (.iconst (-1), 1) := by decide +kernel
theorem d_Sm_endStale_36 : decode M_Sm_endStale.2.1 36 = .ok (.ixor, 1) := by decide +kernel
theorem d_Sm_endStale_37 : decode M_Sm_endStale.2.1 37 = .ok (.iand, 1) := by decide +kernel
theorem d_Sm_endStale_38 : decode M_Sm_endStale.2.1 38 = .ok (.iastore, 1) := by decide +kernel
theorem d_Sm_endStale_39 : decode M_Sm_endStale.2.1 39 = .ok (.iinc 2 1, 3) := by decide +kernel
theorem d_Sm_endStale_42 : decode M_Sm_endStale.2.1 42 = .ok (.goto (-32), 3) := by decide +kernel
theorem d_Sm_endStale_45 : decode M_Sm_endStale.2.1 45 = .ok (.iinc 1 1, 3) := by decide +kernel
theorem d_Sm_endStale_48 : decode M_Sm_endStale.2.1 48 = .ok (.goto (-46), 3) := by decide +kernel
theorem d_Sm_endStale_51 : decode M_Sm_endStale.2.1 51 = .ok (.return_, 1) := by decide +kernel
theorem d_Ck_isReportTime_0 : decode M_Ck_isReportTime.2.1 0 = .ok (.aload_n 0, 1) := by decide +kernel
theorem d_Ck_isReportTime_1 : decode M_Ck_isReportTime.2.1 1 = .ok (.getfield 7, 3) := by decide +kernel
theorem d_Ck_isReportTime_4 : decode M_Ck_isReportTime.2.1 4 = .ok (.iconst 5, 1) := by decide +kernel
theorem d_Ck_isReportTime_5 : decode M_Ck_isReportTime.2.1 5 = .ok (.irem, 1) := by decide +kernel
theorem d_Ck_isReportTime_6 : decode M_Ck_isReportTime.2.1 6 = .ok (.ifCond .ne 7, 3) := by decide +kernel
theorem d_Ck_isReportTime_9 : decode M_Ck_isReportTime.2.1 9 = .ok (.iconst 1, 1) := by decide +kernel
theorem d_Ck_isReportTime_10 : decode M_Ck_isReportTime.2.1 10 = .ok (.goto 4, 3) := by decide +kernel
theorem d_Ck_isReportTime_13 : decode M_Ck_isReportTime.2.1 13 = .ok (.iconst 0, 1) := by decide +kernel
theorem d_Ck_isReportTime_14 : decode M_Ck_isReportTime.2.1 14 = .ok (.ireturn, 1) := by decide +kernel
theorem d_La_reportAll_0 : decode M_La_reportAll.2.1 0 = .ok (.iconst 0, 1) := by decide +kernel
theorem d_La_reportAll_1 : decode M_La_reportAll.2.1 1 = .ok (.istore_n 1, 1) := by decide +kernel
theorem d_La_reportAll_2 : decode M_La_reportAll.2.1 2 = .ok (.iload_n 1, 1) := by decide +kernel
theorem d_La_reportAll_3 : decode M_La_reportAll.2.1 3 = .ok (.bipush 6, 2) := by decide +kernel
theorem d_La_reportAll_5 : decode M_La_reportAll.2.1 5 = .ok (.if_icmp .ge 28, 3) := by decide +kernel
theorem d_La_reportAll_8 : decode M_La_reportAll.2.1 8 = .ok (.iconst 0, 1) := by decide +kernel
theorem d_La_reportAll_9 : decode M_La_reportAll.2.1 9 = .ok (.istore_n 2, 1) := by decide +kernel
theorem d_La_reportAll_10 : decode M_La_reportAll.2.1 10 = .ok (.iload_n 2, 1) := by decide +kernel
theorem d_La_reportAll_11 : decode M_La_reportAll.2.1 11 = .ok (.iconst 3, 1) := by decide +kernel
theorem d_La_reportAll_12 : decode M_La_reportAll.2.1 12 = .ok (.if_icmp .ge 15, 3) := by decide +kernel
theorem d_La_reportAll_15 : decode M_La_reportAll.2.1 15 = .ok (.aload_n 0, 1) := by decide +kernel
theorem d_La_reportAll_16 : decode M_La_reportAll.2.1 16 = .ok (.iload_n 1, 1) := by decide +kernel
theorem d_La_reportAll_17 : decode M_La_reportAll.2.1 17 = .ok (.iload_n 2, 1) := by decide +kernel
theorem d_La_reportAll_18 : decode M_La_reportAll.2.1 18 = .ok (.invokevirtual 56, 3) := by decide +kernel
theorem d_La_reportAll_21 : decode M_La_reportAll.2.1 21 = .ok (.iinc 2 1, 3) := by decide +kernel
theorem d_La_reportAll_24 : decode M_La_reportAll.2.1 24 = .ok (.goto (-14), 3) := by decide +kernel
theorem d_La_reportAll_27 : decode M_La_reportAll.2.1 27 = .ok (.iinc 1 1, 3) := by decide +kernel
theorem d_La_reportAll_30 : decode M_La_reportAll.2.1 30 = .ok (.goto (-28), 3) := by decide +kernel
theorem d_La_reportAll_33 : decode M_La_reportAll.2.1 33 = .ok (.return_, 1) := by decide +kernel
theorem d_Sm_hasRoomFor_0 : decode M_Sm_hasRoomFor.2.1 0 = .ok (.aload_n 0, 1) := by decide +kernel
theorem d_Sm_hasRoomFor_1 : decode M_Sm_hasRoomFor.2.1 1 = .ok (.iload_n 1, 1) := by decide +kernel
theorem d_Sm_hasRoomFor_2 : decode M_Sm_hasRoomFor.2.1 2 = .ok (.invokevirtual 44, 3) := by decide +kernel
theorem d_Sm_hasRoomFor_5 : decode M_Sm_hasRoomFor.2.1 5 = .ok (.ifCond .eq 5, 3) := by decide +kernel
theorem d_Sm_hasRoomFor_8 : decode M_Sm_hasRoomFor.2.1 8 = .ok (.iconst 1, 1) := by decide +kernel
theorem d_Sm_hasRoomFor_9 : decode M_Sm_hasRoomFor.2.1 9 = .ok (.ireturn, 1) := by decide +kernel
theorem d_Sm_hasRoomFor_10 : decode M_Sm_hasRoomFor.2.1 10 = .ok (.iconst 0, 1) := by decide +kernel
theorem d_Sm_hasRoomFor_11 : decode M_Sm_hasRoomFor.2.1 11 = .ok (.istore_n 2, 1) := by decide +kernel
theorem d_Sm_hasRoomFor_12 : decode M_Sm_hasRoomFor.2.1 12 = .ok (.iconst 0, 1) := by decide +kernel
theorem d_Sm_hasRoomFor_13 : decode M_Sm_hasRoomFor.2.1 13 = .ok (.istore_n 3, 1) := by decide +kernel
theorem d_Sm_hasRoomFor_14 : decode M_Sm_hasRoomFor.2.1 14 = .ok (.iload_n 3, 1) := by decide +kernel
theorem d_Sm_hasRoomFor_15 : decode M_Sm_hasRoomFor.2.1 15 = .ok (.bipush 18, 2) := by decide +kernel
theorem d_Sm_hasRoomFor_17 : decode M_Sm_hasRoomFor.2.1 17 = .ok (.if_icmp .ge 20, 3) := by decide +kernel
theorem d_Sm_hasRoomFor_20 : decode M_Sm_hasRoomFor.2.1 20 = .ok (.aload_n 0, 1) := by decide +kernel
theorem d_Sm_hasRoomFor_21 : decode M_Sm_hasRoomFor.2.1 21 = .ok (.iload_n 3, 1) := by decide +kernel
theorem d_Sm_hasRoomFor_22 : decode M_Sm_hasRoomFor.2.1 22 = .ok (.invokevirtual 44, 3) := by decide +kernel
theorem d_Sm_hasRoomFor_25 : decode M_Sm_hasRoomFor.2.1 25 = .ok (.ifCond .eq 6, 3) := by decide +kernel
theorem d_Sm_hasRoomFor_28 : decode M_Sm_hasRoomFor.2.1 28 = .ok (.iinc 2 1, 3) := by decide +kernel
theorem d_Sm_hasRoomFor_31 : decode M_Sm_hasRoomFor.2.1 31 = .ok (.iinc 3 1, 3) := by decide +kernel
theorem d_Sm_hasRoomFor_34 : decode M_Sm_hasRoomFor.2.1 34 = .ok (.goto (-20), 3) := by decide +kernel
theorem d_Sm_hasRoomFor_37 : decode M_Sm_hasRoomFor.2.1 37 = .ok (.iload_n 2, 1) := by decide +kernel
theorem d_Sm_hasRoomFor_38 : decode M_Sm_hasRoomFor.2.1 38 = .ok (.iconst 5, 1) := by decide +kernel
theorem d_Sm_hasRoomFor_39 : decode M_Sm_hasRoomFor.2.1 39 = .ok (.if_icmp .ge 7, 3) := by decide +kernel
theorem d_Sm_hasRoomFor_42 : decode M_Sm_hasRoomFor.2.1 42 = .ok (.iconst 1, 1) := by decide +kernel
theorem d_Sm_hasRoomFor_43 : decode M_Sm_hasRoomFor.2.1 43 = .ok (.goto 4, 3) := by decide +kernel
theorem d_Sm_hasRoomFor_46 : decode M_Sm_hasRoomFor.2.1 46 = .ok (.iconst 0, 1) := by decide +kernel
theorem d_Sm_hasRoomFor_47 : decode M_Sm_hasRoomFor.2.1 47 = .ok (.ireturn, 1) := by decide +kernel
theorem d_Sm_isAliveSomewhere_0 : decode M_Sm_isAliveSomewhere.2.1 0 = .ok (.iconst 0, 1) := by decide +kernel
theorem d_Sm_isAliveSomewhere_1 : decode M_Sm_isAliveSomewhere.2.1 1 = .ok (.istore_n 2, 1) := by decide +kernel
theorem d_Sm_isAliveSomewhere_2 : decode M_Sm_isAliveSomewhere.2.1 2 = .ok (.iload_n 2, 1) := by decide +kernel
theorem d_Sm_isAliveSomewhere_3 : decode M_Sm_isAliveSomewhere.2.1 3 = .ok (.bipush 6, 2) := by decide +kernel
theorem d_Sm_isAliveSomewhere_5 : decode M_Sm_isAliveSomewhere.2.1 5 = .ok (.if_icmp .ge 20, 3) := by decide +kernel
theorem d_Sm_isAliveSomewhere_8 : decode M_Sm_isAliveSomewhere.2.1 8 = .ok (.aload_n 0, 1) := by decide +kernel
theorem d_Sm_isAliveSomewhere_9 : decode M_Sm_isAliveSomewhere.2.1 9 = .ok (.iload_n 1, 1) := by decide +kernel
theorem d_Sm_isAliveSomewhere_10 : decode M_Sm_isAliveSomewhere.2.1 10 = .ok (.iload_n 2, 1) := by decide +kernel
theorem d_Sm_isAliveSomewhere_11 : decode M_Sm_isAliveSomewhere.2.1 11 = .ok (.invokevirtual 41, 3) := by decide +kernel
theorem d_Sm_isAliveSomewhere_14 : decode M_Sm_isAliveSomewhere.2.1 14 = .ok (.ifCond .eq 5, 3) := by decide +kernel
theorem d_Sm_isAliveSomewhere_17 : decode M_Sm_isAliveSomewhere.2.1 17 = .ok (.iconst 1, 1) := by decide +kernel
theorem d_Sm_isAliveSomewhere_18 : decode M_Sm_isAliveSomewhere.2.1 18 = .ok (.ireturn, 1) := by decide +kernel
theorem d_Sm_isAliveSomewhere_19 : decode M_Sm_isAliveSomewhere.2.1 19 = .ok (.iinc 2 1, 3) := by decide +kernel
theorem d_Sm_isAliveSomewhere_22 : decode M_Sm_isAliveSomewhere.2.1 22 = .ok (.goto (-20), 3) := by decide +kernel
theorem d_Sm_isAliveSomewhere_25 : decode M_Sm_isAliveSomewhere.2.1 25 = .ok (.iconst 0, 1) := by decide +kernel
theorem d_Sm_isAliveSomewhere_26 : decode M_Sm_isAliveSomewhere.2.1 26 = .ok (.ireturn, 1) := by decide +kernel
theorem d_Sm_renew_0 : decode M_Sm_renew.2.1 0 = .ok (.aload_n 0, 1) := by decide +kernel
theorem d_Sm_renew_1 : decode M_Sm_renew.2.1 1 = .ok (.getfield 11, 3) := by decide +kernel
theorem d_Sm_renew_4 : decode M_Sm_renew.2.1 4 = .ok (.iload_n 1, 1) := by decide +kernel
theorem d_Sm_renew_5 : decode M_Sm_renew.2.1 5 = .ok (.aaload, 1) := by decide +kernel
theorem d_Sm_renew_6 : decode M_Sm_renew.2.1 6 = .ok (.iload_n 2, 1) := by decide +kernel
theorem d_Sm_renew_7 : decode M_Sm_renew.2.1 7 = .ok (.aload_n 0, 1) := by decide +kernel
theorem d_Sm_renew_8 : decode M_Sm_renew.2.1 8 = .ok (.getfield 23, 3) := by decide +kernel
theorem d_Sm_renew_11 : decode M_Sm_renew.2.1 11 = .ok (.invokevirtual 27, 3) := by decide +kernel
theorem d_Sm_renew_14 : decode M_Sm_renew.2.1 14 = .ok (.bipush 8, 2) := by decide +kernel
theorem d_Sm_renew_16 : decode M_Sm_renew.2.1 16 = .ok (.iadd, 1) := by decide +kernel
theorem d_Sm_renew_17 : decode M_Sm_renew.2.1 17 = .ok (.iastore, 1) := by decide +kernel
theorem d_Sm_renew_18 : decode M_Sm_renew.2.1 18 = .ok (.return_, 1) := by decide +kernel
theorem d_Sm_switchOver_0 : decode M_Sm_switchOver.2.1 0 = .ok (.aload_n 0, 1) := by decide +kernel
theorem d_Sm_switchOver_1 : decode M_Sm_switchOver.2.1 1 = .ok (.iload_n 1, 1) := by decide +kernel
theorem d_Sm_switchOver_2 : decode M_Sm_switchOver.2.1 2 = .ok (.iload_n 2, 1) := by decide +kernel
theorem d_Sm_switchOver_3 : decode M_Sm_switchOver.2.1 3 = .ok (.invokevirtual 37, 3) := by decide +kernel
theorem d_Sm_switchOver_6 : decode M_Sm_switchOver.2.1 6 = .ok (.aload_n 0, 1) := by decide +kernel
theorem d_Sm_switchOver_7 : decode M_Sm_switchOver.2.1 7 = .ok (.getfield 16, 3) := by decide +kernel
theorem d_Sm_switchOver_10 : decode M_Sm_switchOver.2.1 10 = .ok (.iload_n 1, 1) := by decide +kernel
theorem d_Sm_switchOver_11 : decode M_Sm_switchOver.2.1 11 = .ok (.dup2, 1) := by decide +kernel
theorem d_Sm_switchOver_12 : decode M_Sm_switchOver.2.1 12 = .ok (.iaload, 1) := by decide +kernel
theorem d_Sm_switchOver_13 : decode M_Sm_switchOver.2.1 13 = .ok (.iconst 1, 1) := by decide +kernel
theorem d_Sm_switchOver_14 : decode M_Sm_switchOver.2.1 14 = .ok (.iload_n 2, 1) := by decide +kernel
theorem d_Sm_switchOver_15 : decode M_Sm_switchOver.2.1 15 = .ok (.ishl, 1) := by decide +kernel
theorem d_Sm_switchOver_16 : decode M_Sm_switchOver.2.1 16 = .ok (.ior, 1) := by decide +kernel
theorem d_Sm_switchOver_17 : decode M_Sm_switchOver.2.1 17 = .ok (.iastore, 1) := by decide +kernel
theorem d_Sm_switchOver_18 : decode M_Sm_switchOver.2.1 18 = .ok (.return_, 1) := by decide +kernel
theorem d_Sm_isQuiet_0 : decode M_Sm_isQuiet.2.1 0 = .ok (.aload_n 0, 1) := by decide +kernel
theorem d_Sm_isQuiet_1 : decode M_Sm_isQuiet.2.1 1 = .ok (.getfield 20, 3) := by decide +kernel
theorem d_Sm_isQuiet_4 : decode M_Sm_isQuiet.2.1 4 = .ok (.iload_n 1, 1) := by decide +kernel
theorem d_Sm_isQuiet_5 : decode M_Sm_isQuiet.2.1 5 = .ok (.iaload, 1) := by decide +kernel
theorem d_Sm_isQuiet_6 : decode M_Sm_isQuiet.2.1 6 = .ok (.aload_n 0, 1) := by decide +kernel
theorem d_Sm_isQuiet_7 : decode M_Sm_isQuiet.2.1 7 = .ok (.getfield 23, 3) := by decide +kernel
theorem d_Sm_isQuiet_10 : decode M_Sm_isQuiet.2.1 10 = .ok (.invokevirtual 27, 3) := by decide +kernel
theorem d_Sm_isQuiet_13 : decode M_Sm_isQuiet.2.1 13 = .ok (.if_icmp .le 7, 3) := by decide +kernel
theorem d_Sm_isQuiet_16 : decode M_Sm_isQuiet.2.1 16 = .ok (.iconst 1, 1) := by decide +kernel
theorem d_Sm_isQuiet_17 : decode M_Sm_isQuiet.2.1 17 = .ok (.goto 4, 3) := by decide +kernel
theorem d_Sm_isQuiet_20 : decode M_Sm_isQuiet.2.1 20 = .ok (.iconst 0, 1) := by decide +kernel
theorem d_Sm_isQuiet_21 : decode M_Sm_isQuiet.2.1 21 = .ok (.ireturn, 1) := by decide +kernel
theorem d_Sm_silence_0 : decode M_Sm_silence.2.1 0 = .ok (.aload_n 0, 1) := by decide +kernel
theorem d_Sm_silence_1 : decode M_Sm_silence.2.1 1 = .ok (.getfield 20, 3) := by decide +kernel
theorem d_Sm_silence_4 : decode M_Sm_silence.2.1 4 = .ok (.iload_n 1, 1) := by decide +kernel
theorem d_Sm_silence_5 : decode M_Sm_silence.2.1 5 = .ok (.aload_n 0, 1) := by decide +kernel
theorem d_Sm_silence_6 : decode M_Sm_silence.2.1 6 = .ok (.getfield 23, 3) := by decide +kernel
theorem d_Sm_silence_9 : decode M_Sm_silence.2.1 9 = .ok (.invokevirtual 27, 3) := by decide +kernel
theorem d_Sm_silence_12 : decode M_Sm_silence.2.1 12 = .ok (.bipush 6, 2) := by decide +kernel
theorem d_Sm_silence_14 : decode M_Sm_silence.2.1 14 = .ok (.iadd, 1) := by decide +kernel
theorem d_Sm_silence_15 : decode M_Sm_silence.2.1 15 = .ok (.iastore, 1) := by decide +kernel
theorem d_Sm_silence_16 : decode M_Sm_silence.2.1 16 = .ok (.return_, 1) := by decide +kernel
theorem d_La_hearsOrLoses_0 : decode M_La_hearsOrLoses.2.1 0 = .ok (.aload_n 0, 1) := by decide +kernel
theorem d_La_hearsOrLoses_1 : decode M_La_hearsOrLoses.2.1 1 = .ok (.getfield 22, 3) := by decide +kernel
theorem d_La_hearsOrLoses_4 : decode M_La_hearsOrLoses.2.1 4 = .ok (.iload_n 1, 1) := by decide +kernel
theorem d_La_hearsOrLoses_5 : decode M_La_hearsOrLoses.2.1 5 = .ok (.iaload, 1) := by decide +kernel
theorem d_La_hearsOrLoses_6 : decode M_La_hearsOrLoses.2.1 6 = .ok (.ifCond .ne 5, 3) := by decide +kernel
theorem d_La_hearsOrLoses_9 : decode M_La_hearsOrLoses.2.1 9 = .ok (.iconst 1, 1) := by decide +kernel
theorem d_La_hearsOrLoses_10 : decode M_La_hearsOrLoses.2.1 10 = .ok (.ireturn, 1) := by decide +kernel
theorem d_La_hearsOrLoses_11 : decode M_La_hearsOrLoses.2.1 11 = .ok (.aload_n 0, 1) := by decide +kernel
theorem d_La_hearsOrLoses_12 : decode M_La_hearsOrLoses.2.1 12 = .ok (.getfield 22, 3) := by decide +kernel
theorem d_La_hearsOrLoses_15 : decode M_La_hearsOrLoses.2.1 15 = .ok (.iload_n 1, 1) := by decide +kernel
theorem d_La_hearsOrLoses_16 : decode M_La_hearsOrLoses.2.1 16 = .ok (.dup2, 1) := by decide +kernel
theorem d_La_hearsOrLoses_17 : decode M_La_hearsOrLoses.2.1 17 = .ok (.iaload, 1) := by decide +kernel
theorem d_La_hearsOrLoses_18 : decode M_La_hearsOrLoses.2.1 18 = .ok (.iconst 1, 1) := by decide +kernel
theorem d_La_hearsOrLoses_19 : decode M_La_hearsOrLoses.2.1 19 = .ok (.isub, 1) := by decide +kernel
theorem d_La_hearsOrLoses_20 : decode M_La_hearsOrLoses.2.1 20 = .ok (.iastore, 1) := by decide +kernel
theorem d_La_hearsOrLoses_21 : decode M_La_hearsOrLoses.2.1 21 = .ok (.iconst 0, 1) := by decide +kernel
theorem d_La_hearsOrLoses_22 : decode M_La_hearsOrLoses.2.1 22 = .ok (.ireturn, 1) := by decide +kernel
theorem d_JI_bitCount_0 : decode M_JI_bitCount.2.1 0 = .ok (.iload_n 0, 1) := by decide +kernel
theorem d_JI_bitCount_1 : decode M_JI_bitCount.2.1 1 = .ok (.iload_n 0, 1) := by decide +kernel
theorem d_JI_bitCount_2 : decode M_JI_bitCount.2.1 2 = .ok (.iconst 1, 1) := by decide +kernel
theorem d_JI_bitCount_3 : decode M_JI_bitCount.2.1 3 = .ok (.iushr, 1) := by decide +kernel
theorem d_JI_bitCount_4 : decode M_JI_bitCount.2.1 4 = .ok (.ldc_w 265, 3) := by decide +kernel
theorem d_JI_bitCount_7 : decode M_JI_bitCount.2.1 7 = .ok (.iand, 1) := by decide +kernel
theorem d_JI_bitCount_8 : decode M_JI_bitCount.2.1 8 = .ok (.isub, 1) := by decide +kernel
theorem d_JI_bitCount_9 : decode M_JI_bitCount.2.1 9 = .ok (.istore_n 0, 1) := by decide +kernel
theorem d_JI_bitCount_10 : decode M_JI_bitCount.2.1 10 = .ok (.iload_n 0, 1) := by decide +kernel
theorem d_JI_bitCount_11 : decode M_JI_bitCount.2.1 11 = .ok (.ldc_w 266, 3) := by decide +kernel
theorem d_JI_bitCount_14 : decode M_JI_bitCount.2.1 14 = .ok (.iand, 1) := by decide +kernel
theorem d_JI_bitCount_15 : decode M_JI_bitCount.2.1 15 = .ok (.iload_n 0, 1) := by decide +kernel
theorem d_JI_bitCount_16 : decode M_JI_bitCount.2.1 16 = .ok (.iconst 2, 1) := by decide +kernel
theorem d_JI_bitCount_17 : decode M_JI_bitCount.2.1 17 = .ok (.iushr, 1) := by decide +kernel
theorem d_JI_bitCount_18 : decode M_JI_bitCount.2.1 18 = .ok (.ldc_w 266, 3) := by decide +kernel
theorem d_JI_bitCount_21 : decode M_JI_bitCount.2.1 21 = .ok (.iand, 1) := by decide +kernel
theorem d_JI_bitCount_22 : decode M_JI_bitCount.2.1 22 = .ok (.iadd, 1) := by decide +kernel
theorem d_JI_bitCount_23 : decode M_JI_bitCount.2.1 23 = .ok (.istore_n 0, 1) := by decide +kernel
theorem d_JI_bitCount_24 : decode M_JI_bitCount.2.1 24 = .ok (.iload_n 0, 1) := by decide +kernel
theorem d_JI_bitCount_25 : decode M_JI_bitCount.2.1 25 = .ok (.iload_n 0, 1) := by decide +kernel
theorem d_JI_bitCount_26 : decode M_JI_bitCount.2.1 26 = .ok (.iconst 4, 1) := by decide +kernel
theorem d_JI_bitCount_27 : decode M_JI_bitCount.2.1 27 = .ok (.iushr, 1) := by decide +kernel
theorem d_JI_bitCount_28 : decode M_JI_bitCount.2.1 28 = .ok (.iadd, 1) := by decide +kernel
theorem d_JI_bitCount_29 : decode M_JI_bitCount.2.1 29 = .ok (.ldc_w 267, 3) := by decide +kernel
theorem d_JI_bitCount_32 : decode M_JI_bitCount.2.1 32 = .ok (.iand, 1) := by decide +kernel
theorem d_JI_bitCount_33 : decode M_JI_bitCount.2.1 33 = .ok (.istore_n 0, 1) := by decide +kernel
theorem d_JI_bitCount_34 : decode M_JI_bitCount.2.1 34 = .ok (.iload_n 0, 1) := by decide +kernel
theorem d_JI_bitCount_35 : decode M_JI_bitCount.2.1 35 = .ok (.iload_n 0, 1) := by decide +kernel
theorem d_JI_bitCount_36 : decode M_JI_bitCount.2.1 36 = .ok (.bipush 8, 2) := by decide +kernel
theorem d_JI_bitCount_38 : decode M_JI_bitCount.2.1 38 = .ok (.iushr, 1) := by decide +kernel
theorem d_JI_bitCount_39 : decode M_JI_bitCount.2.1 39 = .ok (.iadd, 1) := by decide +kernel
theorem d_JI_bitCount_40 : decode M_JI_bitCount.2.1 40 = .ok (.istore_n 0, 1) := by decide +kernel
theorem d_JI_bitCount_41 : decode M_JI_bitCount.2.1 41 = .ok (.iload_n 0, 1) := by decide +kernel
theorem d_JI_bitCount_42 : decode M_JI_bitCount.2.1 42 = .ok (.iload_n 0, 1) := by decide +kernel
theorem d_JI_bitCount_43 : decode M_JI_bitCount.2.1 43 = .ok (.bipush 16, 2) := by decide +kernel
theorem d_JI_bitCount_45 : decode M_JI_bitCount.2.1 45 = .ok (.iushr, 1) := by decide +kernel
theorem d_JI_bitCount_46 : decode M_JI_bitCount.2.1 46 = .ok (.iadd, 1) := by decide +kernel
theorem d_JI_bitCount_47 : decode M_JI_bitCount.2.1 47 = .ok (.istore_n 0, 1) := by decide +kernel
theorem d_JI_bitCount_48 : decode M_JI_bitCount.2.1 48 = .ok (.iload_n 0, 1) := by decide +kernel
theorem d_JI_bitCount_49 : decode M_JI_bitCount.2.1 49 = .ok (.bipush 63, 2) := by decide +kernel
theorem d_JI_bitCount_51 : decode M_JI_bitCount.2.1 51 = .ok (.iand, 1) := by decide +kernel
theorem d_JI_bitCount_52 : decode M_JI_bitCount.2.1 52 = .ok (.ireturn, 1) := by decide +kernel
theorem d_Ta_countOf_0 : decode M_Ta_countOf.2.1 0 = .ok (.aload_n 0, 1) := by decide +kernel
theorem d_Ta_countOf_1 : decode M_Ta_countOf.2.1 1 = .ok (.getfield 9, 3) := by decide +kernel
theorem d_Ta_countOf_4 : decode M_Ta_countOf.2.1 4 = .ok (.iload_n 1, 1) := by decide +kernel
theorem d_Ta_countOf_5 : decode M_Ta_countOf.2.1 5 = .ok (.iaload, 1) := by decide +kernel
theorem d_Ta_countOf_6 : decode M_Ta_countOf.2.1 6 = .ok (.ireturn, 1) := by decide +kernel
theorem d_La_setLosses_0 : decode M_La_setLosses.2.1 0 = .ok (.aload_n 0, 1) := by decide +kernel
theorem d_La_setLosses_1 : decode M_La_setLosses.2.1 1 = .ok (.getfield 22, 3) := by decide +kernel
theorem d_La_setLosses_4 : decode M_La_setLosses.2.1 4 = .ok (.iload_n 1, 1) := by decide +kernel
theorem d_La_setLosses_5 : decode M_La_setLosses.2.1 5 = .ok (.iload_n 2, 1) := by decide +kernel
theorem d_La_setLosses_6 : decode M_La_setLosses.2.1 6 = .ok (.iastore, 1) := by decide +kernel
theorem d_La_setLosses_7 : decode M_La_setLosses.2.1 7 = .ok (.return_, 1) := by decide +kernel
theorem d_JM_max_0 : decode M_JM_max.2.1 0 = .ok (.iload_n 0, 1) := by decide +kernel
theorem d_JM_max_1 : decode M_JM_max.2.1 1 = .ok (.iload_n 1, 1) := by decide +kernel
theorem d_JM_max_2 : decode M_JM_max.2.1 2 = .ok (.if_icmp .lt 7, 3) := by decide +kernel
theorem d_JM_max_5 : decode M_JM_max.2.1 5 = .ok (.iload_n 0, 1) := by decide +kernel
theorem d_JM_max_6 : decode M_JM_max.2.1 6 = .ok (.goto 4, 3) := by decide +kernel
theorem d_JM_max_9 : decode M_JM_max.2.1 9 = .ok (.iload_n 1, 1) := by decide +kernel
theorem d_JM_max_10 : decode M_JM_max.2.1 10 = .ok (.ireturn, 1) := by decide +kernel
end
section
/-! each instruction decoded -/
theorem d_MT_init_0 : decode M_MT_init.2.1 0 = .ok (.aload_n 0, 1) := by decide +kernel
theorem d_MT_init_1 : decode M_MT_init.2.1 1 = .ok (.invokespecial 3, 3) := by decide +kernel
theorem d_MT_init_4 : decode M_MT_init.2.1 4 = .ok (.iload_n 1, 1) := by decide +kernel
theorem d_MT_init_5 : decode M_MT_init.2.1 5 = .ok (.invokestatic 9, 3) := by decide +kernel
theorem d_MT_init_8 : decode M_MT_init.2.1 8 = .ok (.ifCond .eq 7, 3) := by decide +kernel
theorem d_MT_init_11 : decode M_MT_init.2.1 11 = .ok (.iload_n 1, 1) := by decide +kernel
theorem d_MT_init_12 : decode M_MT_init.2.1 12 = .ok (.goto 4, 3) := by decide +kernel
theorem d_MT_init_15 : decode M_MT_init.2.1 15 = .ok (.iconst 0, 1) := by decide +kernel
theorem d_MT_init_16 : decode M_MT_init.2.1 16 = .ok (.istore_n 2, 1) := by decide +kernel
theorem d_MT_init_17 : decode M_MT_init.2.1 17 = .ok (.aload_n 0, 1) := by decide +kernel
theorem d_MT_init_18 : decode M_MT_init.2.1 18 = .ok (.new 13, 3) := by decide +kernel
theorem d_MT_init_21 : decode M_MT_init.2.1 21 = .ok (.dup, 1) := by decide +kernel
theorem d_MT_init_22 : decode M_MT_init.2.1 22 = .ok (.invokespecial 15, 3) := by decide +kernel
theorem d_MT_init_25 : decode M_MT_init.2.1 25 = .ok (.putfield 16, 3) := by decide +kernel
theorem d_MT_init_28 : decode M_MT_init.2.1 28 = .ok (.aload_n 0, 1) := by decide +kernel
theorem d_MT_init_29 : decode M_MT_init.2.1 29 = .ok (.new 20, 3) := by decide +kernel
theorem d_MT_init_32 : decode M_MT_init.2.1 32 = .ok (.dup, 1) := by decide +kernel
theorem d_MT_init_33 : decode M_MT_init.2.1 33 = .ok (.invokespecial 22, 3) := by decide +kernel
theorem d_MT_init_36 : decode M_MT_init.2.1 36 = .ok (.putfield 23, 3) := by decide +kernel
theorem d_MT_init_39 : decode M_MT_init.2.1 39 = .ok (.aload_n 0, 1) := by decide +kernel
theorem d_MT_init_40 : decode M_MT_init.2.1 40 = .ok (.new 27, 3) := by decide +kernel
theorem d_MT_init_43 : decode M_MT_init.2.1 43 = .ok (.dup, 1) := by decide +kernel
theorem d_MT_init_44 : decode M_MT_init.2.1 44 = .ok (.invokespecial 29, 3) := by decide +kernel
theorem d_MT_init_47 : decode M_MT_init.2.1 47 = .ok (.putfield 30, 3) := by decide +kernel
theorem d_MT_init_50 : decode M_MT_init.2.1 50 = .ok (.aload_n 0, 1) := by decide +kernel
theorem d_MT_init_51 : decode M_MT_init.2.1 51 = .ok (.new 34, 3) := by decide +kernel
theorem d_MT_init_54 : decode M_MT_init.2.1 54 = .ok (.dup, 1) := by decide +kernel
theorem d_MT_init_55 : decode M_MT_init.2.1 55 = .ok (.aload_n 0, 1) := by decide +kernel
theorem d_MT_init_56 : decode M_MT_init.2.1 56 = .ok (.getfield 16, 3) := by decide +kernel
theorem d_MT_init_59 : decode M_MT_init.2.1 59 = .ok (.invokespecial 36, 3) := by decide +kernel
theorem d_MT_init_62 : decode M_MT_init.2.1 62 = .ok (.putfield 39, 3) := by decide +kernel
theorem d_MT_init_65 : decode M_MT_init.2.1 65 = .ok (.aload_n 0, 1) := by decide +kernel
theorem d_MT_init_66 : decode M_MT_init.2.1 66 = .ok (.new 43, 3) := by decide +kernel
theorem d_MT_init_69 : decode M_MT_init.2.1 69 = .ok (.dup, 1) := by decide +kernel
theorem d_MT_init_70 : decode M_MT_init.2.1 70 = .ok (.aload_n 0, 1) := by decide +kernel
theorem d_MT_init_71 : decode M_MT_init.2.1 71 = .ok (.getfield 16, 3) := by decide +kernel
theorem d_MT_init_74 : decode M_MT_init.2.1 74 = .ok (.invokespecial 45, 3) := by decide +kernel
theorem d_MT_init_77 : decode M_MT_init.2.1 77 = .ok (.putfield 46, 3) := by decide +kernel
theorem d_MT_init_80 : decode M_MT_init.2.1 80 = .ok (.aload_n 0, 1) := by decide +kernel
theorem d_MT_init_81 : decode M_MT_init.2.1 81 = .ok (.new 50, 3) := by decide +kernel
theorem d_MT_init_84 : decode M_MT_init.2.1 84 = .ok (.dup, 1) := by decide +kernel
theorem d_MT_init_85 : decode M_MT_init.2.1 85 = .ok (.iload_n 2, 1) := by decide +kernel
theorem d_MT_init_86 : decode M_MT_init.2.1 86 = .ok (.aload_n 0, 1) := by decide +kernel
theorem d_MT_init_87 : decode M_MT_init.2.1 87 = .ok (.getfield 30, 3) := by decide +kernel
theorem d_MT_init_90 : decode M_MT_init.2.1 90 = .ok (.aload_n 0, 1) := by decide +kernel
theorem d_MT_init_91 : decode M_MT_init.2.1 91 = .ok (.getfield 39, 3) := by decide +kernel
theorem d_MT_init_94 : decode M_MT_init.2.1 94 = .ok (.aload_n 0, 1) := by decide +kernel
theorem d_MT_init_95 : decode M_MT_init.2.1 95 = .ok (.getfield 46, 3) := by decide +kernel
theorem d_MT_init_98 : decode M_MT_init.2.1 98 = .ok (.aload_n 0, 1) := by decide +kernel
theorem d_MT_init_99 : decode M_MT_init.2.1 99 = .ok (.getfield 23, 3) := by decide +kernel
theorem d_MT_init_102 : decode M_MT_init.2.1 102 = .ok (.invokespecial 52, 3) := by decide +kernel
theorem d_MT_init_105 : decode M_MT_init.2.1 105 = .ok (.putfield 55, 3) := by decide +kernel
theorem d_MT_init_108 : decode M_MT_init.2.1 108 = .ok (.aload_n 0, 1) := by decide +kernel
theorem d_MT_init_109 : decode M_MT_init.2.1 109 = .ok (.new 59, 3) := by decide +kernel
theorem d_MT_init_112 : decode M_MT_init.2.1 112 = .ok (.dup, 1) := by decide +kernel
theorem d_MT_init_113 : decode M_MT_init.2.1 113 = .ok (.aload_n 0, 1) := by decide +kernel
theorem d_MT_init_114 : decode M_MT_init.2.1 114 = .ok (.getfield 30, 3) := by decide +kernel
theorem d_MT_init_117 : decode M_MT_init.2.1 117 = .ok (.aload_n 0, 1) := by decide +kernel
theorem d_MT_init_118 : decode M_MT_init.2.1 118 = .ok (.getfield 39, 3) := by decide +kernel
theorem d_MT_init_121 : decode M_MT_init.2.1 121 = .ok (.aload_n 0, 1) := by decide +kernel
theorem d_MT_init_122 : decode M_MT_init.2.1 122 = .ok (.getfield 46, 3) := by decide +kernel
theorem d_MT_init_125 : decode M_MT_init.2.1 125 = .ok (.aload_n 0, 1) := by decide +kernel
theorem d_MT_init_126 : decode M_MT_init.2.1 126 = .ok (.getfield 55, 3) := by decide +kernel
theorem d_MT_init_129 : decode M_MT_init.2.1 129 = .ok (.aload_n 0, 1) := by decide +kernel
theorem d_MT_init_130 : decode M_MT_init.2.1 130 = .ok (.getfield 23, 3) := by decide +kernel
theorem d_MT_init_133 : decode M_MT_init.2.1 133 = .ok (.invokespecial 61, 3) := by decide +kernel
theorem d_MT_init_136 : decode M_MT_init.2.1 136 = .ok (.putfield 64, 3) := by decide +kernel
theorem d_MT_init_139 : decode M_MT_init.2.1 139 = .ok (.aload_n 0, 1) := by decide +kernel
theorem d_MT_init_140 : decode M_MT_init.2.1 140 = .ok (.new 68, 3) := by decide +kernel
theorem d_MT_init_143 : decode M_MT_init.2.1 143 = .ok (.dup, 1) := by decide +kernel
theorem d_MT_init_144 : decode M_MT_init.2.1 144 = .ok (.aload_n 0, 1) := by decide +kernel
theorem d_MT_init_145 : decode M_MT_init.2.1 145 = .ok (.getfield 30, 3) := by decide +kernel
theorem d_MT_init_148 : decode M_MT_init.2.1 148 = .ok (.aload_n 0, 1) := by decide +kernel
theorem d_MT_init_149 : decode M_MT_init.2.1 149 = .ok (.getfield 39, 3) := by decide +kernel
theorem d_MT_init_152 : decode M_MT_init.2.1 152 = .ok (.aload_n 0, 1) := by decide +kernel
theorem d_MT_init_153 : decode M_MT_init.2.1 153 = .ok (.getfield 23, 3) := by decide +kernel
theorem d_MT_init_156 : decode M_MT_init.2.1 156 = .ok (.invokespecial 70, 3) := by decide +kernel
theorem d_MT_init_159 : decode M_MT_init.2.1 159 = .ok (.putfield 73, 3) := by decide +kernel
theorem d_MT_init_162 : decode M_MT_init.2.1 162 = .ok (.return_, 1) := by decide +kernel
theorem d_MT_isRouter_0 : decode M_MT_isRouter.2.1 0 = .ok (.iload_n 0, 1) := by decide +kernel
theorem d_MT_isRouter_1 : decode M_MT_isRouter.2.1 1 = .ok (.ifCond .lt 13, 3) := by decide +kernel
theorem d_MT_isRouter_4 : decode M_MT_isRouter.2.1 4 = .ok (.iload_n 0, 1) := by decide +kernel
theorem d_MT_isRouter_5 : decode M_MT_isRouter.2.1 5 = .ok (.bipush 6, 2) := by decide +kernel
theorem d_MT_isRouter_7 : decode M_MT_isRouter.2.1 7 = .ok (.if_icmp .ge 7, 3) := by decide +kernel
theorem d_MT_isRouter_10 : decode M_MT_isRouter.2.1 10 = .ok (.iconst 1, 1) := by decide +kernel
theorem d_MT_isRouter_11 : decode M_MT_isRouter.2.1 11 = .ok (.goto 4, 3) := by decide +kernel
theorem d_MT_isRouter_14 : decode M_MT_isRouter.2.1 14 = .ok (.iconst 0, 1) := by decide +kernel
theorem d_MT_isRouter_15 : decode M_MT_isRouter.2.1 15 = .ok (.ireturn, 1) := by decide +kernel
theorem d_Tr_init_0 : decode M_Tr_init.2.1 0 = .ok (.aload_n 0, 1) := by decide +kernel
theorem d_Tr_init_1 : decode M_Tr_init.2.1 1 = .ok (.invokespecial 3, 3) := by decide +kernel
theorem d_Tr_init_4 : decode M_Tr_init.2.1 4 = .ok (.aload_n 0, 1) := by decide +kernel
theorem d_Tr_init_5 : decode M_Tr_init.2.1 5 = .ok (.iconst 3, 1) := by decide +kernel
theorem d_Tr_init_6 : decode M_Tr_init.2.1 6 = .ok (.bipush 6, 2) := by decide +kernel
theorem d_Tr_init_8 : decode M_Tr_init.2.1 8 = .ok (.multianewarray 9 2, 4) := by decide +kernel
theorem d_Tr_init_12 : decode M_Tr_init.2.1 12 = .ok (.putfield 11, 3) := by decide +kernel
theorem d_Tr_init_15 : decode M_Tr_init.2.1 15 = .ok (.aload_n 0, 1) := by decide +kernel
theorem d_Tr_init_16 : decode M_Tr_init.2.1 16 = .ok (.iconst 3, 1) := by decide +kernel
theorem d_Tr_init_17 : decode M_Tr_init.2.1 17 = .ok (.bipush 6, 2) := by decide +kernel
theorem d_Tr_init_19 : decode M_Tr_init.2.1 19 = .ok (.multianewarray 9 2, 4) := by decide +kernel
theorem d_Tr_init_23 : decode M_Tr_init.2.1 23 = .ok (.putfield 16, 3) := by decide +kernel
theorem d_Tr_init_26 : decode M_Tr_init.2.1 26 = .ok (.aload_n 0, 1) := by decide +kernel
theorem d_Tr_init_27 : decode M_Tr_init.2.1 27 = .ok (.bipush 18, 2) := by decide +kernel
theorem d_Tr_init_29 : decode M_Tr_init.2.1 29 = .ok (.bipush 6, 2) := by decide +kernel
theorem d_Tr_init_31 : decode M_Tr_init.2.1 31 = .ok (.multianewarray 9 2, 4) := by decide +kernel
theorem d_Tr_init_35 : decode M_Tr_init.2.1 35 = .ok (.putfield 19, 3) := by decide +kernel
theorem d_Tr_init_38 : decode M_Tr_init.2.1 38 = .ok (.aload_n 0, 1) := by decide +kernel
theorem d_Tr_init_39 : decode M_Tr_init.2.1 39 = .ok (.bipush 18, 2) := by decide +kernel
theorem d_Tr_init_41 : decode M_Tr_init.2.1 41 = .ok (.bipush 6, 2) := by decide +kernel
theorem d_Tr_init_43 : decode M_Tr_init.2.1 43 = .ok (.multianewarray 9 2, 4) := by decide +kernel
theorem d_Tr_init_47 : decode M_Tr_init.2.1 47 = .ok (.putfield 22, 3) := by decide +kernel
theorem d_Tr_init_50 : decode M_Tr_init.2.1 50 = .ok (.aload_n 0, 1) := by decide +kernel
theorem d_Tr_init_51 : decode M_Tr_init.2.1 51 = .ok (.bipush 18, 2) := by decide +kernel
theorem d_Tr_init_53 : decode M_Tr_init.2.1 53 = .ok (.bipush 6, 2) := by decide +kernel
theorem d_Tr_init_55 : decode M_Tr_init.2.1 55 = .ok (.multianewarray 9 2, 4) := by decide +kernel
theorem d_Tr_init_59 : decode M_Tr_init.2.1 59 = .ok (.putfield 25, 3) := by decide +kernel
theorem d_Tr_init_62 : decode M_Tr_init.2.1 62 = .ok (.aload_n 0, 1) := by decide +kernel
theorem d_Tr_init_63 : decode M_Tr_init.2.1 63 = .ok (.bipush 18, 2) := by decide +kernel
theorem d_Tr_init_65 : decode M_Tr_init.2.1 65 = .ok (.bipush 6, 2) := by decide +kernel
theorem d_Tr_init_67 : decode M_Tr_init.2.1 67 = .ok (.multianewarray 9 2, 4) := by decide +kernel
theorem d_Tr_init_71 : decode M_Tr_init.2.1 71 = .ok (.putfield 28, 3) := by decide +kernel
theorem d_Tr_init_74 : decode M_Tr_init.2.1 74 = .ok (.aload_n 0, 1) := by decide +kernel
theorem d_Tr_init_75 : decode M_Tr_init.2.1 75 = .ok (.bipush 6, 2) := by decide +kernel
theorem d_Tr_init_77 : decode M_Tr_init.2.1 77 = .ok (.newarray .int, 2) := by decide +kernel
theorem d_Tr_init_79 : decode M_Tr_init.2.1 79 = .ok (.putfield 31, 3) := by decide +kernel
theorem d_Tr_init_82 : decode M_Tr_init.2.1 82 = .ok (.aload_n 0, 1) := by decide +kernel
theorem d_Tr_init_83 : decode M_Tr_init.2.1 83 = .ok (.iload_n 1, 1) := by decide +kernel
theorem d_Tr_init_84 : decode M_Tr_init.2.1 84 = .ok (.putfield 35, 3) := by decide +kernel
theorem d_Tr_init_87 : decode M_Tr_init.2.1 87 = .ok (.aload_n 0, 1) := by decide +kernel
theorem d_Tr_init_88 : decode M_Tr_init.2.1 88 = .ok (.aload_n 2, 1) := by decide +kernel
theorem d_Tr_init_89 : decode M_Tr_init.2.1 89 = .ok (.putfield 39, 3) := by decide +kernel
theorem d_Tr_init_92 : decode M_Tr_init.2.1 92 = .ok (.aload_n 0, 1) := by decide +kernel
theorem d_Tr_init_93 : decode M_Tr_init.2.1 93 = .ok (.aload_n 3, 1) := by decide +kernel
theorem d_Tr_init_94 : decode M_Tr_init.2.1 94 = .ok (.putfield 43, 3) := by decide +kernel
theorem d_Tr_init_97 : decode M_Tr_init.2.1 97 = .ok (.aload_n 0, 1) := by decide +kernel
theorem d_Tr_init_98 : decode M_Tr_init.2.1 98 = .ok (.aload 4, 2) := by decide +kernel
theorem d_Tr_init_100 : decode M_Tr_init.2.1 100 = .ok (.putfield 47, 3) := by decide +kernel
theorem d_Tr_init_103 : decode M_Tr_init.2.1 103 = .ok (.aload_n 0, 1) := by decide +kernel
theorem d_Tr_init_104 : decode M_Tr_init.2.1 104 = .ok (.aload 5, 2) := by decide +kernel
theorem d_Tr_init_106 : decode M_Tr_init.2.1 106 = .ok (.putfield 51, 3) := by decide +kernel
theorem d_Tr_init_109 : decode M_Tr_init.2.1 109 = .ok (.iconst 0, 1) := by decide +kernel
theorem d_Tr_init_110 : decode M_Tr_init.2.1 110 = .ok (.istore 6, 2) := by decide +kernel
theorem d_Tr_init_112 : decode M_Tr_init.2.1 112 = .ok (.iload 6, 2) := by decide +kernel
theorem d_Tr_init_114 : decode M_Tr_init.2.1 114 = .ok (.iconst 3, 1) := by decide +kernel
theorem d_Tr_init_115 : decode M_Tr_init.2.1 115 = .ok (.if_icmp .ge 20, 3) := by decide +kernel
theorem d_Tr_init_118 : decode M_Tr_init.2.1 118 = .ok (.aload_n 0, 1) := by decide +kernel
theorem d_Tr_init_119 : decode M_Tr_init.2.1 119 = .ok (.getfield 11, 3) := by decide +kernel
theorem d_Tr_init_122 : decode M_Tr_init.2.1 122 = .ok (.iload 6, 2) := by decide +kernel
theorem d_Tr_init_124 : decode M_Tr_init.2.1 124 = .ok (.aaload, 1) := by decide +kernel
theorem d_Tr_init_125 : decode M_Tr_init.2.1 125 = .ok (.iconst (-1), 1) := by decide +kernel
theorem d_Tr_init_126 : decode M_Tr_init.2.1 126 = .ok (.invokestatic 55, 3) := by decide +kernel
theorem d_Tr_init_129 : decode M_Tr_init.2.1 129 = .ok (.iinc 6 1, 3) := by decide +kernel
theorem d_Tr_init_132 : decode M_Tr_init.2.1 132 = .ok (.goto (-20), 3) := by decide +kernel
theorem d_Tr_init_135 : decode M_Tr_init.2.1 135 = .ok (.iconst 0, 1) := by decide +kernel
theorem d_Tr_init_136 : decode M_Tr_init.2.1 136 = .ok (.istore 6, 2) := by decide +kernel
theorem d_Tr_init_138 : decode M_Tr_init.2.1 138 = .ok (.iload 6, 2) := by decide +kernel
theorem d_Tr_init_140 : decode M_Tr_init.2.1 140 = .ok (.bipush 18, 2) := by decide +kernel
theorem d_Tr_init_142 : decode M_Tr_init.2.1 142 = .ok (.if_icmp .ge 31, 3) := by decide +kernel
theorem d_Tr_init_145 : decode M_Tr_init.2.1 145 = .ok (.aload_n 0, 1) := by decide +kernel
theorem d_Tr_init_146 : decode M_Tr_init.2.1 146 = .ok (.getfield 19, 3) := by decide +kernel
theorem d_Tr_init_149 : decode M_Tr_init.2.1 149 = .ok (.iload 6, 2) := by decide +kernel
theorem d_Tr_init_151 : decode M_Tr_init.2.1 151 = .ok (.aaload, 1) := by decide +kernel
theorem d_Tr_init_152 : decode M_Tr_init.2.1 152 = .ok (.iconst (-1), 1) := by decide +kernel
theorem d_Tr_init_153 : decode M_Tr_init.2.1 153 = .ok (.invokestatic 55, 3) := by decide +kernel
theorem d_Tr_init_156 : decode M_Tr_init.2.1 156 = .ok (.aload_n 0, 1) := by decide +kernel
theorem d_Tr_init_157 : decode M_Tr_init.2.1 157 = .ok (.getfield 22, 3) := by decide +kernel
theorem d_Tr_init_160 : decode M_Tr_init.2.1 160 = .ok (.iload 6, 2) := by decide +kernel
theorem d_Tr_init_162 : decode M_Tr_init.2.1 162 = .ok (.aaload, 1) := by decide +kernel
theorem d_Tr_init_163 : decode M_Tr_init.2.1 163 = .ok (.iconst (-1), 1) := by decide +kernel
theorem d_Tr_init_164 : decode M_Tr_init.2.1 164 = .ok (.invokestatic 55, 3) := by decide +kernel
theorem d_Tr_init_167 : decode M_Tr_init.2.1 167 = .ok (.iinc 6 1, 3) := by decide +kernel
theorem d_Tr_init_170 : decode M_Tr_init.2.1 170 = .ok (.goto (-32), 3) := by decide +kernel
theorem d_Tr_init_173 : decode M_Tr_init.2.1 173 = .ok (.return_, 1) := by decide +kernel
theorem d_Pa_init_0 : decode M_Pa_init.2.1 0 = .ok (.aload_n 0, 1) := by decide +kernel
theorem d_Pa_init_1 : decode M_Pa_init.2.1 1 = .ok (.invokespecial 3, 3) := by decide +kernel
theorem d_Pa_init_4 : decode M_Pa_init.2.1 4 = .ok (.aload_n 0, 1) := by decide +kernel
theorem d_Pa_init_5 : decode M_Pa_init.2.1 5 = .ok (.bipush 6, 2) := by decide +kernel
theorem d_Pa_init_7 : decode M_Pa_init.2.1 7 = .ok (.newarray .int, 2) := by decide +kernel
theorem d_Pa_init_9 : decode M_Pa_init.2.1 9 = .ok (.putfield 9, 3) := by decide +kernel
theorem d_Pa_init_12 : decode M_Pa_init.2.1 12 = .ok (.aload_n 0, 1) := by decide +kernel
theorem d_Pa_init_13 : decode M_Pa_init.2.1 13 = .ok (.bipush 6, 2) := by decide +kernel
theorem d_Pa_init_15 : decode M_Pa_init.2.1 15 = .ok (.newarray .int, 2) := by decide +kernel
theorem d_Pa_init_17 : decode M_Pa_init.2.1 17 = .ok (.putfield 15, 3) := by decide +kernel
theorem d_Pa_init_20 : decode M_Pa_init.2.1 20 = .ok (.aload_n 0, 1) := by decide +kernel
theorem d_Pa_init_21 : decode M_Pa_init.2.1 21 = .ok (.iconst 0, 1) := by decide +kernel
theorem d_Pa_init_22 : decode M_Pa_init.2.1 22 = .ok (.putfield 18, 3) := by decide +kernel
theorem d_Pa_init_25 : decode M_Pa_init.2.1 25 = .ok (.aload_n 0, 1) := by decide +kernel
theorem d_Pa_init_26 : decode M_Pa_init.2.1 26 = .ok (.iconst 0, 1) := by decide +kernel
theorem d_Pa_init_27 : decode M_Pa_init.2.1 27 = .ok (.putfield 22, 3) := by decide +kernel
theorem d_Pa_init_30 : decode M_Pa_init.2.1 30 = .ok (.aload_n 0, 1) := by decide +kernel
theorem d_Pa_init_31 : decode M_Pa_init.2.1 31 = .ok (.iconst 0, 1) := by decide +kernel
theorem d_Pa_init_32 : decode M_Pa_init.2.1 32 = .ok (.putfield 25, 3) := by decide +kernel
theorem d_Pa_init_35 : decode M_Pa_init.2.1 35 = .ok (.aload_n 0, 1) := by decide +kernel
theorem d_Pa_init_36 : decode M_Pa_init.2.1 36 = .ok (.iconst 0, 1) := by decide +kernel
theorem d_Pa_init_37 : decode M_Pa_init.2.1 37 = .ok (.putfield 28, 3) := by decide +kernel
theorem d_Pa_init_40 : decode M_Pa_init.2.1 40 = .ok (.aload_n 0, 1) := by decide +kernel
theorem d_Pa_init_41 : decode M_Pa_init.2.1 41 = .ok (.iconst 0, 1) := by decide +kernel
theorem d_Pa_init_42 : decode M_Pa_init.2.1 42 = .ok (.putfield 31, 3) := by decide +kernel
theorem d_Pa_init_45 : decode M_Pa_init.2.1 45 = .ok (.aload_n 0, 1) := by decide +kernel
theorem d_Pa_init_46 : decode M_Pa_init.2.1 46 = .ok (.aload_n 1, 1) := by decide +kernel
theorem d_Pa_init_47 : decode M_Pa_init.2.1 47 = .ok (.putfield 34, 3) := by decide +kernel
theorem d_Pa_init_50 : decode M_Pa_init.2.1 50 = .ok (.aload_n 0, 1) := by decide +kernel
theorem d_Pa_init_51 : decode M_Pa_init.2.1 51 = .ok (.aload_n 2, 1) := by decide +kernel
theorem d_Pa_init_52 : decode M_Pa_init.2.1 52 = .ok (.putfield 38, 3) := by decide +kernel
theorem d_Pa_init_55 : decode M_Pa_init.2.1 55 = .ok (.aload_n 0, 1) := by decide +kernel
theorem d_Pa_init_56 : decode M_Pa_init.2.1 56 = .ok (.aload_n 3, 1) := by decide +kernel
theorem d_Pa_init_57 : decode M_Pa_init.2.1 57 = .ok (.putfield 42, 3) := by decide +kernel
theorem d_Pa_init_60 : decode M_Pa_init.2.1 60 = .ok (.aload_n 0, 1) := by decide +kernel
theorem d_Pa_init_61 : decode M_Pa_init.2.1 61 = .ok (.aload 4, 2) := by decide +kernel
theorem d_Pa_init_63 : decode M_Pa_init.2.1 63 = .ok (.putfield 46, 3) := by decide +kernel
theorem d_Pa_init_66 : decode M_Pa_init.2.1 66 = .ok (.aload_n 0, 1) := by decide +kernel
theorem d_Pa_init_67 : decode M_Pa_init.2.1 67 = .ok (.aload 5, 2) := by decide +kernel
theorem d_Pa_init_69 : decode M_Pa_init.2.1 69 = .ok (.putfield 50, 3) := by decide +kernel
theorem d_Pa_init_72 : decode M_Pa_init.2.1 72 = .ok (.return_, 1) := by decide +kernel
theorem d_Fi_init_0 : decode M_Fi_init.2.1 0 = .ok (.aload_n 0, 1) := by decide +kernel
theorem d_Fi_init_1 : decode M_Fi_init.2.1 1 = .ok (.invokespecial 3, 3) := by decide +kernel
theorem d_Fi_init_4 : decode M_Fi_init.2.1 4 = .ok (.aload_n 0, 1) := by decide +kernel
theorem d_Fi_init_5 : decode M_Fi_init.2.1 5 = .ok (.iconst 4, 1) := by decide +kernel
theorem d_Fi_init_6 : decode M_Fi_init.2.1 6 = .ok (.newarray .int, 2) := by decide +kernel
theorem d_Fi_init_8 : decode M_Fi_init.2.1 8 = .ok (.putfield 9, 3) := by decide +kernel
theorem d_Fi_init_11 : decode M_Fi_init.2.1 11 = .ok (.aload_n 0, 1) := by decide +kernel
theorem d_Fi_init_12 : decode M_Fi_init.2.1 12 = .ok (.iconst 4, 1) := by decide +kernel
theorem d_Fi_init_13 : decode M_Fi_init.2.1 13 = .ok (.newarray .int, 2) := by decide +kernel
theorem d_Fi_init_15 : decode M_Fi_init.2.1 15 = .ok (.putfield 15, 3) := by decide +kernel
theorem d_Fi_init_18 : decode M_Fi_init.2.1 18 = .ok (.aload_n 0, 1) := by decide +kernel
theorem d_Fi_init_19 : decode M_Fi_init.2.1 19 = .ok (.iconst 4, 1) := by decide +kernel
theorem d_Fi_init_20 : decode M_Fi_init.2.1 20 = .ok (.newarray .int, 2) := by decide +kernel
theorem d_Fi_init_22 : decode M_Fi_init.2.1 22 = .ok (.putfield 18, 3) := by decide +kernel
theorem d_Fi_init_25 : decode M_Fi_init.2.1 25 = .ok (.aload_n 0, 1) := by decide +kernel
theorem d_Fi_init_26 : decode M_Fi_init.2.1 26 = .ok (.iconst 4, 1) := by decide +kernel
theorem d_Fi_init_27 : decode M_Fi_init.2.1 27 = .ok (.newarray .int, 2) := by decide +kernel
theorem d_Fi_init_29 : decode M_Fi_init.2.1 29 = .ok (.putfield 21, 3) := by decide +kernel
theorem d_Fi_init_32 : decode M_Fi_init.2.1 32 = .ok (.aload_n 0, 1) := by decide +kernel
theorem d_Fi_init_33 : decode M_Fi_init.2.1 33 = .ok (.iconst 4, 1) := by decide +kernel
theorem d_Fi_init_34 : decode M_Fi_init.2.1 34 = .ok (.newarray .int, 2) := by decide +kernel
theorem d_Fi_init_36 : decode M_Fi_init.2.1 36 = .ok (.putfield 24, 3) := by decide +kernel
theorem d_Fi_init_39 : decode M_Fi_init.2.1 39 = .ok (.aload_n 0, 1) := by decide +kernel
theorem d_Fi_init_40 : decode M_Fi_init.2.1 40 = .ok (.iconst 4, 1) := by decide +kernel
theorem d_Fi_init_41 : decode M_Fi_init.2.1 41 = .ok (.bipush 6, 2) := by decide +kernel
theorem d_Fi_init_43 : decode M_Fi_init.2.1 43 = .ok (.multianewarray 27 2, 4) := by decide +kernel
theorem d_Fi_init_47 : decode M_Fi_init.2.1 47 = .ok (.putfield 29, 3) := by decide +kernel
theorem d_Fi_init_50 : decode M_Fi_init.2.1 50 = .ok (.aload_n 0, 1) := by decide +kernel
theorem d_Fi_init_51 : decode M_Fi_init.2.1 51 = .ok (.iconst 4, 1) := by decide +kernel
theorem d_Fi_init_52 : decode M_Fi_init.2.1 52 = .ok (.bipush 6, 2) := by decide +kernel
theorem d_Fi_init_54 : decode M_Fi_init.2.1 54 = .ok (.multianewarray 27 2, 4) := by decide +kernel
theorem d_Fi_init_58 : decode M_Fi_init.2.1 58 = .ok (.putfield 32, 3) := by decide +kernel
theorem d_Fi_init_61 : decode M_Fi_init.2.1 61 = .ok (.aload_n 0, 1) := by decide +kernel
theorem d_Fi_init_62 : decode M_Fi_init.2.1 62 = .ok (.bipush 6, 2) := by decide +kernel
theorem d_Fi_init_64 : decode M_Fi_init.2.1 64 = .ok (.newarray .int, 2) := by decide +kernel
theorem d_Fi_init_66 : decode M_Fi_init.2.1 66 = .ok (.putfield 35, 3) := by decide +kernel
theorem d_Fi_init_69 : decode M_Fi_init.2.1 69 = .ok (.aload_n 0, 1) := by decide +kernel
theorem d_Fi_init_70 : decode M_Fi_init.2.1 70 = .ok (.iconst 0, 1) := by decide +kernel
theorem d_Fi_init_71 : decode M_Fi_init.2.1 71 = .ok (.putfield 38, 3) := by decide +kernel
theorem d_Fi_init_74 : decode M_Fi_init.2.1 74 = .ok (.aload_n 0, 1) := by decide +kernel
theorem d_Fi_init_75 : decode M_Fi_init.2.1 75 = .ok (.iconst 1, 1) := by decide +kernel
theorem d_Fi_init_76 : decode M_Fi_init.2.1 76 = .ok (.putfield 42, 3) := by decide +kernel
theorem d_Fi_init_79 : decode M_Fi_init.2.1 79 = .ok (.aload_n 0, 1) := by decide +kernel
theorem d_Fi_init_80 : decode M_Fi_init.2.1 80 = .ok (.aload_n 1, 1) := by decide +kernel
theorem d_Fi_init_81 : decode M_Fi_init.2.1 81 = .ok (.putfield 45, 3) := by decide +kernel
theorem d_Fi_init_84 : decode M_Fi_init.2.1 84 = .ok (.aload_n 0, 1) := by decide +kernel
theorem d_Fi_init_85 : decode M_Fi_init.2.1 85 = .ok (.aload_n 2, 1) := by decide +kernel
theorem d_Fi_init_86 : decode M_Fi_init.2.1 86 = .ok (.putfield 49, 3) := by decide +kernel
theorem d_Fi_init_89 : decode M_Fi_init.2.1 89 = .ok (.aload_n 0, 1) := by decide +kernel
theorem d_Fi_init_90 : decode M_Fi_init.2.1 90 = .ok (.aload_n 3, 1) := by decide +kernel
theorem d_Fi_init_91 : decode M_Fi_init.2.1 91 = .ok (.putfield 53, 3) := by decide +kernel
theorem d_Fi_init_94 : decode M_Fi_init.2.1 94 = .ok (.return_, 1) := by decide +kernel
theorem d_MT_link_0 : decode M_MT_link.2.1 0 = .ok (.iload_n 1, 1) := by decide +kernel
theorem d_MT_link_1 : decode M_MT_link.2.1 1 = .ok (.invokestatic 9, 3) := by decide +kernel
theorem d_MT_link_4 : decode M_MT_link.2.1 4 = .ok (.ifCond .eq 15, 3) := by decide +kernel
theorem d_MT_link_7 : decode M_MT_link.2.1 7 = .ok (.iload_n 2, 1) := by decide +kernel
theorem d_MT_link_8 : decode M_MT_link.2.1 8 = .ok (.invokestatic 9, 3) := by decide +kernel
theorem d_MT_link_11 : decode M_MT_link.2.1 11 = .ok (.ifCond .eq 8, 3) := by decide +kernel
theorem d_MT_link_14 : decode M_MT_link.2.1 14 = .ok (.iload_n 1, 1) := by decide +kernel
theorem d_MT_link_15 : decode M_MT_link.2.1 15 = .ok (.iload_n 2, 1) := by decide +kernel
theorem d_MT_link_16 : decode M_MT_link.2.1 16 = .ok (.if_icmp .ne 5, 3) := by decide +kernel
theorem d_MT_link_19 : decode M_MT_link.2.1 19 = .ok (.iconst 0, 1) := by decide +kernel
theorem d_MT_link_20 : decode M_MT_link.2.1 20 = .ok (.ireturn, 1) := by decide +kernel
theorem d_MT_link_21 : decode M_MT_link.2.1 21 = .ok (.iload_n 3, 1) := by decide +kernel
theorem d_MT_link_22 : decode M_MT_link.2.1 22 = .ok (.ifCond .lt 22, 3) := by decide +kernel
theorem d_MT_link_25 : decode M_MT_link.2.1 25 = .ok (.iload_n 3, 1) := by decide +kernel
theorem d_MT_link_26 : decode M_MT_link.2.1 26 = .ok (.bipush 9, 2) := by decide +kernel
theorem d_MT_link_28 : decode M_MT_link.2.1 28 = .ok (.if_icmp .gt 16, 3) := by decide +kernel
theorem d_MT_link_31 : decode M_MT_link.2.1 31 = .ok (.iload_n 3, 1) := by decide +kernel
theorem d_MT_link_32 : decode M_MT_link.2.1 32 = .ok (.aload_n 0, 1) := by decide +kernel
theorem d_MT_link_33 : decode M_MT_link.2.1 33 = .ok (.getfield 30, 3) := by decide +kernel
theorem d_MT_link_36 : decode M_MT_link.2.1 36 = .ok (.iload_n 1, 1) := by decide +kernel
theorem d_MT_link_37 : decode M_MT_link.2.1 37 = .ok (.iload_n 2, 1) := by decide +kernel
theorem d_MT_link_38 : decode M_MT_link.2.1 38 = .ok (.invokevirtual 77, 3) := by decide +kernel
theorem d_MT_link_41 : decode M_MT_link.2.1 41 = .ok (.if_icmp .ne 5, 3) := by decide +kernel
theorem d_MT_link_44 : decode M_MT_link.2.1 44 = .ok (.iconst 0, 1) := by decide +kernel
theorem d_MT_link_45 : decode M_MT_link.2.1 45 = .ok (.ireturn, 1) := by decide +kernel
theorem d_MT_link_46 : decode M_MT_link.2.1 46 = .ok (.aload_n 0, 1) := by decide +kernel
theorem d_MT_link_47 : decode M_MT_link.2.1 47 = .ok (.getfield 30, 3) := by decide +kernel
theorem d_MT_link_50 : decode M_MT_link.2.1 50 = .ok (.iload_n 1, 1) := by decide +kernel
theorem d_MT_link_51 : decode M_MT_link.2.1 51 = .ok (.iload_n 2, 1) := by decide +kernel
theorem d_MT_link_52 : decode M_MT_link.2.1 52 = .ok (.iload_n 3, 1) := by decide +kernel
theorem d_MT_link_53 : decode M_MT_link.2.1 53 = .ok (.invokevirtual 81, 3) := by decide +kernel
theorem d_MT_link_56 : decode M_MT_link.2.1 56 = .ok (.aload_n 0, 1) := by decide +kernel
theorem d_MT_link_57 : decode M_MT_link.2.1 57 = .ok (.getfield 55, 3) := by decide +kernel
theorem d_MT_link_60 : decode M_MT_link.2.1 60 = .ok (.invokevirtual 85, 3) := by decide +kernel
theorem d_MT_link_63 : decode M_MT_link.2.1 63 = .ok (.iconst 1, 1) := by decide +kernel
theorem d_MT_link_64 : decode M_MT_link.2.1 64 = .ok (.ireturn, 1) := by decide +kernel
theorem d_Tr_settle_0 : decode M_Tr_settle.2.1 0 = .ok (.iconst 0, 1) := by decide +kernel
theorem d_Tr_settle_1 : decode M_Tr_settle.2.1 1 = .ok (.istore_n 1, 1) := by decide +kernel
theorem d_Tr_settle_2 : decode M_Tr_settle.2.1 2 = .ok (.iload_n 1, 1) := by decide +kernel
theorem d_Tr_settle_3 : decode M_Tr_settle.2.1 3 = .ok (.iconst 3, 1) := by decide +kernel
theorem d_Tr_settle_4 : decode M_Tr_settle.2.1 4 = .ok (.if_icmp .ge 14, 3) := by decide +kernel
theorem d_Tr_settle_7 : decode M_Tr_settle.2.1 7 = .ok (.aload_n 0, 1) := by decide +kernel
theorem d_Tr_settle_8 : decode M_Tr_settle.2.1 8 = .ok (.iload_n 1, 1) := by decide +kernel
theorem d_Tr_settle_9 : decode M_Tr_settle.2.1 9 = .ok (.invokevirtual 61, 3) := by decide +kernel
theorem d_Tr_settle_12 : decode M_Tr_settle.2.1 12 = .ok (.iinc 1 1, 3) := by decide +kernel
theorem d_Tr_settle_15 : decode M_Tr_settle.2.1 15 = .ok (.goto (-13), 3) := by decide +kernel
theorem d_Tr_settle_18 : decode M_Tr_settle.2.1 18 = .ok (.iconst 0, 1) := by decide +kernel
theorem d_Tr_settle_19 : decode M_Tr_settle.2.1 19 = .ok (.istore_n 1, 1) := by decide +kernel
theorem d_Tr_settle_20 : decode M_Tr_settle.2.1 20 = .ok (.iload_n 1, 1) := by decide +kernel
theorem d_Tr_settle_21 : decode M_Tr_settle.2.1 21 = .ok (.bipush 6, 2) := by decide +kernel
theorem d_Tr_settle_23 : decode M_Tr_settle.2.1 23 = .ok (.if_icmp .ge 34, 3) := by decide +kernel
theorem d_Tr_settle_26 : decode M_Tr_settle.2.1 26 = .ok (.iconst 0, 1) := by decide +kernel
theorem d_Tr_settle_27 : decode M_Tr_settle.2.1 27 = .ok (.istore_n 2, 1) := by decide +kernel
theorem d_Tr_settle_28 : decode M_Tr_settle.2.1 28 = .ok (.iload_n 2, 1) := by decide +kernel
theorem d_Tr_settle_29 : decode M_Tr_settle.2.1 29 = .ok (.iconst 3, 1) := by decide +kernel
theorem d_Tr_settle_30 : decode M_Tr_settle.2.1 30 = .ok (.if_icmp .ge 21, 3) := by decide +kernel
theorem d_Tr_settle_33 : decode M_Tr_settle.2.1 33 = .ok (.aload_n 0, 1) := by decide +kernel
theorem d_Tr_settle_34 : decode M_Tr_settle.2.1 34 = .ok (.iload_n 1, 1) := by decide +kernel
theorem d_Tr_settle_35 : decode M_Tr_settle.2.1 35 = .ok (.iload_n 2, 1) := by decide +kernel
theorem d_Tr_settle_36 : decode M_Tr_settle.2.1 36 = .ok (.invokevirtual 65, 3) := by decide +kernel
theorem d_Tr_settle_39 : decode M_Tr_settle.2.1 39 = .ok (.aload_n 0, 1) := by decide +kernel
theorem d_Tr_settle_40 : decode M_Tr_settle.2.1 40 = .ok (.iload_n 1, 1) := by decide +kernel
theorem d_Tr_settle_41 : decode M_Tr_settle.2.1 41 = .ok (.iload_n 2, 1) := by decide +kernel
theorem d_Tr_settle_42 : decode M_Tr_settle.2.1 42 = .ok (.invokevirtual 69, 3) := by decide +kernel
theorem d_Tr_settle_45 : decode M_Tr_settle.2.1 45 = .ok (.iinc 2 1, 3) := by decide +kernel
theorem d_Tr_settle_48 : decode M_Tr_settle.2.1 48 = .ok (.goto (-20), 3) := by decide +kernel
theorem d_Tr_settle_51 : decode M_Tr_settle.2.1 51 = .ok (.iinc 1 1, 3) := by decide +kernel
theorem d_Tr_settle_54 : decode M_Tr_settle.2.1 54 = .ok (.goto (-34), 3) := by decide +kernel
theorem d_Tr_settle_57 : decode M_Tr_settle.2.1 57 = .ok (.return_, 1) := by decide +kernel
theorem d_Tr_settleShared_0 : decode M_Tr_settleShared.2.1 0 = .ok (.aload_n 0, 1) := by decide +kernel
theorem d_Tr_settleShared_1 : decode M_Tr_settleShared.2.1 1 = .ok (.getfield 16, 3) := by decide +kernel
theorem d_Tr_settleShared_4 : decode M_Tr_settleShared.2.1 4 = .ok (.iload_n 1, 1) := by decide +kernel
theorem d_Tr_settleShared_5 : decode M_Tr_settleShared.2.1 5 = .ok (.aaload, 1) := by decide +kernel
theorem d_Tr_settleShared_6 : decode M_Tr_settleShared.2.1 6 = .ok (.astore_n 2, 1) := by decide +kernel
theorem d_Tr_settleShared_7 : decode M_Tr_settleShared.2.1 7 = .ok (.aload_n 2, 1) := by decide +kernel
theorem d_Tr_settleShared_8 : decode M_Tr_settleShared.2.1 8 = .ok (.iconst 0, 1) := by decide +kernel
theorem d_Tr_settleShared_9 : decode M_Tr_settleShared.2.1 9 = .ok (.invokestatic 55, 3) := by decide +kernel
theorem d_Tr_settleShared_12 : decode M_Tr_settleShared.2.1 12 = .ok (.iconst 0, 1) := by decide +kernel
theorem d_Tr_settleShared_13 : decode M_Tr_settleShared.2.1 13 = .ok (.istore_n 3, 1) := by decide +kernel
theorem d_Tr_settleShared_14 : decode M_Tr_settleShared.2.1 14 = .ok (.iload_n 3, 1) := by decide +kernel
theorem d_Tr_settleShared_15 : decode M_Tr_settleShared.2.1 15 = .ok (.bipush 6, 2) := by decide +kernel
theorem d_Tr_settleShared_17 : decode M_Tr_settleShared.2.1 17 = .ok (.if_icmp .ge 120, 3) := by decide +kernel
theorem d_Tr_settleShared_20 : decode M_Tr_settleShared.2.1 20 = .ok (.aload_n 0, 1) := by decide +kernel
theorem d_Tr_settleShared_21 : decode M_Tr_settleShared.2.1 21 = .ok (.getfield 39, 3) := by decide +kernel
theorem d_Tr_settleShared_24 : decode M_Tr_settleShared.2.1 24 = .ok (.aload_n 0, 1) := by decide +kernel
theorem d_Tr_settleShared_25 : decode M_Tr_settleShared.2.1 25 = .ok (.getfield 35, 3) := by decide +kernel
theorem d_Tr_settleShared_28 : decode M_Tr_settleShared.2.1 28 = .ok (.iload_n 3, 1) := by decide +kernel
theorem d_Tr_settleShared_29 : decode M_Tr_settleShared.2.1 29 = .ok (.invokevirtual 72, 3) := by decide +kernel
theorem d_Tr_settleShared_32 : decode M_Tr_settleShared.2.1 32 = .ok (.istore 4, 2) := by decide +kernel
theorem d_Tr_settleShared_34 : decode M_Tr_settleShared.2.1 34 = .ok (.aload_n 0, 1) := by decide +kernel
theorem d_Tr_settleShared_35 : decode M_Tr_settleShared.2.1 35 = .ok (.getfield 43, 3) := by decide +kernel
theorem d_Tr_settleShared_38 : decode M_Tr_settleShared.2.1 38 = .ok (.iload 4, 2) := by decide +kernel
theorem d_Tr_settleShared_40 : decode M_Tr_settleShared.2.1 40 = .ok (.iload_n 1, 1) := by decide +kernel
theorem d_Tr_settleShared_41 : decode M_Tr_settleShared.2.1 41 = .ok (.invokevirtual 78, 3) := by decide +kernel
theorem d_Tr_settleShared_44 : decode M_Tr_settleShared.2.1 44 = .ok (.ifCond .ne 10, 3) := by decide +kernel
theorem d_Tr_settleShared_47 : decode M_Tr_settleShared.2.1 47 = .ok (.aload_n 2, 1) := by decide +kernel
theorem d_Tr_settleShared_48 : decode M_Tr_settleShared.2.1 48 = .ok (.iload 4, 2) := by decide +kernel
theorem d_Tr_settleShared_50 : decode M_Tr_settleShared.2.1 50 = .ok (.iaload, 1) := by decide +kernel
theorem d_Tr_settleShared_51 : decode M_Tr_settleShared.2.1 51 = .ok (.ifCond .eq 7, 3) := by decide +kernel
theorem d_Tr_settleShared_54 : decode M_Tr_settleShared.2.1 54 = .ok (.iconst 1, 1) := by decide +kernel
theorem d_Tr_settleShared_55 : decode M_Tr_settleShared.2.1 55 = .ok (.goto 4, 3) := by decide +kernel
theorem d_Tr_settleShared_58 : decode M_Tr_settleShared.2.1 58 = .ok (.iconst 0, 1) := by decide +kernel
theorem d_Tr_settleShared_59 : decode M_Tr_settleShared.2.1 59 = .ok (.istore 5, 2) := by decide +kernel
theorem d_Tr_settleShared_61 : decode M_Tr_settleShared.2.1 61 = .ok (.iload 5, 2) := by decide +kernel
theorem d_Tr_settleShared_63 : decode M_Tr_settleShared.2.1 63 = .ok (.ifCond .eq 19, 3) := by decide +kernel
theorem d_Tr_settleShared_66 : decode M_Tr_settleShared.2.1 66 = .ok (.aload_n 0, 1) := by decide +kernel
theorem d_Tr_settleShared_67 : decode M_Tr_settleShared.2.1 67 = .ok (.getfield 39, 3) := by decide +kernel
theorem d_Tr_settleShared_70 : decode M_Tr_settleShared.2.1 70 = .ok (.iload 4, 2) := by decide +kernel
theorem d_Tr_settleShared_72 : decode M_Tr_settleShared.2.1 72 = .ok (.aload_n 0, 1) := by decide +kernel
theorem d_Tr_settleShared_73 : decode M_Tr_settleShared.2.1 73 = .ok (.getfield 35, 3) := by decide +kernel
theorem d_Tr_settleShared_76 : decode M_Tr_settleShared.2.1 76 = .ok (.invokevirtual 84, 3) := by decide +kernel
theorem d_Tr_settleShared_79 : decode M_Tr_settleShared.2.1 79 = .ok (.goto 4, 3) := by decide +kernel
theorem d_Tr_settleShared_82 : decode M_Tr_settleShared.2.1 82 = .ok (.iconst (-1), 1) := by decide +kernel
theorem d_Tr_settleShared_83 : decode M_Tr_settleShared.2.1 83 = .ok (.istore 6, 2) := by decide +kernel
theorem d_Tr_settleShared_85 : decode M_Tr_settleShared.2.1 85 = .ok (.iload 6, 2) := by decide +kernel
theorem d_Tr_settleShared_87 : decode M_Tr_settleShared.2.1 87 = .ok (.iconst (-1), 1) := by decide +kernel
theorem d_Tr_settleShared_88 : decode M_Tr_settleShared.2.1 88 = .ok (.if_icmp .eq 14, 3) := by decide +kernel
theorem d_Tr_settleShared_91 : decode M_Tr_settleShared.2.1 91 = .ok (.aload_n 2, 1) := by decide +kernel
theorem d_Tr_settleShared_92 : decode M_Tr_settleShared.2.1 92 = .ok (.iload 6, 2) := by decide +kernel
theorem d_Tr_settleShared_94 : decode M_Tr_settleShared.2.1 94 = .ok (.dup2, 1) := by decide +kernel
theorem d_Tr_settleShared_95 : decode M_Tr_settleShared.2.1 95 = .ok (.iaload, 1) := by decide +kernel
theorem d_Tr_settleShared_96 : decode M_Tr_settleShared.2.1 96 = .ok (.iconst 1, 1) := by decide +kernel
theorem d_Tr_settleShared_97 : decode M_Tr_settleShared.2.1 97 = .ok (.iload 4, 2) := by decide +kernel
theorem d_Tr_settleShared_99 : decode M_Tr_settleShared.2.1 99 = .ok (.ishl, 1) := by decide +kernel
theorem d_Tr_settleShared_100 : decode M_Tr_settleShared.2.1 100 = .ok (.ior, 1) := by decide +kernel
theorem d_Tr_settleShared_101 : decode M_Tr_settleShared.2.1 101 = .ok (.iastore, 1) := by decide +kernel
theorem d_Tr_settleShared_102 : decode M_Tr_settleShared.2.1 102 = .ok (.aload_n 0, 1) := by decide +kernel
theorem d_Tr_settleShared_103 : decode M_Tr_settleShared.2.1 103 = .ok (.iconst 0, 1) := by decide +kernel
theorem d_Tr_settleShared_104 : decode M_Tr_settleShared.2.1 104 = .ok (.iload 4, 2) := by decide +kernel
theorem d_Tr_settleShared_106 : decode M_Tr_settleShared.2.1 106 = .ok (.aload_n 0, 1) := by decide +kernel
theorem d_Tr_settleShared_107 : decode M_Tr_settleShared.2.1 107 = .ok (.getfield 11, 3) := by decide +kernel
theorem d_Tr_settleShared_110 : decode M_Tr_settleShared.2.1 110 = .ok (.iload_n 1, 1) := by decide +kernel
theorem d_Tr_settleShared_111 : decode M_Tr_settleShared.2.1 111 = .ok (.aaload, 1) := by decide +kernel
theorem d_Tr_settleShared_112 : decode M_Tr_settleShared.2.1 112 = .ok (.iload 4, 2) := by decide +kernel
theorem d_Tr_settleShared_114 : decode M_Tr_settleShared.2.1 114 = .ok (.iaload, 1) := by decide +kernel
theorem d_Tr_settleShared_115 : decode M_Tr_settleShared.2.1 115 = .ok (.iload 6, 2) := by decide +kernel
theorem d_Tr_settleShared_117 : decode M_Tr_settleShared.2.1 117 = .ok (.invokevirtual 87, 3) := by decide +kernel
theorem d_Tr_settleShared_120 : decode M_Tr_settleShared.2.1 120 = .ok (.aload_n 0, 1) := by decide +kernel
theorem d_Tr_settleShared_121 : decode M_Tr_settleShared.2.1 121 = .ok (.getfield 11, 3) := by decide +kernel
theorem d_Tr_settleShared_124 : decode M_Tr_settleShared.2.1 124 = .ok (.iload_n 1, 1) := by decide +kernel
theorem d_Tr_settleShared_125 : decode M_Tr_settleShared.2.1 125 = .ok (.aaload, 1) := by decide +kernel
theorem d_Tr_settleShared_126 : decode M_Tr_settleShared.2.1 126 = .ok (.iload 4, 2) := by decide +kernel
theorem d_Tr_settleShared_128 : decode M_Tr_settleShared.2.1 128 = .ok (.iload 6, 2) := by decide +kernel
theorem d_Tr_settleShared_130 : decode M_Tr_settleShared.2.1 130 = .ok (.iastore, 1) := by decide +kernel
theorem d_Tr_settleShared_131 : decode M_Tr_settleShared.2.1 131 = .ok (.iinc 3 1, 3) := by decide +kernel
theorem d_Tr_settleShared_134 : decode M_Tr_settleShared.2.1 134 = .ok (.goto (-120), 3) := by decide +kernel
theorem d_Tr_settleShared_137 : decode M_Tr_settleShared.2.1 137 = .ok (.return_, 1) := by decide +kernel
theorem d_Tr_announce_0 : decode M_Tr_announce.2.1 0 = .ok (.iload_n 3, 1) := by decide +kernel
theorem d_Tr_announce_1 : decode M_Tr_announce.2.1 1 = .ok (.iload 4, 2) := by decide +kernel
theorem d_Tr_announce_3 : decode M_Tr_announce.2.1 3 = .ok (.if_icmp .ne 4, 3) := by decide +kernel
theorem d_Tr_announce_6 : decode M_Tr_announce.2.1 6 = .ok (.return_, 1) := by decide +kernel
theorem d_Tr_announce_7 : decode M_Tr_announce.2.1 7 = .ok (.iload_n 3, 1) := by decide +kernel
theorem d_Tr_announce_8 : decode M_Tr_announce.2.1 8 = .ok (.iconst (-1), 1) := by decide +kernel
theorem d_Tr_announce_9 : decode M_Tr_announce.2.1 9 = .ok (.if_icmp .eq 25, 3) := by decide +kernel
theorem d_Tr_announce_12 : decode M_Tr_announce.2.1 12 = .ok (.aload_n 0, 1) := by decide +kernel
theorem d_Tr_announce_13 : decode M_Tr_announce.2.1 13 = .ok (.getfield 39, 3) := by decide +kernel
theorem d_Tr_announce_16 : decode M_Tr_announce.2.1 16 = .ok (.iload_n 2, 1) := by decide +kernel
theorem d_Tr_announce_17 : decode M_Tr_announce.2.1 17 = .ok (.iload_n 3, 1) := by decide +kernel
theorem d_Tr_announce_18 : decode M_Tr_announce.2.1 18 = .ok (.invokevirtual 106, 3) := by decide +kernel
theorem d_Tr_announce_21 : decode M_Tr_announce.2.1 21 = .ok (.ifCond .eq 13, 3) := by decide +kernel
theorem d_Tr_announce_24 : decode M_Tr_announce.2.1 24 = .ok (.aload_n 0, 1) := by decide +kernel
theorem d_Tr_announce_25 : decode M_Tr_announce.2.1 25 = .ok (.getfield 51, 3) := by decide +kernel
theorem d_Tr_announce_28 : decode M_Tr_announce.2.1 28 = .ok (.iload_n 1, 1) := by decide +kernel
theorem d_Tr_announce_29 : decode M_Tr_announce.2.1 29 = .ok (.iconst 1, 1) := by decide +kernel
theorem d_Tr_announce_30 : decode M_Tr_announce.2.1 30 = .ok (.iadd, 1) := by decide +kernel
theorem d_Tr_announce_31 : decode M_Tr_announce.2.1 31 = .ok (.invokevirtual 109, 3) := by decide +kernel
theorem d_Tr_announce_34 : decode M_Tr_announce.2.1 34 = .ok (.iload 4, 2) := by decide +kernel
theorem d_Tr_announce_36 : decode M_Tr_announce.2.1 36 = .ok (.iconst (-1), 1) := by decide +kernel
theorem d_Tr_announce_37 : decode M_Tr_announce.2.1 37 = .ok (.if_icmp .eq 11, 3) := by decide +kernel
theorem d_Tr_announce_40 : decode M_Tr_announce.2.1 40 = .ok (.aload_n 0, 1) := by decide +kernel
theorem d_Tr_announce_41 : decode M_Tr_announce.2.1 41 = .ok (.getfield 51, 3) := by decide +kernel
theorem d_Tr_announce_44 : decode M_Tr_announce.2.1 44 = .ok (.iload_n 1, 1) := by decide +kernel
theorem d_Tr_announce_45 : decode M_Tr_announce.2.1 45 = .ok (.invokevirtual 109, 3) := by decide +kernel
theorem d_Tr_announce_48 : decode M_Tr_announce.2.1 48 = .ok (.return_, 1) := by decide +kernel
theorem d_Tr_settleCuts_0 : decode M_Tr_settleCuts.2.1 0 = .ok (.iload_n 1, 1) := by decide +kernel
theorem d_Tr_settleCuts_1 : decode M_Tr_settleCuts.2.1 1 = .ok (.iload_n 2, 1) := by decide +kernel
theorem d_Tr_settleCuts_2 : decode M_Tr_settleCuts.2.1 2 = .ok (.invokestatic 91, 3) := by decide +kernel
theorem d_Tr_settleCuts_5 : decode M_Tr_settleCuts.2.1 5 = .ok (.istore_n 3, 1) := by decide +kernel
theorem d_Tr_settleCuts_6 : decode M_Tr_settleCuts.2.1 6 = .ok (.aload_n 0, 1) := by decide +kernel
theorem d_Tr_settleCuts_7 : decode M_Tr_settleCuts.2.1 7 = .ok (.getfield 25, 3) := by decide +kernel
theorem d_Tr_settleCuts_10 : decode M_Tr_settleCuts.2.1 10 = .ok (.iload_n 3, 1) := by decide +kernel
theorem d_Tr_settleCuts_11 : decode M_Tr_settleCuts.2.1 11 = .ok (.aaload, 1) := by decide +kernel
theorem d_Tr_settleCuts_12 : decode M_Tr_settleCuts.2.1 12 = .ok (.astore 4, 2) := by decide +kernel
theorem d_Tr_settleCuts_14 : decode M_Tr_settleCuts.2.1 14 = .ok (.iconst 0, 1) := by decide +kernel
theorem d_Tr_settleCuts_15 : decode M_Tr_settleCuts.2.1 15 = .ok (.istore 5, 2) := by decide +kernel
theorem d_Tr_settleCuts_17 : decode M_Tr_settleCuts.2.1 17 = .ok (.iconst 0, 1) := by decide +kernel
theorem d_Tr_settleCuts_18 : decode M_Tr_settleCuts.2.1 18 = .ok (.istore 6, 2) := by decide +kernel
theorem d_Tr_settleCuts_20 : decode M_Tr_settleCuts.2.1 20 = .ok (.iload 6, 2) := by decide +kernel
theorem d_Tr_settleCuts_22 : decode M_Tr_settleCuts.2.1 22 = .ok (.bipush 6, 2) := by decide +kernel
theorem d_Tr_settleCuts_24 : decode M_Tr_settleCuts.2.1 24 = .ok (.if_icmp .ge 156, 3) := by decide +kernel
theorem d_Tr_settleCuts_27 : decode M_Tr_settleCuts.2.1 27 = .ok (.aload_n 0, 1) := by decide +kernel
theorem d_Tr_settleCuts_28 : decode M_Tr_settleCuts.2.1 28 = .ok (.getfield 39, 3) := by decide +kernel
theorem d_Tr_settleCuts_31 : decode M_Tr_settleCuts.2.1 31 = .ok (.aload_n 0, 1) := by decide +kernel
theorem d_Tr_settleCuts_32 : decode M_Tr_settleCuts.2.1 32 = .ok (.getfield 35, 3) := by decide +kernel
theorem d_Tr_settleCuts_35 : decode M_Tr_settleCuts.2.1 35 = .ok (.iload 6, 2) := by decide +kernel
theorem d_Tr_settleCuts_37 : decode M_Tr_settleCuts.2.1 37 = .ok (.invokevirtual 72, 3) := by decide +kernel
theorem d_Tr_settleCuts_40 : decode M_Tr_settleCuts.2.1 40 = .ok (.istore 7, 2) := by decide +kernel
theorem d_Tr_settleCuts_42 : decode M_Tr_settleCuts.2.1 42 = .ok (.aload 4, 2) := by decide +kernel
theorem d_Tr_settleCuts_44 : decode M_Tr_settleCuts.2.1 44 = .ok (.iload 7, 2) := by decide +kernel
theorem d_Tr_settleCuts_46 : decode M_Tr_settleCuts.2.1 46 = .ok (.aload_n 0, 1) := by decide +kernel
theorem d_Tr_settleCuts_47 : decode M_Tr_settleCuts.2.1 47 = .ok (.getfield 16, 3) := by decide +kernel
theorem d_Tr_settleCuts_50 : decode M_Tr_settleCuts.2.1 50 = .ok (.iload_n 2, 1) := by decide +kernel
theorem d_Tr_settleCuts_51 : decode M_Tr_settleCuts.2.1 51 = .ok (.aaload, 1) := by decide +kernel
theorem d_Tr_settleCuts_52 : decode M_Tr_settleCuts.2.1 52 = .ok (.iload 7, 2) := by decide +kernel
theorem d_Tr_settleCuts_54 : decode M_Tr_settleCuts.2.1 54 = .ok (.iaload, 1) := by decide +kernel
theorem d_Tr_settleCuts_55 : decode M_Tr_settleCuts.2.1 55 = .ok (.iload 5, 2) := by decide +kernel
theorem d_Tr_settleCuts_57 : decode M_Tr_settleCuts.2.1 57 = .ok (.iconst (-1), 1) := by decide +kernel
theorem d_Tr_settleCuts_58 : decode M_Tr_settleCuts.2.1 58 = .ok (.ixor, 1) := by decide +kernel
theorem d_Tr_settleCuts_59 : decode M_Tr_settleCuts.2.1 59 = .ok (.iand, 1) := by decide +kernel
theorem d_Tr_settleCuts_60 : decode M_Tr_settleCuts.2.1 60 = .ok (.iastore, 1) := by decide +kernel
theorem d_Tr_settleCuts_61 : decode M_Tr_settleCuts.2.1 61 = .ok (.aload_n 0, 1) := by decide +kernel
theorem d_Tr_settleCuts_62 : decode M_Tr_settleCuts.2.1 62 = .ok (.getfield 43, 3) := by decide +kernel
theorem d_Tr_settleCuts_65 : decode M_Tr_settleCuts.2.1 65 = .ok (.iload 7, 2) := by decide +kernel
theorem d_Tr_settleCuts_67 : decode M_Tr_settleCuts.2.1 67 = .ok (.iload_n 2, 1) := by decide +kernel
theorem d_Tr_settleCuts_68 : decode M_Tr_settleCuts.2.1 68 = .ok (.invokevirtual 78, 3) := by decide +kernel
theorem d_Tr_settleCuts_71 : decode M_Tr_settleCuts.2.1 71 = .ok (.ifCond .eq 13, 3) := by decide +kernel
theorem d_Tr_settleCuts_74 : decode M_Tr_settleCuts.2.1 74 = .ok (.aload 4, 2) := by decide +kernel
theorem d_Tr_settleCuts_76 : decode M_Tr_settleCuts.2.1 76 = .ok (.iload 7, 2) := by decide +kernel
theorem d_Tr_settleCuts_78 : decode M_Tr_settleCuts.2.1 78 = .ok (.dup2, 1) := by decide +kernel
theorem d_Tr_settleCuts_79 : decode M_Tr_settleCuts.2.1 79 = .ok (.iaload, 1) := by decide +kernel
theorem d_Tr_settleCuts_80 : decode M_Tr_settleCuts.2.1 80 = .ok (.bipush 64, 2) := by decide +kernel
theorem d_Tr_settleCuts_82 : decode M_Tr_settleCuts.2.1 82 = .ok (.ior, 1) := by decide +kernel
theorem d_Tr_settleCuts_83 : decode M_Tr_settleCuts.2.1 83 = .ok (.iastore, 1) := by decide +kernel
theorem d_Tr_settleCuts_84 : decode M_Tr_settleCuts.2.1 84 = .ok (.aload 4, 2) := by decide +kernel
theorem d_Tr_settleCuts_86 : decode M_Tr_settleCuts.2.1 86 = .ok (.iload 7, 2) := by decide +kernel
theorem d_Tr_settleCuts_88 : decode M_Tr_settleCuts.2.1 88 = .ok (.iaload, 1) := by decide +kernel
theorem d_Tr_settleCuts_89 : decode M_Tr_settleCuts.2.1 89 = .ok (.ifCond .eq 14, 3) := by decide +kernel
theorem d_Tr_settleCuts_92 : decode M_Tr_settleCuts.2.1 92 = .ok (.aload_n 0, 1) := by decide +kernel
theorem d_Tr_settleCuts_93 : decode M_Tr_settleCuts.2.1 93 = .ok (.iload_n 3, 1) := by decide +kernel
theorem d_Tr_settleCuts_94 : decode M_Tr_settleCuts.2.1 94 = .ok (.iload_n 1, 1) := by decide +kernel
theorem d_Tr_settleCuts_95 : decode M_Tr_settleCuts.2.1 95 = .ok (.iload 7, 2) := by decide +kernel
theorem d_Tr_settleCuts_97 : decode M_Tr_settleCuts.2.1 97 = .ok (.invokevirtual 94, 3) := by decide +kernel
theorem d_Tr_settleCuts_100 : decode M_Tr_settleCuts.2.1 100 = .ok (.ifCond .eq 7, 3) := by decide +kernel
theorem d_Tr_settleCuts_103 : decode M_Tr_settleCuts.2.1 103 = .ok (.iconst 1, 1) := by decide +kernel
theorem d_Tr_settleCuts_104 : decode M_Tr_settleCuts.2.1 104 = .ok (.goto 4, 3) := by decide +kernel
theorem d_Tr_settleCuts_107 : decode M_Tr_settleCuts.2.1 107 = .ok (.iconst 0, 1) := by decide +kernel
theorem d_Tr_settleCuts_108 : decode M_Tr_settleCuts.2.1 108 = .ok (.istore 8, 2) := by decide +kernel
theorem d_Tr_settleCuts_110 : decode M_Tr_settleCuts.2.1 110 = .ok (.iload 8, 2) := by decide +kernel
theorem d_Tr_settleCuts_112 : decode M_Tr_settleCuts.2.1 112 = .ok (.ifCond .eq 15, 3) := by decide +kernel
theorem d_Tr_settleCuts_115 : decode M_Tr_settleCuts.2.1 115 = .ok (.aload_n 0, 1) := by decide +kernel
theorem d_Tr_settleCuts_116 : decode M_Tr_settleCuts.2.1 116 = .ok (.getfield 11, 3) := by decide +kernel
theorem d_Tr_settleCuts_119 : decode M_Tr_settleCuts.2.1 119 = .ok (.iload_n 2, 1) := by decide +kernel
theorem d_Tr_settleCuts_120 : decode M_Tr_settleCuts.2.1 120 = .ok (.aaload, 1) := by decide +kernel
theorem d_Tr_settleCuts_121 : decode M_Tr_settleCuts.2.1 121 = .ok (.iload 7, 2) := by decide +kernel
theorem d_Tr_settleCuts_123 : decode M_Tr_settleCuts.2.1 123 = .ok (.iaload, 1) := by decide +kernel
theorem d_Tr_settleCuts_124 : decode M_Tr_settleCuts.2.1 124 = .ok (.goto 4, 3) := by decide +kernel
theorem d_Tr_settleCuts_127 : decode M_Tr_settleCuts.2.1 127 = .ok (.iconst (-1), 1) := by decide +kernel
theorem d_Tr_settleCuts_128 : decode M_Tr_settleCuts.2.1 128 = .ok (.istore 9, 2) := by decide +kernel
theorem d_Tr_settleCuts_130 : decode M_Tr_settleCuts.2.1 130 = .ok (.iload 9, 2) := by decide +kernel
theorem d_Tr_settleCuts_132 : decode M_Tr_settleCuts.2.1 132 = .ok (.iconst (-1), 1) := by decide +kernel
theorem d_Tr_settleCuts_133 : decode M_Tr_settleCuts.2.1 133 = .ok (.if_icmp .eq 12, 3) := by decide +kernel
theorem d_Tr_settleCuts_136 : decode M_Tr_settleCuts.2.1 136 = .ok (.iload 5, 2) := by decide +kernel
theorem d_Tr_settleCuts_138 : decode M_Tr_settleCuts.2.1 138 = .ok (.iconst 1, 1) := by decide +kernel
theorem d_Tr_settleCuts_139 : decode M_Tr_settleCuts.2.1 139 = .ok (.iload 7, 2) := by decide +kernel
theorem d_Tr_settleCuts_141 : decode M_Tr_settleCuts.2.1 141 = .ok (.ishl, 1) := by decide +kernel
theorem d_Tr_settleCuts_142 : decode M_Tr_settleCuts.2.1 142 = .ok (.ior, 1) := by decide +kernel
theorem d_Tr_settleCuts_143 : decode M_Tr_settleCuts.2.1 143 = .ok (.istore 5, 2) := by decide +kernel
theorem d_Tr_settleCuts_145 : decode M_Tr_settleCuts.2.1 145 = .ok (.aload_n 0, 1) := by decide +kernel
theorem d_Tr_settleCuts_146 : decode M_Tr_settleCuts.2.1 146 = .ok (.iconst 4, 1) := by decide +kernel
theorem d_Tr_settleCuts_147 : decode M_Tr_settleCuts.2.1 147 = .ok (.iload 7, 2) := by decide +kernel
theorem d_Tr_settleCuts_149 : decode M_Tr_settleCuts.2.1 149 = .ok (.aload_n 0, 1) := by decide +kernel
theorem d_Tr_settleCuts_150 : decode M_Tr_settleCuts.2.1 150 = .ok (.getfield 19, 3) := by decide +kernel
theorem d_Tr_settleCuts_153 : decode M_Tr_settleCuts.2.1 153 = .ok (.iload_n 3, 1) := by decide +kernel
theorem d_Tr_settleCuts_154 : decode M_Tr_settleCuts.2.1 154 = .ok (.aaload, 1) := by decide +kernel
theorem d_Tr_settleCuts_155 : decode M_Tr_settleCuts.2.1 155 = .ok (.iload 7, 2) := by decide +kernel
theorem d_Tr_settleCuts_157 : decode M_Tr_settleCuts.2.1 157 = .ok (.iaload, 1) := by decide +kernel
theorem d_Tr_settleCuts_158 : decode M_Tr_settleCuts.2.1 158 = .ok (.iload 9, 2) := by decide +kernel
theorem d_Tr_settleCuts_160 : decode M_Tr_settleCuts.2.1 160 = .ok (.invokevirtual 87, 3) := by decide +kernel
theorem d_Tr_settleCuts_163 : decode M_Tr_settleCuts.2.1 163 = .ok (.aload_n 0, 1) := by decide +kernel
theorem d_Tr_settleCuts_164 : decode M_Tr_settleCuts.2.1 164 = .ok (.getfield 19, 3) := by decide +kernel
theorem d_Tr_settleCuts_167 : decode M_Tr_settleCuts.2.1 167 = .ok (.iload_n 3, 1) := by decide +kernel
theorem d_Tr_settleCuts_168 : decode M_Tr_settleCuts.2.1 168 = .ok (.aaload, 1) := by decide +kernel
theorem d_Tr_settleCuts_169 : decode M_Tr_settleCuts.2.1 169 = .ok (.iload 7, 2) := by decide +kernel
theorem d_Tr_settleCuts_171 : decode M_Tr_settleCuts.2.1 171 = .ok (.iload 9, 2) := by decide +kernel
theorem d_Tr_settleCuts_173 : decode M_Tr_settleCuts.2.1 173 = .ok (.iastore, 1) := by decide +kernel
theorem d_Tr_settleCuts_174 : decode M_Tr_settleCuts.2.1 174 = .ok (.iinc 6 1, 3) := by decide +kernel
theorem d_Tr_settleCuts_177 : decode M_Tr_settleCuts.2.1 177 = .ok (.goto (-157), 3) := by decide +kernel
theorem d_Tr_settleCuts_180 : decode M_Tr_settleCuts.2.1 180 = .ok (.return_, 1) := by decide +kernel
theorem d_MT_streamOf_0 : decode M_MT_streamOf.2.1 0 = .ok (.iload_n 0, 1) := by decide +kernel
theorem d_MT_streamOf_1 : decode M_MT_streamOf.2.1 1 = .ok (.iconst 3, 1) := by decide +kernel
theorem d_MT_streamOf_2 : decode M_MT_streamOf.2.1 2 = .ok (.imul, 1) := by decide +kernel
theorem d_MT_streamOf_3 : decode M_MT_streamOf.2.1 3 = .ok (.iload_n 1, 1) := by decide +kernel
theorem d_MT_streamOf_4 : decode M_MT_streamOf.2.1 4 = .ok (.iadd, 1) := by decide +kernel
theorem d_MT_streamOf_5 : decode M_MT_streamOf.2.1 5 = .ok (.ireturn, 1) := by decide +kernel
theorem d_Tr_takesElsewhere_0 : decode M_Tr_takesElsewhere.2.1 0 = .ok (.aload_n 0, 1) := by decide +kernel
theorem d_Tr_takesElsewhere_1 : decode M_Tr_takesElsewhere.2.1 1 = .ok (.getfield 47, 3) := by decide +kernel
theorem d_Tr_takesElsewhere_4 : decode M_Tr_takesElsewhere.2.1 4 = .ok (.iload_n 1, 1) := by decide +kernel
theorem d_Tr_takesElsewhere_5 : decode M_Tr_takesElsewhere.2.1 5 = .ok (.iload_n 3, 1) := by decide +kernel
theorem d_Tr_takesElsewhere_6 : decode M_Tr_takesElsewhere.2.1 6 = .ok (.invokevirtual 98, 3) := by decide +kernel
theorem d_Tr_takesElsewhere_9 : decode M_Tr_takesElsewhere.2.1 9 = .ok (.ifCond .eq 31, 3) := by decide +kernel
theorem d_Tr_takesElsewhere_12 : decode M_Tr_takesElsewhere.2.1 12 = .ok (.aload_n 0, 1) := by decide +kernel
theorem d_Tr_takesElsewhere_13 : decode M_Tr_takesElsewhere.2.1 13 = .ok (.getfield 39, 3) := by decide +kernel
theorem d_Tr_takesElsewhere_16 : decode M_Tr_takesElsewhere.2.1 16 = .ok (.iload_n 3, 1) := by decide +kernel
theorem d_Tr_takesElsewhere_17 : decode M_Tr_takesElsewhere.2.1 17 = .ok (.iload_n 2, 1) := by decide +kernel
theorem d_Tr_takesElsewhere_18 : decode M_Tr_takesElsewhere.2.1 18 = .ok (.invokevirtual 84, 3) := by decide +kernel
theorem d_Tr_takesElsewhere_21 : decode M_Tr_takesElsewhere.2.1 21 = .ok (.aload_n 0, 1) := by decide +kernel
theorem d_Tr_takesElsewhere_22 : decode M_Tr_takesElsewhere.2.1 22 = .ok (.getfield 39, 3) := by decide +kernel
theorem d_Tr_takesElsewhere_25 : decode M_Tr_takesElsewhere.2.1 25 = .ok (.iload_n 3, 1) := by decide +kernel
theorem d_Tr_takesElsewhere_26 : decode M_Tr_takesElsewhere.2.1 26 = .ok (.aload_n 0, 1) := by decide +kernel
theorem d_Tr_takesElsewhere_27 : decode M_Tr_takesElsewhere.2.1 27 = .ok (.getfield 35, 3) := by decide +kernel
theorem d_Tr_takesElsewhere_30 : decode M_Tr_takesElsewhere.2.1 30 = .ok (.invokevirtual 84, 3) := by decide +kernel
theorem d_Tr_takesElsewhere_33 : decode M_Tr_takesElsewhere.2.1 33 = .ok (.if_icmp .eq 7, 3) := by decide +kernel
theorem d_Tr_takesElsewhere_36 : decode M_Tr_takesElsewhere.2.1 36 = .ok (.iconst 1, 1) := by decide +kernel
theorem d_Tr_takesElsewhere_37 : decode M_Tr_takesElsewhere.2.1 37 = .ok (.goto 4, 3) := by decide +kernel
theorem d_Tr_takesElsewhere_40 : decode M_Tr_takesElsewhere.2.1 40 = .ok (.iconst 0, 1) := by decide +kernel
theorem d_Tr_takesElsewhere_41 : decode M_Tr_takesElsewhere.2.1 41 = .ok (.ireturn, 1) := by decide +kernel
theorem d_MT_holds_0 : decode M_MT_holds.2.1 0 = .ok (.iload_n 0, 1) := by decide +kernel
theorem d_MT_holds_1 : decode M_MT_holds.2.1 1 = .ok (.iload_n 1, 1) := by decide +kernel
theorem d_MT_holds_2 : decode M_MT_holds.2.1 2 = .ok (.ishr, 1) := by decide +kernel
theorem d_MT_holds_3 : decode M_MT_holds.2.1 3 = .ok (.iconst 1, 1) := by decide +kernel
theorem d_MT_holds_4 : decode M_MT_holds.2.1 4 = .ok (.iand, 1) := by decide +kernel
theorem d_MT_holds_5 : decode M_MT_holds.2.1 5 = .ok (.ifCond .eq 7, 3) := by decide +kernel
theorem d_MT_holds_8 : decode M_MT_holds.2.1 8 = .ok (.iconst 1, 1) := by decide +kernel
theorem d_MT_holds_9 : decode M_MT_holds.2.1 9 = .ok (.goto 4, 3) := by decide +kernel
theorem d_MT_holds_12 : decode M_MT_holds.2.1 12 = .ok (.iconst 0, 1) := by decide +kernel
theorem d_MT_holds_13 : decode M_MT_holds.2.1 13 = .ok (.ireturn, 1) := by decide +kernel
theorem d_Tr_settleSources_0 : decode M_Tr_settleSources.2.1 0 = .ok (.iload_n 1, 1) := by decide +kernel
theorem d_Tr_settleSources_1 : decode M_Tr_settleSources.2.1 1 = .ok (.iload_n 2, 1) := by decide +kernel
theorem d_Tr_settleSources_2 : decode M_Tr_settleSources.2.1 2 = .ok (.invokestatic 91, 3) := by decide +kernel
theorem d_Tr_settleSources_5 : decode M_Tr_settleSources.2.1 5 = .ok (.istore_n 3, 1) := by decide +kernel
theorem d_Tr_settleSources_6 : decode M_Tr_settleSources.2.1 6 = .ok (.aload_n 0, 1) := by decide +kernel
theorem d_Tr_settleSources_7 : decode M_Tr_settleSources.2.1 7 = .ok (.getfield 28, 3) := by decide +kernel
theorem d_Tr_settleSources_10 : decode M_Tr_settleSources.2.1 10 = .ok (.iload_n 3, 1) := by decide +kernel
theorem d_Tr_settleSources_11 : decode M_Tr_settleSources.2.1 11 = .ok (.aaload, 1) := by decide +kernel
theorem d_Tr_settleSources_12 : decode M_Tr_settleSources.2.1 12 = .ok (.astore 4, 2) := by decide +kernel
theorem d_Tr_settleSources_14 : decode M_Tr_settleSources.2.1 14 = .ok (.aload_n 0, 1) := by decide +kernel
theorem d_Tr_settleSources_15 : decode M_Tr_settleSources.2.1 15 = .ok (.getfield 31, 3) := by decide +kernel
theorem d_Tr_settleSources_18 : decode M_Tr_settleSources.2.1 18 = .ok (.iconst 0, 1) := by decide +kernel
theorem d_Tr_settleSources_19 : decode M_Tr_settleSources.2.1 19 = .ok (.invokestatic 55, 3) := by decide +kernel
theorem d_Tr_settleSources_22 : decode M_Tr_settleSources.2.1 22 = .ok (.iconst 0, 1) := by decide +kernel
theorem d_Tr_settleSources_23 : decode M_Tr_settleSources.2.1 23 = .ok (.istore 5, 2) := by decide +kernel
theorem d_Tr_settleSources_25 : decode M_Tr_settleSources.2.1 25 = .ok (.iload 5, 2) := by decide +kernel
theorem d_Tr_settleSources_27 : decode M_Tr_settleSources.2.1 27 = .ok (.bipush 6, 2) := by decide +kernel
theorem d_Tr_settleSources_29 : decode M_Tr_settleSources.2.1 29 = .ok (.if_icmp .ge 151, 3) := by decide +kernel
theorem d_Tr_settleSources_32 : decode M_Tr_settleSources.2.1 32 = .ok (.aload_n 0, 1) := by decide +kernel
theorem d_Tr_settleSources_33 : decode M_Tr_settleSources.2.1 33 = .ok (.getfield 39, 3) := by decide +kernel
theorem d_Tr_settleSources_36 : decode M_Tr_settleSources.2.1 36 = .ok (.iload_n 1, 1) := by decide +kernel
theorem d_Tr_settleSources_37 : decode M_Tr_settleSources.2.1 37 = .ok (.iload 5, 2) := by decide +kernel
theorem d_Tr_settleSources_39 : decode M_Tr_settleSources.2.1 39 = .ok (.invokevirtual 72, 3) := by decide +kernel
theorem d_Tr_settleSources_42 : decode M_Tr_settleSources.2.1 42 = .ok (.istore 6, 2) := by decide +kernel
theorem d_Tr_settleSources_44 : decode M_Tr_settleSources.2.1 44 = .ok (.aload 4, 2) := by decide +kernel
theorem d_Tr_settleSources_46 : decode M_Tr_settleSources.2.1 46 = .ok (.iload 6, 2) := by decide +kernel
theorem d_Tr_settleSources_48 : decode M_Tr_settleSources.2.1 48 = .ok (.aload_n 0, 1) := by decide +kernel
theorem d_Tr_settleSources_49 : decode M_Tr_settleSources.2.1 49 = .ok (.getfield 25, 3) := by decide +kernel
theorem d_Tr_settleSources_52 : decode M_Tr_settleSources.2.1 52 = .ok (.iload_n 3, 1) := by decide +kernel
theorem d_Tr_settleSources_53 : decode M_Tr_settleSources.2.1 53 = .ok (.aaload, 1) := by decide +kernel
theorem d_Tr_settleSources_54 : decode M_Tr_settleSources.2.1 54 = .ok (.iload 6, 2) := by decide +kernel
theorem d_Tr_settleSources_56 : decode M_Tr_settleSources.2.1 56 = .ok (.iaload, 1) := by decide +kernel
theorem d_Tr_settleSources_57 : decode M_Tr_settleSources.2.1 57 = .ok (.aload_n 0, 1) := by decide +kernel
theorem d_Tr_settleSources_58 : decode M_Tr_settleSources.2.1 58 = .ok (.getfield 31, 3) := by decide +kernel
theorem d_Tr_settleSources_61 : decode M_Tr_settleSources.2.1 61 = .ok (.iload 6, 2) := by decide +kernel
theorem d_Tr_settleSources_63 : decode M_Tr_settleSources.2.1 63 = .ok (.iaload, 1) := by decide +kernel
theorem d_Tr_settleSources_64 : decode M_Tr_settleSources.2.1 64 = .ok (.ior, 1) := by decide +kernel
theorem d_Tr_settleSources_65 : decode M_Tr_settleSources.2.1 65 = .ok (.iastore, 1) := by decide +kernel
theorem d_Tr_settleSources_66 : decode M_Tr_settleSources.2.1 66 = .ok (.aload_n 0, 1) := by decide +kernel
theorem d_Tr_settleSources_67 : decode M_Tr_settleSources.2.1 67 = .ok (.getfield 31, 3) := by decide +kernel
theorem d_Tr_settleSources_70 : decode M_Tr_settleSources.2.1 70 = .ok (.iload 6, 2) := by decide +kernel
theorem d_Tr_settleSources_72 : decode M_Tr_settleSources.2.1 72 = .ok (.iaload, 1) := by decide +kernel
theorem d_Tr_settleSources_73 : decode M_Tr_settleSources.2.1 73 = .ok (.ifCond .ne 24, 3) := by decide +kernel
theorem d_Tr_settleSources_76 : decode M_Tr_settleSources.2.1 76 = .ok (.aload_n 0, 1) := by decide +kernel
theorem d_Tr_settleSources_77 : decode M_Tr_settleSources.2.1 77 = .ok (.getfield 47, 3) := by decide +kernel
theorem d_Tr_settleSources_80 : decode M_Tr_settleSources.2.1 80 = .ok (.iload_n 3, 1) := by decide +kernel
theorem d_Tr_settleSources_81 : decode M_Tr_settleSources.2.1 81 = .ok (.iload 6, 2) := by decide +kernel
theorem d_Tr_settleSources_83 : decode M_Tr_settleSources.2.1 83 = .ok (.invokevirtual 103, 3) := by decide +kernel
theorem d_Tr_settleSources_86 : decode M_Tr_settleSources.2.1 86 = .ok (.ifCond .eq 15, 3) := by decide +kernel
theorem d_Tr_settleSources_89 : decode M_Tr_settleSources.2.1 89 = .ok (.aload 4, 2) := by decide +kernel
theorem d_Tr_settleSources_91 : decode M_Tr_settleSources.2.1 91 = .ok (.iload 6, 2) := by decide +kernel
theorem d_Tr_settleSources_93 : decode M_Tr_settleSources.2.1 93 = .ok (.iaload, 1) := by decide +kernel
theorem d_Tr_settleSources_94 : decode M_Tr_settleSources.2.1 94 = .ok (.ifCond .eq 7, 3) := by decide +kernel
theorem d_Tr_settleSources_97 : decode M_Tr_settleSources.2.1 97 = .ok (.iconst 1, 1) := by decide +kernel
theorem d_Tr_settleSources_98 : decode M_Tr_settleSources.2.1 98 = .ok (.goto 4, 3) := by decide +kernel
theorem d_Tr_settleSources_101 : decode M_Tr_settleSources.2.1 101 = .ok (.iconst 0, 1) := by decide +kernel
theorem d_Tr_settleSources_102 : decode M_Tr_settleSources.2.1 102 = .ok (.istore 7, 2) := by decide +kernel
theorem d_Tr_settleSources_104 : decode M_Tr_settleSources.2.1 104 = .ok (.iload 7, 2) := by decide +kernel
theorem d_Tr_settleSources_106 : decode M_Tr_settleSources.2.1 106 = .ok (.ifCond .eq 16, 3) := by decide +kernel
theorem d_Tr_settleSources_109 : decode M_Tr_settleSources.2.1 109 = .ok (.aload_n 0, 1) := by decide +kernel
theorem d_Tr_settleSources_110 : decode M_Tr_settleSources.2.1 110 = .ok (.getfield 39, 3) := by decide +kernel
theorem d_Tr_settleSources_113 : decode M_Tr_settleSources.2.1 113 = .ok (.iload 6, 2) := by decide +kernel
theorem d_Tr_settleSources_115 : decode M_Tr_settleSources.2.1 115 = .ok (.iload_n 1, 1) := by decide +kernel
theorem d_Tr_settleSources_116 : decode M_Tr_settleSources.2.1 116 = .ok (.invokevirtual 84, 3) := by decide +kernel
theorem d_Tr_settleSources_119 : decode M_Tr_settleSources.2.1 119 = .ok (.goto 4, 3) := by decide +kernel
theorem d_Tr_settleSources_122 : decode M_Tr_settleSources.2.1 122 = .ok (.iconst (-1), 1) := by decide +kernel
theorem d_Tr_settleSources_123 : decode M_Tr_settleSources.2.1 123 = .ok (.istore 8, 2) := by decide +kernel
theorem d_Tr_settleSources_125 : decode M_Tr_settleSources.2.1 125 = .ok (.iload 8, 2) := by decide +kernel
theorem d_Tr_settleSources_127 : decode M_Tr_settleSources.2.1 127 = .ok (.iconst (-1), 1) := by decide +kernel
theorem d_Tr_settleSources_128 : decode M_Tr_settleSources.2.1 128 = .ok (.if_icmp .eq 17, 3) := by decide +kernel
theorem d_Tr_settleSources_131 : decode M_Tr_settleSources.2.1 131 = .ok (.aload_n 0, 1) := by decide +kernel
theorem d_Tr_settleSources_132 : decode M_Tr_settleSources.2.1 132 = .ok (.getfield 31, 3) := by decide +kernel
theorem d_Tr_settleSources_135 : decode M_Tr_settleSources.2.1 135 = .ok (.iload 8, 2) := by decide +kernel
theorem d_Tr_settleSources_137 : decode M_Tr_settleSources.2.1 137 = .ok (.dup2, 1) := by decide +kernel
theorem d_Tr_settleSources_138 : decode M_Tr_settleSources.2.1 138 = .ok (.iaload, 1) := by decide +kernel
theorem d_Tr_settleSources_139 : decode M_Tr_settleSources.2.1 139 = .ok (.iconst 1, 1) := by decide +kernel
theorem d_Tr_settleSources_140 : decode M_Tr_settleSources.2.1 140 = .ok (.iload 6, 2) := by decide +kernel
theorem d_Tr_settleSources_142 : decode M_Tr_settleSources.2.1 142 = .ok (.ishl, 1) := by decide +kernel
theorem d_Tr_settleSources_143 : decode M_Tr_settleSources.2.1 143 = .ok (.ior, 1) := by decide +kernel
theorem d_Tr_settleSources_144 : decode M_Tr_settleSources.2.1 144 = .ok (.iastore, 1) := by decide +kernel
theorem d_Tr_settleSources_145 : decode M_Tr_settleSources.2.1 145 = .ok (.aload_n 0, 1) := by decide +kernel
theorem d_Tr_settleSources_146 : decode M_Tr_settleSources.2.1 146 = .ok (.iconst 2, 1) := by decide +kernel
theorem d_Tr_settleSources_147 : decode M_Tr_settleSources.2.1 147 = .ok (.iload 6, 2) := by decide +kernel
theorem d_Tr_settleSources_149 : decode M_Tr_settleSources.2.1 149 = .ok (.aload_n 0, 1) := by decide +kernel
theorem d_Tr_settleSources_150 : decode M_Tr_settleSources.2.1 150 = .ok (.getfield 22, 3) := by decide +kernel
theorem d_Tr_settleSources_153 : decode M_Tr_settleSources.2.1 153 = .ok (.iload_n 3, 1) := by decide +kernel
theorem d_Tr_settleSources_154 : decode M_Tr_settleSources.2.1 154 = .ok (.aaload, 1) := by decide +kernel
theorem d_Tr_settleSources_155 : decode M_Tr_settleSources.2.1 155 = .ok (.iload 6, 2) := by decide +kernel
theorem d_Tr_settleSources_157 : decode M_Tr_settleSources.2.1 157 = .ok (.iaload, 1) := by decide +kernel
theorem d_Tr_settleSources_158 : decode M_Tr_settleSources.2.1 158 = .ok (.iload 8, 2) := by decide +kernel
theorem d_Tr_settleSources_160 : decode M_Tr_settleSources.2.1 160 = .ok (.invokevirtual 87, 3) := by decide +kernel
theorem d_Tr_settleSources_163 : decode M_Tr_settleSources.2.1 163 = .ok (.aload_n 0, 1) := by decide +kernel
theorem d_Tr_settleSources_164 : decode M_Tr_settleSources.2.1 164 = .ok (.getfield 22, 3) := by decide +kernel
theorem d_Tr_settleSources_167 : decode M_Tr_settleSources.2.1 167 = .ok (.iload_n 3, 1) := by decide +kernel
theorem d_Tr_settleSources_168 : decode M_Tr_settleSources.2.1 168 = .ok (.aaload, 1) := by decide +kernel
theorem d_Tr_settleSources_169 : decode M_Tr_settleSources.2.1 169 = .ok (.iload 6, 2) := by decide +kernel
theorem d_Tr_settleSources_171 : decode M_Tr_settleSources.2.1 171 = .ok (.iload 8, 2) := by decide +kernel
theorem d_Tr_settleSources_173 : decode M_Tr_settleSources.2.1 173 = .ok (.iastore, 1) := by decide +kernel
theorem d_Tr_settleSources_174 : decode M_Tr_settleSources.2.1 174 = .ok (.iinc 5 1, 3) := by decide +kernel
theorem d_Tr_settleSources_177 : decode M_Tr_settleSources.2.1 177 = .ok (.goto (-152), 3) := by decide +kernel
theorem d_Tr_settleSources_180 : decode M_Tr_settleSources.2.1 180 = .ok (.return_, 1) := by decide +kernel
theorem d_MT_distance_0 : decode M_MT_distance.2.1 0 = .ok (.iload_n 1, 1) := by decide +kernel
theorem d_MT_distance_1 : decode M_MT_distance.2.1 1 = .ok (.invokestatic 9, 3) := by decide +kernel
theorem d_MT_distance_4 : decode M_MT_distance.2.1 4 = .ok (.ifCond .eq 22, 3) := by decide +kernel
theorem d_MT_distance_7 : decode M_MT_distance.2.1 7 = .ok (.iload_n 2, 1) := by decide +kernel
theorem d_MT_distance_8 : decode M_MT_distance.2.1 8 = .ok (.invokestatic 9, 3) := by decide +kernel
theorem d_MT_distance_11 : decode M_MT_distance.2.1 11 = .ok (.ifCond .eq 15, 3) := by decide +kernel
theorem d_MT_distance_14 : decode M_MT_distance.2.1 14 = .ok (.aload_n 0, 1) := by decide +kernel
theorem d_MT_distance_15 : decode M_MT_distance.2.1 15 = .ok (.getfield 30, 3) := by decide +kernel
theorem d_MT_distance_18 : decode M_MT_distance.2.1 18 = .ok (.iload_n 1, 1) := by decide +kernel
theorem d_MT_distance_19 : decode M_MT_distance.2.1 19 = .ok (.iload_n 2, 1) := by decide +kernel
theorem d_MT_distance_20 : decode M_MT_distance.2.1 20 = .ok (.invokevirtual 88, 3) := by decide +kernel
theorem d_MT_distance_23 : decode M_MT_distance.2.1 23 = .ok (.ifCond .ne 5, 3) := by decide +kernel
theorem d_MT_distance_26 : decode M_MT_distance.2.1 26 = .ok (.iconst (-1), 1) := by decide +kernel
theorem d_MT_distance_27 : decode M_MT_distance.2.1 27 = .ok (.ireturn, 1) := by decide +kernel
theorem d_MT_distance_28 : decode M_MT_distance.2.1 28 = .ok (.aload_n 0, 1) := by decide +kernel
theorem d_MT_distance_29 : decode M_MT_distance.2.1 29 = .ok (.getfield 30, 3) := by decide +kernel
theorem d_MT_distance_32 : decode M_MT_distance.2.1 32 = .ok (.iload_n 1, 1) := by decide +kernel
theorem d_MT_distance_33 : decode M_MT_distance.2.1 33 = .ok (.iload_n 2, 1) := by decide +kernel
theorem d_MT_distance_34 : decode M_MT_distance.2.1 34 = .ok (.invokevirtual 92, 3) := by decide +kernel
theorem d_MT_distance_37 : decode M_MT_distance.2.1 37 = .ok (.ireturn, 1) := by decide +kernel
theorem d_MT_hop_0 : decode M_MT_hop.2.1 0 = .ok (.iload_n 1, 1) := by decide +kernel
theorem d_MT_hop_1 : decode M_MT_hop.2.1 1 = .ok (.invokestatic 9, 3) := by decide +kernel
theorem d_MT_hop_4 : decode M_MT_hop.2.1 4 = .ok (.ifCond .eq 10, 3) := by decide +kernel
theorem d_MT_hop_7 : decode M_MT_hop.2.1 7 = .ok (.iload_n 2, 1) := by decide +kernel
theorem d_MT_hop_8 : decode M_MT_hop.2.1 8 = .ok (.invokestatic 9, 3) := by decide +kernel
theorem d_MT_hop_11 : decode M_MT_hop.2.1 11 = .ok (.ifCond .ne 5, 3) := by decide +kernel
theorem d_MT_hop_14 : decode M_MT_hop.2.1 14 = .ok (.iconst (-1), 1) := by decide +kernel
theorem d_MT_hop_15 : decode M_MT_hop.2.1 15 = .ok (.ireturn, 1) := by decide +kernel
theorem d_MT_hop_16 : decode M_MT_hop.2.1 16 = .ok (.aload_n 0, 1) := by decide +kernel
theorem d_MT_hop_17 : decode M_MT_hop.2.1 17 = .ok (.getfield 30, 3) := by decide +kernel
theorem d_MT_hop_20 : decode M_MT_hop.2.1 20 = .ok (.iload_n 1, 1) := by decide +kernel
theorem d_MT_hop_21 : decode M_MT_hop.2.1 21 = .ok (.iload_n 2, 1) := by decide +kernel
theorem d_MT_hop_22 : decode M_MT_hop.2.1 22 = .ok (.invokevirtual 95, 3) := by decide +kernel
theorem d_MT_hop_25 : decode M_MT_hop.2.1 25 = .ok (.ireturn, 1) := by decide +kernel
theorem d_MT_join_0 : decode M_MT_join.2.1 0 = .ok (.iload_n 1, 1) := by decide +kernel
theorem d_MT_join_1 : decode M_MT_join.2.1 1 = .ok (.invokestatic 9, 3) := by decide +kernel
theorem d_MT_join_4 : decode M_MT_join.2.1 4 = .ok (.ifCond .eq 30, 3) := by decide +kernel
theorem d_MT_join_7 : decode M_MT_join.2.1 7 = .ok (.iload_n 2, 1) := by decide +kernel
theorem d_MT_join_8 : decode M_MT_join.2.1 8 = .ok (.invokestatic 98, 3) := by decide +kernel
theorem d_MT_join_11 : decode M_MT_join.2.1 11 = .ok (.ifCond .eq 23, 3) := by decide +kernel
theorem d_MT_join_14 : decode M_MT_join.2.1 14 = .ok (.iload_n 3, 1) := by decide +kernel
theorem d_MT_join_15 : decode M_MT_join.2.1 15 = .ok (.invokestatic 101, 3) := by decide +kernel
theorem d_MT_join_18 : decode M_MT_join.2.1 18 = .ok (.ifCond .eq 16, 3) := by decide +kernel
theorem d_MT_join_21 : decode M_MT_join.2.1 21 = .ok (.aload_n 0, 1) := by decide +kernel
theorem d_MT_join_22 : decode M_MT_join.2.1 22 = .ok (.getfield 39, 3) := by decide +kernel
theorem d_MT_join_25 : decode M_MT_join.2.1 25 = .ok (.iload_n 1, 1) := by decide +kernel
theorem d_MT_join_26 : decode M_MT_join.2.1 26 = .ok (.iload_n 2, 1) := by decide +kernel
theorem d_MT_join_27 : decode M_MT_join.2.1 27 = .ok (.iload_n 3, 1) := by decide +kernel
theorem d_MT_join_28 : decode M_MT_join.2.1 28 = .ok (.invokevirtual 104, 3) := by decide +kernel
theorem d_MT_join_31 : decode M_MT_join.2.1 31 = .ok (.ifCond .eq 5, 3) := by decide +kernel
theorem d_MT_join_34 : decode M_MT_join.2.1 34 = .ok (.iconst 0, 1) := by decide +kernel
theorem d_MT_join_35 : decode M_MT_join.2.1 35 = .ok (.ireturn, 1) := by decide +kernel
theorem d_MT_join_36 : decode M_MT_join.2.1 36 = .ok (.aload_n 0, 1) := by decide +kernel
theorem d_MT_join_37 : decode M_MT_join.2.1 37 = .ok (.getfield 39, 3) := by decide +kernel
theorem d_MT_join_40 : decode M_MT_join.2.1 40 = .ok (.iload_n 1, 1) := by decide +kernel
theorem d_MT_join_41 : decode M_MT_join.2.1 41 = .ok (.iload_n 2, 1) := by decide +kernel
theorem d_MT_join_42 : decode M_MT_join.2.1 42 = .ok (.iload_n 3, 1) := by decide +kernel
theorem d_MT_join_43 : decode M_MT_join.2.1 43 = .ok (.invokevirtual 108, 3) := by decide +kernel
theorem d_MT_join_46 : decode M_MT_join.2.1 46 = .ok (.aload_n 0, 1) := by decide +kernel
theorem d_MT_join_47 : decode M_MT_join.2.1 47 = .ok (.getfield 55, 3) := by decide +kernel
theorem d_MT_join_50 : decode M_MT_join.2.1 50 = .ok (.invokevirtual 85, 3) := by decide +kernel
theorem d_MT_join_53 : decode M_MT_join.2.1 53 = .ok (.iconst 1, 1) := by decide +kernel
theorem d_MT_join_54 : decode M_MT_join.2.1 54 = .ok (.ireturn, 1) := by decide +kernel
theorem d_MT_isHost_0 : decode M_MT_isHost.2.1 0 = .ok (.iload_n 0, 1) := by decide +kernel
theorem d_MT_isHost_1 : decode M_MT_isHost.2.1 1 = .ok (.ifCond .lt 12, 3) := by decide +kernel
theorem d_MT_isHost_4 : decode M_MT_isHost.2.1 4 = .ok (.iload_n 0, 1) := by decide +kernel
theorem d_MT_isHost_5 : decode M_MT_isHost.2.1 5 = .ok (.iconst 4, 1) := by decide +kernel
theorem d_MT_isHost_6 : decode M_MT_isHost.2.1 6 = .ok (.if_icmp .ge 7, 3) := by decide +kernel
theorem d_MT_isHost_9 : decode M_MT_isHost.2.1 9 = .ok (.iconst 1, 1) := by decide +kernel
theorem d_MT_isHost_10 : decode M_MT_isHost.2.1 10 = .ok (.goto 4, 3) := by decide +kernel
theorem d_MT_isHost_13 : decode M_MT_isHost.2.1 13 = .ok (.iconst 0, 1) := by decide +kernel
theorem d_MT_isHost_14 : decode M_MT_isHost.2.1 14 = .ok (.ireturn, 1) := by decide +kernel
theorem d_MT_isGroup_0 : decode M_MT_isGroup.2.1 0 = .ok (.iload_n 0, 1) := by decide +kernel
theorem d_MT_isGroup_1 : decode M_MT_isGroup.2.1 1 = .ok (.ifCond .lt 12, 3) := by decide +kernel
theorem d_MT_isGroup_4 : decode M_MT_isGroup.2.1 4 = .ok (.iload_n 0, 1) := by decide +kernel
theorem d_MT_isGroup_5 : decode M_MT_isGroup.2.1 5 = .ok (.iconst 3, 1) := by decide +kernel
theorem d_MT_isGroup_6 : decode M_MT_isGroup.2.1 6 = .ok (.if_icmp .ge 7, 3) := by decide +kernel
theorem d_MT_isGroup_9 : decode M_MT_isGroup.2.1 9 = .ok (.iconst 1, 1) := by decide +kernel
theorem d_MT_isGroup_10 : decode M_MT_isGroup.2.1 10 = .ok (.goto 4, 3) := by decide +kernel
theorem d_MT_isGroup_13 : decode M_MT_isGroup.2.1 13 = .ok (.iconst 0, 1) := by decide +kernel
theorem d_MT_isGroup_14 : decode M_MT_isGroup.2.1 14 = .ok (.ireturn, 1) := by decide +kernel
theorem d_MT_leave_0 : decode M_MT_leave.2.1 0 = .ok (.iload_n 1, 1) := by decide +kernel
theorem d_MT_leave_1 : decode M_MT_leave.2.1 1 = .ok (.invokestatic 9, 3) := by decide +kernel
theorem d_MT_leave_4 : decode M_MT_leave.2.1 4 = .ok (.ifCond .eq 30, 3) := by decide +kernel
theorem d_MT_leave_7 : decode M_MT_leave.2.1 7 = .ok (.iload_n 2, 1) := by decide +kernel
theorem d_MT_leave_8 : decode M_MT_leave.2.1 8 = .ok (.invokestatic 98, 3) := by decide +kernel
theorem d_MT_leave_11 : decode M_MT_leave.2.1 11 = .ok (.ifCond .eq 23, 3) := by decide +kernel
theorem d_MT_leave_14 : decode M_MT_leave.2.1 14 = .ok (.iload_n 3, 1) := by decide +kernel
theorem d_MT_leave_15 : decode M_MT_leave.2.1 15 = .ok (.invokestatic 101, 3) := by decide +kernel
theorem d_MT_leave_18 : decode M_MT_leave.2.1 18 = .ok (.ifCond .eq 16, 3) := by decide +kernel
theorem d_MT_leave_21 : decode M_MT_leave.2.1 21 = .ok (.aload_n 0, 1) := by decide +kernel
theorem d_MT_leave_22 : decode M_MT_leave.2.1 22 = .ok (.getfield 39, 3) := by decide +kernel
theorem d_MT_leave_25 : decode M_MT_leave.2.1 25 = .ok (.iload_n 1, 1) := by decide +kernel
theorem d_MT_leave_26 : decode M_MT_leave.2.1 26 = .ok (.iload_n 2, 1) := by decide +kernel
theorem d_MT_leave_27 : decode M_MT_leave.2.1 27 = .ok (.iload_n 3, 1) := by decide +kernel
theorem d_MT_leave_28 : decode M_MT_leave.2.1 28 = .ok (.invokevirtual 104, 3) := by decide +kernel
theorem d_MT_leave_31 : decode M_MT_leave.2.1 31 = .ok (.ifCond .ne 5, 3) := by decide +kernel
theorem d_MT_leave_34 : decode M_MT_leave.2.1 34 = .ok (.iconst 0, 1) := by decide +kernel
theorem d_MT_leave_35 : decode M_MT_leave.2.1 35 = .ok (.ireturn, 1) := by decide +kernel
theorem d_MT_leave_36 : decode M_MT_leave.2.1 36 = .ok (.aload_n 0, 1) := by decide +kernel
theorem d_MT_leave_37 : decode M_MT_leave.2.1 37 = .ok (.getfield 39, 3) := by decide +kernel
theorem d_MT_leave_40 : decode M_MT_leave.2.1 40 = .ok (.iload_n 1, 1) := by decide +kernel
theorem d_MT_leave_41 : decode M_MT_leave.2.1 41 = .ok (.iload_n 2, 1) := by decide +kernel
theorem d_MT_leave_42 : decode M_MT_leave.2.1 42 = .ok (.iload_n 3, 1) := by decide +kernel
theorem d_MT_leave_43 : decode M_MT_leave.2.1 43 = .ok (.iload 4, 2) := by decide +kernel
theorem d_MT_leave_45 : decode M_MT_leave.2.1 45 = .ok (.invokevirtual 111, 3) := by decide +kernel
theorem d_MT_leave_48 : decode M_MT_leave.2.1 48 = .ok (.aload_n 0, 1) := by decide +kernel
theorem d_MT_leave_49 : decode M_MT_leave.2.1 49 = .ok (.getfield 55, 3) := by decide +kernel
theorem d_MT_leave_52 : decode M_MT_leave.2.1 52 = .ok (.invokevirtual 85, 3) := by decide +kernel
theorem d_MT_leave_55 : decode M_MT_leave.2.1 55 = .ok (.iconst 1, 1) := by decide +kernel
theorem d_MT_leave_56 : decode M_MT_leave.2.1 56 = .ok (.ireturn, 1) := by decide +kernel
theorem d_MT_marked_0 : decode M_MT_marked.2.1 0 = .ok (.iload_n 1, 1) := by decide +kernel
theorem d_MT_marked_1 : decode M_MT_marked.2.1 1 = .ok (.invokestatic 9, 3) := by decide +kernel
theorem d_MT_marked_4 : decode M_MT_marked.2.1 4 = .ok (.ifCond .eq 10, 3) := by decide +kernel
theorem d_MT_marked_7 : decode M_MT_marked.2.1 7 = .ok (.iload_n 2, 1) := by decide +kernel
theorem d_MT_marked_8 : decode M_MT_marked.2.1 8 = .ok (.invokestatic 101, 3) := by decide +kernel
theorem d_MT_marked_11 : decode M_MT_marked.2.1 11 = .ok (.ifCond .ne 5, 3) := by decide +kernel
theorem d_MT_marked_14 : decode M_MT_marked.2.1 14 = .ok (.iconst (-1), 1) := by decide +kernel
theorem d_MT_marked_15 : decode M_MT_marked.2.1 15 = .ok (.ireturn, 1) := by decide +kernel
theorem d_MT_marked_16 : decode M_MT_marked.2.1 16 = .ok (.aload_n 0, 1) := by decide +kernel
theorem d_MT_marked_17 : decode M_MT_marked.2.1 17 = .ok (.getfield 39, 3) := by decide +kernel
theorem d_MT_marked_20 : decode M_MT_marked.2.1 20 = .ok (.iload_n 1, 1) := by decide +kernel
theorem d_MT_marked_21 : decode M_MT_marked.2.1 21 = .ok (.iload_n 2, 1) := by decide +kernel
theorem d_MT_marked_22 : decode M_MT_marked.2.1 22 = .ok (.invokevirtual 115, 3) := by decide +kernel
theorem d_MT_marked_25 : decode M_MT_marked.2.1 25 = .ok (.ireturn, 1) := by decide +kernel
theorem d_MT_pass_0 : decode M_MT_pass.2.1 0 = .ok (.iload_n 1, 1) := by decide +kernel
theorem d_MT_pass_1 : decode M_MT_pass.2.1 1 = .ok (.iconst 1, 1) := by decide +kernel
theorem d_MT_pass_2 : decode M_MT_pass.2.1 2 = .ok (.if_icmp .lt 9, 3) := by decide +kernel
theorem d_MT_pass_5 : decode M_MT_pass.2.1 5 = .ok (.iload_n 1, 1) := by decide +kernel
theorem d_MT_pass_6 : decode M_MT_pass.2.1 6 = .ok (.bipush 10, 2) := by decide +kernel
theorem d_MT_pass_8 : decode M_MT_pass.2.1 8 = .ok (.if_icmp .le 5, 3) := by decide +kernel
theorem d_MT_pass_11 : decode M_MT_pass.2.1 11 = .ok (.iconst 0, 1) := by decide +kernel
theorem d_MT_pass_12 : decode M_MT_pass.2.1 12 = .ok (.ireturn, 1) := by decide +kernel
theorem d_MT_pass_13 : decode M_MT_pass.2.1 13 = .ok (.iconst 0, 1) := by decide +kernel
theorem d_MT_pass_14 : decode M_MT_pass.2.1 14 = .ok (.istore_n 2, 1) := by decide +kernel
theorem d_MT_pass_15 : decode M_MT_pass.2.1 15 = .ok (.iload_n 2, 1) := by decide +kernel
theorem d_MT_pass_16 : decode M_MT_pass.2.1 16 = .ok (.iload_n 1, 1) := by decide +kernel
theorem d_MT_pass_17 : decode M_MT_pass.2.1 17 = .ok (.if_icmp .ge 47, 3) := by decide +kernel
theorem d_MT_pass_20 : decode M_MT_pass.2.1 20 = .ok (.aload_n 0, 1) := by decide +kernel
theorem d_MT_pass_21 : decode M_MT_pass.2.1 21 = .ok (.getfield 16, 3) := by decide +kernel
theorem d_MT_pass_24 : decode M_MT_pass.2.1 24 = .ok (.invokevirtual 118, 3) := by decide +kernel
theorem d_MT_pass_27 : decode M_MT_pass.2.1 27 = .ok (.aload_n 0, 1) := by decide +kernel
theorem d_MT_pass_28 : decode M_MT_pass.2.1 28 = .ok (.getfield 46, 3) := by decide +kernel
theorem d_MT_pass_31 : decode M_MT_pass.2.1 31 = .ok (.invokevirtual 121, 3) := by decide +kernel
theorem d_MT_pass_34 : decode M_MT_pass.2.1 34 = .ok (.aload_n 0, 1) := by decide +kernel
theorem d_MT_pass_35 : decode M_MT_pass.2.1 35 = .ok (.getfield 16, 3) := by decide +kernel
theorem d_MT_pass_38 : decode M_MT_pass.2.1 38 = .ok (.invokevirtual 124, 3) := by decide +kernel
theorem d_MT_pass_41 : decode M_MT_pass.2.1 41 = .ok (.ifCond .eq 10, 3) := by decide +kernel
theorem d_MT_pass_44 : decode M_MT_pass.2.1 44 = .ok (.aload_n 0, 1) := by decide +kernel
theorem d_MT_pass_45 : decode M_MT_pass.2.1 45 = .ok (.getfield 39, 3) := by decide +kernel
theorem d_MT_pass_48 : decode M_MT_pass.2.1 48 = .ok (.invokevirtual 128, 3) := by decide +kernel
theorem d_MT_pass_51 : decode M_MT_pass.2.1 51 = .ok (.aload_n 0, 1) := by decide +kernel
theorem d_MT_pass_52 : decode M_MT_pass.2.1 52 = .ok (.getfield 55, 3) := by decide +kernel
theorem d_MT_pass_55 : decode M_MT_pass.2.1 55 = .ok (.invokevirtual 85, 3) := by decide +kernel
theorem d_MT_pass_58 : decode M_MT_pass.2.1 58 = .ok (.iinc 2 1, 3) := by decide +kernel
theorem d_MT_pass_61 : decode M_MT_pass.2.1 61 = .ok (.goto (-46), 3) := by decide +kernel
theorem d_MT_pass_64 : decode M_MT_pass.2.1 64 = .ok (.iconst 1, 1) := by decide +kernel
theorem d_MT_pass_65 : decode M_MT_pass.2.1 65 = .ok (.ireturn, 1) := by decide +kernel
theorem d_MT_send_0 : decode M_MT_send.2.1 0 = .ok (.iload_n 1, 1) := by decide +kernel
theorem d_MT_send_1 : decode M_MT_send.2.1 1 = .ok (.invokestatic 9, 3) := by decide +kernel
theorem d_MT_send_4 : decode M_MT_send.2.1 4 = .ok (.ifCond .eq 10, 3) := by decide +kernel
theorem d_MT_send_7 : decode M_MT_send.2.1 7 = .ok (.iload_n 2, 1) := by decide +kernel
theorem d_MT_send_8 : decode M_MT_send.2.1 8 = .ok (.invokestatic 101, 3) := by decide +kernel
theorem d_MT_send_11 : decode M_MT_send.2.1 11 = .ok (.ifCond .ne 5, 3) := by decide +kernel
theorem d_MT_send_14 : decode M_MT_send.2.1 14 = .ok (.iconst (-1), 1) := by decide +kernel
theorem d_MT_send_15 : decode M_MT_send.2.1 15 = .ok (.ireturn, 1) := by decide +kernel
theorem d_MT_send_16 : decode M_MT_send.2.1 16 = .ok (.aload_n 0, 1) := by decide +kernel
theorem d_MT_send_17 : decode M_MT_send.2.1 17 = .ok (.getfield 46, 3) := by decide +kernel
theorem d_MT_send_20 : decode M_MT_send.2.1 20 = .ok (.iload_n 1, 1) := by decide +kernel
theorem d_MT_send_21 : decode M_MT_send.2.1 21 = .ok (.iload_n 2, 1) := by decide +kernel
theorem d_MT_send_22 : decode M_MT_send.2.1 22 = .ok (.invokestatic 131, 3) := by decide +kernel
theorem d_MT_send_25 : decode M_MT_send.2.1 25 = .ok (.invokevirtual 134, 3) := by decide +kernel
theorem d_MT_send_28 : decode M_MT_send.2.1 28 = .ok (.ifCond .ne 5, 3) := by decide +kernel
theorem d_MT_send_31 : decode M_MT_send.2.1 31 = .ok (.iconst (-1), 1) := by decide +kernel
theorem d_MT_send_32 : decode M_MT_send.2.1 32 = .ok (.ireturn, 1) := by decide +kernel
theorem d_MT_send_33 : decode M_MT_send.2.1 33 = .ok (.aload_n 0, 1) := by decide +kernel
theorem d_MT_send_34 : decode M_MT_send.2.1 34 = .ok (.getfield 64, 3) := by decide +kernel
theorem d_MT_send_37 : decode M_MT_send.2.1 37 = .ok (.iload_n 1, 1) := by decide +kernel
theorem d_MT_send_38 : decode M_MT_send.2.1 38 = .ok (.iload_n 2, 1) := by decide +kernel
theorem d_MT_send_39 : decode M_MT_send.2.1 39 = .ok (.invokevirtual 137, 3) := by decide +kernel
theorem d_MT_send_42 : decode M_MT_send.2.1 42 = .ok (.aload_n 0, 1) := by decide +kernel
theorem d_MT_send_43 : decode M_MT_send.2.1 43 = .ok (.getfield 55, 3) := by decide +kernel
theorem d_MT_send_46 : decode M_MT_send.2.1 46 = .ok (.invokevirtual 85, 3) := by decide +kernel
theorem d_MT_send_49 : decode M_MT_send.2.1 49 = .ok (.aload_n 0, 1) := by decide +kernel
theorem d_MT_send_50 : decode M_MT_send.2.1 50 = .ok (.getfield 64, 3) := by decide +kernel
theorem d_MT_send_53 : decode M_MT_send.2.1 53 = .ok (.invokevirtual 141, 3) := by decide +kernel
theorem d_MT_send_56 : decode M_MT_send.2.1 56 = .ok (.invokestatic 145, 3) := by decide +kernel
theorem d_MT_send_59 : decode M_MT_send.2.1 59 = .ok (.ireturn, 1) := by decide +kernel
theorem d_Pa_dispatch_0 : decode M_Pa_dispatch.2.1 0 = .ok (.iload_n 1, 1) := by decide +kernel
theorem d_Pa_dispatch_1 : decode M_Pa_dispatch.2.1 1 = .ok (.iload_n 2, 1) := by decide +kernel
theorem d_Pa_dispatch_2 : decode M_Pa_dispatch.2.1 2 = .ok (.invokestatic 54, 3) := by decide +kernel
theorem d_Pa_dispatch_5 : decode M_Pa_dispatch.2.1 5 = .ok (.istore_n 3, 1) := by decide +kernel
theorem d_Pa_dispatch_6 : decode M_Pa_dispatch.2.1 6 = .ok (.aload_n 0, 1) := by decide +kernel
theorem d_Pa_dispatch_7 : decode M_Pa_dispatch.2.1 7 = .ok (.iconst 0, 1) := by decide +kernel
theorem d_Pa_dispatch_8 : decode M_Pa_dispatch.2.1 8 = .ok (.putfield 18, 3) := by decide +kernel
theorem d_Pa_dispatch_11 : decode M_Pa_dispatch.2.1 11 = .ok (.aload_n 0, 1) := by decide +kernel
theorem d_Pa_dispatch_12 : decode M_Pa_dispatch.2.1 12 = .ok (.iconst 0, 1) := by decide +kernel
theorem d_Pa_dispatch_13 : decode M_Pa_dispatch.2.1 13 = .ok (.putfield 22, 3) := by decide +kernel
theorem d_Pa_dispatch_16 : decode M_Pa_dispatch.2.1 16 = .ok (.aload_n 0, 1) := by decide +kernel
theorem d_Pa_dispatch_17 : decode M_Pa_dispatch.2.1 17 = .ok (.iconst 0, 1) := by decide +kernel
theorem d_Pa_dispatch_18 : decode M_Pa_dispatch.2.1 18 = .ok (.putfield 25, 3) := by decide +kernel
theorem d_Pa_dispatch_21 : decode M_Pa_dispatch.2.1 21 = .ok (.aload_n 0, 1) := by decide +kernel
theorem d_Pa_dispatch_22 : decode M_Pa_dispatch.2.1 22 = .ok (.aload_n 0, 1) := by decide +kernel
theorem d_Pa_dispatch_23 : decode M_Pa_dispatch.2.1 23 = .ok (.getfield 38, 3) := by decide +kernel
theorem d_Pa_dispatch_26 : decode M_Pa_dispatch.2.1 26 = .ok (.iload_n 1, 1) := by decide +kernel
theorem d_Pa_dispatch_27 : decode M_Pa_dispatch.2.1 27 = .ok (.iload_n 2, 1) := by decide +kernel
theorem d_Pa_dispatch_28 : decode M_Pa_dispatch.2.1 28 = .ok (.invokevirtual 58, 3) := by decide +kernel
theorem d_Pa_dispatch_31 : decode M_Pa_dispatch.2.1 31 = .ok (.ifCond .eq 9, 3) := by decide +kernel
theorem d_Pa_dispatch_34 : decode M_Pa_dispatch.2.1 34 = .ok (.iconst 1, 1) := by decide +kernel
theorem d_Pa_dispatch_35 : decode M_Pa_dispatch.2.1 35 = .ok (.iload_n 1, 1) := by decide +kernel
theorem d_Pa_dispatch_36 : decode M_Pa_dispatch.2.1 36 = .ok (.ishl, 1) := by decide +kernel
theorem d_Pa_dispatch_37 : decode M_Pa_dispatch.2.1 37 = .ok (.goto 4, 3) := by decide +kernel
theorem d_Pa_dispatch_40 : decode M_Pa_dispatch.2.1 40 = .ok (.iconst 0, 1) := by decide +kernel
theorem d_Pa_dispatch_41 : decode M_Pa_dispatch.2.1 41 = .ok (.putfield 28, 3) := by decide +kernel
theorem d_Pa_dispatch_44 : decode M_Pa_dispatch.2.1 44 = .ok (.aload_n 0, 1) := by decide +kernel
theorem d_Pa_dispatch_45 : decode M_Pa_dispatch.2.1 45 = .ok (.iload_n 3, 1) := by decide +kernel
theorem d_Pa_dispatch_46 : decode M_Pa_dispatch.2.1 46 = .ok (.iload_n 1, 1) := by decide +kernel
theorem d_Pa_dispatch_47 : decode M_Pa_dispatch.2.1 47 = .ok (.invokevirtual 64, 3) := by decide +kernel
theorem d_Pa_dispatch_50 : decode M_Pa_dispatch.2.1 50 = .ok (.aload_n 0, 1) := by decide +kernel
theorem d_Pa_dispatch_51 : decode M_Pa_dispatch.2.1 51 = .ok (.iload_n 3, 1) := by decide +kernel
theorem d_Pa_dispatch_52 : decode M_Pa_dispatch.2.1 52 = .ok (.iload_n 1, 1) := by decide +kernel
theorem d_Pa_dispatch_53 : decode M_Pa_dispatch.2.1 53 = .ok (.invokevirtual 68, 3) := by decide +kernel
theorem d_Pa_dispatch_56 : decode M_Pa_dispatch.2.1 56 = .ok (.istore 4, 2) := by decide +kernel
theorem d_Pa_dispatch_58 : decode M_Pa_dispatch.2.1 58 = .ok (.aload_n 0, 1) := by decide +kernel
theorem d_Pa_dispatch_59 : decode M_Pa_dispatch.2.1 59 = .ok (.getfield 46, 3) := by decide +kernel
theorem d_Pa_dispatch_62 : decode M_Pa_dispatch.2.1 62 = .ok (.iload_n 3, 1) := by decide +kernel
theorem d_Pa_dispatch_63 : decode M_Pa_dispatch.2.1 63 = .ok (.iload_n 1, 1) := by decide +kernel
theorem d_Pa_dispatch_64 : decode M_Pa_dispatch.2.1 64 = .ok (.invokevirtual 71, 3) := by decide +kernel
theorem d_Pa_dispatch_67 : decode M_Pa_dispatch.2.1 67 = .ok (.ifCond .eq 9, 3) := by decide +kernel
theorem d_Pa_dispatch_70 : decode M_Pa_dispatch.2.1 70 = .ok (.aload_n 0, 1) := by decide +kernel
theorem d_Pa_dispatch_71 : decode M_Pa_dispatch.2.1 71 = .ok (.iload_n 1, 1) := by decide +kernel
theorem d_Pa_dispatch_72 : decode M_Pa_dispatch.2.1 72 = .ok (.iconst (-1), 1) := by decide +kernel
theorem d_Pa_dispatch_73 : decode M_Pa_dispatch.2.1 73 = .ok (.invokevirtual 76, 3) := by decide +kernel
theorem d_Pa_dispatch_76 : decode M_Pa_dispatch.2.1 76 = .ok (.aload_n 0, 1) := by decide +kernel
theorem d_Pa_dispatch_77 : decode M_Pa_dispatch.2.1 77 = .ok (.getfield 46, 3) := by decide +kernel
theorem d_Pa_dispatch_80 : decode M_Pa_dispatch.2.1 80 = .ok (.invokevirtual 79, 3) := by decide +kernel
theorem d_Pa_dispatch_83 : decode M_Pa_dispatch.2.1 83 = .ok (.istore 5, 2) := by decide +kernel
theorem d_Pa_dispatch_85 : decode M_Pa_dispatch.2.1 85 = .ok (.iload 4, 2) := by decide +kernel
theorem d_Pa_dispatch_87 : decode M_Pa_dispatch.2.1 87 = .ok (.ifCond .eq 23, 3) := by decide +kernel
theorem d_Pa_dispatch_90 : decode M_Pa_dispatch.2.1 90 = .ok (.aload_n 0, 1) := by decide +kernel
theorem d_Pa_dispatch_91 : decode M_Pa_dispatch.2.1 91 = .ok (.getfield 42, 3) := by decide +kernel
theorem d_Pa_dispatch_94 : decode M_Pa_dispatch.2.1 94 = .ok (.iload_n 3, 1) := by decide +kernel
theorem d_Pa_dispatch_95 : decode M_Pa_dispatch.2.1 95 = .ok (.iload 5, 2) := by decide +kernel
theorem d_Pa_dispatch_97 : decode M_Pa_dispatch.2.1 97 = .ok (.invokevirtual 83, 3) := by decide +kernel
theorem d_Pa_dispatch_100 : decode M_Pa_dispatch.2.1 100 = .ok (.ifCond .ne 10, 3) := by decide +kernel
theorem d_Pa_dispatch_103 : decode M_Pa_dispatch.2.1 103 = .ok (.aload_n 0, 1) := by decide +kernel
theorem d_Pa_dispatch_104 : decode M_Pa_dispatch.2.1 104 = .ok (.iload 5, 2) := by decide +kernel
theorem d_Pa_dispatch_106 : decode M_Pa_dispatch.2.1 106 = .ok (.iconst (-1), 1) := by decide +kernel
theorem d_Pa_dispatch_107 : decode M_Pa_dispatch.2.1 107 = .ok (.invokevirtual 76, 3) := by decide +kernel
theorem d_Pa_dispatch_110 : decode M_Pa_dispatch.2.1 110 = .ok (.iconst 0, 1) := by decide +kernel
theorem d_Pa_dispatch_111 : decode M_Pa_dispatch.2.1 111 = .ok (.istore 6, 2) := by decide +kernel
theorem d_Pa_dispatch_113 : decode M_Pa_dispatch.2.1 113 = .ok (.iload 6, 2) := by decide +kernel
theorem d_Pa_dispatch_115 : decode M_Pa_dispatch.2.1 115 = .ok (.bipush 6, 2) := by decide +kernel
theorem d_Pa_dispatch_117 : decode M_Pa_dispatch.2.1 117 = .ok (.if_icmp .ge 26, 3) := by decide +kernel
theorem d_Pa_dispatch_120 : decode M_Pa_dispatch.2.1 120 = .ok (.iload 6, 2) := by decide +kernel
theorem d_Pa_dispatch_122 : decode M_Pa_dispatch.2.1 122 = .ok (.aload_n 0, 1) := by decide +kernel
theorem d_Pa_dispatch_123 : decode M_Pa_dispatch.2.1 123 = .ok (.getfield 18, 3) := by decide +kernel
theorem d_Pa_dispatch_126 : decode M_Pa_dispatch.2.1 126 = .ok (.if_icmp .ge 17, 3) := by decide +kernel
theorem d_Pa_dispatch_129 : decode M_Pa_dispatch.2.1 129 = .ok (.aload_n 0, 1) := by decide +kernel
theorem d_Pa_dispatch_130 : decode M_Pa_dispatch.2.1 130 = .ok (.iload_n 3, 1) := by decide +kernel
theorem d_Pa_dispatch_131 : decode M_Pa_dispatch.2.1 131 = .ok (.iload_n 1, 1) := by decide +kernel
theorem d_Pa_dispatch_132 : decode M_Pa_dispatch.2.1 132 = .ok (.iload 6, 2) := by decide +kernel
theorem d_Pa_dispatch_134 : decode M_Pa_dispatch.2.1 134 = .ok (.invokevirtual 88, 3) := by decide +kernel
theorem d_Pa_dispatch_137 : decode M_Pa_dispatch.2.1 137 = .ok (.iinc 6 1, 3) := by decide +kernel
theorem d_Pa_dispatch_140 : decode M_Pa_dispatch.2.1 140 = .ok (.goto (-27), 3) := by decide +kernel
theorem d_Pa_dispatch_143 : decode M_Pa_dispatch.2.1 143 = .ok (.aload_n 0, 1) := by decide +kernel
theorem d_Pa_dispatch_144 : decode M_Pa_dispatch.2.1 144 = .ok (.iload_n 3, 1) := by decide +kernel
theorem d_Pa_dispatch_145 : decode M_Pa_dispatch.2.1 145 = .ok (.iload_n 2, 1) := by decide +kernel
theorem d_Pa_dispatch_146 : decode M_Pa_dispatch.2.1 146 = .ok (.invokevirtual 92, 3) := by decide +kernel
theorem d_Pa_dispatch_149 : decode M_Pa_dispatch.2.1 149 = .ok (.aload_n 0, 1) := by decide +kernel
theorem d_Pa_dispatch_150 : decode M_Pa_dispatch.2.1 150 = .ok (.invokevirtual 95, 3) := by decide +kernel
theorem d_Pa_dispatch_153 : decode M_Pa_dispatch.2.1 153 = .ok (.return_, 1) := by decide +kernel
theorem d_Pa_switchJoined_0 : decode M_Pa_switchJoined.2.1 0 = .ok (.aload_n 0, 1) := by decide +kernel
theorem d_Pa_switchJoined_1 : decode M_Pa_switchJoined.2.1 1 = .ok (.getfield 42, 3) := by decide +kernel
theorem d_Pa_switchJoined_4 : decode M_Pa_switchJoined.2.1 4 = .ok (.iload_n 1, 1) := by decide +kernel
theorem d_Pa_switchJoined_5 : decode M_Pa_switchJoined.2.1 5 = .ok (.iload_n 2, 1) := by decide +kernel
theorem d_Pa_switchJoined_6 : decode M_Pa_switchJoined.2.1 6 = .ok (.invokevirtual 98, 3) := by decide +kernel
theorem d_Pa_switchJoined_9 : decode M_Pa_switchJoined.2.1 9 = .ok (.aload_n 0, 1) := by decide +kernel
theorem d_Pa_switchJoined_10 : decode M_Pa_switchJoined.2.1 10 = .ok (.getfield 46, 3) := by decide +kernel
theorem d_Pa_switchJoined_13 : decode M_Pa_switchJoined.2.1 13 = .ok (.iload_n 1, 1) := by decide +kernel
theorem d_Pa_switchJoined_14 : decode M_Pa_switchJoined.2.1 14 = .ok (.iload_n 2, 1) := by decide +kernel
theorem d_Pa_switchJoined_15 : decode M_Pa_switchJoined.2.1 15 = .ok (.invokevirtual 71, 3) := by decide +kernel
theorem d_Pa_switchJoined_18 : decode M_Pa_switchJoined.2.1 18 = .ok (.ifCond .eq 12, 3) := by decide +kernel
theorem d_Pa_switchJoined_21 : decode M_Pa_switchJoined.2.1 21 = .ok (.aload_n 0, 1) := by decide +kernel
theorem d_Pa_switchJoined_22 : decode M_Pa_switchJoined.2.1 22 = .ok (.getfield 42, 3) := by decide +kernel
theorem d_Pa_switchJoined_25 : decode M_Pa_switchJoined.2.1 25 = .ok (.iload_n 1, 1) := by decide +kernel
theorem d_Pa_switchJoined_26 : decode M_Pa_switchJoined.2.1 26 = .ok (.iload_n 2, 1) := by decide +kernel
theorem d_Pa_switchJoined_27 : decode M_Pa_switchJoined.2.1 27 = .ok (.invokevirtual 101, 3) := by decide +kernel
theorem d_Pa_switchJoined_30 : decode M_Pa_switchJoined.2.1 30 = .ok (.iconst 0, 1) := by decide +kernel
theorem d_Pa_switchJoined_31 : decode M_Pa_switchJoined.2.1 31 = .ok (.istore_n 3, 1) := by decide +kernel
theorem d_Pa_switchJoined_32 : decode M_Pa_switchJoined.2.1 32 = .ok (.iload_n 3, 1) := by decide +kernel
theorem d_Pa_switchJoined_33 : decode M_Pa_switchJoined.2.1 33 = .ok (.bipush 6, 2) := by decide +kernel
theorem d_Pa_switchJoined_35 : decode M_Pa_switchJoined.2.1 35 = .ok (.if_icmp .ge 31, 3) := by decide +kernel
theorem d_Pa_switchJoined_38 : decode M_Pa_switchJoined.2.1 38 = .ok (.aload_n 0, 1) := by decide +kernel
theorem d_Pa_switchJoined_39 : decode M_Pa_switchJoined.2.1 39 = .ok (.getfield 46, 3) := by decide +kernel
theorem d_Pa_switchJoined_42 : decode M_Pa_switchJoined.2.1 42 = .ok (.iload_n 1, 1) := by decide +kernel
theorem d_Pa_switchJoined_43 : decode M_Pa_switchJoined.2.1 43 = .ok (.iload_n 3, 1) := by decide +kernel
theorem d_Pa_switchJoined_44 : decode M_Pa_switchJoined.2.1 44 = .ok (.invokevirtual 104, 3) := by decide +kernel
theorem d_Pa_switchJoined_47 : decode M_Pa_switchJoined.2.1 47 = .ok (.iconst (-1), 1) := by decide +kernel
theorem d_Pa_switchJoined_48 : decode M_Pa_switchJoined.2.1 48 = .ok (.if_icmp .eq 12, 3) := by decide +kernel
theorem d_Pa_switchJoined_51 : decode M_Pa_switchJoined.2.1 51 = .ok (.aload_n 0, 1) := by decide +kernel
theorem d_Pa_switchJoined_52 : decode M_Pa_switchJoined.2.1 52 = .ok (.getfield 42, 3) := by decide +kernel
theorem d_Pa_switchJoined_55 : decode M_Pa_switchJoined.2.1 55 = .ok (.iload_n 1, 1) := by decide +kernel
theorem d_Pa_switchJoined_56 : decode M_Pa_switchJoined.2.1 56 = .ok (.iload_n 3, 1) := by decide +kernel
theorem d_Pa_switchJoined_57 : decode M_Pa_switchJoined.2.1 57 = .ok (.invokevirtual 101, 3) := by decide +kernel
theorem d_Pa_switchJoined_60 : decode M_Pa_switchJoined.2.1 60 = .ok (.iinc 3 1, 3) := by decide +kernel
theorem d_Pa_switchJoined_63 : decode M_Pa_switchJoined.2.1 63 = .ok (.goto (-31), 3) := by decide +kernel
theorem d_Pa_switchJoined_66 : decode M_Pa_switchJoined.2.1 66 = .ok (.return_, 1) := by decide +kernel
theorem d_Tr_outerList_0 : decode M_Tr_outerList.2.1 0 = .ok (.aload_n 0, 1) := by decide +kernel
theorem d_Tr_outerList_1 : decode M_Tr_outerList.2.1 1 = .ok (.getfield 28, 3) := by decide +kernel
theorem d_Tr_outerList_4 : decode M_Tr_outerList.2.1 4 = .ok (.iload_n 1, 1) := by decide +kernel
theorem d_Tr_outerList_5 : decode M_Tr_outerList.2.1 5 = .ok (.aaload, 1) := by decide +kernel
theorem d_Tr_outerList_6 : decode M_Tr_outerList.2.1 6 = .ok (.iload_n 2, 1) := by decide +kernel
theorem d_Tr_outerList_7 : decode M_Tr_outerList.2.1 7 = .ok (.iaload, 1) := by decide +kernel
theorem d_Tr_outerList_8 : decode M_Tr_outerList.2.1 8 = .ok (.ireturn, 1) := by decide +kernel
theorem d_Tr_sourceJoinOf_0 : decode M_Tr_sourceJoinOf.2.1 0 = .ok (.aload_n 0, 1) := by decide +kernel
theorem d_Tr_sourceJoinOf_1 : decode M_Tr_sourceJoinOf.2.1 1 = .ok (.getfield 22, 3) := by decide +kernel
theorem d_Tr_sourceJoinOf_4 : decode M_Tr_sourceJoinOf.2.1 4 = .ok (.iload_n 1, 1) := by decide +kernel
theorem d_Tr_sourceJoinOf_5 : decode M_Tr_sourceJoinOf.2.1 5 = .ok (.aaload, 1) := by decide +kernel
theorem d_Tr_sourceJoinOf_6 : decode M_Tr_sourceJoinOf.2.1 6 = .ok (.iload_n 2, 1) := by decide +kernel
theorem d_Tr_sourceJoinOf_7 : decode M_Tr_sourceJoinOf.2.1 7 = .ok (.iaload, 1) := by decide +kernel
theorem d_Tr_sourceJoinOf_8 : decode M_Tr_sourceJoinOf.2.1 8 = .ok (.ireturn, 1) := by decide +kernel
theorem d_Pa_register_0 : decode M_Pa_register.2.1 0 = .ok (.aload_n 0, 1) := by decide +kernel
theorem d_Pa_register_1 : decode M_Pa_register.2.1 1 = .ok (.getfield 46, 3) := by decide +kernel
theorem d_Pa_register_4 : decode M_Pa_register.2.1 4 = .ok (.invokevirtual 79, 3) := by decide +kernel
theorem d_Pa_register_7 : decode M_Pa_register.2.1 7 = .ok (.istore_n 3, 1) := by decide +kernel
theorem d_Pa_register_8 : decode M_Pa_register.2.1 8 = .ok (.iload_n 2, 1) := by decide +kernel
theorem d_Pa_register_9 : decode M_Pa_register.2.1 9 = .ok (.iload_n 3, 1) := by decide +kernel
theorem d_Pa_register_10 : decode M_Pa_register.2.1 10 = .ok (.if_icmp .eq 26, 3) := by decide +kernel
theorem d_Pa_register_13 : decode M_Pa_register.2.1 13 = .ok (.aload_n 0, 1) := by decide +kernel
theorem d_Pa_register_14 : decode M_Pa_register.2.1 14 = .ok (.getfield 34, 3) := by decide +kernel
theorem d_Pa_register_17 : decode M_Pa_register.2.1 17 = .ok (.iload_n 2, 1) := by decide +kernel
theorem d_Pa_register_18 : decode M_Pa_register.2.1 18 = .ok (.iload_n 3, 1) := by decide +kernel
theorem d_Pa_register_19 : decode M_Pa_register.2.1 19 = .ok (.invokevirtual 107, 3) := by decide +kernel
theorem d_Pa_register_22 : decode M_Pa_register.2.1 22 = .ok (.ifCond .eq 14, 3) := by decide +kernel
theorem d_Pa_register_25 : decode M_Pa_register.2.1 25 = .ok (.aload_n 0, 1) := by decide +kernel
theorem d_Pa_register_26 : decode M_Pa_register.2.1 26 = .ok (.getfield 42, 3) := by decide +kernel
theorem d_Pa_register_29 : decode M_Pa_register.2.1 29 = .ok (.iload_n 1, 1) := by decide +kernel
theorem d_Pa_register_30 : decode M_Pa_register.2.1 30 = .ok (.invokevirtual 112, 3) := by decide +kernel
theorem d_Pa_register_33 : decode M_Pa_register.2.1 33 = .ok (.ifCond .eq 5, 3) := by decide +kernel
theorem d_Pa_register_36 : decode M_Pa_register.2.1 36 = .ok (.iconst 0, 1) := by decide +kernel
theorem d_Pa_register_37 : decode M_Pa_register.2.1 37 = .ok (.ireturn, 1) := by decide +kernel
theorem d_Pa_register_38 : decode M_Pa_register.2.1 38 = .ok (.aload_n 0, 1) := by decide +kernel
theorem d_Pa_register_39 : decode M_Pa_register.2.1 39 = .ok (.getfield 50, 3) := by decide +kernel
theorem d_Pa_register_42 : decode M_Pa_register.2.1 42 = .ok (.bipush 6, 2) := by decide +kernel
theorem d_Pa_register_44 : decode M_Pa_register.2.1 44 = .ok (.invokevirtual 116, 3) := by decide +kernel
theorem d_Pa_register_47 : decode M_Pa_register.2.1 47 = .ok (.aload_n 0, 1) := by decide +kernel
theorem d_Pa_register_48 : decode M_Pa_register.2.1 48 = .ok (.getfield 42, 3) := by decide +kernel
theorem d_Pa_register_51 : decode M_Pa_register.2.1 51 = .ok (.iload_n 1, 1) := by decide +kernel
theorem d_Pa_register_52 : decode M_Pa_register.2.1 52 = .ok (.iload_n 3, 1) := by decide +kernel
theorem d_Pa_register_53 : decode M_Pa_register.2.1 53 = .ok (.invokevirtual 98, 3) := by decide +kernel
theorem d_Pa_register_56 : decode M_Pa_register.2.1 56 = .ok (.aload_n 0, 1) := by decide +kernel
theorem d_Pa_register_57 : decode M_Pa_register.2.1 57 = .ok (.getfield 42, 3) := by decide +kernel
theorem d_Pa_register_60 : decode M_Pa_register.2.1 60 = .ok (.iload_n 1, 1) := by decide +kernel
theorem d_Pa_register_61 : decode M_Pa_register.2.1 61 = .ok (.iload_n 3, 1) := by decide +kernel
theorem d_Pa_register_62 : decode M_Pa_register.2.1 62 = .ok (.invokevirtual 83, 3) := by decide +kernel
theorem d_Pa_register_65 : decode M_Pa_register.2.1 65 = .ok (.ifCond .ne 15, 3) := by decide +kernel
theorem d_Pa_register_68 : decode M_Pa_register.2.1 68 = .ok (.aload_n 0, 1) := by decide +kernel
theorem d_Pa_register_69 : decode M_Pa_register.2.1 69 = .ok (.getfield 46, 3) := by decide +kernel
theorem d_Pa_register_72 : decode M_Pa_register.2.1 72 = .ok (.iload_n 1, 1) := by decide +kernel
theorem d_Pa_register_73 : decode M_Pa_register.2.1 73 = .ok (.iload_n 3, 1) := by decide +kernel
theorem d_Pa_register_74 : decode M_Pa_register.2.1 74 = .ok (.invokevirtual 71, 3) := by decide +kernel
theorem d_Pa_register_77 : decode M_Pa_register.2.1 77 = .ok (.ifCond .ne 20, 3) := by decide +kernel
theorem d_Pa_register_80 : decode M_Pa_register.2.1 80 = .ok (.aload_n 0, 1) := by decide +kernel
theorem d_Pa_register_81 : decode M_Pa_register.2.1 81 = .ok (.getfield 50, 3) := by decide +kernel
theorem d_Pa_register_84 : decode M_Pa_register.2.1 84 = .ok (.bipush 7, 2) := by decide +kernel
theorem d_Pa_register_86 : decode M_Pa_register.2.1 86 = .ok (.invokevirtual 116, 3) := by decide +kernel
theorem d_Pa_register_89 : decode M_Pa_register.2.1 89 = .ok (.aload_n 0, 1) := by decide +kernel
theorem d_Pa_register_90 : decode M_Pa_register.2.1 90 = .ok (.getfield 42, 3) := by decide +kernel
theorem d_Pa_register_93 : decode M_Pa_register.2.1 93 = .ok (.iload_n 1, 1) := by decide +kernel
theorem d_Pa_register_94 : decode M_Pa_register.2.1 94 = .ok (.invokevirtual 122, 3) := by decide +kernel
theorem d_Pa_register_97 : decode M_Pa_register.2.1 97 = .ok (.iconst 1, 1) := by decide +kernel
theorem d_Pa_register_98 : decode M_Pa_register.2.1 98 = .ok (.ireturn, 1) := by decide +kernel
theorem d_Tr_meetingPoint_0 : decode M_Tr_meetingPoint.2.1 0 = .ok (.aload_n 0, 1) := by decide +kernel
theorem d_Tr_meetingPoint_1 : decode M_Tr_meetingPoint.2.1 1 = .ok (.getfield 35, 3) := by decide +kernel
theorem d_Tr_meetingPoint_4 : decode M_Tr_meetingPoint.2.1 4 = .ok (.ireturn, 1) := by decide +kernel
theorem d_Pa_carry_0 : decode M_Pa_carry.2.1 0 = .ok (.aload_n 0, 1) := by decide +kernel
theorem d_Pa_carry_1 : decode M_Pa_carry.2.1 1 = .ok (.getfield 18, 3) := by decide +kernel
theorem d_Pa_carry_4 : decode M_Pa_carry.2.1 4 = .ok (.bipush 6, 2) := by decide +kernel
theorem d_Pa_carry_6 : decode M_Pa_carry.2.1 6 = .ok (.if_icmp .lt 4, 3) := by decide +kernel
theorem d_Pa_carry_9 : decode M_Pa_carry.2.1 9 = .ok (.return_, 1) := by decide +kernel
theorem d_Pa_carry_10 : decode M_Pa_carry.2.1 10 = .ok (.aload_n 0, 1) := by decide +kernel
theorem d_Pa_carry_11 : decode M_Pa_carry.2.1 11 = .ok (.getfield 9, 3) := by decide +kernel
theorem d_Pa_carry_14 : decode M_Pa_carry.2.1 14 = .ok (.aload_n 0, 1) := by decide +kernel
theorem d_Pa_carry_15 : decode M_Pa_carry.2.1 15 = .ok (.getfield 18, 3) := by decide +kernel
theorem d_Pa_carry_18 : decode M_Pa_carry.2.1 18 = .ok (.iload_n 1, 1) := by decide +kernel
theorem d_Pa_carry_19 : decode M_Pa_carry.2.1 19 = .ok (.iastore, 1) := by decide +kernel
theorem d_Pa_carry_20 : decode M_Pa_carry.2.1 20 = .ok (.aload_n 0, 1) := by decide +kernel
theorem d_Pa_carry_21 : decode M_Pa_carry.2.1 21 = .ok (.getfield 15, 3) := by decide +kernel
theorem d_Pa_carry_24 : decode M_Pa_carry.2.1 24 = .ok (.aload_n 0, 1) := by decide +kernel
theorem d_Pa_carry_25 : decode M_Pa_carry.2.1 25 = .ok (.getfield 18, 3) := by decide +kernel
theorem d_Pa_carry_28 : decode M_Pa_carry.2.1 28 = .ok (.iload_n 2, 1) := by decide +kernel
theorem d_Pa_carry_29 : decode M_Pa_carry.2.1 29 = .ok (.iastore, 1) := by decide +kernel
theorem d_Pa_carry_30 : decode M_Pa_carry.2.1 30 = .ok (.aload_n 0, 1) := by decide +kernel
theorem d_Pa_carry_31 : decode M_Pa_carry.2.1 31 = .ok (.dup, 1) := by decide +kernel
theorem d_Pa_carry_32 : decode M_Pa_carry.2.1 32 = .ok (.getfield 18, 3) := by decide +kernel
theorem d_Pa_carry_35 : decode M_Pa_carry.2.1 35 = .ok (.iconst 1, 1) := by decide +kernel
theorem d_Pa_carry_36 : decode M_Pa_carry.2.1 36 = .ok (.iadd, 1) := by decide +kernel
theorem d_Pa_carry_37 : decode M_Pa_carry.2.1 37 = .ok (.putfield 18, 3) := by decide +kernel
theorem d_Pa_carry_40 : decode M_Pa_carry.2.1 40 = .ok (.return_, 1) := by decide +kernel
theorem d_Pa_putOut_0 : decode M_Pa_putOut.2.1 0 = .ok (.aload_n 0, 1) := by decide +kernel
theorem d_Pa_putOut_1 : decode M_Pa_putOut.2.1 1 = .ok (.getfield 9, 3) := by decide +kernel
theorem d_Pa_putOut_4 : decode M_Pa_putOut.2.1 4 = .ok (.iload_n 3, 1) := by decide +kernel
theorem d_Pa_putOut_5 : decode M_Pa_putOut.2.1 5 = .ok (.iaload, 1) := by decide +kernel
theorem d_Pa_putOut_6 : decode M_Pa_putOut.2.1 6 = .ok (.istore 4, 2) := by decide +kernel
theorem d_Pa_putOut_8 : decode M_Pa_putOut.2.1 8 = .ok (.aload_n 0, 1) := by decide +kernel
theorem d_Pa_putOut_9 : decode M_Pa_putOut.2.1 9 = .ok (.getfield 42, 3) := by decide +kernel
theorem d_Pa_putOut_12 : decode M_Pa_putOut.2.1 12 = .ok (.iload_n 1, 1) := by decide +kernel
theorem d_Pa_putOut_13 : decode M_Pa_putOut.2.1 13 = .ok (.iload 4, 2) := by decide +kernel
theorem d_Pa_putOut_15 : decode M_Pa_putOut.2.1 15 = .ok (.invokevirtual 83, 3) := by decide +kernel
theorem d_Pa_putOut_18 : decode M_Pa_putOut.2.1 18 = .ok (.ifCond .eq 16, 3) := by decide +kernel
theorem d_Pa_putOut_21 : decode M_Pa_putOut.2.1 21 = .ok (.aload_n 0, 1) := by decide +kernel
theorem d_Pa_putOut_22 : decode M_Pa_putOut.2.1 22 = .ok (.getfield 46, 3) := by decide +kernel
theorem d_Pa_putOut_25 : decode M_Pa_putOut.2.1 25 = .ok (.iload_n 1, 1) := by decide +kernel
theorem d_Pa_putOut_26 : decode M_Pa_putOut.2.1 26 = .ok (.iload 4, 2) := by decide +kernel
theorem d_Pa_putOut_28 : decode M_Pa_putOut.2.1 28 = .ok (.invokevirtual 71, 3) := by decide +kernel
theorem d_Pa_putOut_31 : decode M_Pa_putOut.2.1 31 = .ok (.goto 13, 3) := by decide +kernel
theorem d_Pa_putOut_34 : decode M_Pa_putOut.2.1 34 = .ok (.aload_n 0, 1) := by decide +kernel
theorem d_Pa_putOut_35 : decode M_Pa_putOut.2.1 35 = .ok (.getfield 46, 3) := by decide +kernel
theorem d_Pa_putOut_38 : decode M_Pa_putOut.2.1 38 = .ok (.iload_n 1, 1) := by decide +kernel
theorem d_Pa_putOut_39 : decode M_Pa_putOut.2.1 39 = .ok (.iload 4, 2) := by decide +kernel
theorem d_Pa_putOut_41 : decode M_Pa_putOut.2.1 41 = .ok (.invokevirtual 125, 3) := by decide +kernel
theorem d_Pa_putOut_44 : decode M_Pa_putOut.2.1 44 = .ok (.istore 5, 2) := by decide +kernel
theorem d_Pa_putOut_46 : decode M_Pa_putOut.2.1 46 = .ok (.iload 5, 2) := by decide +kernel
theorem d_Pa_putOut_48 : decode M_Pa_putOut.2.1 48 = .ok (.bipush 64, 2) := by decide +kernel
theorem d_Pa_putOut_50 : decode M_Pa_putOut.2.1 50 = .ok (.iand, 1) := by decide +kernel
theorem d_Pa_putOut_51 : decode M_Pa_putOut.2.1 51 = .ok (.ifCond .eq 22, 3) := by decide +kernel
theorem d_Pa_putOut_54 : decode M_Pa_putOut.2.1 54 = .ok (.iload 4, 2) := by decide +kernel
theorem d_Pa_putOut_56 : decode M_Pa_putOut.2.1 56 = .ok (.iload_n 2, 1) := by decide +kernel
theorem d_Pa_putOut_57 : decode M_Pa_putOut.2.1 57 = .ok (.if_icmp .eq 16, 3) := by decide +kernel
theorem d_Pa_putOut_60 : decode M_Pa_putOut.2.1 60 = .ok (.aload_n 0, 1) := by decide +kernel
theorem d_Pa_putOut_61 : decode M_Pa_putOut.2.1 61 = .ok (.dup, 1) := by decide +kernel
theorem d_Pa_putOut_62 : decode M_Pa_putOut.2.1 62 = .ok (.getfield 28, 3) := by decide +kernel
theorem d_Pa_putOut_65 : decode M_Pa_putOut.2.1 65 = .ok (.iconst 1, 1) := by decide +kernel
theorem d_Pa_putOut_66 : decode M_Pa_putOut.2.1 66 = .ok (.iload 4, 2) := by decide +kernel
theorem d_Pa_putOut_68 : decode M_Pa_putOut.2.1 68 = .ok (.ishl, 1) := by decide +kernel
theorem d_Pa_putOut_69 : decode M_Pa_putOut.2.1 69 = .ok (.ior, 1) := by decide +kernel
theorem d_Pa_putOut_70 : decode M_Pa_putOut.2.1 70 = .ok (.putfield 28, 3) := by decide +kernel
theorem d_Pa_putOut_73 : decode M_Pa_putOut.2.1 73 = .ok (.iconst 0, 1) := by decide +kernel
theorem d_Pa_putOut_74 : decode M_Pa_putOut.2.1 74 = .ok (.istore 6, 2) := by decide +kernel
theorem d_Pa_putOut_76 : decode M_Pa_putOut.2.1 76 = .ok (.iload 6, 2) := by decide +kernel
theorem d_Pa_putOut_78 : decode M_Pa_putOut.2.1 78 = .ok (.bipush 6, 2) := by decide +kernel
theorem d_Pa_putOut_80 : decode M_Pa_putOut.2.1 80 = .ok (.if_icmp .ge 40, 3) := by decide +kernel
theorem d_Pa_putOut_83 : decode M_Pa_putOut.2.1 83 = .ok (.iload 5, 2) := by decide +kernel
theorem d_Pa_putOut_85 : decode M_Pa_putOut.2.1 85 = .ok (.iload 6, 2) := by decide +kernel
theorem d_Pa_putOut_87 : decode M_Pa_putOut.2.1 87 = .ok (.invokestatic 128, 3) := by decide +kernel
theorem d_Pa_putOut_90 : decode M_Pa_putOut.2.1 90 = .ok (.ifCond .eq 24, 3) := by decide +kernel
theorem d_Pa_putOut_93 : decode M_Pa_putOut.2.1 93 = .ok (.iload 6, 2) := by decide +kernel
theorem d_Pa_putOut_95 : decode M_Pa_putOut.2.1 95 = .ok (.aload_n 0, 1) := by decide +kernel
theorem d_Pa_putOut_96 : decode M_Pa_putOut.2.1 96 = .ok (.getfield 15, 3) := by decide +kernel
theorem d_Pa_putOut_99 : decode M_Pa_putOut.2.1 99 = .ok (.iload_n 3, 1) := by decide +kernel
theorem d_Pa_putOut_100 : decode M_Pa_putOut.2.1 100 = .ok (.iaload, 1) := by decide +kernel
theorem d_Pa_putOut_101 : decode M_Pa_putOut.2.1 101 = .ok (.if_icmp .eq 13, 3) := by decide +kernel
theorem d_Pa_putOut_104 : decode M_Pa_putOut.2.1 104 = .ok (.aload_n 0, 1) := by decide +kernel
theorem d_Pa_putOut_105 : decode M_Pa_putOut.2.1 105 = .ok (.iload_n 1, 1) := by decide +kernel
theorem d_Pa_putOut_106 : decode M_Pa_putOut.2.1 106 = .ok (.iload_n 2, 1) := by decide +kernel
theorem d_Pa_putOut_107 : decode M_Pa_putOut.2.1 107 = .ok (.iload 4, 2) := by decide +kernel
theorem d_Pa_putOut_109 : decode M_Pa_putOut.2.1 109 = .ok (.iload 6, 2) := by decide +kernel
theorem d_Pa_putOut_111 : decode M_Pa_putOut.2.1 111 = .ok (.invokevirtual 131, 3) := by decide +kernel
theorem d_Pa_putOut_114 : decode M_Pa_putOut.2.1 114 = .ok (.iinc 6 1, 3) := by decide +kernel
theorem d_Pa_putOut_117 : decode M_Pa_putOut.2.1 117 = .ok (.goto (-41), 3) := by decide +kernel
theorem d_Pa_putOut_120 : decode M_Pa_putOut.2.1 120 = .ok (.return_, 1) := by decide +kernel
theorem d_Tr_innerList_0 : decode M_Tr_innerList.2.1 0 = .ok (.aload_n 0, 1) := by decide +kernel
theorem d_Tr_innerList_1 : decode M_Tr_innerList.2.1 1 = .ok (.getfield 25, 3) := by decide +kernel
theorem d_Tr_innerList_4 : decode M_Tr_innerList.2.1 4 = .ok (.iload_n 1, 1) := by decide +kernel
theorem d_Tr_innerList_5 : decode M_Tr_innerList.2.1 5 = .ok (.aaload, 1) := by decide +kernel
theorem d_Tr_innerList_6 : decode M_Tr_innerList.2.1 6 = .ok (.iload_n 2, 1) := by decide +kernel
theorem d_Tr_innerList_7 : decode M_Tr_innerList.2.1 7 = .ok (.iaload, 1) := by decide +kernel
theorem d_Tr_innerList_8 : decode M_Tr_innerList.2.1 8 = .ok (.ireturn, 1) := by decide +kernel
theorem d_Pa_cross_0 : decode M_Pa_cross.2.1 0 = .ok (.aload_n 0, 1) := by decide +kernel
theorem d_Pa_cross_1 : decode M_Pa_cross.2.1 1 = .ok (.dup, 1) := by decide +kernel
theorem d_Pa_cross_2 : decode M_Pa_cross.2.1 2 = .ok (.getfield 22, 3) := by decide +kernel
theorem d_Pa_cross_5 : decode M_Pa_cross.2.1 5 = .ok (.iconst 1, 1) := by decide +kernel
theorem d_Pa_cross_6 : decode M_Pa_cross.2.1 6 = .ok (.iadd, 1) := by decide +kernel
theorem d_Pa_cross_7 : decode M_Pa_cross.2.1 7 = .ok (.putfield 22, 3) := by decide +kernel
theorem d_Pa_cross_10 : decode M_Pa_cross.2.1 10 = .ok (.aload_n 0, 1) := by decide +kernel
theorem d_Pa_cross_11 : decode M_Pa_cross.2.1 11 = .ok (.getfield 42, 3) := by decide +kernel
theorem d_Pa_cross_14 : decode M_Pa_cross.2.1 14 = .ok (.iload_n 1, 1) := by decide +kernel
theorem d_Pa_cross_15 : decode M_Pa_cross.2.1 15 = .ok (.iload 4, 2) := by decide +kernel
theorem d_Pa_cross_17 : decode M_Pa_cross.2.1 17 = .ok (.invokevirtual 83, 3) := by decide +kernel
theorem d_Pa_cross_20 : decode M_Pa_cross.2.1 20 = .ok (.ifCond .eq 7, 3) := by decide +kernel
theorem d_Pa_cross_23 : decode M_Pa_cross.2.1 23 = .ok (.iload_n 2, 1) := by decide +kernel
theorem d_Pa_cross_24 : decode M_Pa_cross.2.1 24 = .ok (.goto 10, 3) := by decide +kernel
theorem d_Pa_cross_27 : decode M_Pa_cross.2.1 27 = .ok (.aload_n 0, 1) := by decide +kernel
theorem d_Pa_cross_28 : decode M_Pa_cross.2.1 28 = .ok (.getfield 46, 3) := by decide +kernel
theorem d_Pa_cross_31 : decode M_Pa_cross.2.1 31 = .ok (.invokevirtual 79, 3) := by decide +kernel
theorem d_Pa_cross_34 : decode M_Pa_cross.2.1 34 = .ok (.istore 5, 2) := by decide +kernel
theorem d_Pa_cross_36 : decode M_Pa_cross.2.1 36 = .ok (.iload 4, 2) := by decide +kernel
theorem d_Pa_cross_38 : decode M_Pa_cross.2.1 38 = .ok (.iload_n 2, 1) := by decide +kernel
theorem d_Pa_cross_39 : decode M_Pa_cross.2.1 39 = .ok (.if_icmp .eq 28, 3) := by decide +kernel
theorem d_Pa_cross_42 : decode M_Pa_cross.2.1 42 = .ok (.aload_n 0, 1) := by decide +kernel
theorem d_Pa_cross_43 : decode M_Pa_cross.2.1 43 = .ok (.getfield 34, 3) := by decide +kernel
theorem d_Pa_cross_46 : decode M_Pa_cross.2.1 46 = .ok (.iload 4, 2) := by decide +kernel
theorem d_Pa_cross_48 : decode M_Pa_cross.2.1 48 = .ok (.iload 5, 2) := by decide +kernel
theorem d_Pa_cross_50 : decode M_Pa_cross.2.1 50 = .ok (.invokevirtual 135, 3) := by decide +kernel
theorem d_Pa_cross_53 : decode M_Pa_cross.2.1 53 = .ok (.iload_n 3, 1) := by decide +kernel
theorem d_Pa_cross_54 : decode M_Pa_cross.2.1 54 = .ok (.if_icmp .ne 13, 3) := by decide +kernel
theorem d_Pa_cross_57 : decode M_Pa_cross.2.1 57 = .ok (.aload_n 0, 1) := by decide +kernel
theorem d_Pa_cross_58 : decode M_Pa_cross.2.1 58 = .ok (.iload 4, 2) := by decide +kernel
theorem d_Pa_cross_60 : decode M_Pa_cross.2.1 60 = .ok (.iload_n 3, 1) := by decide +kernel
theorem d_Pa_cross_61 : decode M_Pa_cross.2.1 61 = .ok (.invokevirtual 76, 3) := by decide +kernel
theorem d_Pa_cross_64 : decode M_Pa_cross.2.1 64 = .ok (.goto 13, 3) := by decide +kernel
theorem d_Pa_cross_67 : decode M_Pa_cross.2.1 67 = .ok (.aload_n 0, 1) := by decide +kernel
theorem d_Pa_cross_68 : decode M_Pa_cross.2.1 68 = .ok (.dup, 1) := by decide +kernel
theorem d_Pa_cross_69 : decode M_Pa_cross.2.1 69 = .ok (.getfield 25, 3) := by decide +kernel
theorem d_Pa_cross_72 : decode M_Pa_cross.2.1 72 = .ok (.iconst 1, 1) := by decide +kernel
theorem d_Pa_cross_73 : decode M_Pa_cross.2.1 73 = .ok (.iadd, 1) := by decide +kernel
theorem d_Pa_cross_74 : decode M_Pa_cross.2.1 74 = .ok (.putfield 25, 3) := by decide +kernel
theorem d_Pa_cross_77 : decode M_Pa_cross.2.1 77 = .ok (.return_, 1) := by decide +kernel
theorem d_Pa_renewCarriers_0 : decode M_Pa_renewCarriers.2.1 0 = .ok (.iconst 0, 1) := by decide +kernel
theorem d_Pa_renewCarriers_1 : decode M_Pa_renewCarriers.2.1 1 = .ok (.istore_n 3, 1) := by decide +kernel
theorem d_Pa_renewCarriers_2 : decode M_Pa_renewCarriers.2.1 2 = .ok (.iload_n 3, 1) := by decide +kernel
theorem d_Pa_renewCarriers_3 : decode M_Pa_renewCarriers.2.1 3 = .ok (.bipush 6, 2) := by decide +kernel
theorem d_Pa_renewCarriers_5 : decode M_Pa_renewCarriers.2.1 5 = .ok (.if_icmp .ge 61, 3) := by decide +kernel
theorem d_Pa_renewCarriers_8 : decode M_Pa_renewCarriers.2.1 8 = .ok (.iload_n 3, 1) := by decide +kernel
theorem d_Pa_renewCarriers_9 : decode M_Pa_renewCarriers.2.1 9 = .ok (.aload_n 0, 1) := by decide +kernel
theorem d_Pa_renewCarriers_10 : decode M_Pa_renewCarriers.2.1 10 = .ok (.getfield 18, 3) := by decide +kernel
theorem d_Pa_renewCarriers_13 : decode M_Pa_renewCarriers.2.1 13 = .ok (.if_icmp .ge 53, 3) := by decide +kernel
theorem d_Pa_renewCarriers_16 : decode M_Pa_renewCarriers.2.1 16 = .ok (.aload_n 0, 1) := by decide +kernel
theorem d_Pa_renewCarriers_17 : decode M_Pa_renewCarriers.2.1 17 = .ok (.getfield 9, 3) := by decide +kernel
theorem d_Pa_renewCarriers_20 : decode M_Pa_renewCarriers.2.1 20 = .ok (.iload_n 3, 1) := by decide +kernel
theorem d_Pa_renewCarriers_21 : decode M_Pa_renewCarriers.2.1 21 = .ok (.iaload, 1) := by decide +kernel
theorem d_Pa_renewCarriers_22 : decode M_Pa_renewCarriers.2.1 22 = .ok (.istore 4, 2) := by decide +kernel
theorem d_Pa_renewCarriers_24 : decode M_Pa_renewCarriers.2.1 24 = .ok (.aload_n 0, 1) := by decide +kernel
theorem d_Pa_renewCarriers_25 : decode M_Pa_renewCarriers.2.1 25 = .ok (.getfield 42, 3) := by decide +kernel
theorem d_Pa_renewCarriers_28 : decode M_Pa_renewCarriers.2.1 28 = .ok (.iload_n 1, 1) := by decide +kernel
theorem d_Pa_renewCarriers_29 : decode M_Pa_renewCarriers.2.1 29 = .ok (.iload 4, 2) := by decide +kernel
theorem d_Pa_renewCarriers_31 : decode M_Pa_renewCarriers.2.1 31 = .ok (.invokevirtual 83, 3) := by decide +kernel
theorem d_Pa_renewCarriers_34 : decode M_Pa_renewCarriers.2.1 34 = .ok (.ifCond .ne 26, 3) := by decide +kernel
theorem d_Pa_renewCarriers_37 : decode M_Pa_renewCarriers.2.1 37 = .ok (.aload_n 0, 1) := by decide +kernel
theorem d_Pa_renewCarriers_38 : decode M_Pa_renewCarriers.2.1 38 = .ok (.getfield 38, 3) := by decide +kernel
theorem d_Pa_renewCarriers_41 : decode M_Pa_renewCarriers.2.1 41 = .ok (.iload 4, 2) := by decide +kernel
theorem d_Pa_renewCarriers_43 : decode M_Pa_renewCarriers.2.1 43 = .ok (.iload_n 2, 1) := by decide +kernel
theorem d_Pa_renewCarriers_44 : decode M_Pa_renewCarriers.2.1 44 = .ok (.invokevirtual 58, 3) := by decide +kernel
theorem d_Pa_renewCarriers_47 : decode M_Pa_renewCarriers.2.1 47 = .ok (.ifCond .eq 13, 3) := by decide +kernel
theorem d_Pa_renewCarriers_50 : decode M_Pa_renewCarriers.2.1 50 = .ok (.aload_n 0, 1) := by decide +kernel
theorem d_Pa_renewCarriers_51 : decode M_Pa_renewCarriers.2.1 51 = .ok (.getfield 42, 3) := by decide +kernel
theorem d_Pa_renewCarriers_54 : decode M_Pa_renewCarriers.2.1 54 = .ok (.iload_n 1, 1) := by decide +kernel
theorem d_Pa_renewCarriers_55 : decode M_Pa_renewCarriers.2.1 55 = .ok (.iload 4, 2) := by decide +kernel
theorem d_Pa_renewCarriers_57 : decode M_Pa_renewCarriers.2.1 57 = .ok (.invokevirtual 98, 3) := by decide +kernel
theorem d_Pa_renewCarriers_60 : decode M_Pa_renewCarriers.2.1 60 = .ok (.iinc 3 1, 3) := by decide +kernel
theorem d_Pa_renewCarriers_63 : decode M_Pa_renewCarriers.2.1 63 = .ok (.goto (-61), 3) := by decide +kernel
theorem d_Pa_renewCarriers_66 : decode M_Pa_renewCarriers.2.1 66 = .ok (.return_, 1) := by decide +kernel
theorem d_Pa_listen_0 : decode M_Pa_listen.2.1 0 = .ok (.aload_n 0, 1) := by decide +kernel
theorem d_Pa_listen_1 : decode M_Pa_listen.2.1 1 = .ok (.iconst 0, 1) := by decide +kernel
theorem d_Pa_listen_2 : decode M_Pa_listen.2.1 2 = .ok (.putfield 31, 3) := by decide +kernel
theorem d_Pa_listen_5 : decode M_Pa_listen.2.1 5 = .ok (.iconst 0, 1) := by decide +kernel
theorem d_Pa_listen_6 : decode M_Pa_listen.2.1 6 = .ok (.istore_n 1, 1) := by decide +kernel
theorem d_Pa_listen_7 : decode M_Pa_listen.2.1 7 = .ok (.iload_n 1, 1) := by decide +kernel
theorem d_Pa_listen_8 : decode M_Pa_listen.2.1 8 = .ok (.bipush 6, 2) := by decide +kernel
theorem d_Pa_listen_10 : decode M_Pa_listen.2.1 10 = .ok (.if_icmp .ge 43, 3) := by decide +kernel
theorem d_Pa_listen_13 : decode M_Pa_listen.2.1 13 = .ok (.aload_n 0, 1) := by decide +kernel
theorem d_Pa_listen_14 : decode M_Pa_listen.2.1 14 = .ok (.getfield 28, 3) := by decide +kernel
theorem d_Pa_listen_17 : decode M_Pa_listen.2.1 17 = .ok (.iload_n 1, 1) := by decide +kernel
theorem d_Pa_listen_18 : decode M_Pa_listen.2.1 18 = .ok (.invokestatic 128, 3) := by decide +kernel
theorem d_Pa_listen_21 : decode M_Pa_listen.2.1 21 = .ok (.ifCond .eq 26, 3) := by decide +kernel
theorem d_Pa_listen_24 : decode M_Pa_listen.2.1 24 = .ok (.aload_n 0, 1) := by decide +kernel
theorem d_Pa_listen_25 : decode M_Pa_listen.2.1 25 = .ok (.getfield 38, 3) := by decide +kernel
theorem d_Pa_listen_28 : decode M_Pa_listen.2.1 28 = .ok (.iload_n 1, 1) := by decide +kernel
theorem d_Pa_listen_29 : decode M_Pa_listen.2.1 29 = .ok (.invokevirtual 138, 3) := by decide +kernel
theorem d_Pa_listen_32 : decode M_Pa_listen.2.1 32 = .ok (.ifCond .eq 15, 3) := by decide +kernel
theorem d_Pa_listen_35 : decode M_Pa_listen.2.1 35 = .ok (.aload_n 0, 1) := by decide +kernel
theorem d_Pa_listen_36 : decode M_Pa_listen.2.1 36 = .ok (.dup, 1) := by decide +kernel
theorem d_Pa_listen_37 : decode M_Pa_listen.2.1 37 = .ok (.getfield 31, 3) := by decide +kernel
theorem d_Pa_listen_40 : decode M_Pa_listen.2.1 40 = .ok (.iconst 1, 1) := by decide +kernel
theorem d_Pa_listen_41 : decode M_Pa_listen.2.1 41 = .ok (.iload_n 1, 1) := by decide +kernel
theorem d_Pa_listen_42 : decode M_Pa_listen.2.1 42 = .ok (.ishl, 1) := by decide +kernel
theorem d_Pa_listen_43 : decode M_Pa_listen.2.1 43 = .ok (.ior, 1) := by decide +kernel
theorem d_Pa_listen_44 : decode M_Pa_listen.2.1 44 = .ok (.putfield 31, 3) := by decide +kernel
theorem d_Pa_listen_47 : decode M_Pa_listen.2.1 47 = .ok (.iinc 1 1, 3) := by decide +kernel
theorem d_Pa_listen_50 : decode M_Pa_listen.2.1 50 = .ok (.goto (-43), 3) := by decide +kernel
theorem d_Pa_listen_53 : decode M_Pa_listen.2.1 53 = .ok (.return_, 1) := by decide +kernel
theorem d_Pa_heardBy_0 : decode M_Pa_heardBy.2.1 0 = .ok (.aload_n 0, 1) := by decide +kernel
theorem d_Pa_heardBy_1 : decode M_Pa_heardBy.2.1 1 = .ok (.getfield 31, 3) := by decide +kernel
theorem d_Pa_heardBy_4 : decode M_Pa_heardBy.2.1 4 = .ok (.ireturn, 1) := by decide +kernel
theorem d_MT_crossings_0 : decode M_MT_crossings.2.1 0 = .ok (.aload_n 0, 1) := by decide +kernel
theorem d_MT_crossings_1 : decode M_MT_crossings.2.1 1 = .ok (.getfield 64, 3) := by decide +kernel
theorem d_MT_crossings_4 : decode M_MT_crossings.2.1 4 = .ok (.invokevirtual 151, 3) := by decide +kernel
theorem d_MT_crossings_7 : decode M_MT_crossings.2.1 7 = .ok (.ireturn, 1) := by decide +kernel
theorem d_Pa_crossingCount_0 : decode M_Pa_crossingCount.2.1 0 = .ok (.aload_n 0, 1) := by decide +kernel
theorem d_Pa_crossingCount_1 : decode M_Pa_crossingCount.2.1 1 = .ok (.getfield 22, 3) := by decide +kernel
theorem d_Pa_crossingCount_4 : decode M_Pa_crossingCount.2.1 4 = .ok (.ireturn, 1) := by decide +kernel
theorem d_MT_drops_0 : decode M_MT_drops.2.1 0 = .ok (.aload_n 0, 1) := by decide +kernel
theorem d_MT_drops_1 : decode M_MT_drops.2.1 1 = .ok (.getfield 64, 3) := by decide +kernel
theorem d_MT_drops_4 : decode M_MT_drops.2.1 4 = .ok (.invokevirtual 154, 3) := by decide +kernel
theorem d_MT_drops_7 : decode M_MT_drops.2.1 7 = .ok (.ireturn, 1) := by decide +kernel
theorem d_Pa_dropCount_0 : decode M_Pa_dropCount.2.1 0 = .ok (.aload_n 0, 1) := by decide +kernel
theorem d_Pa_dropCount_1 : decode M_Pa_dropCount.2.1 1 = .ok (.getfield 25, 3) := by decide +kernel
theorem d_Pa_dropCount_4 : decode M_Pa_dropCount.2.1 4 = .ok (.ireturn, 1) := by decide +kernel
theorem d_MT_reached_0 : decode M_MT_reached.2.1 0 = .ok (.aload_n 0, 1) := by decide +kernel
theorem d_MT_reached_1 : decode M_MT_reached.2.1 1 = .ok (.getfield 64, 3) := by decide +kernel
theorem d_MT_reached_4 : decode M_MT_reached.2.1 4 = .ok (.invokevirtual 157, 3) := by decide +kernel
theorem d_MT_reached_7 : decode M_MT_reached.2.1 7 = .ok (.ireturn, 1) := by decide +kernel
theorem d_Pa_reachedLans_0 : decode M_Pa_reachedLans.2.1 0 = .ok (.aload_n 0, 1) := by decide +kernel
theorem d_Pa_reachedLans_1 : decode M_Pa_reachedLans.2.1 1 = .ok (.getfield 28, 3) := by decide +kernel
theorem d_Pa_reachedLans_4 : decode M_Pa_reachedLans.2.1 4 = .ok (.ireturn, 1) := by decide +kernel
theorem d_MT_heard_0 : decode M_MT_heard.2.1 0 = .ok (.aload_n 0, 1) := by decide +kernel
theorem d_MT_heard_1 : decode M_MT_heard.2.1 1 = .ok (.getfield 64, 3) := by decide +kernel
theorem d_MT_heard_4 : decode M_MT_heard.2.1 4 = .ok (.invokevirtual 141, 3) := by decide +kernel
theorem d_MT_heard_7 : decode M_MT_heard.2.1 7 = .ok (.ireturn, 1) := by decide +kernel
theorem d_MT_shared_0 : decode M_MT_shared.2.1 0 = .ok (.iload_n 1, 1) := by decide +kernel
theorem d_MT_shared_1 : decode M_MT_shared.2.1 1 = .ok (.invokestatic 9, 3) := by decide +kernel
theorem d_MT_shared_4 : decode M_MT_shared.2.1 4 = .ok (.ifCond .eq 10, 3) := by decide +kernel
theorem d_MT_shared_7 : decode M_MT_shared.2.1 7 = .ok (.iload_n 2, 1) := by decide +kernel
theorem d_MT_shared_8 : decode M_MT_shared.2.1 8 = .ok (.invokestatic 101, 3) := by decide +kernel
theorem d_MT_shared_11 : decode M_MT_shared.2.1 11 = .ok (.ifCond .ne 5, 3) := by decide +kernel
theorem d_MT_shared_14 : decode M_MT_shared.2.1 14 = .ok (.iconst (-1), 1) := by decide +kernel
theorem d_MT_shared_15 : decode M_MT_shared.2.1 15 = .ok (.ireturn, 1) := by decide +kernel
theorem d_MT_shared_16 : decode M_MT_shared.2.1 16 = .ok (.aload_n 0, 1) := by decide +kernel
theorem d_MT_shared_17 : decode M_MT_shared.2.1 17 = .ok (.getfield 55, 3) := by decide +kernel
theorem d_MT_shared_20 : decode M_MT_shared.2.1 20 = .ok (.iload_n 2, 1) := by decide +kernel
theorem d_MT_shared_21 : decode M_MT_shared.2.1 21 = .ok (.iload_n 1, 1) := by decide +kernel
theorem d_MT_shared_22 : decode M_MT_shared.2.1 22 = .ok (.invokevirtual 160, 3) := by decide +kernel
theorem d_MT_shared_25 : decode M_MT_shared.2.1 25 = .ok (.ireturn, 1) := by decide +kernel
theorem d_Tr_sharedJoinOf_0 : decode M_Tr_sharedJoinOf.2.1 0 = .ok (.aload_n 0, 1) := by decide +kernel
theorem d_Tr_sharedJoinOf_1 : decode M_Tr_sharedJoinOf.2.1 1 = .ok (.getfield 11, 3) := by decide +kernel
theorem d_Tr_sharedJoinOf_4 : decode M_Tr_sharedJoinOf.2.1 4 = .ok (.iload_n 1, 1) := by decide +kernel
theorem d_Tr_sharedJoinOf_5 : decode M_Tr_sharedJoinOf.2.1 5 = .ok (.aaload, 1) := by decide +kernel
theorem d_Tr_sharedJoinOf_6 : decode M_Tr_sharedJoinOf.2.1 6 = .ok (.iload_n 2, 1) := by decide +kernel
theorem d_Tr_sharedJoinOf_7 : decode M_Tr_sharedJoinOf.2.1 7 = .ok (.iaload, 1) := by decide +kernel
theorem d_Tr_sharedJoinOf_8 : decode M_Tr_sharedJoinOf.2.1 8 = .ok (.ireturn, 1) := by decide +kernel
theorem d_MT_entry_0 : decode M_MT_entry.2.1 0 = .ok (.iload_n 1, 1) := by decide +kernel
theorem d_MT_entry_1 : decode M_MT_entry.2.1 1 = .ok (.invokestatic 9, 3) := by decide +kernel
theorem d_MT_entry_4 : decode M_MT_entry.2.1 4 = .ok (.ifCond .eq 17, 3) := by decide +kernel
theorem d_MT_entry_7 : decode M_MT_entry.2.1 7 = .ok (.iload_n 2, 1) := by decide +kernel
theorem d_MT_entry_8 : decode M_MT_entry.2.1 8 = .ok (.invokestatic 9, 3) := by decide +kernel
theorem d_MT_entry_11 : decode M_MT_entry.2.1 11 = .ok (.ifCond .eq 10, 3) := by decide +kernel
theorem d_MT_entry_14 : decode M_MT_entry.2.1 14 = .ok (.iload_n 3, 1) := by decide +kernel
theorem d_MT_entry_15 : decode M_MT_entry.2.1 15 = .ok (.invokestatic 101, 3) := by decide +kernel
theorem d_MT_entry_18 : decode M_MT_entry.2.1 18 = .ok (.ifCond .ne 5, 3) := by decide +kernel
theorem d_MT_entry_21 : decode M_MT_entry.2.1 21 = .ok (.iconst (-1), 1) := by decide +kernel
theorem d_MT_entry_22 : decode M_MT_entry.2.1 22 = .ok (.ireturn, 1) := by decide +kernel
theorem d_MT_entry_23 : decode M_MT_entry.2.1 23 = .ok (.iload_n 2, 1) := by decide +kernel
theorem d_MT_entry_24 : decode M_MT_entry.2.1 24 = .ok (.iload_n 3, 1) := by decide +kernel
theorem d_MT_entry_25 : decode M_MT_entry.2.1 25 = .ok (.invokestatic 131, 3) := by decide +kernel
theorem d_MT_entry_28 : decode M_MT_entry.2.1 28 = .ok (.istore 4, 2) := by decide +kernel
theorem d_MT_entry_30 : decode M_MT_entry.2.1 30 = .ok (.bipush 16, 2) := by decide +kernel
theorem d_MT_entry_32 : decode M_MT_entry.2.1 32 = .ok (.aload_n 0, 1) := by decide +kernel
theorem d_MT_entry_33 : decode M_MT_entry.2.1 33 = .ok (.getfield 55, 3) := by decide +kernel
theorem d_MT_entry_36 : decode M_MT_entry.2.1 36 = .ok (.iload 4, 2) := by decide +kernel
theorem d_MT_entry_38 : decode M_MT_entry.2.1 38 = .ok (.iload_n 1, 1) := by decide +kernel
theorem d_MT_entry_39 : decode M_MT_entry.2.1 39 = .ok (.invokevirtual 163, 3) := by decide +kernel
theorem d_MT_entry_42 : decode M_MT_entry.2.1 42 = .ok (.invokestatic 145, 3) := by decide +kernel
theorem d_MT_entry_45 : decode M_MT_entry.2.1 45 = .ok (.imul, 1) := by decide +kernel
theorem d_MT_entry_46 : decode M_MT_entry.2.1 46 = .ok (.istore 5, 2) := by decide +kernel
theorem d_MT_entry_48 : decode M_MT_entry.2.1 48 = .ok (.aload_n 0, 1) := by decide +kernel
theorem d_MT_entry_49 : decode M_MT_entry.2.1 49 = .ok (.getfield 46, 3) := by decide +kernel
theorem d_MT_entry_52 : decode M_MT_entry.2.1 52 = .ok (.iload 4, 2) := by decide +kernel
theorem d_MT_entry_54 : decode M_MT_entry.2.1 54 = .ok (.iload_n 1, 1) := by decide +kernel
theorem d_MT_entry_55 : decode M_MT_entry.2.1 55 = .ok (.invokevirtual 166, 3) := by decide +kernel
theorem d_MT_entry_58 : decode M_MT_entry.2.1 58 = .ok (.ifCond .eq 6, 3) := by decide +kernel
theorem d_MT_entry_61 : decode M_MT_entry.2.1 61 = .ok (.iinc 5 1, 3) := by decide +kernel
theorem d_MT_entry_64 : decode M_MT_entry.2.1 64 = .ok (.aload_n 0, 1) := by decide +kernel
theorem d_MT_entry_65 : decode M_MT_entry.2.1 65 = .ok (.getfield 46, 3) := by decide +kernel
theorem d_MT_entry_68 : decode M_MT_entry.2.1 68 = .ok (.iload 4, 2) := by decide +kernel
theorem d_MT_entry_70 : decode M_MT_entry.2.1 70 = .ok (.iload_n 1, 1) := by decide +kernel
theorem d_MT_entry_71 : decode M_MT_entry.2.1 71 = .ok (.invokevirtual 169, 3) := by decide +kernel
theorem d_MT_entry_74 : decode M_MT_entry.2.1 74 = .ok (.ifCond .eq 6, 3) := by decide +kernel
theorem d_MT_entry_77 : decode M_MT_entry.2.1 77 = .ok (.iinc 5 2, 3) := by decide +kernel
theorem d_MT_entry_80 : decode M_MT_entry.2.1 80 = .ok (.aload_n 0, 1) := by decide +kernel
theorem d_MT_entry_81 : decode M_MT_entry.2.1 81 = .ok (.getfield 55, 3) := by decide +kernel
theorem d_MT_entry_84 : decode M_MT_entry.2.1 84 = .ok (.iload 4, 2) := by decide +kernel
theorem d_MT_entry_86 : decode M_MT_entry.2.1 86 = .ok (.iload_n 1, 1) := by decide +kernel
theorem d_MT_entry_87 : decode M_MT_entry.2.1 87 = .ok (.invokevirtual 172, 3) := by decide +kernel
theorem d_MT_entry_90 : decode M_MT_entry.2.1 90 = .ok (.iconst (-1), 1) := by decide +kernel
theorem d_MT_entry_91 : decode M_MT_entry.2.1 91 = .ok (.if_icmp .eq 6, 3) := by decide +kernel
theorem d_MT_entry_94 : decode M_MT_entry.2.1 94 = .ok (.iinc 5 4, 3) := by decide +kernel
theorem d_MT_entry_97 : decode M_MT_entry.2.1 97 = .ok (.aload_n 0, 1) := by decide +kernel
theorem d_MT_entry_98 : decode M_MT_entry.2.1 98 = .ok (.getfield 55, 3) := by decide +kernel
theorem d_MT_entry_101 : decode M_MT_entry.2.1 101 = .ok (.iload 4, 2) := by decide +kernel
theorem d_MT_entry_103 : decode M_MT_entry.2.1 103 = .ok (.iload_n 1, 1) := by decide +kernel
theorem d_MT_entry_104 : decode M_MT_entry.2.1 104 = .ok (.invokevirtual 175, 3) := by decide +kernel
theorem d_MT_entry_107 : decode M_MT_entry.2.1 107 = .ok (.iconst (-1), 1) := by decide +kernel
theorem d_MT_entry_108 : decode M_MT_entry.2.1 108 = .ok (.if_icmp .eq 6, 3) := by decide +kernel
theorem d_MT_entry_111 : decode M_MT_entry.2.1 111 = .ok (.iinc 5 8, 3) := by decide +kernel
theorem d_MT_entry_114 : decode M_MT_entry.2.1 114 = .ok (.iload 5, 2) := by decide +kernel
theorem d_MT_entry_116 : decode M_MT_entry.2.1 116 = .ok (.ireturn, 1) := by decide +kernel
theorem d_Tr_cutOf_0 : decode M_Tr_cutOf.2.1 0 = .ok (.aload_n 0, 1) := by decide +kernel
theorem d_Tr_cutOf_1 : decode M_Tr_cutOf.2.1 1 = .ok (.getfield 19, 3) := by decide +kernel
theorem d_Tr_cutOf_4 : decode M_Tr_cutOf.2.1 4 = .ok (.iload_n 1, 1) := by decide +kernel
theorem d_Tr_cutOf_5 : decode M_Tr_cutOf.2.1 5 = .ok (.aaload, 1) := by decide +kernel
theorem d_Tr_cutOf_6 : decode M_Tr_cutOf.2.1 6 = .ok (.iload_n 2, 1) := by decide +kernel
theorem d_Tr_cutOf_7 : decode M_Tr_cutOf.2.1 7 = .ok (.iaload, 1) := by decide +kernel
theorem d_Tr_cutOf_8 : decode M_Tr_cutOf.2.1 8 = .ok (.ireturn, 1) := by decide +kernel
theorem d_MT_messages_0 : decode M_MT_messages.2.1 0 = .ok (.iload_n 1, 1) := by decide +kernel
theorem d_MT_messages_1 : decode M_MT_messages.2.1 1 = .ok (.ifCond .lt 9, 3) := by decide +kernel
theorem d_MT_messages_4 : decode M_MT_messages.2.1 4 = .ok (.iload_n 1, 1) := by decide +kernel
theorem d_MT_messages_5 : decode M_MT_messages.2.1 5 = .ok (.bipush 10, 2) := by decide +kernel
theorem d_MT_messages_7 : decode M_MT_messages.2.1 7 = .ok (.if_icmp .lt 5, 3) := by decide +kernel
theorem d_MT_messages_10 : decode M_MT_messages.2.1 10 = .ok (.iconst (-1), 1) := by decide +kernel
theorem d_MT_messages_11 : decode M_MT_messages.2.1 11 = .ok (.ireturn, 1) := by decide +kernel
theorem d_MT_messages_12 : decode M_MT_messages.2.1 12 = .ok (.aload_n 0, 1) := by decide +kernel
theorem d_MT_messages_13 : decode M_MT_messages.2.1 13 = .ok (.getfield 23, 3) := by decide +kernel
theorem d_MT_messages_16 : decode M_MT_messages.2.1 16 = .ok (.iload_n 1, 1) := by decide +kernel
theorem d_MT_messages_17 : decode M_MT_messages.2.1 17 = .ok (.invokevirtual 178, 3) := by decide +kernel
theorem d_MT_messages_20 : decode M_MT_messages.2.1 20 = .ok (.ireturn, 1) := by decide +kernel
theorem d_MT_lose_0 : decode M_MT_lose.2.1 0 = .ok (.iload_n 1, 1) := by decide +kernel
theorem d_MT_lose_1 : decode M_MT_lose.2.1 1 = .ok (.invokestatic 9, 3) := by decide +kernel
theorem d_MT_lose_4 : decode M_MT_lose.2.1 4 = .ok (.ifCond .eq 13, 3) := by decide +kernel
theorem d_MT_lose_7 : decode M_MT_lose.2.1 7 = .ok (.iload_n 2, 1) := by decide +kernel
theorem d_MT_lose_8 : decode M_MT_lose.2.1 8 = .ok (.ifCond .lt 9, 3) := by decide +kernel
theorem d_MT_lose_11 : decode M_MT_lose.2.1 11 = .ok (.iload_n 2, 1) := by decide +kernel
theorem d_MT_lose_12 : decode M_MT_lose.2.1 12 = .ok (.bipush 9, 2) := by decide +kernel
theorem d_MT_lose_14 : decode M_MT_lose.2.1 14 = .ok (.if_icmp .le 5, 3) := by decide +kernel
theorem d_MT_lose_17 : decode M_MT_lose.2.1 17 = .ok (.iconst 0, 1) := by decide +kernel
theorem d_MT_lose_18 : decode M_MT_lose.2.1 18 = .ok (.ireturn, 1) := by decide +kernel
theorem d_MT_lose_19 : decode M_MT_lose.2.1 19 = .ok (.aload_n 0, 1) := by decide +kernel
theorem d_MT_lose_20 : decode M_MT_lose.2.1 20 = .ok (.getfield 39, 3) := by decide +kernel
theorem d_MT_lose_23 : decode M_MT_lose.2.1 23 = .ok (.iload_n 1, 1) := by decide +kernel
theorem d_MT_lose_24 : decode M_MT_lose.2.1 24 = .ok (.iload_n 2, 1) := by decide +kernel
theorem d_MT_lose_25 : decode M_MT_lose.2.1 25 = .ok (.invokevirtual 181, 3) := by decide +kernel
theorem d_MT_lose_28 : decode M_MT_lose.2.1 28 = .ok (.iconst 1, 1) := by decide +kernel
theorem d_MT_lose_29 : decode M_MT_lose.2.1 29 = .ok (.ireturn, 1) := by decide +kernel
theorem d_MT_publish_0 : decode M_MT_publish.2.1 0 = .ok (.iload_n 1, 1) := by decide +kernel
theorem d_MT_publish_1 : decode M_MT_publish.2.1 1 = .ok (.invokestatic 9, 3) := by decide +kernel
theorem d_MT_publish_4 : decode M_MT_publish.2.1 4 = .ok (.ifCond .eq 21, 3) := by decide +kernel
theorem d_MT_publish_7 : decode M_MT_publish.2.1 7 = .ok (.iload_n 2, 1) := by decide +kernel
theorem d_MT_publish_8 : decode M_MT_publish.2.1 8 = .ok (.invokestatic 101, 3) := by decide +kernel
theorem d_MT_publish_11 : decode M_MT_publish.2.1 11 = .ok (.ifCond .eq 14, 3) := by decide +kernel
theorem d_MT_publish_14 : decode M_MT_publish.2.1 14 = .ok (.iload_n 3, 1) := by decide +kernel
theorem d_MT_publish_15 : decode M_MT_publish.2.1 15 = .ok (.iconst 1, 1) := by decide +kernel
theorem d_MT_publish_16 : decode M_MT_publish.2.1 16 = .ok (.if_icmp .lt 9, 3) := by decide +kernel
theorem d_MT_publish_19 : decode M_MT_publish.2.1 19 = .ok (.iload_n 3, 1) := by decide +kernel
theorem d_MT_publish_20 : decode M_MT_publish.2.1 20 = .ok (.bipush 16, 2) := by decide +kernel
theorem d_MT_publish_22 : decode M_MT_publish.2.1 22 = .ok (.if_icmp .le 5, 3) := by decide +kernel
theorem d_MT_publish_25 : decode M_MT_publish.2.1 25 = .ok (.iconst (-1), 1) := by decide +kernel
theorem d_MT_publish_26 : decode M_MT_publish.2.1 26 = .ok (.ireturn, 1) := by decide +kernel
theorem d_MT_publish_27 : decode M_MT_publish.2.1 27 = .ok (.aload_n 0, 1) := by decide +kernel
theorem d_MT_publish_28 : decode M_MT_publish.2.1 28 = .ok (.getfield 73, 3) := by decide +kernel
theorem d_MT_publish_31 : decode M_MT_publish.2.1 31 = .ok (.invokevirtual 184, 3) := by decide +kernel
theorem d_MT_publish_34 : decode M_MT_publish.2.1 34 = .ok (.ifCond .eq 5, 3) := by decide +kernel
theorem d_MT_publish_37 : decode M_MT_publish.2.1 37 = .ok (.iconst (-1), 1) := by decide +kernel
theorem d_MT_publish_38 : decode M_MT_publish.2.1 38 = .ok (.ireturn, 1) := by decide +kernel
theorem d_MT_publish_39 : decode M_MT_publish.2.1 39 = .ok (.aload_n 0, 1) := by decide +kernel
theorem d_MT_publish_40 : decode M_MT_publish.2.1 40 = .ok (.getfield 73, 3) := by decide +kernel
theorem d_MT_publish_43 : decode M_MT_publish.2.1 43 = .ok (.iload_n 1, 1) := by decide +kernel
theorem d_MT_publish_44 : decode M_MT_publish.2.1 44 = .ok (.iload_n 2, 1) := by decide +kernel
theorem d_MT_publish_45 : decode M_MT_publish.2.1 45 = .ok (.iload_n 3, 1) := by decide +kernel
theorem d_MT_publish_46 : decode M_MT_publish.2.1 46 = .ok (.invokevirtual 187, 3) := by decide +kernel
theorem d_MT_publish_49 : decode M_MT_publish.2.1 49 = .ok (.ireturn, 1) := by decide +kernel
theorem d_Fi_isFull_0 : decode M_Fi_isFull.2.1 0 = .ok (.aload_n 0, 1) := by decide +kernel
theorem d_Fi_isFull_1 : decode M_Fi_isFull.2.1 1 = .ok (.getfield 38, 3) := by decide +kernel
theorem d_Fi_isFull_4 : decode M_Fi_isFull.2.1 4 = .ok (.iconst 4, 1) := by decide +kernel
theorem d_Fi_isFull_5 : decode M_Fi_isFull.2.1 5 = .ok (.if_icmp .lt 7, 3) := by decide +kernel
theorem d_Fi_isFull_8 : decode M_Fi_isFull.2.1 8 = .ok (.iconst 1, 1) := by decide +kernel
theorem d_Fi_isFull_9 : decode M_Fi_isFull.2.1 9 = .ok (.goto 4, 3) := by decide +kernel
theorem d_Fi_isFull_12 : decode M_Fi_isFull.2.1 12 = .ok (.iconst 0, 1) := by decide +kernel
theorem d_Fi_isFull_13 : decode M_Fi_isFull.2.1 13 = .ok (.ireturn, 1) := by decide +kernel
theorem d_Fi_create_0 : decode M_Fi_create.2.1 0 = .ok (.aload_n 0, 1) := by decide +kernel
theorem d_Fi_create_1 : decode M_Fi_create.2.1 1 = .ok (.getfield 9, 3) := by decide +kernel
theorem d_Fi_create_4 : decode M_Fi_create.2.1 4 = .ok (.aload_n 0, 1) := by decide +kernel
theorem d_Fi_create_5 : decode M_Fi_create.2.1 5 = .ok (.getfield 38, 3) := by decide +kernel
theorem d_Fi_create_8 : decode M_Fi_create.2.1 8 = .ok (.iload_n 1, 1) := by decide +kernel
theorem d_Fi_create_9 : decode M_Fi_create.2.1 9 = .ok (.iastore, 1) := by decide +kernel
theorem d_Fi_create_10 : decode M_Fi_create.2.1 10 = .ok (.aload_n 0, 1) := by decide +kernel
theorem d_Fi_create_11 : decode M_Fi_create.2.1 11 = .ok (.getfield 15, 3) := by decide +kernel
theorem d_Fi_create_14 : decode M_Fi_create.2.1 14 = .ok (.aload_n 0, 1) := by decide +kernel
theorem d_Fi_create_15 : decode M_Fi_create.2.1 15 = .ok (.getfield 38, 3) := by decide +kernel
theorem d_Fi_create_18 : decode M_Fi_create.2.1 18 = .ok (.iload_n 2, 1) := by decide +kernel
theorem d_Fi_create_19 : decode M_Fi_create.2.1 19 = .ok (.iastore, 1) := by decide +kernel
theorem d_Fi_create_20 : decode M_Fi_create.2.1 20 = .ok (.aload_n 0, 1) := by decide +kernel
theorem d_Fi_create_21 : decode M_Fi_create.2.1 21 = .ok (.getfield 18, 3) := by decide +kernel
theorem d_Fi_create_24 : decode M_Fi_create.2.1 24 = .ok (.aload_n 0, 1) := by decide +kernel
theorem d_Fi_create_25 : decode M_Fi_create.2.1 25 = .ok (.getfield 38, 3) := by decide +kernel
theorem d_Fi_create_28 : decode M_Fi_create.2.1 28 = .ok (.iload_n 3, 1) := by decide +kernel
theorem d_Fi_create_29 : decode M_Fi_create.2.1 29 = .ok (.iastore, 1) := by decide +kernel
theorem d_Fi_create_30 : decode M_Fi_create.2.1 30 = .ok (.aload_n 0, 1) := by decide +kernel
theorem d_Fi_create_31 : decode M_Fi_create.2.1 31 = .ok (.dup, 1) := by decide +kernel
theorem d_Fi_create_32 : decode M_Fi_create.2.1 32 = .ok (.getfield 38, 3) := by decide +kernel
theorem d_Fi_create_35 : decode M_Fi_create.2.1 35 = .ok (.iconst 1, 1) := by decide +kernel
theorem d_Fi_create_36 : decode M_Fi_create.2.1 36 = .ok (.iadd, 1) := by decide +kernel
theorem d_Fi_create_37 : decode M_Fi_create.2.1 37 = .ok (.putfield 38, 3) := by decide +kernel
theorem d_Fi_create_40 : decode M_Fi_create.2.1 40 = .ok (.aload_n 0, 1) := by decide +kernel
theorem d_Fi_create_41 : decode M_Fi_create.2.1 41 = .ok (.getfield 38, 3) := by decide +kernel
theorem d_Fi_create_44 : decode M_Fi_create.2.1 44 = .ok (.iconst 1, 1) := by decide +kernel
theorem d_Fi_create_45 : decode M_Fi_create.2.1 45 = .ok (.isub, 1) := by decide +kernel
theorem d_Fi_create_46 : decode M_Fi_create.2.1 46 = .ok (.ireturn, 1) := by decide +kernel
theorem d_MT_emit_0 : decode M_MT_emit.2.1 0 = .ok (.aload_n 0, 1) := by decide +kernel
theorem d_MT_emit_1 : decode M_MT_emit.2.1 1 = .ok (.getfield 73, 3) := by decide +kernel
theorem d_MT_emit_4 : decode M_MT_emit.2.1 4 = .ok (.iload_n 1, 1) := by decide +kernel
theorem d_MT_emit_5 : decode M_MT_emit.2.1 5 = .ok (.invokevirtual 191, 3) := by decide +kernel
theorem d_MT_emit_8 : decode M_MT_emit.2.1 8 = .ok (.ifCond .ne 5, 3) := by decide +kernel
theorem d_MT_emit_11 : decode M_MT_emit.2.1 11 = .ok (.iconst (-1), 1) := by decide +kernel
theorem d_MT_emit_12 : decode M_MT_emit.2.1 12 = .ok (.ireturn, 1) := by decide +kernel
theorem d_MT_emit_13 : decode M_MT_emit.2.1 13 = .ok (.aload_n 0, 1) := by decide +kernel
theorem d_MT_emit_14 : decode M_MT_emit.2.1 14 = .ok (.aload_n 0, 1) := by decide +kernel
theorem d_MT_emit_15 : decode M_MT_emit.2.1 15 = .ok (.getfield 73, 3) := by decide +kernel
theorem d_MT_emit_18 : decode M_MT_emit.2.1 18 = .ok (.iload_n 1, 1) := by decide +kernel
theorem d_MT_emit_19 : decode M_MT_emit.2.1 19 = .ok (.invokevirtual 194, 3) := by decide +kernel
theorem d_MT_emit_22 : decode M_MT_emit.2.1 22 = .ok (.aload_n 0, 1) := by decide +kernel
theorem d_MT_emit_23 : decode M_MT_emit.2.1 23 = .ok (.getfield 73, 3) := by decide +kernel
theorem d_MT_emit_26 : decode M_MT_emit.2.1 26 = .ok (.iload_n 1, 1) := by decide +kernel
theorem d_MT_emit_27 : decode M_MT_emit.2.1 27 = .ok (.invokevirtual 197, 3) := by decide +kernel
theorem d_MT_emit_30 : decode M_MT_emit.2.1 30 = .ok (.invokevirtual 200, 3) := by decide +kernel
theorem d_MT_emit_33 : decode M_MT_emit.2.1 33 = .ok (.iconst (-1), 1) := by decide +kernel
theorem d_MT_emit_34 : decode M_MT_emit.2.1 34 = .ok (.if_icmp .ne 5, 3) := by decide +kernel
theorem d_MT_emit_37 : decode M_MT_emit.2.1 37 = .ok (.iconst (-1), 1) := by decide +kernel
theorem d_MT_emit_38 : decode M_MT_emit.2.1 38 = .ok (.ireturn, 1) := by decide +kernel
theorem d_MT_emit_39 : decode M_MT_emit.2.1 39 = .ok (.aload_n 0, 1) := by decide +kernel
theorem d_MT_emit_40 : decode M_MT_emit.2.1 40 = .ok (.getfield 73, 3) := by decide +kernel
theorem d_MT_emit_43 : decode M_MT_emit.2.1 43 = .ok (.iload_n 1, 1) := by decide +kernel
theorem d_MT_emit_44 : decode M_MT_emit.2.1 44 = .ok (.invokevirtual 203, 3) := by decide +kernel
theorem d_MT_emit_47 : decode M_MT_emit.2.1 47 = .ok (.istore_n 2, 1) := by decide +kernel
theorem d_MT_emit_48 : decode M_MT_emit.2.1 48 = .ok (.aload_n 0, 1) := by decide +kernel
theorem d_MT_emit_49 : decode M_MT_emit.2.1 49 = .ok (.getfield 73, 3) := by decide +kernel
theorem d_MT_emit_52 : decode M_MT_emit.2.1 52 = .ok (.iload_n 1, 1) := by decide +kernel
theorem d_MT_emit_53 : decode M_MT_emit.2.1 53 = .ok (.iload_n 2, 1) := by decide +kernel
theorem d_MT_emit_54 : decode M_MT_emit.2.1 54 = .ok (.aload_n 0, 1) := by decide +kernel
theorem d_MT_emit_55 : decode M_MT_emit.2.1 55 = .ok (.getfield 64, 3) := by decide +kernel
theorem d_MT_emit_58 : decode M_MT_emit.2.1 58 = .ok (.invokevirtual 141, 3) := by decide +kernel
theorem d_MT_emit_61 : decode M_MT_emit.2.1 61 = .ok (.invokevirtual 206, 3) := by decide +kernel
theorem d_MT_emit_64 : decode M_MT_emit.2.1 64 = .ok (.iload_n 2, 1) := by decide +kernel
theorem d_MT_emit_65 : decode M_MT_emit.2.1 65 = .ok (.ireturn, 1) := by decide +kernel
theorem d_Fi_exists_0 : decode M_Fi_exists.2.1 0 = .ok (.iload_n 1, 1) := by decide +kernel
theorem d_Fi_exists_1 : decode M_Fi_exists.2.1 1 = .ok (.ifCond .lt 15, 3) := by decide +kernel
theorem d_Fi_exists_4 : decode M_Fi_exists.2.1 4 = .ok (.iload_n 1, 1) := by decide +kernel
theorem d_Fi_exists_5 : decode M_Fi_exists.2.1 5 = .ok (.aload_n 0, 1) := by decide +kernel
theorem d_Fi_exists_6 : decode M_Fi_exists.2.1 6 = .ok (.getfield 38, 3) := by decide +kernel
theorem d_Fi_exists_9 : decode M_Fi_exists.2.1 9 = .ok (.if_icmp .ge 7, 3) := by decide +kernel
theorem d_Fi_exists_12 : decode M_Fi_exists.2.1 12 = .ok (.iconst 1, 1) := by decide +kernel
theorem d_Fi_exists_13 : decode M_Fi_exists.2.1 13 = .ok (.goto 4, 3) := by decide +kernel
theorem d_Fi_exists_16 : decode M_Fi_exists.2.1 16 = .ok (.iconst 0, 1) := by decide +kernel
theorem d_Fi_exists_17 : decode M_Fi_exists.2.1 17 = .ok (.ireturn, 1) := by decide +kernel
theorem d_Fi_sourceOf_0 : decode M_Fi_sourceOf.2.1 0 = .ok (.aload_n 0, 1) := by decide +kernel
theorem d_Fi_sourceOf_1 : decode M_Fi_sourceOf.2.1 1 = .ok (.getfield 9, 3) := by decide +kernel
theorem d_Fi_sourceOf_4 : decode M_Fi_sourceOf.2.1 4 = .ok (.iload_n 1, 1) := by decide +kernel
theorem d_Fi_sourceOf_5 : decode M_Fi_sourceOf.2.1 5 = .ok (.iaload, 1) := by decide +kernel
theorem d_Fi_sourceOf_6 : decode M_Fi_sourceOf.2.1 6 = .ok (.ireturn, 1) := by decide +kernel
theorem d_Fi_groupOf_0 : decode M_Fi_groupOf.2.1 0 = .ok (.aload_n 0, 1) := by decide +kernel
theorem d_Fi_groupOf_1 : decode M_Fi_groupOf.2.1 1 = .ok (.getfield 15, 3) := by decide +kernel
theorem d_Fi_groupOf_4 : decode M_Fi_groupOf.2.1 4 = .ok (.iload_n 1, 1) := by decide +kernel
theorem d_Fi_groupOf_5 : decode M_Fi_groupOf.2.1 5 = .ok (.iaload, 1) := by decide +kernel
theorem d_Fi_groupOf_6 : decode M_Fi_groupOf.2.1 6 = .ok (.ireturn, 1) := by decide +kernel
theorem d_Fi_takeTurn_0 : decode M_Fi_takeTurn.2.1 0 = .ok (.iconst 0, 1) := by decide +kernel
theorem d_Fi_takeTurn_1 : decode M_Fi_takeTurn.2.1 1 = .ok (.istore_n 2, 1) := by decide +kernel
theorem d_Fi_takeTurn_2 : decode M_Fi_takeTurn.2.1 2 = .ok (.iload_n 2, 1) := by decide +kernel
theorem d_Fi_takeTurn_3 : decode M_Fi_takeTurn.2.1 3 = .ok (.aload_n 0, 1) := by decide +kernel
theorem d_Fi_takeTurn_4 : decode M_Fi_takeTurn.2.1 4 = .ok (.getfield 18, 3) := by decide +kernel
theorem d_Fi_takeTurn_7 : decode M_Fi_takeTurn.2.1 7 = .ok (.iload_n 1, 1) := by decide +kernel
theorem d_Fi_takeTurn_8 : decode M_Fi_takeTurn.2.1 8 = .ok (.iaload, 1) := by decide +kernel
theorem d_Fi_takeTurn_9 : decode M_Fi_takeTurn.2.1 9 = .ok (.if_icmp .ge 38, 3) := by decide +kernel
theorem d_Fi_takeTurn_12 : decode M_Fi_takeTurn.2.1 12 = .ok (.aload_n 0, 1) := by decide +kernel
theorem d_Fi_takeTurn_13 : decode M_Fi_takeTurn.2.1 13 = .ok (.getfield 24, 3) := by decide +kernel
theorem d_Fi_takeTurn_16 : decode M_Fi_takeTurn.2.1 16 = .ok (.iload_n 1, 1) := by decide +kernel
theorem d_Fi_takeTurn_17 : decode M_Fi_takeTurn.2.1 17 = .ok (.iaload, 1) := by decide +kernel
theorem d_Fi_takeTurn_18 : decode M_Fi_takeTurn.2.1 18 = .ok (.iload_n 2, 1) := by decide +kernel
theorem d_Fi_takeTurn_19 : decode M_Fi_takeTurn.2.1 19 = .ok (.invokestatic 57, 3) := by decide +kernel
theorem d_Fi_takeTurn_22 : decode M_Fi_takeTurn.2.1 22 = .ok (.ifCond .eq 19, 3) := by decide +kernel
theorem d_Fi_takeTurn_25 : decode M_Fi_takeTurn.2.1 25 = .ok (.aload_n 0, 1) := by decide +kernel
theorem d_Fi_takeTurn_26 : decode M_Fi_takeTurn.2.1 26 = .ok (.getfield 24, 3) := by decide +kernel
theorem d_Fi_takeTurn_29 : decode M_Fi_takeTurn.2.1 29 = .ok (.iload_n 1, 1) := by decide +kernel
theorem d_Fi_takeTurn_30 : decode M_Fi_takeTurn.2.1 30 = .ok (.dup2, 1) := by decide +kernel
theorem d_Fi_takeTurn_31 : decode M_Fi_takeTurn.2.1 31 = .ok (.iaload, 1) := by decide +kernel
theorem d_Fi_takeTurn_32 : decode M_Fi_takeTurn.2.1 32 = .ok (.iconst 1, 1) := by decide +kernel
theorem d_Fi_takeTurn_33 : decode M_Fi_takeTurn.2.1 33 = .ok (.iload_n 2, 1) := by decide +kernel
theorem d_Fi_takeTurn_34 : decode M_Fi_takeTurn.2.1 34 = .ok (.ishl, 1) := by decide +kernel
theorem d_Fi_takeTurn_35 : decode M_Fi_takeTurn.2.1 35 = .ok (.iconst (-1), 1) := by decide +kernel
theorem d_Fi_takeTurn_36 : decode M_Fi_takeTurn.2.1 36 = .ok (.ixor, 1) := by decide +kernel
theorem d_Fi_takeTurn_37 : decode M_Fi_takeTurn.2.1 37 = .ok (.iand, 1) := by decide +kernel
theorem d_Fi_takeTurn_38 : decode M_Fi_takeTurn.2.1 38 = .ok (.iastore, 1) := by decide +kernel
theorem d_Fi_takeTurn_39 : decode M_Fi_takeTurn.2.1 39 = .ok (.iload_n 2, 1) := by decide +kernel
theorem d_Fi_takeTurn_40 : decode M_Fi_takeTurn.2.1 40 = .ok (.ireturn, 1) := by decide +kernel
theorem d_Fi_takeTurn_41 : decode M_Fi_takeTurn.2.1 41 = .ok (.iinc 2 1, 3) := by decide +kernel
theorem d_Fi_takeTurn_44 : decode M_Fi_takeTurn.2.1 44 = .ok (.goto (-42), 3) := by decide +kernel
theorem d_Fi_takeTurn_47 : decode M_Fi_takeTurn.2.1 47 = .ok (.aload_n 0, 1) := by decide +kernel
theorem d_Fi_takeTurn_48 : decode M_Fi_takeTurn.2.1 48 = .ok (.getfield 21, 3) := by decide +kernel
theorem d_Fi_takeTurn_51 : decode M_Fi_takeTurn.2.1 51 = .ok (.iload_n 1, 1) := by decide +kernel
theorem d_Fi_takeTurn_52 : decode M_Fi_takeTurn.2.1 52 = .ok (.iaload, 1) := by decide +kernel
theorem d_Fi_takeTurn_53 : decode M_Fi_takeTurn.2.1 53 = .ok (.aload_n 0, 1) := by decide +kernel
theorem d_Fi_takeTurn_54 : decode M_Fi_takeTurn.2.1 54 = .ok (.getfield 18, 3) := by decide +kernel
theorem d_Fi_takeTurn_57 : decode M_Fi_takeTurn.2.1 57 = .ok (.iload_n 1, 1) := by decide +kernel
theorem d_Fi_takeTurn_58 : decode M_Fi_takeTurn.2.1 58 = .ok (.iaload, 1) := by decide +kernel
theorem d_Fi_takeTurn_59 : decode M_Fi_takeTurn.2.1 59 = .ok (.if_icmp .ne 10, 3) := by decide +kernel
theorem d_Fi_takeTurn_62 : decode M_Fi_takeTurn.2.1 62 = .ok (.aload_n 0, 1) := by decide +kernel
theorem d_Fi_takeTurn_63 : decode M_Fi_takeTurn.2.1 63 = .ok (.getfield 18, 3) := by decide +kernel
theorem d_Fi_takeTurn_66 : decode M_Fi_takeTurn.2.1 66 = .ok (.iload_n 1, 1) := by decide +kernel
theorem d_Fi_takeTurn_67 : decode M_Fi_takeTurn.2.1 67 = .ok (.iaload, 1) := by decide +kernel
theorem d_Fi_takeTurn_68 : decode M_Fi_takeTurn.2.1 68 = .ok (.ireturn, 1) := by decide +kernel
theorem d_Fi_takeTurn_69 : decode M_Fi_takeTurn.2.1 69 = .ok (.aload_n 0, 1) := by decide +kernel
theorem d_Fi_takeTurn_70 : decode M_Fi_takeTurn.2.1 70 = .ok (.getfield 21, 3) := by decide +kernel
theorem d_Fi_takeTurn_73 : decode M_Fi_takeTurn.2.1 73 = .ok (.iload_n 1, 1) := by decide +kernel
theorem d_Fi_takeTurn_74 : decode M_Fi_takeTurn.2.1 74 = .ok (.dup2, 1) := by decide +kernel
theorem d_Fi_takeTurn_75 : decode M_Fi_takeTurn.2.1 75 = .ok (.iaload, 1) := by decide +kernel
theorem d_Fi_takeTurn_76 : decode M_Fi_takeTurn.2.1 76 = .ok (.iconst 1, 1) := by decide +kernel
theorem d_Fi_takeTurn_77 : decode M_Fi_takeTurn.2.1 77 = .ok (.iadd, 1) := by decide +kernel
theorem d_Fi_takeTurn_78 : decode M_Fi_takeTurn.2.1 78 = .ok (.iastore, 1) := by decide +kernel
theorem d_Fi_takeTurn_79 : decode M_Fi_takeTurn.2.1 79 = .ok (.aload_n 0, 1) := by decide +kernel
theorem d_Fi_takeTurn_80 : decode M_Fi_takeTurn.2.1 80 = .ok (.getfield 21, 3) := by decide +kernel
theorem d_Fi_takeTurn_83 : decode M_Fi_takeTurn.2.1 83 = .ok (.iload_n 1, 1) := by decide +kernel
theorem d_Fi_takeTurn_84 : decode M_Fi_takeTurn.2.1 84 = .ok (.iaload, 1) := by decide +kernel
theorem d_Fi_takeTurn_85 : decode M_Fi_takeTurn.2.1 85 = .ok (.iconst 1, 1) := by decide +kernel
theorem d_Fi_takeTurn_86 : decode M_Fi_takeTurn.2.1 86 = .ok (.isub, 1) := by decide +kernel
theorem d_Fi_takeTurn_87 : decode M_Fi_takeTurn.2.1 87 = .ok (.ireturn, 1) := by decide +kernel
theorem d_Fi_deliver_0 : decode M_Fi_deliver.2.1 0 = .ok (.iconst 0, 1) := by decide +kernel
theorem d_Fi_deliver_1 : decode M_Fi_deliver.2.1 1 = .ok (.istore 4, 2) := by decide +kernel
theorem d_Fi_deliver_3 : decode M_Fi_deliver.2.1 3 = .ok (.iload 4, 2) := by decide +kernel
theorem d_Fi_deliver_5 : decode M_Fi_deliver.2.1 5 = .ok (.bipush 6, 2) := by decide +kernel
theorem d_Fi_deliver_7 : decode M_Fi_deliver.2.1 7 = .ok (.if_icmp .ge 44, 3) := by decide +kernel
theorem d_Fi_deliver_10 : decode M_Fi_deliver.2.1 10 = .ok (.iload_n 3, 1) := by decide +kernel
theorem d_Fi_deliver_11 : decode M_Fi_deliver.2.1 11 = .ok (.iload 4, 2) := by decide +kernel
theorem d_Fi_deliver_13 : decode M_Fi_deliver.2.1 13 = .ok (.invokestatic 57, 3) := by decide +kernel
theorem d_Fi_deliver_16 : decode M_Fi_deliver.2.1 16 = .ok (.ifCond .eq 29, 3) := by decide +kernel
theorem d_Fi_deliver_19 : decode M_Fi_deliver.2.1 19 = .ok (.aload_n 0, 1) := by decide +kernel
theorem d_Fi_deliver_20 : decode M_Fi_deliver.2.1 20 = .ok (.getfield 49, 3) := by decide +kernel
theorem d_Fi_deliver_23 : decode M_Fi_deliver.2.1 23 = .ok (.iload 4, 2) := by decide +kernel
theorem d_Fi_deliver_25 : decode M_Fi_deliver.2.1 25 = .ok (.aload_n 0, 1) := by decide +kernel
theorem d_Fi_deliver_26 : decode M_Fi_deliver.2.1 26 = .ok (.getfield 15, 3) := by decide +kernel
theorem d_Fi_deliver_29 : decode M_Fi_deliver.2.1 29 = .ok (.iload_n 1, 1) := by decide +kernel
theorem d_Fi_deliver_30 : decode M_Fi_deliver.2.1 30 = .ok (.iaload, 1) := by decide +kernel
theorem d_Fi_deliver_31 : decode M_Fi_deliver.2.1 31 = .ok (.invokevirtual 61, 3) := by decide +kernel
theorem d_Fi_deliver_34 : decode M_Fi_deliver.2.1 34 = .ok (.ifCond .eq 11, 3) := by decide +kernel
theorem d_Fi_deliver_37 : decode M_Fi_deliver.2.1 37 = .ok (.aload_n 0, 1) := by decide +kernel
theorem d_Fi_deliver_38 : decode M_Fi_deliver.2.1 38 = .ok (.iload_n 1, 1) := by decide +kernel
theorem d_Fi_deliver_39 : decode M_Fi_deliver.2.1 39 = .ok (.iload_n 2, 1) := by decide +kernel
theorem d_Fi_deliver_40 : decode M_Fi_deliver.2.1 40 = .ok (.iload 4, 2) := by decide +kernel
theorem d_Fi_deliver_42 : decode M_Fi_deliver.2.1 42 = .ok (.invokevirtual 66, 3) := by decide +kernel
theorem d_Fi_deliver_45 : decode M_Fi_deliver.2.1 45 = .ok (.iinc 4 1, 3) := by decide +kernel
theorem d_Fi_deliver_48 : decode M_Fi_deliver.2.1 48 = .ok (.goto (-45), 3) := by decide +kernel
theorem d_Fi_deliver_51 : decode M_Fi_deliver.2.1 51 = .ok (.return_, 1) := by decide +kernel
theorem d_Fi_store_0 : decode M_Fi_store.2.1 0 = .ok (.iload_n 2, 1) := by decide +kernel
theorem d_Fi_store_1 : decode M_Fi_store.2.1 1 = .ok (.aload_n 0, 1) := by decide +kernel
theorem d_Fi_store_2 : decode M_Fi_store.2.1 2 = .ok (.getfield 18, 3) := by decide +kernel
theorem d_Fi_store_5 : decode M_Fi_store.2.1 5 = .ok (.iload_n 1, 1) := by decide +kernel
theorem d_Fi_store_6 : decode M_Fi_store.2.1 6 = .ok (.iaload, 1) := by decide +kernel
theorem d_Fi_store_7 : decode M_Fi_store.2.1 7 = .ok (.if_icmp .ge 17, 3) := by decide +kernel
theorem d_Fi_store_10 : decode M_Fi_store.2.1 10 = .ok (.aload_n 0, 1) := by decide +kernel
theorem d_Fi_store_11 : decode M_Fi_store.2.1 11 = .ok (.getfield 29, 3) := by decide +kernel
theorem d_Fi_store_14 : decode M_Fi_store.2.1 14 = .ok (.iload_n 1, 1) := by decide +kernel
theorem d_Fi_store_15 : decode M_Fi_store.2.1 15 = .ok (.aaload, 1) := by decide +kernel
theorem d_Fi_store_16 : decode M_Fi_store.2.1 16 = .ok (.iload_n 3, 1) := by decide +kernel
theorem d_Fi_store_17 : decode M_Fi_store.2.1 17 = .ok (.dup2, 1) := by decide +kernel
theorem d_Fi_store_18 : decode M_Fi_store.2.1 18 = .ok (.iaload, 1) := by decide +kernel
theorem d_Fi_store_19 : decode M_Fi_store.2.1 19 = .ok (.iconst 1, 1) := by decide +kernel
theorem d_Fi_store_20 : decode M_Fi_store.2.1 20 = .ok (.iload_n 2, 1) := by decide +kernel
theorem d_Fi_store_21 : decode M_Fi_store.2.1 21 = .ok (.ishl, 1) := by decide +kernel
theorem d_Fi_store_22 : decode M_Fi_store.2.1 22 = .ok (.ior, 1) := by decide +kernel
theorem d_Fi_store_23 : decode M_Fi_store.2.1 23 = .ok (.iastore, 1) := by decide +kernel
theorem d_Fi_store_24 : decode M_Fi_store.2.1 24 = .ok (.aload_n 0, 1) := by decide +kernel
theorem d_Fi_store_25 : decode M_Fi_store.2.1 25 = .ok (.getfield 32, 3) := by decide +kernel
theorem d_Fi_store_28 : decode M_Fi_store.2.1 28 = .ok (.iload_n 1, 1) := by decide +kernel
theorem d_Fi_store_29 : decode M_Fi_store.2.1 29 = .ok (.aaload, 1) := by decide +kernel
theorem d_Fi_store_30 : decode M_Fi_store.2.1 30 = .ok (.iload_n 3, 1) := by decide +kernel
theorem d_Fi_store_31 : decode M_Fi_store.2.1 31 = .ok (.aload_n 0, 1) := by decide +kernel
theorem d_Fi_store_32 : decode M_Fi_store.2.1 32 = .ok (.getfield 32, 3) := by decide +kernel
theorem d_Fi_store_35 : decode M_Fi_store.2.1 35 = .ok (.iload_n 1, 1) := by decide +kernel
theorem d_Fi_store_36 : decode M_Fi_store.2.1 36 = .ok (.aaload, 1) := by decide +kernel
theorem d_Fi_store_37 : decode M_Fi_store.2.1 37 = .ok (.iload_n 3, 1) := by decide +kernel
theorem d_Fi_store_38 : decode M_Fi_store.2.1 38 = .ok (.iaload, 1) := by decide +kernel
theorem d_Fi_store_39 : decode M_Fi_store.2.1 39 = .ok (.iload_n 2, 1) := by decide +kernel
theorem d_Fi_store_40 : decode M_Fi_store.2.1 40 = .ok (.iconst 1, 1) := by decide +kernel
theorem d_Fi_store_41 : decode M_Fi_store.2.1 41 = .ok (.iadd, 1) := by decide +kernel
theorem d_Fi_store_42 : decode M_Fi_store.2.1 42 = .ok (.aload_n 0, 1) := by decide +kernel
theorem d_Fi_store_43 : decode M_Fi_store.2.1 43 = .ok (.getfield 18, 3) := by decide +kernel
theorem d_Fi_store_46 : decode M_Fi_store.2.1 46 = .ok (.iload_n 1, 1) := by decide +kernel
theorem d_Fi_store_47 : decode M_Fi_store.2.1 47 = .ok (.iaload, 1) := by decide +kernel
theorem d_Fi_store_48 : decode M_Fi_store.2.1 48 = .ok (.invokestatic 70, 3) := by decide +kernel
theorem d_Fi_store_51 : decode M_Fi_store.2.1 51 = .ok (.invokestatic 76, 3) := by decide +kernel
theorem d_Fi_store_54 : decode M_Fi_store.2.1 54 = .ok (.iastore, 1) := by decide +kernel
theorem d_Fi_store_55 : decode M_Fi_store.2.1 55 = .ok (.return_, 1) := by decide +kernel
theorem d_MT_requests_0 : decode M_MT_requests.2.1 0 = .ok (.aload_n 0, 1) := by decide +kernel
theorem d_MT_requests_1 : decode M_MT_requests.2.1 1 = .ok (.getfield 73, 3) := by decide +kernel
theorem d_MT_requests_4 : decode M_MT_requests.2.1 4 = .ok (.iload_n 1, 1) := by decide +kernel
theorem d_MT_requests_5 : decode M_MT_requests.2.1 5 = .ok (.invokevirtual 191, 3) := by decide +kernel
theorem d_MT_requests_8 : decode M_MT_requests.2.1 8 = .ok (.ifCond .ne 5, 3) := by decide +kernel
theorem d_MT_requests_11 : decode M_MT_requests.2.1 11 = .ok (.iconst (-1), 1) := by decide +kernel
theorem d_MT_requests_12 : decode M_MT_requests.2.1 12 = .ok (.ireturn, 1) := by decide +kernel
theorem d_MT_requests_13 : decode M_MT_requests.2.1 13 = .ok (.aload_n 0, 1) := by decide +kernel
theorem d_MT_requests_14 : decode M_MT_requests.2.1 14 = .ok (.getfield 73, 3) := by decide +kernel
theorem d_MT_requests_17 : decode M_MT_requests.2.1 17 = .ok (.iload_n 1, 1) := by decide +kernel
theorem d_MT_requests_18 : decode M_MT_requests.2.1 18 = .ok (.invokevirtual 209, 3) := by decide +kernel
theorem d_MT_requests_21 : decode M_MT_requests.2.1 21 = .ok (.ireturn, 1) := by decide +kernel
theorem d_Fi_askAgain_0 : decode M_Fi_askAgain.2.1 0 = .ok (.aload_n 0, 1) := by decide +kernel
theorem d_Fi_askAgain_1 : decode M_Fi_askAgain.2.1 1 = .ok (.iload_n 1, 1) := by decide +kernel
theorem d_Fi_askAgain_2 : decode M_Fi_askAgain.2.1 2 = .ok (.invokevirtual 79, 3) := by decide +kernel
theorem d_Fi_askAgain_5 : decode M_Fi_askAgain.2.1 5 = .ok (.iconst 0, 1) := by decide +kernel
theorem d_Fi_askAgain_6 : decode M_Fi_askAgain.2.1 6 = .ok (.istore_n 2, 1) := by decide +kernel
theorem d_Fi_askAgain_7 : decode M_Fi_askAgain.2.1 7 = .ok (.iconst 0, 1) := by decide +kernel
theorem d_Fi_askAgain_8 : decode M_Fi_askAgain.2.1 8 = .ok (.istore_n 3, 1) := by decide +kernel
theorem d_Fi_askAgain_9 : decode M_Fi_askAgain.2.1 9 = .ok (.iconst 0, 1) := by decide +kernel
theorem d_Fi_askAgain_10 : decode M_Fi_askAgain.2.1 10 = .ok (.istore 4, 2) := by decide +kernel
theorem d_Fi_askAgain_12 : decode M_Fi_askAgain.2.1 12 = .ok (.iload 4, 2) := by decide +kernel
theorem d_Fi_askAgain_14 : decode M_Fi_askAgain.2.1 14 = .ok (.bipush 8, 2) := by decide +kernel
theorem d_Fi_askAgain_16 : decode M_Fi_askAgain.2.1 16 = .ok (.if_icmp .ge 88, 3) := by decide +kernel
theorem d_Fi_askAgain_19 : decode M_Fi_askAgain.2.1 19 = .ok (.iconst 0, 1) := by decide +kernel
theorem d_Fi_askAgain_20 : decode M_Fi_askAgain.2.1 20 = .ok (.istore 5, 2) := by decide +kernel
theorem d_Fi_askAgain_22 : decode M_Fi_askAgain.2.1 22 = .ok (.iload 5, 2) := by decide +kernel
theorem d_Fi_askAgain_24 : decode M_Fi_askAgain.2.1 24 = .ok (.bipush 6, 2) := by decide +kernel
theorem d_Fi_askAgain_26 : decode M_Fi_askAgain.2.1 26 = .ok (.if_icmp .ge 72, 3) := by decide +kernel
theorem d_Fi_askAgain_29 : decode M_Fi_askAgain.2.1 29 = .ok (.aload_n 0, 1) := by decide +kernel
theorem d_Fi_askAgain_30 : decode M_Fi_askAgain.2.1 30 = .ok (.getfield 35, 3) := by decide +kernel
theorem d_Fi_askAgain_33 : decode M_Fi_askAgain.2.1 33 = .ok (.iload 5, 2) := by decide +kernel
theorem d_Fi_askAgain_35 : decode M_Fi_askAgain.2.1 35 = .ok (.iaload, 1) := by decide +kernel
theorem d_Fi_askAgain_36 : decode M_Fi_askAgain.2.1 36 = .ok (.iload 4, 2) := by decide +kernel
theorem d_Fi_askAgain_38 : decode M_Fi_askAgain.2.1 38 = .ok (.if_icmp .eq 6, 3) := by decide +kernel
theorem d_Fi_askAgain_41 : decode M_Fi_askAgain.2.1 41 = .ok (.goto 51, 3) := by decide +kernel
theorem d_Fi_askAgain_44 : decode M_Fi_askAgain.2.1 44 = .ok (.aload_n 0, 1) := by decide +kernel
theorem d_Fi_askAgain_45 : decode M_Fi_askAgain.2.1 45 = .ok (.iload_n 1, 1) := by decide +kernel
theorem d_Fi_askAgain_46 : decode M_Fi_askAgain.2.1 46 = .ok (.iload 5, 2) := by decide +kernel
theorem d_Fi_askAgain_48 : decode M_Fi_askAgain.2.1 48 = .ok (.invokevirtual 83, 3) := by decide +kernel
theorem d_Fi_askAgain_51 : decode M_Fi_askAgain.2.1 51 = .ok (.iload_n 2, 1) := by decide +kernel
theorem d_Fi_askAgain_52 : decode M_Fi_askAgain.2.1 52 = .ok (.iconst (-1), 1) := by decide +kernel
theorem d_Fi_askAgain_53 : decode M_Fi_askAgain.2.1 53 = .ok (.ixor, 1) := by decide +kernel
theorem d_Fi_askAgain_54 : decode M_Fi_askAgain.2.1 54 = .ok (.iand, 1) := by decide +kernel
theorem d_Fi_askAgain_55 : decode M_Fi_askAgain.2.1 55 = .ok (.ifCond .ne 15, 3) := by decide +kernel
theorem d_Fi_askAgain_58 : decode M_Fi_askAgain.2.1 58 = .ok (.aload_n 0, 1) := by decide +kernel
theorem d_Fi_askAgain_59 : decode M_Fi_askAgain.2.1 59 = .ok (.getfield 53, 3) := by decide +kernel
theorem d_Fi_askAgain_62 : decode M_Fi_askAgain.2.1 62 = .ok (.bipush 9, 2) := by decide +kernel
theorem d_Fi_askAgain_64 : decode M_Fi_askAgain.2.1 64 = .ok (.invokevirtual 86, 3) := by decide +kernel
theorem d_Fi_askAgain_67 : decode M_Fi_askAgain.2.1 67 = .ok (.goto 25, 3) := by decide +kernel
theorem d_Fi_askAgain_70 : decode M_Fi_askAgain.2.1 70 = .ok (.aload_n 0, 1) := by decide +kernel
theorem d_Fi_askAgain_71 : decode M_Fi_askAgain.2.1 71 = .ok (.getfield 53, 3) := by decide +kernel
theorem d_Fi_askAgain_74 : decode M_Fi_askAgain.2.1 74 = .ok (.bipush 8, 2) := by decide +kernel
theorem d_Fi_askAgain_76 : decode M_Fi_askAgain.2.1 76 = .ok (.invokevirtual 86, 3) := by decide +kernel
theorem d_Fi_askAgain_79 : decode M_Fi_askAgain.2.1 79 = .ok (.iinc 3 1, 3) := by decide +kernel
theorem d_Fi_askAgain_82 : decode M_Fi_askAgain.2.1 82 = .ok (.iload_n 2, 1) := by decide +kernel
theorem d_Fi_askAgain_83 : decode M_Fi_askAgain.2.1 83 = .ok (.aload_n 0, 1) := by decide +kernel
theorem d_Fi_askAgain_84 : decode M_Fi_askAgain.2.1 84 = .ok (.iload_n 1, 1) := by decide +kernel
theorem d_Fi_askAgain_85 : decode M_Fi_askAgain.2.1 85 = .ok (.iload 5, 2) := by decide +kernel
theorem d_Fi_askAgain_87 : decode M_Fi_askAgain.2.1 87 = .ok (.invokevirtual 83, 3) := by decide +kernel
theorem d_Fi_askAgain_90 : decode M_Fi_askAgain.2.1 90 = .ok (.ior, 1) := by decide +kernel
theorem d_Fi_askAgain_91 : decode M_Fi_askAgain.2.1 91 = .ok (.istore_n 2, 1) := by decide +kernel
theorem d_Fi_askAgain_92 : decode M_Fi_askAgain.2.1 92 = .ok (.iinc 5 1, 3) := by decide +kernel
theorem d_Fi_askAgain_95 : decode M_Fi_askAgain.2.1 95 = .ok (.goto (-73), 3) := by decide +kernel
theorem d_Fi_askAgain_98 : decode M_Fi_askAgain.2.1 98 = .ok (.iinc 4 1, 3) := by decide +kernel
theorem d_Fi_askAgain_101 : decode M_Fi_askAgain.2.1 101 = .ok (.goto (-89), 3) := by decide +kernel
theorem d_Fi_askAgain_104 : decode M_Fi_askAgain.2.1 104 = .ok (.aload_n 0, 1) := by decide +kernel
theorem d_Fi_askAgain_105 : decode M_Fi_askAgain.2.1 105 = .ok (.getfield 24, 3) := by decide +kernel
theorem d_Fi_askAgain_108 : decode M_Fi_askAgain.2.1 108 = .ok (.iload_n 1, 1) := by decide +kernel
theorem d_Fi_askAgain_109 : decode M_Fi_askAgain.2.1 109 = .ok (.dup2, 1) := by decide +kernel
theorem d_Fi_askAgain_110 : decode M_Fi_askAgain.2.1 110 = .ok (.iaload, 1) := by decide +kernel
theorem d_Fi_askAgain_111 : decode M_Fi_askAgain.2.1 111 = .ok (.iload_n 2, 1) := by decide +kernel
theorem d_Fi_askAgain_112 : decode M_Fi_askAgain.2.1 112 = .ok (.ior, 1) := by decide +kernel
theorem d_Fi_askAgain_113 : decode M_Fi_askAgain.2.1 113 = .ok (.iastore, 1) := by decide +kernel
theorem d_Fi_askAgain_114 : decode M_Fi_askAgain.2.1 114 = .ok (.iload_n 3, 1) := by decide +kernel
theorem d_Fi_askAgain_115 : decode M_Fi_askAgain.2.1 115 = .ok (.ireturn, 1) := by decide +kernel
theorem d_Fi_drawWaits_0 : decode M_Fi_drawWaits.2.1 0 = .ok (.iconst 0, 1) := by decide +kernel
theorem d_Fi_drawWaits_1 : decode M_Fi_drawWaits.2.1 1 = .ok (.istore_n 2, 1) := by decide +kernel
theorem d_Fi_drawWaits_2 : decode M_Fi_drawWaits.2.1 2 = .ok (.iload_n 2, 1) := by decide +kernel
theorem d_Fi_drawWaits_3 : decode M_Fi_drawWaits.2.1 3 = .ok (.bipush 6, 2) := by decide +kernel
theorem d_Fi_drawWaits_5 : decode M_Fi_drawWaits.2.1 5 = .ok (.if_icmp .ge 32, 3) := by decide +kernel
theorem d_Fi_drawWaits_8 : decode M_Fi_drawWaits.2.1 8 = .ok (.aload_n 0, 1) := by decide +kernel
theorem d_Fi_drawWaits_9 : decode M_Fi_drawWaits.2.1 9 = .ok (.getfield 35, 3) := by decide +kernel
theorem d_Fi_drawWaits_12 : decode M_Fi_drawWaits.2.1 12 = .ok (.iload_n 2, 1) := by decide +kernel
theorem d_Fi_drawWaits_13 : decode M_Fi_drawWaits.2.1 13 = .ok (.aload_n 0, 1) := by decide +kernel
theorem d_Fi_drawWaits_14 : decode M_Fi_drawWaits.2.1 14 = .ok (.iload_n 1, 1) := by decide +kernel
theorem d_Fi_drawWaits_15 : decode M_Fi_drawWaits.2.1 15 = .ok (.iload_n 2, 1) := by decide +kernel
theorem d_Fi_drawWaits_16 : decode M_Fi_drawWaits.2.1 16 = .ok (.invokevirtual 90, 3) := by decide +kernel
theorem d_Fi_drawWaits_19 : decode M_Fi_drawWaits.2.1 19 = .ok (.ifCond .eq 10, 3) := by decide +kernel
theorem d_Fi_drawWaits_22 : decode M_Fi_drawWaits.2.1 22 = .ok (.aload_n 0, 1) := by decide +kernel
theorem d_Fi_drawWaits_23 : decode M_Fi_drawWaits.2.1 23 = .ok (.invokevirtual 93, 3) := by decide +kernel
theorem d_Fi_drawWaits_26 : decode M_Fi_drawWaits.2.1 26 = .ok (.goto 4, 3) := by decide +kernel
theorem d_Fi_drawWaits_29 : decode M_Fi_drawWaits.2.1 29 = .ok (.iconst (-1), 1) := by decide +kernel
theorem d_Fi_drawWaits_30 : decode M_Fi_drawWaits.2.1 30 = .ok (.iastore, 1) := by decide +kernel
theorem d_Fi_drawWaits_31 : decode M_Fi_drawWaits.2.1 31 = .ok (.iinc 2 1, 3) := by decide +kernel
theorem d_Fi_drawWaits_34 : decode M_Fi_drawWaits.2.1 34 = .ok (.goto (-32), 3) := by decide +kernel
theorem d_Fi_drawWaits_37 : decode M_Fi_drawWaits.2.1 37 = .ok (.return_, 1) := by decide +kernel
theorem d_Fi_takesPart_0 : decode M_Fi_takesPart.2.1 0 = .ok (.aload_n 0, 1) := by decide +kernel
theorem d_Fi_takesPart_1 : decode M_Fi_takesPart.2.1 1 = .ok (.getfield 45, 3) := by decide +kernel
theorem d_Fi_takesPart_4 : decode M_Fi_takesPart.2.1 4 = .ok (.iload_n 2, 1) := by decide +kernel
theorem d_Fi_takesPart_5 : decode M_Fi_takesPart.2.1 5 = .ok (.aload_n 0, 1) := by decide +kernel
theorem d_Fi_takesPart_6 : decode M_Fi_takesPart.2.1 6 = .ok (.getfield 9, 3) := by decide +kernel
theorem d_Fi_takesPart_9 : decode M_Fi_takesPart.2.1 9 = .ok (.iload_n 1, 1) := by decide +kernel
theorem d_Fi_takesPart_10 : decode M_Fi_takesPart.2.1 10 = .ok (.iaload, 1) := by decide +kernel
theorem d_Fi_takesPart_11 : decode M_Fi_takesPart.2.1 11 = .ok (.invokevirtual 97, 3) := by decide +kernel
theorem d_Fi_takesPart_14 : decode M_Fi_takesPart.2.1 14 = .ok (.ifCond .eq 33, 3) := by decide +kernel
theorem d_Fi_takesPart_17 : decode M_Fi_takesPart.2.1 17 = .ok (.aload_n 0, 1) := by decide +kernel
theorem d_Fi_takesPart_18 : decode M_Fi_takesPart.2.1 18 = .ok (.getfield 49, 3) := by decide +kernel
theorem d_Fi_takesPart_21 : decode M_Fi_takesPart.2.1 21 = .ok (.iload_n 2, 1) := by decide +kernel
theorem d_Fi_takesPart_22 : decode M_Fi_takesPart.2.1 22 = .ok (.aload_n 0, 1) := by decide +kernel
theorem d_Fi_takesPart_23 : decode M_Fi_takesPart.2.1 23 = .ok (.getfield 15, 3) := by decide +kernel
theorem d_Fi_takesPart_26 : decode M_Fi_takesPart.2.1 26 = .ok (.iload_n 1, 1) := by decide +kernel
theorem d_Fi_takesPart_27 : decode M_Fi_takesPart.2.1 27 = .ok (.iaload, 1) := by decide +kernel
theorem d_Fi_takesPart_28 : decode M_Fi_takesPart.2.1 28 = .ok (.invokevirtual 61, 3) := by decide +kernel
theorem d_Fi_takesPart_31 : decode M_Fi_takesPart.2.1 31 = .ok (.ifCond .eq 16, 3) := by decide +kernel
theorem d_Fi_takesPart_34 : decode M_Fi_takesPart.2.1 34 = .ok (.aload_n 0, 1) := by decide +kernel
theorem d_Fi_takesPart_35 : decode M_Fi_takesPart.2.1 35 = .ok (.iload_n 1, 1) := by decide +kernel
theorem d_Fi_takesPart_36 : decode M_Fi_takesPart.2.1 36 = .ok (.iload_n 2, 1) := by decide +kernel
theorem d_Fi_takesPart_37 : decode M_Fi_takesPart.2.1 37 = .ok (.invokevirtual 83, 3) := by decide +kernel
theorem d_Fi_takesPart_40 : decode M_Fi_takesPart.2.1 40 = .ok (.ifCond .eq 7, 3) := by decide +kernel
theorem d_Fi_takesPart_43 : decode M_Fi_takesPart.2.1 43 = .ok (.iconst 1, 1) := by decide +kernel
theorem d_Fi_takesPart_44 : decode M_Fi_takesPart.2.1 44 = .ok (.goto 4, 3) := by decide +kernel
theorem d_Fi_takesPart_47 : decode M_Fi_takesPart.2.1 47 = .ok (.iconst 0, 1) := by decide +kernel
theorem d_Fi_takesPart_48 : decode M_Fi_takesPart.2.1 48 = .ok (.ireturn, 1) := by decide +kernel
theorem d_Fi_missingAt_0 : decode M_Fi_missingAt.2.1 0 = .ok (.iconst 1, 1) := by decide +kernel
theorem d_Fi_missingAt_1 : decode M_Fi_missingAt.2.1 1 = .ok (.aload_n 0, 1) := by decide +kernel
theorem d_Fi_missingAt_2 : decode M_Fi_missingAt.2.1 2 = .ok (.getfield 32, 3) := by decide +kernel
theorem d_Fi_missingAt_5 : decode M_Fi_missingAt.2.1 5 = .ok (.iload_n 1, 1) := by decide +kernel
theorem d_Fi_missingAt_6 : decode M_Fi_missingAt.2.1 6 = .ok (.aaload, 1) := by decide +kernel
theorem d_Fi_missingAt_7 : decode M_Fi_missingAt.2.1 7 = .ok (.iload_n 2, 1) := by decide +kernel
theorem d_Fi_missingAt_8 : decode M_Fi_missingAt.2.1 8 = .ok (.iaload, 1) := by decide +kernel
theorem d_Fi_missingAt_9 : decode M_Fi_missingAt.2.1 9 = .ok (.ishl, 1) := by decide +kernel
theorem d_Fi_missingAt_10 : decode M_Fi_missingAt.2.1 10 = .ok (.iconst 1, 1) := by decide +kernel
theorem d_Fi_missingAt_11 : decode M_Fi_missingAt.2.1 11 = .ok (.isub, 1) := by decide +kernel
theorem d_Fi_missingAt_12 : decode M_Fi_missingAt.2.1 12 = .ok (.aload_n 0, 1) := by decide +kernel
theorem d_Fi_missingAt_13 : decode M_Fi_missingAt.2.1 13 = .ok (.getfield 29, 3) := by decide +kernel
theorem d_Fi_missingAt_16 : decode M_Fi_missingAt.2.1 16 = .ok (.iload_n 1, 1) := by decide +kernel
theorem d_Fi_missingAt_17 : decode M_Fi_missingAt.2.1 17 = .ok (.aaload, 1) := by decide +kernel
theorem d_Fi_missingAt_18 : decode M_Fi_missingAt.2.1 18 = .ok (.iload_n 2, 1) := by decide +kernel
theorem d_Fi_missingAt_19 : decode M_Fi_missingAt.2.1 19 = .ok (.iaload, 1) := by decide +kernel
theorem d_Fi_missingAt_20 : decode M_Fi_missingAt.2.1 20 = .ok (.iconst (-1), 1) := by decide +kernel
theorem d_Fi_missingAt_21 : decode M_Fi_missingAt.2.1 21 = .ok (.ixor, 1) := by decide +kernel
theorem d_Fi_missingAt_22 : decode M_Fi_missingAt.2.1 22 = .ok (.iand, 1) := by decide +kernel
theorem d_Fi_missingAt_23 : decode M_Fi_missingAt.2.1 23 = .ok (.ireturn, 1) := by decide +kernel
theorem d_Fi_draw_0 : decode M_Fi_draw.2.1 0 = .ok (.aload_n 0, 1) := by decide +kernel
theorem d_Fi_draw_1 : decode M_Fi_draw.2.1 1 = .ok (.aload_n 0, 1) := by decide +kernel
theorem d_Fi_draw_2 : decode M_Fi_draw.2.1 2 = .ok (.getfield 42, 3) := by decide +kernel
theorem d_Fi_draw_5 : decode M_Fi_draw.2.1 5 = .ok (.ldc 102, 2) := by decide +kernel
theorem d_Fi_draw_7 : decode M_Fi_draw.2.1 7 = .ok (.imul, 1) := by decide +kernel
theorem d_Fi_draw_8 : decode M_Fi_draw.2.1 8 = .ok (.sipush 12345, 3) := by decide +kernel
theorem d_Fi_draw_11 : decode M_Fi_draw.2.1 11 = .ok (.iadd, 1) := by decide +kernel
theorem d_Fi_draw_12 : decode M_Fi_draw.2.1 12 = .ok (.putfield 42, 3) := by decide +kernel
theorem d_Fi_draw_15 : decode M_Fi_draw.2.1 15 = .ok (.aload_n 0, 1) := by decide +kernel
theorem d_Fi_draw_16 : decode M_Fi_draw.2.1 16 = .ok (.getfield 42, 3) := by decide +kernel
theorem d_Fi_draw_19 : decode M_Fi_draw.2.1 19 = .ok (.bipush 16, 2) := by decide +kernel
theorem d_Fi_draw_21 : decode M_Fi_draw.2.1 21 = .ok (.iushr, 1) := by decide +kernel
theorem d_Fi_draw_22 : decode M_Fi_draw.2.1 22 = .ok (.bipush 7, 2) := by decide +kernel
theorem d_Fi_draw_24 : decode M_Fi_draw.2.1 24 = .ok (.iand, 1) := by decide +kernel
theorem d_Fi_draw_25 : decode M_Fi_draw.2.1 25 = .ok (.ireturn, 1) := by decide +kernel
theorem d_MT_have_0 : decode M_MT_have.2.1 0 = .ok (.aload_n 0, 1) := by decide +kernel
theorem d_MT_have_1 : decode M_MT_have.2.1 1 = .ok (.getfield 73, 3) := by decide +kernel
theorem d_MT_have_4 : decode M_MT_have.2.1 4 = .ok (.iload_n 1, 1) := by decide +kernel
theorem d_MT_have_5 : decode M_MT_have.2.1 5 = .ok (.invokevirtual 191, 3) := by decide +kernel
theorem d_MT_have_8 : decode M_MT_have.2.1 8 = .ok (.ifCond .eq 10, 3) := by decide +kernel
theorem d_MT_have_11 : decode M_MT_have.2.1 11 = .ok (.iload_n 2, 1) := by decide +kernel
theorem d_MT_have_12 : decode M_MT_have.2.1 12 = .ok (.invokestatic 9, 3) := by decide +kernel
theorem d_MT_have_15 : decode M_MT_have.2.1 15 = .ok (.ifCond .ne 5, 3) := by decide +kernel
theorem d_MT_have_18 : decode M_MT_have.2.1 18 = .ok (.iconst (-1), 1) := by decide +kernel
theorem d_MT_have_19 : decode M_MT_have.2.1 19 = .ok (.ireturn, 1) := by decide +kernel
theorem d_MT_have_20 : decode M_MT_have.2.1 20 = .ok (.aload_n 0, 1) := by decide +kernel
theorem d_MT_have_21 : decode M_MT_have.2.1 21 = .ok (.getfield 73, 3) := by decide +kernel
theorem d_MT_have_24 : decode M_MT_have.2.1 24 = .ok (.iload_n 1, 1) := by decide +kernel
theorem d_MT_have_25 : decode M_MT_have.2.1 25 = .ok (.iload_n 2, 1) := by decide +kernel
theorem d_MT_have_26 : decode M_MT_have.2.1 26 = .ok (.invokevirtual 212, 3) := by decide +kernel
theorem d_MT_have_29 : decode M_MT_have.2.1 29 = .ok (.ireturn, 1) := by decide +kernel
theorem d_Fi_blocksAt_0 : decode M_Fi_blocksAt.2.1 0 = .ok (.aload_n 0, 1) := by decide +kernel
theorem d_Fi_blocksAt_1 : decode M_Fi_blocksAt.2.1 1 = .ok (.getfield 29, 3) := by decide +kernel
theorem d_Fi_blocksAt_4 : decode M_Fi_blocksAt.2.1 4 = .ok (.iload_n 1, 1) := by decide +kernel
theorem d_Fi_blocksAt_5 : decode M_Fi_blocksAt.2.1 5 = .ok (.aaload, 1) := by decide +kernel
theorem d_Fi_blocksAt_6 : decode M_Fi_blocksAt.2.1 6 = .ok (.iload_n 2, 1) := by decide +kernel
theorem d_Fi_blocksAt_7 : decode M_Fi_blocksAt.2.1 7 = .ok (.iaload, 1) := by decide +kernel
theorem d_Fi_blocksAt_8 : decode M_Fi_blocksAt.2.1 8 = .ok (.ireturn, 1) := by decide +kernel
end
section
/-! pure rows: loops, and the shortest ways as a matrix -/
theorem lp_congr {α : Type} {f g : Nat → α → α} : ∀ (n : Nat) (m : α), (∀ i m, i < n → f i m = g i m) → mx_lp n f m = mx_lp n g m
  | 0, _, _ => rfl
  | n + 1, m, h => by
    show f n (mx_lp n f m) = g n (mx_lp n g m)
    rw [lp_congr n m (fun i m hi => h i m (by omega)), h n _ (by omega)]
theorem lp_add {α : Type} (f : Nat → α → α) (n : Nat) : ∀ (k : Nat) (m : α), mx_lp (n + k) f m = mx_lp k (fun j => f (n + j)) (mx_lp n f m)
  | 0, _ => rfl
  | k + 1, m => by
    show f (n + k) (mx_lp (n + k) f m) = f (n + k) (mx_lp k (fun j => f (n + j)) (mx_lp n f m))
    rw [lp_add f n k m]
theorem lp_mul {α : Type} (g : Nat → Nat → α → α) (k : Nat) (hk : 0 < k) : ∀ (n : Nat) (m : α), mx_lp (n * k) (fun p => g (p / k) (p % k)) m = mx_lp n (fun a => mx_lp k (g a)) m
  | 0, m => by rw [Nat.zero_mul]; rfl
  | n + 1, m => by
    rw [Nat.succ_mul, lp_add, lp_mul g k hk n m]
    show mx_lp k _ _ = mx_lp k (g n) (mx_lp n (fun a => mx_lp k (g a)) m)
    refine lp_congr k _ (fun j m hj => ?_)
    have e1 : (n * k + j) / k = n := by
      rw [Nat.mul_comm, Nat.mul_add_div hk, Nat.div_eq_of_lt hj, Nat.add_zero]
    have e2 : (n * k + j) % k = j := by
      rw [Nat.mul_comm, Nat.mul_add_mod, Nat.mod_eq_of_lt hj]
    rw [e1, e2]
/-- two loops side by side: a relation that every turn keeps -/
theorem lp_rel {α β : Type} {f : Nat → α → α} {g : Nat → β → β} (R : α → β → Prop) : ∀ (n : Nat) {a : α} {b : β}, R a b → (∀ i a b, i < n → R a b → R (f i a) (g i b)) → R (mx_lp n f a) (mx_lp n g b)
  | 0, _, _, h, _ => h
  | n + 1, _, _, h, hs => hs n _ _ (by omega) (lp_rel R n h (fun i a b hi => hs i a b (by omega)))
/-- a loop keeps what every turn keeps -/
theorem lp_keep {α : Type} {f : Nat → α → α} (I : α → Prop) : ∀ (n : Nat) {m : α}, I m → (∀ i m, i < n → I m → I (f i m)) → I (mx_lp n f m)
  | 0, _, h, _ => h
  | n + 1, _, h, hs => hs n _ (by omega) (lp_keep I n h (fun i m hi => hs i m (by omega)))
theorem up_same (f : mx_Mm) (p k : Nat) (x : Int32) : mx_up f p k x p k = x := by simp [mx_up]
theorem up_ne {f : mx_Mm} {p k q j : Nat} {x : Int32} (h : ¬ (q = p ∧ j = k)) : mx_up f p k x q j = f q j := by simp [mx_up, h]
theorem up_neP {f : mx_Mm} {p k q j : Nat} {x : Int32} (h : q ≠ p) : mx_up f p k x q j = f q j := up_ne (fun e => h e.1)
theorem up_neK {f : mx_Mm} {p k q j : Nat} {x : Int32} (h : j ≠ k) : mx_up f p k x q j = f q j := up_ne (fun e => h e.2)
/-- the first place below N at which c holds, or N -/
def pm_fd : Nat → (Nat → Bool) → Nat
  | 0, _ => 0
  | n + 1, c => if pm_fd n c < n then pm_fd n c else if c n then n else n + 1
theorem pm_fd_le : ∀ (n : Nat) (c : Nat → Bool), pm_fd n c ≤ n
  | 0, _ => Nat.le_refl _
  | n + 1, c => by
    have h := pm_fd_le n c
    unfold pm_fd
    split
    · omega
    · split <;> omega
theorem pm_fd_spec : ∀ (n : Nat) (c : Nat → Bool), (∀ j, j < pm_fd n c → c j = false) ∧ (pm_fd n c < n → c (pm_fd n c) = true)
  | 0, _ => ⟨fun j h => absurd h (Nat.not_lt_zero _), fun h => absurd h (Nat.not_lt_zero _)⟩
  | n + 1, c => by
    obtain ⟨h1, h2⟩ := pm_fd_spec n c
    have hle := pm_fd_le n c
    unfold pm_fd
    split
    next h => exact ⟨h1, fun _ => h2 h⟩
    next h =>
      have e : pm_fd n c = n := by omega
      rw [e] at h1
      split
      next hc => exact ⟨h1, fun _ => hc⟩
      next hc =>
        refine ⟨fun j hj => ?_, fun h => absurd h (Nat.lt_irrefl _)⟩
        by_cases hjn : j = n
        · subst hjn
          simpa using hc
        · exact h1 j (by omega)
theorem pm_fd_eq {n i : Nat} {c : Nat → Bool} (hi : i < n) (hc : c i = true) (hn : ∀ j, j < i → c j = false) : pm_fd n c = i := by
  obtain ⟨h1, h2⟩ := pm_fd_spec n c
  rcases Nat.lt_trichotomy (pm_fd n c) i with h | h | h
  · have := hn _ h
    rw [h2 (by omega)] at this
    cases this
  · exact h
  · have := h1 i h
    rw [hc] at this
    cases this
theorem pm_fd_none {n : Nat} {c : Nat → Bool} (hn : ∀ j, j < n → c j = false) : pm_fd n c = n := by
  have hle := pm_fd_le n c
  obtain ⟨h1, h2⟩ := pm_fd_spec n c
  by_cases h : pm_fd n c < n
  · have := h2 h
    rw [hn _ h] at this
    cases this
  · omega
/-- Math.min -/
def pm_n (x y : Int32) : Int32 := if x ≤ y then x else y
def pm_x (x y : Int32) : Int32 := if y ≤ x then x else y
theorem pm_n_nI {x y : Nat} (hx : x < 2 ^ 31) (hy : y < 2 ^ 31) : pm_n (nI x) (nI y) = nI (min x y) := by
  unfold pm_n
  by_cases h : x ≤ y
  · rw [if_pos ((nI_leI hx hy).mpr h), Nat.min_eq_left h]
  · rw [if_neg (fun q => h ((nI_leI hx hy).mp q)), Nat.min_eq_right (by omega)]
/-- the lengths at the start, a round of shortening, all of them -/
def pm_s (c : mx_Mm) : mx_Mm := fun a b => if a = b then 0 else if c a b = 0 then 1000 else c a b
def pm_v (v : Nat) (A : mx_Mm) : mx_Mm := mx_lp 6 (fun a => mx_lp 6 (fun b A => mx_up A a b (pm_n (A a b) (A a v + A v b)))) A
def pm_F (c : mx_Mm) : mx_Mm := mx_lp 6 pm_v (pm_s c)
def pm_ok (A : mx_Mm) : Prop := (∀ a, a < 6 → A a a = 0) ∧ (∀ a b, a < 6 → b < 6 → ∃ k, k ≤ 1000 ∧ A a b = nI k) ∧ ∀ a b, a < 6 → b < 6 → A a b = A b a
theorem pm_n_self (x : Int32) : pm_n x x = x := by unfold pm_n; split <;> rfl
theorem pm_v_eq {A : mx_Mm} (hA : pm_ok A) {v : Nat} (hv : v < 6) : ∀ a b, a < 6 → b < 6 → pm_v v A a b = pm_n (A a b) (A a v + A v b) := by
  have e : pm_v v A = mx_lp 36 (fun p B => mx_up B (p / 6) (p % 6) (pm_n (B (p / 6) (p % 6)) (B (p / 6) v + B v (p % 6)))) A :=
    (lp_mul (fun a b (B : mx_Mm) => mx_up B a b (pm_n (B a b) (B a v + B v b))) 6 (by decide) 6 A).symm
  rw [e]
  have hv0 : A v v = 0 := hA.1 v hv
  have key := mx_lp_inv (m := A) (f := fun p (B : mx_Mm) => mx_up B (p / 6) (p % 6) (pm_n (B (p / 6) (p % 6)) (B (p / 6) v + B v (p % 6))))
    (I := fun p B => ∀ a b, a < 6 → b < 6 → B a b = if 6 * a + b < p then pm_n (A a b) (A a v + A v b) else A a b) 36 (fun a b _ _ => by rw [if_neg (by omega)]) (fun p B hp hB => ?_) 36 (Nat.le_refl _)
  · intro a b ha hb
    rw [key a b ha hb, if_pos (by omega)]
  · intro a b ha hb
    have hp1 : p / 6 < 6 := by omega
    have hp2 : p % 6 < 6 := by omega
    have r1 : B (p / 6) (p % 6) = A (p / 6) (p % 6) := by rw [hB _ _ hp1 hp2, if_neg (by omega)]
    have r2 : B (p / 6) v = A (p / 6) v := by
      rw [hB _ _ hp1 hv]
      split
      · rw [hv0, Int32.add_zero, pm_n_self]
      · rfl
    have r3 : B v (p % 6) = A v (p % 6) := by
      rw [hB _ _ hv hp2]
      split
      · rw [hv0, Int32.zero_add, pm_n_self]
      · rfl
    show mx_up B (p / 6) (p % 6) _ a b = _
    rw [r1, r2, r3]
    by_cases he : a = p / 6 ∧ b = p % 6
    · obtain ⟨rfl, rfl⟩ := he
      rw [up_same, if_pos (by omega)]
    · rw [up_ne he, hB a b ha hb]
      have : (6 * a + b < p) ↔ (6 * a + b < p + 1) := by
        constructor
        · intro h; omega
        · intro h
          rcases Nat.lt_or_eq_of_le (Nat.lt_succ_iff.mp h) with h1 | h1
          · exact h1
          · exact absurd ⟨by omega, by omega⟩ he
      by_cases h : 6 * a + b < p
      · rw [if_pos h, if_pos (this.mp h)]
      · rw [if_neg h, if_neg (fun q => h (this.mpr q))]
theorem pm_v_ok {A : mx_Mm} (hA : pm_ok A) {v : Nat} (hv : v < 6) : pm_ok (pm_v v A) := by
  have hE := pm_v_eq hA hv
  refine ⟨fun a ha => ?_, fun a b ha hb => ?_, fun a b ha hb => ?_⟩
  · obtain ⟨y, hy, ey⟩ := hA.2.1 a v ha hv
    obtain ⟨z, hz, ez⟩ := hA.2.1 v a hv ha
    rw [hE a a ha ha, hA.1 a ha, ey, ez, nI_add, ← nI_0, pm_n_nI (by decide) (by omega), Nat.zero_min]
  · obtain ⟨x, hx, ex⟩ := hA.2.1 a b ha hb
    obtain ⟨y, hy, ey⟩ := hA.2.1 a v ha hv
    obtain ⟨z, hz, ez⟩ := hA.2.1 v b hv hb
    exact ⟨min x (y + z), by omega, by rw [hE a b ha hb, ex, ey, ez, nI_add, pm_n_nI (by omega) (by omega)]⟩
  · rw [hE a b ha hb, hE b a hb ha, hA.2.2 a b ha hb, hA.2.2 a v ha hv, hA.2.2 v b hv hb, Int32.add_comm]
def pm_c (c : mx_Mm) : Prop := (∀ a b, a < 6 → b < 6 → ∃ k, k ≤ 9 ∧ c a b = nI k) ∧ ∀ a b, a < 6 → b < 6 → c a b = c b a
theorem pm_s_ok {c : mx_Mm} (h : pm_c c) : pm_ok (pm_s c) := by
  refine ⟨fun a _ => by simp [pm_s], fun a b ha hb => ?_, fun a b ha hb => ?_⟩
  · unfold pm_s
    split
    · exact ⟨0, by decide, rfl⟩
    · split
      · exact ⟨1000, by decide, rfl⟩
      · obtain ⟨k, hk, e⟩ := h.1 a b ha hb
        exact ⟨k, by omega, e⟩
  · unfold pm_s
    rw [h.2 a b ha hb]
    by_cases e : a = b
    · subst e; rfl
    · have e' : ¬ b = a := fun q => e q.symm
      simp only [e, e', if_false]
theorem pm_F_ok {c : mx_Mm} (h : pm_c c) : pm_ok (pm_F c) := lp_keep pm_ok 6 (pm_s_ok h) (fun _ _ hi hA => pm_v_ok hA hi)
/-- the next router towards t -/
def pm_t (c A : mx_Mm) (a t n : Nat) : Bool := decide (c a n ≠ 0 ∧ c a n + A n t = A a t)
def pm_N (c A : mx_Mm) (a t : Nat) : Int32 := if a = t ∨ ¬ A a t < 1000 then -1 else if pm_fd 6 (pm_t c A a t) < 6 then nI (pm_fd 6 (pm_t c A a t)) else -1
theorem pm_N_cases (c A : mx_Mm) (a t : Nat) : pm_N c A a t = -1 ∨ ∃ n, n < 6 ∧ pm_N c A a t = nI n := by
  unfold pm_N
  split
  · exact Or.inl rfl
  · split
    next h => exact Or.inr ⟨_, h, rfl⟩
    next => exact Or.inl rfl
theorem pm_nI_m1 {n : Nat} (h : n < 2 ^ 31) : nI n ≠ -1 := by
  intro e
  have h1 := nI_toInt h
  rw [e] at h1
  have h2 : (-1 : Int32).toInt = -1 := by decide
  omega
theorem pm_N_spec {c A : mx_Mm} {a t n : Nat} (hn : n < 6) (h : pm_N c A a t = nI n) : a ≠ t ∧ A a t < 1000 ∧ c a n ≠ 0 ∧ c a n + A n t = A a t := by
  unfold pm_N at h
  split at h
  · exact absurd h.symm (pm_nI_m1 (by omega))
  next h1 =>
    split at h
    next h2 =>
      have e : pm_fd 6 (pm_t c A a t) = n := (nI_eq (by omega) (by omega)).mp h
      have h3 := (pm_fd_spec 6 (pm_t c A a t)).2 h2
      rw [e] at h3
      have h4 : c a n ≠ 0 ∧ c a n + A n t = A a t := by simpa [pm_t] using h3
      have h5 : ¬ a = t := fun q => h1 (Or.inl q)
      have h6 : A a t < 1000 := Decidable.byContradiction fun q => h1 (Or.inr q)
      exact ⟨h5, h6, h4.1, h4.2⟩
    next => exact absurd h.symm (pm_nI_m1 (by omega))
/-- nearer: the rank of a router towards t falls along the way -/
def pm_r (A : mx_Mm) (t n : Nat) : Nat := ((List.range 6).filter (fun m => decide (A n t < A m t))).length
theorem pm_near {c A : mx_Mm} (hc : pm_c c) (hA : pm_ok A) {a t n : Nat} (ha : a < 6) (ht : t < 6) (hn : n < 6) (h : pm_N c A a t = nI n) : A n t < A a t := by
  obtain ⟨-, -, h1, h2⟩ := pm_N_spec hn h
  obtain ⟨k, hk, ek⟩ := hc.1 a n ha hn
  obtain ⟨x, hx, ex⟩ := hA.2.1 n t hn ht
  obtain ⟨y, hy, ey⟩ := hA.2.1 a t ha ht
  rw [ek, ex, ey, nI_add] at h2
  have h3 : k + x = y := (nI_eq (by omega) (by omega)).mp h2
  have h4 : k ≠ 0 := fun q => h1 (by rw [ek, q]; rfl)
  rw [ex, ey]
  exact nI_lt (by omega) (by omega)
theorem pm_flen {α : Type} (p q : α → Bool) : ∀ (l : List α), (∀ x, x ∈ l → p x = true → q x = true) → (l.filter p).length ≤ (l.filter q).length
  | [], _ => Nat.le_refl _
  | a :: l, h => by
    have ih := pm_flen p q l (fun x hx => h x (List.mem_cons_of_mem _ hx))
    have ha := h a List.mem_cons_self
    rw [List.filter_cons, List.filter_cons]
    cases hp : p a with
    | true => rw [ha hp]; simpa using ih
    | false =>
      cases hq : q a with
      | true => simp; omega
      | false => simpa using ih
theorem pm_flen_lt {α : Type} (p q : α → Bool) : ∀ (l : List α), (∀ x, x ∈ l → p x = true → q x = true) → (∃ x, x ∈ l ∧ p x = false ∧ q x = true) → (l.filter p).length < (l.filter q).length
  | [], _, h => by obtain ⟨x, hx, -⟩ := h; cases hx
  | a :: l, h, hx => by
    have h' := fun x hx => h x (List.mem_cons_of_mem a hx)
    have hle := pm_flen p q l h'
    have ha := h a List.mem_cons_self
    rw [List.filter_cons, List.filter_cons]
    obtain ⟨x, hm, hpx, hqx⟩ := hx
    cases hp : p a with
    | true =>
      rw [ha hp]
      have hxl : x ∈ l := by
        rcases List.mem_cons.mp hm with e | e
        · rw [e, hp] at hpx; cases hpx
        · exact e
      have ih := pm_flen_lt p q l h' ⟨x, hxl, hpx, hqx⟩
      simpa using ih
    | false =>
      cases hq : q a with
      | true => simp; omega
      | false =>
        have hxl : x ∈ l := by
          rcases List.mem_cons.mp hm with e | e
          · rw [e, hq] at hqx; cases hqx
          · exact e
        have ih := pm_flen_lt p q l h' ⟨x, hxl, hpx, hqx⟩
        simpa using ih
theorem pm_rank {A : mx_Mm} {t a n : Nat} (ha : a < 6) (h : A n t < A a t) : pm_r A t a < pm_r A t n := by
  unfold pm_r
  refine pm_flen_lt _ _ _ (fun x _ hx => ?_) ⟨a, List.mem_range.mpr ha, ?_, ?_⟩
  · have h1 : A a t < A x t := by simpa using hx
    have h2 : A n t < A x t := Int32.lt_trans h h1
    simpa using h2
  · have : ¬ A a t < A a t := Int32.lt_irrefl
    simpa using this
  · simpa using h
theorem pm_rank6 (A : mx_Mm) {t n : Nat} (hn : n < 6) : pm_r A t n < 6 := by
  unfold pm_r
  have h1 : ((List.range 6).filter (fun m => decide (A n t < A m t))).length < ((List.range 6).filter (fun _ => true)).length := by
    refine pm_flen_lt _ _ _ (fun _ _ _ => rfl) ⟨n, List.mem_range.mpr hn, ?_, rfl⟩
    have : ¬ A n t < A n t := Int32.lt_irrefl
    simpa using this
  have h2 : ((List.range 6).filter (fun _ => true)).length = 6 := rfl
  omega
end
section
/-! what the methods of the class do to the memory -/
def bz (P : Prop) [Decidable P] : Int32 := if P then 1 else 0
theorem bz_t {P : Prop} [Decidable P] (h : P) : some (Value.int (nI 1)) = some (Value.int (bz P)) := by unfold bz; rw [if_pos h]; rfl
theorem bz_f {P : Prop} [Decidable P] (h : ¬ P) : some (Value.int (nI 0)) = some (Value.int (bz P)) := by unfold bz; rw [if_neg h]; rfl
theorem bz_0 {P : Prop} [Decidable P] (h : bz P = 0) : ¬ P := fun q => by unfold bz at h; rw [if_pos q] at h; exact absurd h (by decide)
theorem bz_1 {P : Prop} [Decidable P] (h : ¬ bz P = 0) : P := Decidable.byContradiction fun q => by unfold bz at h; rw [if_neg q] at h; exact h rfl
theorem bz_n {P : Prop} [Decidable P] : narrow .boolean (.int (bz P)) = .int (bz P) := by unfold bz; split <;> rfl
theorem bz_q {P Q : Prop} [Decidable P] [Decidable Q] (h : P ↔ Q) : bz P = bz Q := by
  unfold bz
  by_cases p : P
  · rw [if_pos p, if_pos (h.mp p)]
  · rw [if_neg p, if_neg (fun q => p (h.mpr q))]
/-- a counted loop that may end in its midst, and leaves the memory -/
theorem mx_loopR {N : Nat} {Hd : Nat → Prop} (c : Nat → Bool) (hs : ∀ i, i < N → (∀ j, j < i → c j = false) → (c i = false → Hd (i + 1)) → Hd i) (hx : (∀ j, j < N → c j = false) → Hd N) : Hd 0 := by
  have key : ∀ d i, i + d = N → (∀ j, j < i → c j = false) → Hd i := by
    intro d
    induction d with
    | zero => intro i hi hn; rw [Nat.add_zero] at hi; subst hi; exact hx hn
    | succ d ih =>
      intro i hi hn
      refine hs i (by omega) hn (fun hc => ih (i + 1) (by omega) (fun j hj => ?_))
      by_cases e : j = i
      · rw [e]; exact hc
      · exact hn j (by omega)
  exact key N 0 (by omega) (fun j hj => absurd hj (Nat.not_lt_zero _))
/-- the same for a method of the library -/
theorem mx_C.introF {Γ : mx_X} {l : Launch} {M : mx_M} {A : List Value} {σ : mx_S} {P : Option Value → mx_S → Prop} (hy : plainFor M.1 = true) (hAb : (A.all fun v => v.category == 1) = true) (hn : A.length ≤ M.2.2.1)
    (body : ∀ κ : mx_K, mx_l κ = l → mx_Ctx Γ κ M → mx_G Γ κ M (MQ (mx_b κ) (mx_Qc Γ P) (mx_a κ) (mx_s κ) M.2.2.2.2.cells M.2.2.2.2.slots (mx_fr Γ)) 0 (mx_ar 0 A) [] σ 0 0) : mx_C Γ l M A σ P := by
  have hA : ∀ v ∈ A, v.category = 1 := fun v hv => by
    have := List.all_eq_true.mp hAb v hv
    simpa using this
  refine va_MetF (cc := M.2.1) (maxL := M.2.2.1) (ret := M.2.2.2.1) hy rfl ?_
  intro p e s m args below meth c s1 B hml hv
  obtain ⟨rfl, hR, hK⟩ := hv
  have hts := atoms_spec (ws := .code M.1 M.2.1 M.2.2.1 M.2.2.2.1 :: mx_WS) B.pre
  obtain ⟨ha1, ha2⟩ := mx_args Γ.1 A 0 hA
  have hl := lv_entry (A.map (mx_v Γ.1)) (n := M.2.2.1) (by rw [ha2]; exact hn)
  rw [lg_entry_eq]
  rw [ha1] at hl
  exact body (p, l, e, M.2.2.2.2, s, m, (A.map (mx_v Γ.1)).toArray, below, meth, c) rfl ⟨B.exec, B.bytes, hml, findClass_of_methodNamed B.named, fun x hx => hts x (List.mem_cons_of_mem _ hx), hK, B.notSynchronized, rfl, B.returns, (name_of_methodNamed B.named B.method).1⟩ s.heap [] _ hR (fun q hq => by cases hq) hl
theorem mx_nr {Γ : mx_X} {κ : mx_K} {M : mx_M} {Q : State → Prop} {pc : Nat} {L : List (Nat × Value)} {S : List Value} {cells slots : Nat} {nx : Nat} {u : Nat → Nat → Bool} {m1 : mx_Mm} (k : ∀ m, m1 = m → mx_G Γ κ M Q pc L S (nx, u, m) cells slots) : mx_G Γ κ M Q pc L S (nx, u, m1) cells slots := k m1 rfl
abbrev tn (v : Int32) : Nat := v.toNatClampNeg
def fill_m (p n : Nat) (v : Int32) (m : mx_Mm) : mx_Mm := mx_lp n (fun i m => mx_up m p i v) m
def Ne_sl1 (a b : Nat) (m : mx_Mm) : mx_Mm := mx_up m (14 + a) b (if m (7 + a) b = 0 then nI 1000 else m (7 + a) b)
def Ne_sl (a : Nat) (m : mx_Mm) : mx_Mm := mx_up (mx_lp 6 (Ne_sl1 a) m) (14 + a) a (nI 0)
def Ne_start (m : mx_Mm) : mx_Mm := mx_lp 6 Ne_sl m
def Ne_sh1 (v a b : Nat) (m : mx_Mm) : mx_Mm := mx_up m (14 + a) b (pm_n (m (14 + a) b) (m (14 + a) v + m (14 + v) b))
def Ne_sh (v : Nat) (m : mx_Mm) : mx_Mm := mx_lp 6 (fun a => mx_lp 6 (Ne_sh1 v a)) m
def Ne_nt (a t : Nat) (m : mx_Mm) (n : Nat) : Bool := decide (¬ m (7 + a) n = 0 ∧ m (7 + a) n + m (14 + n) t = m (14 + a) t)
def Ne_next (a t : Nat) (m : mx_Mm) : Int32 := if a = t ∨ ¬ m (14 + a) t < nI 1000 then -1 else if pm_fd 6 (Ne_nt a t m) < 6 then nI (pm_fd 6 (Ne_nt a t m)) else -1
def Ne_w (t n : Nat) : Nat → mx_Mm → Nat × mx_Mm
  | 0, m => (0, m)
  | p + 1, m => if m (14 + tn (m (28 + t) p)) t < m (14 + n) t then Ne_w t n p (mx_up m (28 + t) (p + 1) (m (28 + t) p)) else (p + 1, m)
def Ne_o1 (t n : Nat) (m : mx_Mm) : mx_Mm := mx_up (Ne_w t n n m).2 (28 + t) (Ne_w t n n m).1 (nI n)
def Ne_order (t : Nat) (m : mx_Mm) : mx_Mm := mx_lp 6 (Ne_o1 t) m
def Ne_m1 (t a : Nat) (m : mx_Mm) : mx_Mm := mx_up m (21 + a) t (Ne_next a t m)
def Ne_m2 (t : Nat) (m : mx_Mm) : mx_Mm := Ne_order t (mx_lp 6 (Ne_m1 t) m)
def Ne_measure (m : mx_Mm) : mx_Mm := mx_lp 6 Ne_m2 (mx_lp 6 Ne_sh (Ne_start m))
def Ne_set (a b : Nat) (c : Int32) (m : mx_Mm) : mx_Mm := Ne_measure (mx_up (mx_up m (7 + a) b c) (7 + b) a c)
/-- the orders hold routers -/
def Ne_ok (m : mx_Mm) : Prop := ∀ t k, t < 6 → k < 6 → ∃ j, j < 6 ∧ m (28 + t) k = nI j
theorem Ne_ok.tn {m : mx_Mm} (h : Ne_ok m) {t k : Nat} (ht : t < 6) (hk : k < 6) : m (28 + t) k = nI (tn (m (28 + t) k)) ∧ tn (m (28 + t) k) < 6 := by
  obtain ⟨j, hj, e⟩ := h t k ht hk
  have e2 : (m (28 + t) k).toNatClampNeg = j := by rw [e]; exact nI_clamp (by omega)
  refine ⟨?_, ?_⟩
  · show _ = nI (m (28 + t) k).toNatClampNeg
    rw [e2]
    exact e
  · show (m (28 + t) k).toNatClampNeg < 6
    omega
theorem Ne_ok.upP {m : mx_Mm} (h : Ne_ok m) {p k : Nat} {x : Int32} (hp : p < 28 ∨ 34 ≤ p) : Ne_ok (mx_up m p k x) := fun t j ht hj => by
  rw [up_neP (by omega)]
  exact h t j ht hj
theorem Ne_ok.upR {m : mx_Mm} (h : Ne_ok m) {p k : Nat} {x : Int32} (hx : ∃ j, j < 6 ∧ x = nI j) : Ne_ok (mx_up m p k x) := fun t j ht hj => by
  by_cases e : 28 + t = p ∧ j = k
  · rw [e.1, e.2, up_same]
    exact hx
  · rw [up_ne e]
    exact h t j ht hj
end
section
/-! bits, LANs, streams -/
abbrev hold (s : Int32) (n : Nat) : Prop := ¬ (s >>> (nI n &&& 31)) &&& nI 1 = 0
abbrev bit (n : Nat) : Int32 := nI 1 <<< (nI n &&& 31)
/-- a loop over any state -/
theorem mx_loopG {α : Type} {N : Nat} {Hd : Nat → α → Prop} (f : Nat → α → α) (I : Nat → α → Prop) {m : α} (h0 : I 0 m) (hI : ∀ i m, i < N → I i m → I (i + 1) (f i m)) (hs : ∀ i m, i < N → I i m → Hd (i + 1) (f i m) → Hd i m) (hx : I N (mx_lp N f m) → Hd N (mx_lp N f m)) : Hd 0 m := by
  have hA := mx_lp_inv (f := f) (m := m) N h0 hI
  have key : ∀ j, j ≤ N → Hd (N - j) (mx_lp (N - j) f m) := by
    intro j
    induction j with
    | zero => intro _; exact hx (hA N (Nat.le_refl _))
    | succ j ih =>
      intro hj
      have h1 := ih (by omega)
      have e : N - j = (N - (j + 1)) + 1 := by omega
      rw [e] at h1
      exact hs _ _ (by omega) (hA _ (by omega)) h1
  have := key N (Nat.le_refl _)
  rw [Nat.sub_self] at this
  exact this
theorem mx_eqG {Γ : mx_X} {κ : mx_K} {M : mx_M} {Q : State → Prop} {pc : Nat} {L L1 : List (Nat × Value)} {S S1 : List Value} {σ τ : mx_S} {cells slots : Nat} (hL : L = L1) (hS : S = S1) (hσ : σ = τ) (k : mx_G Γ κ M Q pc L1 S1 τ cells slots) : mx_G Γ κ M Q pc L S σ cells slots := by
  subst hL; subst hS; subst hσ; exact k
def La_report (l h g : Nat) (m : mx_Mm) : mx_Mm := mx_up (mx_up m (43 + l) g (m 2 0 + nI 12)) (50 + l) g (nI h)
def La_hs (l g : Nat) (m : mx_Mm) (h : Nat) : Bool := decide (hold (m (36 + l) g) h)
def La_rl (l g : Nat) (m : mx_Mm) : mx_Mm := if pm_fd 4 (La_hs l g m) < 4 then La_report l (pm_fd 4 (La_hs l g m)) g m else m
def La_all (m : mx_Mm) : mx_Mm := mx_lp 6 (fun l => mx_lp 3 (La_rl l)) m
def La_admit (l h g : Nat) (m : mx_Mm) : mx_Mm := La_report l h g (mx_up m (36 + l) g (m (36 + l) g ||| bit h))
def La_d1 (l h g : Nat) (m : mx_Mm) : mx_Mm := mx_up m (36 + l) g (m (36 + l) g &&& (bit h ^^^ (-1)))
def La_d2 (l g : Nat) (m : mx_Mm) : mx_Mm := mx_up (mx_up m (50 + l) g (-1)) (43 + l) g (pm_n ((mx_up m (50 + l) g (-1)) (43 + l) g) ((mx_up m (50 + l) g (-1)) 2 0 + nI 2))
def La_d3 (l h g : Nat) (x : Int32) (m : mx_Mm) : mx_Mm := if x = 0 ∨ ¬ m (50 + l) g = nI h then m else if ¬ m (36 + l) g = 0 then La_rl l g m else La_d2 l g m
def La_dismiss (l h g : Nat) (x : Int32) (m : mx_Mm) : mx_Mm := La_d3 l h g x (La_d1 l h g m)
def La_hear (l : Nat) (m : mx_Mm) : mx_Mm := if m 56 l = 0 then m else mx_up m 56 l (m 56 l - nI 1)
def Sm_renew (s n : Nat) (m : mx_Mm) : mx_Mm := mx_up m (59 + s) n (m 2 0 + nI 8)
def Sm_over (s n : Nat) (m : mx_Mm) : mx_Mm := mx_up (Sm_renew s n m) 77 s ((Sm_renew s n m) 77 s ||| bit n)
def Sm_es1 (s n : Nat) (m : mx_Mm) : mx_Mm := if m 2 0 < m (59 + s) n then m else mx_up m 77 s (m 77 s &&& (bit n ^^^ (-1)))
def Sm_es (m : mx_Mm) : mx_Mm := mx_lp 18 (fun s => mx_lp 6 (Sm_es1 s)) m
def Sm_al (s : Nat) (m : mx_Mm) (n : Nat) : Bool := decide (m 2 0 < m (59 + s) n)
abbrev Sm_some (s : Nat) (m : mx_Mm) : Prop := pm_fd 6 (Sm_al s m) < 6
def Sm_c1 (m : mx_Mm) (i c : Nat) : Nat := if Sm_some i m then c + 1 else c
def Sm_cnt (m : mx_Mm) : Nat := mx_lp 18 (Sm_c1 m) 0
theorem Sm_c1_le (m : mx_Mm) (i c : Nat) : Sm_c1 m i c ≤ c + 1 := by unfold Sm_c1; split <;> omega
theorem pr {nx : Nat} {u : Nat → Nat → Bool} {a b : mx_Mm} (h : a = b) : ((nx, u, a) : mx_S) = (nx, u, b) := by rw [h]
theorem it_t {α : Type} {c : Prop} [Decidable c] {a b m : α} (h : c) (e : m = a) : m = if c then a else b := by rw [if_pos h]; exact e
theorem it_f {α : Type} {c : Prop} [Decidable c] {a b m : α} (h : ¬ c) (e : m = b) : m = if c then a else b := by rw [if_neg h]; exact e
theorem sv {a b : Int32} (h : a = b) : some (Value.int a) = some (Value.int b) := by rw [h]
end
section
set_option maxRecDepth 100000 in
set_option maxHeartbeats 4000000 in
theorem c_JM_min {Γ : mx_X} {lau : Launch} {nx : Nat} {u : Nat → Nat → Bool} {mi : mx_Mm} {x y : Int32}   : mx_C Γ lau M_JM_min [.int x, .int y] (nx, u, mi) (fun ρ τ => ρ = some (.int (pm_n x y)) ∧ τ = (nx, u, mi)) := by
  refine mx_C.introF (by decide +kernel) rfl (Nat.le_of_ble_eq_true rfl) (fun κ _ hC => ?_)
  show mx_G Γ κ _ _ 0 [(0, .int x), (1, .int y)] [] (nx, u, mi) 0 0
  refine x_iload_n (q := 1) hC d_JM_min_0 rfl rfl rfl ?_
  refine x_iload_n (q := 2) hC d_JM_min_1 rfl rfl rfl ?_
  refine x_icmp_gt (tgt := 9) (q := 5) hC d_JM_min_2 (by decide) rfl (fun h2 => ?_) (fun h2 => ?_)
  · skip
    refine x_iload_n (q := 10) hC d_JM_min_9 rfl rfl rfl ?_
    exact x_iret hC rfl rfl ⟨by rw [pm_n, if_neg (Int32.not_le.mpr h2)], rfl⟩ (by decide) (by decide) d_JM_min_10
  · skip
    refine x_iload_n (q := 6) hC d_JM_min_5 rfl rfl rfl ?_
    refine x_goto (tgt := 10) hC d_JM_min_6 (by decide) ?_
    exact x_iret hC rfl rfl ⟨by rw [pm_n, if_pos (Int32.not_lt.mp h2)], rfl⟩ (by decide) (by decide) d_JM_min_10
set_option maxRecDepth 100000 in
set_option maxHeartbeats 4000000 in
theorem c_JM_max {Γ : mx_X} {lau : Launch} {nx : Nat} {u : Nat → Nat → Bool} {mi : mx_Mm} {x y : Int32}   : mx_C Γ lau M_JM_max [.int x, .int y] (nx, u, mi) (fun ρ τ => ρ = some (.int (pm_x x y)) ∧ τ = (nx, u, mi)) := by
  refine mx_C.introF (by decide +kernel) rfl (Nat.le_of_ble_eq_true rfl) (fun κ _ hC => ?_)
  show mx_G Γ κ _ _ 0 [(0, .int x), (1, .int y)] [] (nx, u, mi) 0 0
  refine x_iload_n (q := 1) hC d_JM_max_0 rfl rfl rfl ?_
  refine x_iload_n (q := 2) hC d_JM_max_1 rfl rfl rfl ?_
  refine x_icmp_lt (tgt := 9) (q := 5) hC d_JM_max_2 (by decide) rfl (fun h2 => ?_) (fun h2 => ?_)
  · skip
    refine x_iload_n (q := 10) hC d_JM_max_9 rfl rfl rfl ?_
    exact x_iret hC rfl rfl ⟨by rw [pm_x, if_neg (Int32.not_le.mpr h2)], rfl⟩ (by decide) (by decide) d_JM_max_10
  · skip
    refine x_iload_n (q := 6) hC d_JM_max_5 rfl rfl rfl ?_
    refine x_goto (tgt := 10) hC d_JM_max_6 (by decide) ?_
    exact x_iret hC rfl rfl ⟨by rw [pm_x, if_pos (Int32.not_lt.mp h2)], rfl⟩ (by decide) (by decide) d_JM_max_10
set_option maxRecDepth 100000 in
set_option maxHeartbeats 4000000 in
theorem c_Ck_time {Γ : mx_X} {lau : Launch} {nx : Nat} {u : Nat → Nat → Bool} {mi : mx_Mm}  (hnx : 3 ≤ nx) (hu : ∀ p k, 2 ≤ p → u p k = true)  : mx_C Γ lau M_Ck_time [.ref 2] (nx, u, mi) (fun ρ τ => ρ = some (.int (mi 2 0)) ∧ τ = (nx, u, mi)) := by
  refine mx_C.intro (by decide) rfl (Nat.le_of_ble_eq_true rfl) (fun κ _ hC => ?_)
  show mx_G Γ κ _ _ 0 [(0, .ref 2)] [] (nx, u, mi) 0 0
  refine x_aload_n (q := 1) hC d_Ck_time_0 rfl rfl rfl ?_
  refine x_geti (q := 4) (p := 2) (j := 0) hC f_Ck_7 rfl rfl (by omega) d_Ck_time_1 rfl ?_
  exact x_iret hC rfl rfl ⟨rfl, rfl⟩ (by decide) (by decide) d_Ck_time_4
set_option maxRecDepth 100000 in
set_option maxHeartbeats 4000000 in
theorem c_Ck_tick {Γ : mx_X} {lau : Launch} {nx : Nat} {u : Nat → Nat → Bool} {mi : mx_Mm}  (hnx : 3 ≤ nx) (hu : ∀ p k, 2 ≤ p → u p k = true)  : mx_C Γ lau M_Ck_tick [.ref 2] (nx, u, mi) (fun ρ τ => ρ = none ∧ τ = (nx, u, mx_up mi 2 0 (mi 2 0 + nI 1))) := by
  refine mx_C.intro (by decide) rfl (Nat.le_of_ble_eq_true rfl) (fun κ _ hC => ?_)
  show mx_G Γ κ _ _ 0 [(0, .ref 2)] [] (nx, u, mi) 0 0
  refine x_aload_n (q := 1) hC d_Ck_tick_0 rfl rfl rfl ?_
  refine x_dup (q := 2) hC d_Ck_tick_1 rfl rfl ?_
  refine x_geti (q := 5) (p := 2) (j := 0) hC f_Ck_7 rfl rfl (by omega) d_Ck_tick_2 rfl ?_
  refine x_iconst (q := 6) (v := nI 1) hC d_Ck_tick_5 (by decide) rfl ?_
  refine x_iadd (q := 7) (z := (mi 2 0) + (nI 1)) hC d_Ck_tick_6 rfl rfl ?_
  refine x_puti (q := 10) (p := 2) (j := 0) hC f_Ck_7 y_Ck rfl rfl rfl rfl rfl (by omega) (by decide) d_Ck_tick_7 rfl ?_
  exact x_vret hC rfl ⟨rfl, rfl⟩ (by decide) (by decide) d_Ck_tick_10
set_option maxRecDepth 100000 in
set_option maxHeartbeats 4000000 in
theorem c_Ck_isReportTime {Γ : mx_X} {lau : Launch} {nx : Nat} {u : Nat → Nat → Bool} {mi : mx_Mm}  (hnx : 3 ≤ nx) (hu : ∀ p k, 2 ≤ p → u p k = true)  : mx_C Γ lau M_Ck_isReportTime [.ref 2] (nx, u, mi) (fun ρ τ => ρ = some (.int (bz (mi 2 0 - mi 2 0 / nI 5 * nI 5 = 0))) ∧ τ = (nx, u, mi)) := by
  refine mx_C.intro (by decide) rfl (Nat.le_of_ble_eq_true rfl) (fun κ _ hC => ?_)
  show mx_G Γ κ _ _ 0 [(0, .ref 2)] [] (nx, u, mi) 0 0
  refine x_aload_n (q := 1) hC d_Ck_isReportTime_0 rfl rfl rfl ?_
  refine x_geti (q := 4) (p := 2) (j := 0) hC f_Ck_7 rfl rfl (by omega) d_Ck_isReportTime_1 rfl ?_
  refine x_iconst (q := 5) (v := nI 5) hC d_Ck_isReportTime_4 (by decide) rfl ?_
  refine x_irem (q := 6) (z := (mi 2 0) - (mi 2 0) / (nI 5) * (nI 5)) hC d_Ck_isReportTime_5 (by decide) rfl rfl ?_
  refine x_if_ne (tgt := 13) (q := 9) hC d_Ck_isReportTime_6 (by decide) rfl (fun h6 => ?_) (fun h6 => ?_)
  · skip
    refine x_iconst (q := 14) (v := nI 0) hC d_Ck_isReportTime_13 (by decide) rfl ?_
    exact x_iret hC rfl rfl ⟨bz_f (h6), rfl⟩ (by decide) (by decide) d_Ck_isReportTime_14
  · skip
    refine x_iconst (q := 10) (v := nI 1) hC d_Ck_isReportTime_9 (by decide) rfl ?_
    refine x_goto (tgt := 14) hC d_Ck_isReportTime_10 (by decide) ?_
    exact x_iret hC rfl rfl ⟨bz_t (h6), rfl⟩ (by decide) (by decide) d_Ck_isReportTime_14
set_option maxRecDepth 100000 in
set_option maxHeartbeats 4000000 in
theorem c_Ta_count {Γ : mx_X} {lau : Launch} {nx : Nat} {u : Nat → Nat → Bool} {mi : mx_Mm} {k : Nat} (hnx : 5 ≤ nx) (hu : ∀ p k, 2 ≤ p → u p k = true) (hk : k < 10) : mx_C Γ lau M_Ta_count [.ref 3, .int (nI k)] (nx, u, mi) (fun ρ τ => ρ = none ∧ τ = (nx, u, mx_up mi 4 k (mi 4 k + nI 1))) := by
  refine mx_C.intro (by decide) rfl (Nat.le_of_ble_eq_true rfl) (fun κ _ hC => ?_)
  show mx_G Γ κ _ _ 0 [(0, .ref 3), (1, .int (nI k))] [] (nx, u, mi) 0 0
  refine x_aload_n (q := 1) hC d_Ta_count_0 rfl rfl rfl ?_
  refine x_getr (q := 4) (p := 3) (j := 0) (r := 4) hC f_Ta_9 rfl rfl rfl (by omega) (hu _ _ (by decide)) d_Ta_count_1 rfl ?_
  refine x_iload_n (q := 5) hC d_Ta_count_4 rfl rfl rfl ?_
  refine x_dup2 (q := 6) hC d_Ta_count_5 rfl rfl rfl ?_
  refine x_iald (q := 7) (p := 4) hC k rfl (by omega) rfl (by omega) (by decide) d_Ta_count_6 rfl ?_
  refine x_iconst (q := 8) (v := nI 1) hC d_Ta_count_7 (by decide) rfl ?_
  refine x_iadd (q := 9) (z := (mi 4 k) + (nI 1)) hC d_Ta_count_8 rfl rfl ?_
  refine x_iast (q := 10) (p := 4) hC k rfl (by omega) (by omega) rfl (by omega) (by decide) d_Ta_count_9 rfl ?_
  exact x_vret hC rfl ⟨rfl, rfl⟩ (by decide) (by decide) d_Ta_count_10
set_option maxRecDepth 100000 in
set_option maxHeartbeats 4000000 in
theorem c_Ta_countOf {Γ : mx_X} {lau : Launch} {nx : Nat} {u : Nat → Nat → Bool} {mi : mx_Mm} {k : Nat} (hnx : 5 ≤ nx) (hu : ∀ p k, 2 ≤ p → u p k = true) (hk : k < 10) : mx_C Γ lau M_Ta_countOf [.ref 3, .int (nI k)] (nx, u, mi) (fun ρ τ => ρ = some (.int (mi 4 k)) ∧ τ = (nx, u, mi)) := by
  refine mx_C.intro (by decide) rfl (Nat.le_of_ble_eq_true rfl) (fun κ _ hC => ?_)
  show mx_G Γ κ _ _ 0 [(0, .ref 3), (1, .int (nI k))] [] (nx, u, mi) 0 0
  refine x_aload_n (q := 1) hC d_Ta_countOf_0 rfl rfl rfl ?_
  refine x_getr (q := 4) (p := 3) (j := 0) (r := 4) hC f_Ta_9 rfl rfl rfl (by omega) (hu _ _ (by decide)) d_Ta_countOf_1 rfl ?_
  refine x_iload_n (q := 5) hC d_Ta_countOf_4 rfl rfl rfl ?_
  refine x_iald (q := 6) (p := 4) hC k rfl (by omega) rfl (by omega) (by decide) d_Ta_countOf_5 rfl ?_
  exact x_iret hC rfl rfl ⟨rfl, rfl⟩ (by decide) (by decide) d_Ta_countOf_6
set_option maxRecDepth 100000 in
set_option maxHeartbeats 4000000 in
theorem c_Ne_costOf {Γ : mx_X} {lau : Launch} {nx : Nat} {u : Nat → Nat → Bool} {mi : mx_Mm} {a b : Nat} (hnx : 34 ≤ nx) (hu : ∀ p k, 2 ≤ p → u p k = true) (ha : a < 6) (hb : b < 6) : mx_C Γ lau M_Ne_costOf [.ref 5, .int (nI a), .int (nI b)] (nx, u, mi) (fun ρ τ => ρ = some (.int (mi (7 + a) b)) ∧ τ = (nx, u, mi)) := by
  refine mx_C.intro (by decide) rfl (Nat.le_of_ble_eq_true rfl) (fun κ _ hC => ?_)
  show mx_G Γ κ _ _ 0 [(0, .ref 5), (1, .int (nI a)), (2, .int (nI b))] [] (nx, u, mi) 0 0
  refine x_aload_n (q := 1) hC d_Ne_costOf_0 rfl rfl rfl ?_
  refine x_getr (q := 4) (p := 5) (j := 0) (r := 6) hC f_Ne_11 rfl rfl rfl (by omega) (hu _ _ (by decide)) d_Ne_costOf_1 rfl ?_
  refine x_iload_n (q := 5) hC d_Ne_costOf_4 rfl rfl rfl ?_
  refine x_aald (q := 6) (p := 6) (r := 7 + a) hC a (mr_6 _ (by omega)) rfl (by omega) rfl (by omega) (by decide) d_Ne_costOf_5 rfl ?_
  refine x_iload_n (q := 7) hC d_Ne_costOf_6 rfl rfl rfl ?_
  refine x_iald (q := 8) (p := 7 + a) hC b (sh_7 _ (by omega)) (by omega) rfl (by omega) (by decide) d_Ne_costOf_7 rfl ?_
  exact x_iret hC rfl rfl ⟨rfl, rfl⟩ (by decide) (by decide) d_Ne_costOf_8
set_option maxRecDepth 100000 in
set_option maxHeartbeats 4000000 in
theorem c_Ne_lengthOf {Γ : mx_X} {lau : Launch} {nx : Nat} {u : Nat → Nat → Bool} {mi : mx_Mm} {a b : Nat} (hnx : 34 ≤ nx) (hu : ∀ p k, 2 ≤ p → u p k = true) (ha : a < 6) (hb : b < 6) : mx_C Γ lau M_Ne_lengthOf [.ref 5, .int (nI a), .int (nI b)] (nx, u, mi) (fun ρ τ => ρ = some (.int (mi (14 + a) b)) ∧ τ = (nx, u, mi)) := by
  refine mx_C.intro (by decide) rfl (Nat.le_of_ble_eq_true rfl) (fun κ _ hC => ?_)
  show mx_G Γ κ _ _ 0 [(0, .ref 5), (1, .int (nI a)), (2, .int (nI b))] [] (nx, u, mi) 0 0
  refine x_aload_n (q := 1) hC d_Ne_lengthOf_0 rfl rfl rfl ?_
  refine x_getr (q := 4) (p := 5) (j := 1) (r := 13) hC f_Ne_16 rfl rfl rfl (by omega) (hu _ _ (by decide)) d_Ne_lengthOf_1 rfl ?_
  refine x_iload_n (q := 5) hC d_Ne_lengthOf_4 rfl rfl rfl ?_
  refine x_aald (q := 6) (p := 13) (r := 14 + a) hC a (mr_13 _ (by omega)) rfl (by omega) rfl (by omega) (by decide) d_Ne_lengthOf_5 rfl ?_
  refine x_iload_n (q := 7) hC d_Ne_lengthOf_6 rfl rfl rfl ?_
  refine x_iald (q := 8) (p := 14 + a) hC b (sh_14 _ (by omega)) (by omega) rfl (by omega) (by decide) d_Ne_lengthOf_7 rfl ?_
  exact x_iret hC rfl rfl ⟨rfl, rfl⟩ (by decide) (by decide) d_Ne_lengthOf_8
set_option maxRecDepth 100000 in
set_option maxHeartbeats 4000000 in
theorem c_Ne_nextTowards {Γ : mx_X} {lau : Launch} {nx : Nat} {u : Nat → Nat → Bool} {mi : mx_Mm} {a b : Nat} (hnx : 34 ≤ nx) (hu : ∀ p k, 2 ≤ p → u p k = true) (ha : a < 6) (hb : b < 6) : mx_C Γ lau M_Ne_nextTowards [.ref 5, .int (nI a), .int (nI b)] (nx, u, mi) (fun ρ τ => ρ = some (.int (mi (21 + a) b)) ∧ τ = (nx, u, mi)) := by
  refine mx_C.intro (by decide) rfl (Nat.le_of_ble_eq_true rfl) (fun κ _ hC => ?_)
  show mx_G Γ κ _ _ 0 [(0, .ref 5), (1, .int (nI a)), (2, .int (nI b))] [] (nx, u, mi) 0 0
  refine x_aload_n (q := 1) hC d_Ne_nextTowards_0 rfl rfl rfl ?_
  refine x_getr (q := 4) (p := 5) (j := 2) (r := 20) hC f_Ne_19 rfl rfl rfl (by omega) (hu _ _ (by decide)) d_Ne_nextTowards_1 rfl ?_
  refine x_iload_n (q := 5) hC d_Ne_nextTowards_4 rfl rfl rfl ?_
  refine x_aald (q := 6) (p := 20) (r := 21 + a) hC a (mr_20 _ (by omega)) rfl (by omega) rfl (by omega) (by decide) d_Ne_nextTowards_5 rfl ?_
  refine x_iload_n (q := 7) hC d_Ne_nextTowards_6 rfl rfl rfl ?_
  refine x_iald (q := 8) (p := 21 + a) hC b (sh_21 _ (by omega)) (by omega) rfl (by omega) (by decide) d_Ne_nextTowards_7 rfl ?_
  exact x_iret hC rfl rfl ⟨rfl, rfl⟩ (by decide) (by decide) d_Ne_nextTowards_8
set_option maxRecDepth 100000 in
set_option maxHeartbeats 4000000 in
theorem c_Ne_fromFarthest {Γ : mx_X} {lau : Launch} {nx : Nat} {u : Nat → Nat → Bool} {mi : mx_Mm} {a b : Nat} (hnx : 34 ≤ nx) (hu : ∀ p k, 2 ≤ p → u p k = true) (ha : a < 6) (hb : b < 6) : mx_C Γ lau M_Ne_fromFarthest [.ref 5, .int (nI a), .int (nI b)] (nx, u, mi) (fun ρ τ => ρ = some (.int (mi (28 + a) b)) ∧ τ = (nx, u, mi)) := by
  refine mx_C.intro (by decide) rfl (Nat.le_of_ble_eq_true rfl) (fun κ _ hC => ?_)
  show mx_G Γ κ _ _ 0 [(0, .ref 5), (1, .int (nI a)), (2, .int (nI b))] [] (nx, u, mi) 0 0
  refine x_aload_n (q := 1) hC d_Ne_fromFarthest_0 rfl rfl rfl ?_
  refine x_getr (q := 4) (p := 5) (j := 3) (r := 27) hC f_Ne_22 rfl rfl rfl (by omega) (hu _ _ (by decide)) d_Ne_fromFarthest_1 rfl ?_
  refine x_iload_n (q := 5) hC d_Ne_fromFarthest_4 rfl rfl rfl ?_
  refine x_aald (q := 6) (p := 27) (r := 28 + a) hC a (mr_27 _ (by omega)) rfl (by omega) rfl (by omega) (by decide) d_Ne_fromFarthest_5 rfl ?_
  refine x_iload_n (q := 7) hC d_Ne_fromFarthest_6 rfl rfl rfl ?_
  refine x_iald (q := 8) (p := 28 + a) hC b (sh_28 _ (by omega)) (by omega) rfl (by omega) (by decide) d_Ne_fromFarthest_7 rfl ?_
  exact x_iret hC rfl rfl ⟨rfl, rfl⟩ (by decide) (by decide) d_Ne_fromFarthest_8
set_option maxRecDepth 100000 in
set_option maxHeartbeats 4000000 in
theorem c_Ne_areLinked {Γ : mx_X} {lau : Launch} {nx : Nat} {u : Nat → Nat → Bool} {mi : mx_Mm} {a b : Nat} (hnx : 34 ≤ nx) (hu : ∀ p k, 2 ≤ p → u p k = true) (ha : a < 6) (hb : b < 6) : mx_C Γ lau M_Ne_areLinked [.ref 5, .int (nI a), .int (nI b)] (nx, u, mi) (fun ρ τ => ρ = some (.int (bz (¬ mi (7 + a) b = 0))) ∧ τ = (nx, u, mi)) := by
  refine mx_C.intro (by decide) rfl (Nat.le_of_ble_eq_true rfl) (fun κ _ hC => ?_)
  show mx_G Γ κ _ _ 0 [(0, .ref 5), (1, .int (nI a)), (2, .int (nI b))] [] (nx, u, mi) 0 0
  refine x_aload_n (q := 1) hC d_Ne_areLinked_0 rfl rfl rfl ?_
  refine x_getr (q := 4) (p := 5) (j := 0) (r := 6) hC f_Ne_11 rfl rfl rfl (by omega) (hu _ _ (by decide)) d_Ne_areLinked_1 rfl ?_
  refine x_iload_n (q := 5) hC d_Ne_areLinked_4 rfl rfl rfl ?_
  refine x_aald (q := 6) (p := 6) (r := 7 + a) hC a (mr_6 _ (by omega)) rfl (by omega) rfl (by omega) (by decide) d_Ne_areLinked_5 rfl ?_
  refine x_iload_n (q := 7) hC d_Ne_areLinked_6 rfl rfl rfl ?_
  refine x_iald (q := 8) (p := 7 + a) hC b (sh_7 _ (by omega)) (by omega) rfl (by omega) (by decide) d_Ne_areLinked_7 rfl ?_
  refine x_if_eq (tgt := 15) (q := 11) hC d_Ne_areLinked_8 (by decide) rfl (fun h8 => ?_) (fun h8 => ?_)
  · skip
    refine x_iconst (q := 16) (v := nI 0) hC d_Ne_areLinked_15 (by decide) rfl ?_
    exact x_iret hC rfl rfl ⟨bz_f (fun q => q h8), rfl⟩ (by decide) (by decide) d_Ne_areLinked_16
  · skip
    refine x_iconst (q := 12) (v := nI 1) hC d_Ne_areLinked_11 (by decide) rfl ?_
    refine x_goto (tgt := 16) hC d_Ne_areLinked_12 (by decide) ?_
    exact x_iret hC rfl rfl ⟨bz_t (h8), rfl⟩ (by decide) (by decide) d_Ne_areLinked_16
set_option maxRecDepth 100000 in
set_option maxHeartbeats 4000000 in
theorem c_Ne_areConnected {Γ : mx_X} {lau : Launch} {nx : Nat} {u : Nat → Nat → Bool} {mi : mx_Mm} {a b : Nat} (hnx : 34 ≤ nx) (hu : ∀ p k, 2 ≤ p → u p k = true) (ha : a < 6) (hb : b < 6) : mx_C Γ lau M_Ne_areConnected [.ref 5, .int (nI a), .int (nI b)] (nx, u, mi) (fun ρ τ => ρ = some (.int (bz (mi (14 + a) b < nI 1000))) ∧ τ = (nx, u, mi)) := by
  refine mx_C.intro (by decide) rfl (Nat.le_of_ble_eq_true rfl) (fun κ _ hC => ?_)
  show mx_G Γ κ _ _ 0 [(0, .ref 5), (1, .int (nI a)), (2, .int (nI b))] [] (nx, u, mi) 0 0
  refine x_aload_n (q := 1) hC d_Ne_areConnected_0 rfl rfl rfl ?_
  refine x_getr (q := 4) (p := 5) (j := 1) (r := 13) hC f_Ne_16 rfl rfl rfl (by omega) (hu _ _ (by decide)) d_Ne_areConnected_1 rfl ?_
  refine x_iload_n (q := 5) hC d_Ne_areConnected_4 rfl rfl rfl ?_
  refine x_aald (q := 6) (p := 13) (r := 14 + a) hC a (mr_13 _ (by omega)) rfl (by omega) rfl (by omega) (by decide) d_Ne_areConnected_5 rfl ?_
  refine x_iload_n (q := 7) hC d_Ne_areConnected_6 rfl rfl rfl ?_
  refine x_iald (q := 8) (p := 14 + a) hC b (sh_14 _ (by omega)) (by omega) rfl (by omega) (by decide) d_Ne_areConnected_7 rfl ?_
  refine x_sipush (q := 11) (v := nI 1000) hC d_Ne_areConnected_8 (by decide) rfl ?_
  refine x_icmp_ge (tgt := 18) (q := 14) hC d_Ne_areConnected_11 (by decide) rfl (fun h11 => ?_) (fun h11 => ?_)
  · skip
    refine x_iconst (q := 19) (v := nI 0) hC d_Ne_areConnected_18 (by decide) rfl ?_
    exact x_iret hC rfl rfl ⟨bz_f (Int32.not_lt.mpr h11), rfl⟩ (by decide) (by decide) d_Ne_areConnected_19
  · skip
    refine x_iconst (q := 15) (v := nI 1) hC d_Ne_areConnected_14 (by decide) rfl ?_
    refine x_goto (tgt := 19) hC d_Ne_areConnected_15 (by decide) ?_
    exact x_iret hC rfl rfl ⟨bz_t (Int32.not_le.mp h11), rfl⟩ (by decide) (by decide) d_Ne_areConnected_19
set_option maxRecDepth 100000 in
set_option maxHeartbeats 4000000 in
theorem c_JA_fill {Γ : mx_X} {lau : Launch} {nx : Nat} {u : Nat → Nat → Bool} {mi : mx_Mm} {p n : Nat} {v : Int32} (hsh : mx_SH p = (0, n)) (hp : p < nx) (hp1 : 1 ≤ p) (hn : n < 1000) : mx_C Γ lau M_JA_fill [.ref p, .int v] (nx, u, mi) (fun ρ τ => ρ = none ∧ τ = (nx, u, fill_m p n v mi)) := by
  refine mx_C.introF (by decide +kernel) rfl (Nat.le_of_ble_eq_true rfl) (fun κ _ hC => ?_)
  show mx_G Γ κ _ _ 0 [(0, .ref p), (1, .int v)] [] (nx, u, mi) 0 0
  refine x_iconst (q := 1) (v := nI 0) hC d_JA_fill_0 (by decide) rfl ?_
  refine x_istore_n (q := 2) (L1 := [(2, .int (nI 0)), (0, .ref p), (1, .int v)]) hC d_JA_fill_1 rfl (by decide) rfl rfl ?_
  refine x_aload_n (q := 3) hC d_JA_fill_2 rfl rfl rfl ?_
  refine x_alen (q := 4) (v := nI n) hC hsh (by omega) rfl d_JA_fill_3 rfl ?_
  refine x_istore_n (q := 5) (L1 := [(3, .int (nI n)), (2, .int (nI 0)), (0, .ref p), (1, .int v)]) hC d_JA_fill_4 rfl (by decide) rfl rfl ?_
  refine x_sub (L1 := [(3, .int (nI n)), (2, .int (nI 0)), (0, .ref p), (1, .int v)]) [0, 1, 2, 3] rfl ?_
  refine mx_loop (N := n) (Hd := fun i1 m2 => mx_G Γ κ _ _ 5 [(3, .int (nI n)), (2, .int (nI i1)), (0, .ref p), (1, .int v)] [] (nx, u, m2) 0 0) (fun i m => mx_up m p i v) (fun _ _ => True) trivial ?_ ?_ ?_
  · exact fun _ _ _ _ => trivial
  · intro i1 m2 hl3 hI4 hN5
    refine x_iload_n (q := 6) hC d_JA_fill_5 rfl rfl rfl ?_
    refine x_iload_n (q := 7) hC d_JA_fill_6 rfl rfl rfl ?_
    refine x_icmp_ge (tgt := 20) (q := 10) hC d_JA_fill_7 (by decide) rfl (fun h => absurd h (nI_ge hl3 (by omega))) (fun _ => ?_)
    refine x_aload_n (q := 11) hC d_JA_fill_10 rfl rfl rfl ?_
    refine x_iload_n (q := 12) hC d_JA_fill_11 rfl rfl rfl ?_
    refine x_iload_n (q := 13) hC d_JA_fill_12 rfl rfl rfl ?_
    refine x_iast (q := 14) (p := p) hC i1 hsh (by omega) (by omega) rfl (by omega) (by omega) d_JA_fill_13 rfl ?_
    refine x_iinc (q := 17) (y := nI (i1 + 1)) (L1 := [(2, .int (nI (i1 + 1))), (3, .int (nI n)), (0, .ref p), (1, .int v)]) hC d_JA_fill_14 rfl (mx_inc i1) (by decide) rfl rfl ?_
    refine x_goto (tgt := 5) hC d_JA_fill_17 (by decide) ?_
    exact x_close hN5 [1, 0, 2, 3] rfl (by rfl)
  · intro hx6
    refine mx_nr (fun m7 e8 => ?_)
    try rw [e8] at hx6
    refine x_iload_n (q := 6) hC d_JA_fill_5 rfl rfl rfl ?_
    refine x_iload_n (q := 7) hC d_JA_fill_6 rfl rfl rfl ?_
    refine x_icmp_ge (tgt := 20) (q := 10) hC d_JA_fill_7 (by decide) rfl (fun _ => ?_) (fun h => absurd (nI_le (Nat.le_refl _) (by omega)) h)
    subst e8
    exact x_vret hC rfl ⟨rfl, rfl⟩ (by decide) (by decide) d_JA_fill_20
set_option maxRecDepth 100000 in
set_option maxHeartbeats 4000000 in
theorem c_Ne_startLengths {Γ : mx_X} {lau : Launch} {nx : Nat} {u : Nat → Nat → Bool} {mi : mx_Mm}  (hnx : 34 ≤ nx) (hu : ∀ p k, 2 ≤ p → u p k = true)  : mx_C Γ lau M_Ne_startLengths [.ref 5] (nx, u, mi) (fun ρ τ => ρ = none ∧ τ = (nx, u, Ne_start mi)) := by
  refine mx_C.intro (by decide) rfl (Nat.le_of_ble_eq_true rfl) (fun κ _ hC => ?_)
  show mx_G Γ κ _ _ 0 [(0, .ref 5)] [] (nx, u, mi) 0 0
  refine x_iconst (q := 1) (v := nI 0) hC d_Ne_startLengths_0 (by decide) rfl ?_
  refine x_istore_n (q := 2) (L1 := [(1, .int (nI 0)), (0, .ref 5)]) hC d_Ne_startLengths_1 rfl (by decide) rfl rfl ?_
  refine x_sub (L1 := [(1, .int (nI 0)), (0, .ref 5)]) [0, 1] rfl ?_
  refine mx_loop (N := 6) (Hd := fun a m1 => mx_G Γ κ _ _ 2 [(1, .int (nI a)), (0, .ref 5)] [] (nx, u, m1) 0 0) (Ne_sl) (fun _ _ => True) trivial ?_ ?_ ?_
  · exact fun _ _ _ _ => trivial
  · intro a m1 hl2 hI3 hN4
    refine x_iload_n (q := 3) hC d_Ne_startLengths_2 rfl rfl rfl ?_
    refine x_bipush (q := 5) (v := nI 6) hC d_Ne_startLengths_3 (by decide) rfl ?_
    refine x_icmp_ge (tgt := 68) (q := 8) hC d_Ne_startLengths_5 (by decide) rfl (fun h => absurd h (nI_ge hl2 (by decide))) (fun _ => ?_)
    refine x_iconst (q := 9) (v := nI 0) hC d_Ne_startLengths_8 (by decide) rfl ?_
    refine x_istore_n (q := 10) (L1 := [(2, .int (nI 0)), (1, .int (nI a)), (0, .ref 5)]) hC d_Ne_startLengths_9 rfl (by decide) rfl rfl ?_
    refine x_sub (L1 := [(2, .int (nI 0)), (1, .int (nI a)), (0, .ref 5)]) [0, 1, 2] rfl ?_
    refine mx_loop (N := 6) (Hd := fun b m5 => mx_G Γ κ _ _ 10 [(2, .int (nI b)), (1, .int (nI a)), (0, .ref 5)] [] (nx, u, m5) 0 0) (Ne_sl1 a) (fun _ _ => True) trivial ?_ ?_ ?_
    · exact fun _ _ _ _ => trivial
    · intro b m5 hl6 hI7 hN8
      refine x_iload_n (q := 11) hC d_Ne_startLengths_10 rfl rfl rfl ?_
      refine x_bipush (q := 13) (v := nI 6) hC d_Ne_startLengths_11 (by decide) rfl ?_
      refine x_icmp_ge (tgt := 53) (q := 16) hC d_Ne_startLengths_13 (by decide) rfl (fun h => absurd h (nI_ge hl6 (by decide))) (fun _ => ?_)
      refine x_aload_n (q := 17) hC d_Ne_startLengths_16 rfl rfl rfl ?_
      refine x_getr (q := 20) (p := 5) (j := 1) (r := 13) hC f_Ne_16 rfl rfl rfl (by omega) (hu _ _ (by decide)) d_Ne_startLengths_17 rfl ?_
      refine x_iload_n (q := 21) hC d_Ne_startLengths_20 rfl rfl rfl ?_
      refine x_aald (q := 22) (p := 13) (r := 14 + a) hC a (mr_13 _ (by omega)) rfl (by omega) rfl (by omega) (by decide) d_Ne_startLengths_21 rfl ?_
      refine x_iload_n (q := 23) hC d_Ne_startLengths_22 rfl rfl rfl ?_
      refine x_aload_n (q := 24) hC d_Ne_startLengths_23 rfl rfl rfl ?_
      refine x_iload_n (q := 25) hC d_Ne_startLengths_24 rfl rfl rfl ?_
      refine x_iload_n (q := 26) hC d_Ne_startLengths_25 rfl rfl rfl ?_
      refine x_callV (q := 29) (p := 5) (A := [.int (nI a), .int (nI b)]) (S := [.int (nI b), .ref (14 + a)]) (c1 := 0) (s1 := 0) hC (c_Ne_areLinked (a := a) (b := b) (by omega) hu (by omega) (by omega)) s_Ne_startLengths_42 rfl (by omega) rfl rfl rfl (Nat.le_of_ble_eq_true rfl) rfl rfl (by decide) (by decide) d_Ne_startLengths_26 rfl (fun r τ hP => ?_)
      obtain ⟨rfl, rfl⟩ := hP
      show mx_G Γ κ _ _ 29 [(2, .int (nI b)), (1, .int (nI a)), (0, .ref 5)] [.int (bz (¬ m5 (7 + a) b = 0)), .int (nI b), .ref (14 + a)] (nx, u, m5) 0 0
      refine x_if_eq (tgt := 43) (q := 32) hC d_Ne_startLengths_29 (by decide) rfl (fun h29 => ?_) (fun h29 => ?_)
      · have h29 := bz_0 h29
        refine x_sipush (q := 46) (v := nI 1000) hC d_Ne_startLengths_43 (by decide) rfl ?_
        refine x_iast (q := 47) (p := 14 + a) hC b (sh_14 _ (by omega)) (by omega) (by omega) rfl (by omega) (by decide) d_Ne_startLengths_46 rfl ?_
        refine x_iinc (q := 50) (y := nI (b + 1)) (L1 := [(2, .int (nI (b + 1))), (1, .int (nI a)), (0, .ref 5)]) hC d_Ne_startLengths_47 rfl (mx_inc b) (by decide) rfl rfl ?_
        refine x_goto (tgt := 10) hC d_Ne_startLengths_50 (by decide) ?_
        exact x_close hN8 [0, 1, 2] rfl (by unfold Ne_sl1; first | rw [if_neg h29] | rw [if_pos (Decidable.not_not.mp h29)])
      · have h29 := bz_1 h29
        refine x_aload_n (q := 33) hC d_Ne_startLengths_32 rfl rfl rfl ?_
        refine x_getr (q := 36) (p := 5) (j := 0) (r := 6) hC f_Ne_11 rfl rfl rfl (by omega) (hu _ _ (by decide)) d_Ne_startLengths_33 rfl ?_
        refine x_iload_n (q := 37) hC d_Ne_startLengths_36 rfl rfl rfl ?_
        refine x_aald (q := 38) (p := 6) (r := 7 + a) hC a (mr_6 _ (by omega)) rfl (by omega) rfl (by omega) (by decide) d_Ne_startLengths_37 rfl ?_
        refine x_iload_n (q := 39) hC d_Ne_startLengths_38 rfl rfl rfl ?_
        refine x_iald (q := 40) (p := 7 + a) hC b (sh_7 _ (by omega)) (by omega) rfl (by omega) (by decide) d_Ne_startLengths_39 rfl ?_
        refine x_goto (tgt := 46) hC d_Ne_startLengths_40 (by decide) ?_
        refine x_iast (q := 47) (p := 14 + a) hC b (sh_14 _ (by omega)) (by omega) (by omega) rfl (by omega) (by decide) d_Ne_startLengths_46 rfl ?_
        refine x_iinc (q := 50) (y := nI (b + 1)) (L1 := [(2, .int (nI (b + 1))), (1, .int (nI a)), (0, .ref 5)]) hC d_Ne_startLengths_47 rfl (mx_inc b) (by decide) rfl rfl ?_
        refine x_goto (tgt := 10) hC d_Ne_startLengths_50 (by decide) ?_
        exact x_close hN8 [0, 1, 2] rfl (by unfold Ne_sl1; first | rw [if_neg h29] | rw [if_pos (Decidable.not_not.mp h29)])
    · intro hx9
      refine mx_nr (fun m10 e11 => ?_)
      try rw [e11] at hx9
      refine x_iload_n (q := 11) hC d_Ne_startLengths_10 rfl rfl rfl ?_
      refine x_bipush (q := 13) (v := nI 6) hC d_Ne_startLengths_11 (by decide) rfl ?_
      refine x_icmp_ge (tgt := 53) (q := 16) hC d_Ne_startLengths_13 (by decide) rfl (fun _ => ?_) (fun h => absurd (nI_le (Nat.le_refl _) (by decide)) h)
      refine x_aload_n (q := 54) hC d_Ne_startLengths_53 rfl rfl rfl ?_
      refine x_getr (q := 57) (p := 5) (j := 1) (r := 13) hC f_Ne_16 rfl rfl rfl (by omega) (hu _ _ (by decide)) d_Ne_startLengths_54 rfl ?_
      refine x_iload_n (q := 58) hC d_Ne_startLengths_57 rfl rfl rfl ?_
      refine x_aald (q := 59) (p := 13) (r := 14 + a) hC a (mr_13 _ (by omega)) rfl (by omega) rfl (by omega) (by decide) d_Ne_startLengths_58 rfl ?_
      refine x_iload_n (q := 60) hC d_Ne_startLengths_59 rfl rfl rfl ?_
      refine x_iconst (q := 61) (v := nI 0) hC d_Ne_startLengths_60 (by decide) rfl ?_
      refine x_iast (q := 62) (p := 14 + a) hC a (sh_14 _ (by omega)) (by omega) (by omega) rfl (by omega) (by decide) d_Ne_startLengths_61 rfl ?_
      refine x_iinc (q := 65) (y := nI (a + 1)) (L1 := [(1, .int (nI (a + 1))), (2, .int (nI 6)), (0, .ref 5)]) hC d_Ne_startLengths_62 rfl (mx_inc a) (by decide) rfl rfl ?_
      refine x_goto (tgt := 2) hC d_Ne_startLengths_65 (by decide) ?_
      subst e11
      exact x_close hN4 [0, 2] rfl (by rfl)
  · intro hx12
    refine mx_nr (fun m13 e14 => ?_)
    try rw [e14] at hx12
    refine x_iload_n (q := 3) hC d_Ne_startLengths_2 rfl rfl rfl ?_
    refine x_bipush (q := 5) (v := nI 6) hC d_Ne_startLengths_3 (by decide) rfl ?_
    refine x_icmp_ge (tgt := 68) (q := 8) hC d_Ne_startLengths_5 (by decide) rfl (fun _ => ?_) (fun h => absurd (nI_le (Nat.le_refl _) (by decide)) h)
    subst e14
    exact x_vret hC rfl ⟨rfl, rfl⟩ (by decide) (by decide) d_Ne_startLengths_68
set_option maxRecDepth 100000 in
set_option maxHeartbeats 4000000 in
theorem c_Ne_shortenBy {Γ : mx_X} {lau : Launch} {nx : Nat} {u : Nat → Nat → Bool} {mi : mx_Mm} {v : Nat} (hnx : 34 ≤ nx) (hu : ∀ p k, 2 ≤ p → u p k = true) (hv : v < 6) : mx_C Γ lau M_Ne_shortenBy [.ref 5, .int (nI v)] (nx, u, mi) (fun ρ τ => ρ = none ∧ τ = (nx, u, Ne_sh v mi)) := by
  refine mx_C.intro (by decide) rfl (Nat.le_of_ble_eq_true rfl) (fun κ _ hC => ?_)
  show mx_G Γ κ _ _ 0 [(0, .ref 5), (1, .int (nI v))] [] (nx, u, mi) 0 0
  refine x_iconst (q := 1) (v := nI 0) hC d_Ne_shortenBy_0 (by decide) rfl ?_
  refine x_istore_n (q := 2) (L1 := [(2, .int (nI 0)), (0, .ref 5), (1, .int (nI v))]) hC d_Ne_shortenBy_1 rfl (by decide) rfl rfl ?_
  refine x_sub (L1 := [(2, .int (nI 0)), (0, .ref 5), (1, .int (nI v))]) [0, 1, 2] rfl ?_
  refine mx_loop (N := 6) (Hd := fun a m1 => mx_G Γ κ _ _ 2 [(2, .int (nI a)), (0, .ref 5), (1, .int (nI v))] [] (nx, u, m1) 0 0) (fun a => mx_lp 6 (Ne_sh1 v a)) (fun _ _ => True) trivial ?_ ?_ ?_
  · exact fun _ _ _ _ => trivial
  · intro a m1 hl2 hI3 hN4
    refine x_iload_n (q := 3) hC d_Ne_shortenBy_2 rfl rfl rfl ?_
    refine x_bipush (q := 5) (v := nI 6) hC d_Ne_shortenBy_3 (by decide) rfl ?_
    refine x_icmp_ge (tgt := 64) (q := 8) hC d_Ne_shortenBy_5 (by decide) rfl (fun h => absurd h (nI_ge hl2 (by decide))) (fun _ => ?_)
    refine x_iconst (q := 9) (v := nI 0) hC d_Ne_shortenBy_8 (by decide) rfl ?_
    refine x_istore_n (q := 10) (L1 := [(3, .int (nI 0)), (2, .int (nI a)), (0, .ref 5), (1, .int (nI v))]) hC d_Ne_shortenBy_9 rfl (by decide) rfl rfl ?_
    refine x_sub (L1 := [(3, .int (nI 0)), (2, .int (nI a)), (0, .ref 5), (1, .int (nI v))]) [0, 1, 2, 3] rfl ?_
    refine mx_loop (N := 6) (Hd := fun b m5 => mx_G Γ κ _ _ 10 [(3, .int (nI b)), (2, .int (nI a)), (0, .ref 5), (1, .int (nI v))] [] (nx, u, m5) 0 0) (Ne_sh1 v a) (fun _ _ => True) trivial ?_ ?_ ?_
    · exact fun _ _ _ _ => trivial
    · intro b m5 hl6 hI7 hN8
      refine x_iload_n (q := 11) hC d_Ne_shortenBy_10 rfl rfl rfl ?_
      refine x_bipush (q := 13) (v := nI 6) hC d_Ne_shortenBy_11 (by decide) rfl ?_
      refine x_icmp_ge (tgt := 58) (q := 16) hC d_Ne_shortenBy_13 (by decide) rfl (fun h => absurd h (nI_ge hl6 (by decide))) (fun _ => ?_)
      refine x_aload_n (q := 17) hC d_Ne_shortenBy_16 rfl rfl rfl ?_
      refine x_getr (q := 20) (p := 5) (j := 1) (r := 13) hC f_Ne_16 rfl rfl rfl (by omega) (hu _ _ (by decide)) d_Ne_shortenBy_17 rfl ?_
      refine x_iload_n (q := 21) hC d_Ne_shortenBy_20 rfl rfl rfl ?_
      refine x_aald (q := 22) (p := 13) (r := 14 + a) hC a (mr_13 _ (by omega)) rfl (by omega) rfl (by omega) (by decide) d_Ne_shortenBy_21 rfl ?_
      refine x_iload_n (q := 23) hC d_Ne_shortenBy_22 rfl rfl rfl ?_
      refine x_aload_n (q := 24) hC d_Ne_shortenBy_23 rfl rfl rfl ?_
      refine x_getr (q := 27) (p := 5) (j := 1) (r := 13) hC f_Ne_16 rfl rfl rfl (by omega) (hu _ _ (by decide)) d_Ne_shortenBy_24 rfl ?_
      refine x_iload_n (q := 28) hC d_Ne_shortenBy_27 rfl rfl rfl ?_
      refine x_aald (q := 29) (p := 13) (r := 14 + a) hC a (mr_13 _ (by omega)) rfl (by omega) rfl (by omega) (by decide) d_Ne_shortenBy_28 rfl ?_
      refine x_iload_n (q := 30) hC d_Ne_shortenBy_29 rfl rfl rfl ?_
      refine x_iald (q := 31) (p := 14 + a) hC b (sh_14 _ (by omega)) (by omega) rfl (by omega) (by decide) d_Ne_shortenBy_30 rfl ?_
      refine x_aload_n (q := 32) hC d_Ne_shortenBy_31 rfl rfl rfl ?_
      refine x_getr (q := 35) (p := 5) (j := 1) (r := 13) hC f_Ne_16 rfl rfl rfl (by omega) (hu _ _ (by decide)) d_Ne_shortenBy_32 rfl ?_
      refine x_iload_n (q := 36) hC d_Ne_shortenBy_35 rfl rfl rfl ?_
      refine x_aald (q := 37) (p := 13) (r := 14 + a) hC a (mr_13 _ (by omega)) rfl (by omega) rfl (by omega) (by decide) d_Ne_shortenBy_36 rfl ?_
      refine x_iload_n (q := 38) hC d_Ne_shortenBy_37 rfl rfl rfl ?_
      refine x_iald (q := 39) (p := 14 + a) hC v (sh_14 _ (by omega)) (by omega) rfl (by omega) (by decide) d_Ne_shortenBy_38 rfl ?_
      refine x_aload_n (q := 40) hC d_Ne_shortenBy_39 rfl rfl rfl ?_
      refine x_getr (q := 43) (p := 5) (j := 1) (r := 13) hC f_Ne_16 rfl rfl rfl (by omega) (hu _ _ (by decide)) d_Ne_shortenBy_40 rfl ?_
      refine x_iload_n (q := 44) hC d_Ne_shortenBy_43 rfl rfl rfl ?_
      refine x_aald (q := 45) (p := 13) (r := 14 + v) hC v (mr_13 _ (by omega)) rfl (by omega) rfl (by omega) (by decide) d_Ne_shortenBy_44 rfl ?_
      refine x_iload_n (q := 46) hC d_Ne_shortenBy_45 rfl rfl rfl ?_
      refine x_iald (q := 47) (p := 14 + v) hC b (sh_14 _ (by omega)) (by omega) rfl (by omega) (by decide) d_Ne_shortenBy_46 rfl ?_
      refine x_iadd (q := 48) (z := (m5 (14 + a) v) + (m5 (14 + v) b)) hC d_Ne_shortenBy_47 rfl rfl ?_
      refine x_callS (q := 51) (A := [.int (m5 (14 + a) b), .int ((m5 (14 + a) v) + (m5 (14 + v) b))]) (S := [.int (nI b), .ref (14 + a)]) (c1 := 0) (s1 := 0) hC (c_JM_min) s_Ne_shortenBy_46 rfl rfl rfl (Nat.le_of_ble_eq_true rfl) rfl rfl (by decide) (by decide) d_Ne_shortenBy_48 rfl (fun r τ hP => ?_)
      obtain ⟨rfl, rfl⟩ := hP
      show mx_G Γ κ _ _ 51 [(3, .int (nI b)), (2, .int (nI a)), (0, .ref 5), (1, .int (nI v))] [.int (pm_n (m5 (14 + a) b) ((m5 (14 + a) v) + (m5 (14 + v) b))), .int (nI b), .ref (14 + a)] (nx, u, m5) 0 0
      refine x_iast (q := 52) (p := 14 + a) hC b (sh_14 _ (by omega)) (by omega) (by omega) rfl (by omega) (by decide) d_Ne_shortenBy_51 rfl ?_
      refine mx_nr (fun m9 e10 => ?_)
      refine x_iinc (q := 55) (y := nI (b + 1)) (L1 := [(3, .int (nI (b + 1))), (2, .int (nI a)), (0, .ref 5), (1, .int (nI v))]) hC d_Ne_shortenBy_52 rfl (mx_inc b) (by decide) rfl rfl ?_
      refine x_goto (tgt := 10) hC d_Ne_shortenBy_55 (by decide) ?_
      subst e10
      exact x_close hN8 [0, 1, 2, 3] rfl (by rfl)
    · intro hx11
      refine mx_nr (fun m12 e13 => ?_)
      try rw [e13] at hx11
      refine x_iload_n (q := 11) hC d_Ne_shortenBy_10 rfl rfl rfl ?_
      refine x_bipush (q := 13) (v := nI 6) hC d_Ne_shortenBy_11 (by decide) rfl ?_
      refine x_icmp_ge (tgt := 58) (q := 16) hC d_Ne_shortenBy_13 (by decide) rfl (fun _ => ?_) (fun h => absurd (nI_le (Nat.le_refl _) (by decide)) h)
      refine x_iinc (q := 61) (y := nI (a + 1)) (L1 := [(2, .int (nI (a + 1))), (3, .int (nI 6)), (0, .ref 5), (1, .int (nI v))]) hC d_Ne_shortenBy_58 rfl (mx_inc a) (by decide) rfl rfl ?_
      refine x_goto (tgt := 2) hC d_Ne_shortenBy_61 (by decide) ?_
      subst e13
      exact x_close hN4 [0, 2, 3] rfl (by rfl)
  · intro hx14
    refine mx_nr (fun m15 e16 => ?_)
    try rw [e16] at hx14
    refine x_iload_n (q := 3) hC d_Ne_shortenBy_2 rfl rfl rfl ?_
    refine x_bipush (q := 5) (v := nI 6) hC d_Ne_shortenBy_3 (by decide) rfl ?_
    refine x_icmp_ge (tgt := 64) (q := 8) hC d_Ne_shortenBy_5 (by decide) rfl (fun _ => ?_) (fun h => absurd (nI_le (Nat.le_refl _) (by decide)) h)
    subst e16
    exact x_vret hC rfl ⟨rfl, rfl⟩ (by decide) (by decide) d_Ne_shortenBy_64
set_option maxRecDepth 100000 in
set_option maxHeartbeats 4000000 in
theorem c_Ne_findNext {Γ : mx_X} {lau : Launch} {nx : Nat} {u : Nat → Nat → Bool} {mi : mx_Mm} {a t : Nat} (hnx : 34 ≤ nx) (hu : ∀ p k, 2 ≤ p → u p k = true) (ha : a < 6) (ht : t < 6) : mx_C Γ lau M_Ne_findNext [.ref 5, .int (nI a), .int (nI t)] (nx, u, mi) (fun ρ τ => ρ = some (.int (Ne_next a t mi)) ∧ τ = (nx, u, mi)) := by
  refine mx_C.intro (by decide) rfl (Nat.le_of_ble_eq_true rfl) (fun κ _ hC => ?_)
  show mx_G Γ κ _ _ 0 [(0, .ref 5), (1, .int (nI a)), (2, .int (nI t))] [] (nx, u, mi) 0 0
  refine x_iload_n (q := 1) hC d_Ne_findNext_0 rfl rfl rfl ?_
  refine x_iload_n (q := 2) hC d_Ne_findNext_1 rfl rfl rfl ?_
  refine x_icmp_eq (tgt := 14) (q := 5) hC d_Ne_findNext_2 (by decide) rfl (fun h2 => ?_) (fun h2 => ?_)
  · skip
    refine x_iconst (q := 15) (v := (-1)) hC d_Ne_findNext_14 (by decide) rfl ?_
    exact x_iret hC rfl rfl ⟨by unfold Ne_next; first | (rw [if_pos (Or.inl ((nI_eq (by omega) (by omega)).mp h2))]; done) | (rw [if_pos (Or.inr h11)]; done) | (rw [if_neg (fun q => q.elim (fun z => h2 (by rw [z])) (fun z => z h11)), if_neg (by rw [pm_fd_none hx]; decide)]; done) | (rw [if_neg (fun q => q.elim (fun z => h2 (by rw [z])) (fun z => z h11)), pm_fd_eq hl1 (decide_eq_true ⟨h30, h58⟩) hn2, if_pos hl1]; done), rfl⟩ (by decide) (by decide) d_Ne_findNext_15
  · skip
    refine x_aload_n (q := 6) hC d_Ne_findNext_5 rfl rfl rfl ?_
    refine x_iload_n (q := 7) hC d_Ne_findNext_6 rfl rfl rfl ?_
    refine x_iload_n (q := 8) hC d_Ne_findNext_7 rfl rfl rfl ?_
    refine x_callV (q := 11) (p := 5) (A := [.int (nI a), .int (nI t)]) (S := []) (c1 := 0) (s1 := 0) hC (c_Ne_areConnected (a := a) (b := t) (by omega) hu (by omega) (by omega)) s_Ne_findNext_51 rfl (by omega) rfl rfl rfl (Nat.le_of_ble_eq_true rfl) rfl rfl (by decide) (by decide) d_Ne_findNext_8 rfl (fun r τ hP => ?_)
    obtain ⟨rfl, rfl⟩ := hP
    show mx_G Γ κ _ _ 11 [(0, .ref 5), (1, .int (nI a)), (2, .int (nI t))] [.int (bz (mi (14 + a) t < nI 1000))] (nx, u, mi) 0 0
    refine x_if_ne (tgt := 16) (q := 14) hC d_Ne_findNext_11 (by decide) rfl (fun h11 => ?_) (fun h11 => ?_)
    · have h11 := bz_1 h11
      refine x_iconst (q := 17) (v := nI 0) hC d_Ne_findNext_16 (by decide) rfl ?_
      refine x_istore_n (q := 18) (L1 := [(3, .int (nI 0)), (0, .ref 5), (1, .int (nI a)), (2, .int (nI t))]) hC d_Ne_findNext_17 rfl (by decide) rfl rfl ?_
      refine x_sub (L1 := [(3, .int (nI 0)), (0, .ref 5), (1, .int (nI a)), (2, .int (nI t))]) [0, 1, 2, 3] rfl ?_
      refine mx_loopR (N := 6) (Hd := fun n => mx_G Γ κ _ _ 18 [(3, .int (nI n)), (0, .ref 5), (1, .int (nI a)), (2, .int (nI t))] [] (nx, u, mi) 0 0) (Ne_nt a t mi) ?_ ?_
      · intro n hl1 hn2 hN3
        refine x_iload_n (q := 19) hC d_Ne_findNext_18 rfl rfl rfl ?_
        refine x_bipush (q := 21) (v := nI 6) hC d_Ne_findNext_19 (by decide) rfl ?_
        refine x_icmp_ge (tgt := 69) (q := 24) hC d_Ne_findNext_21 (by decide) rfl (fun h => absurd h (nI_ge hl1 (by decide))) (fun _ => ?_)
        refine x_aload_n (q := 25) hC d_Ne_findNext_24 rfl rfl rfl ?_
        refine x_iload_n (q := 26) hC d_Ne_findNext_25 rfl rfl rfl ?_
        refine x_iload_n (q := 27) hC d_Ne_findNext_26 rfl rfl rfl ?_
        refine x_callV (q := 30) (p := 5) (A := [.int (nI a), .int (nI n)]) (S := []) (c1 := 0) (s1 := 0) hC (c_Ne_areLinked (a := a) (b := n) (by omega) hu (by omega) (by omega)) s_Ne_findNext_42 rfl (by omega) rfl rfl rfl (Nat.le_of_ble_eq_true rfl) rfl rfl (by decide) (by decide) d_Ne_findNext_27 rfl (fun r τ hP => ?_)
        obtain ⟨rfl, rfl⟩ := hP
        show mx_G Γ κ _ _ 30 [(3, .int (nI n)), (0, .ref 5), (1, .int (nI a)), (2, .int (nI t))] [.int (bz (¬ mi (7 + a) n = 0))] (nx, u, mi) 0 0
        refine x_if_eq (tgt := 63) (q := 33) hC d_Ne_findNext_30 (by decide) rfl (fun h30 => ?_) (fun h30 => ?_)
        · have h30 := bz_0 h30
          refine x_iinc (q := 66) (y := nI (n + 1)) (L1 := [(3, .int (nI (n + 1))), (0, .ref 5), (1, .int (nI a)), (2, .int (nI t))]) hC d_Ne_findNext_63 rfl (mx_inc n) (by decide) rfl rfl ?_
          refine x_goto (tgt := 18) hC d_Ne_findNext_66 (by decide) ?_
          exact x_sub [0, 1, 2, 3] rfl (hN3 (by simp only [Ne_nt]; first | exact decide_eq_false (fun q => h30 q.1) | exact decide_eq_false (fun q => h58 q.2)))
        · have h30 := bz_1 h30
          refine x_aload_n (q := 34) hC d_Ne_findNext_33 rfl rfl rfl ?_
          refine x_getr (q := 37) (p := 5) (j := 0) (r := 6) hC f_Ne_11 rfl rfl rfl (by omega) (hu _ _ (by decide)) d_Ne_findNext_34 rfl ?_
          refine x_iload_n (q := 38) hC d_Ne_findNext_37 rfl rfl rfl ?_
          refine x_aald (q := 39) (p := 6) (r := 7 + a) hC a (mr_6 _ (by omega)) rfl (by omega) rfl (by omega) (by decide) d_Ne_findNext_38 rfl ?_
          refine x_iload_n (q := 40) hC d_Ne_findNext_39 rfl rfl rfl ?_
          refine x_iald (q := 41) (p := 7 + a) hC n (sh_7 _ (by omega)) (by omega) rfl (by omega) (by decide) d_Ne_findNext_40 rfl ?_
          refine x_aload_n (q := 42) hC d_Ne_findNext_41 rfl rfl rfl ?_
          refine x_getr (q := 45) (p := 5) (j := 1) (r := 13) hC f_Ne_16 rfl rfl rfl (by omega) (hu _ _ (by decide)) d_Ne_findNext_42 rfl ?_
          refine x_iload_n (q := 46) hC d_Ne_findNext_45 rfl rfl rfl ?_
          refine x_aald (q := 47) (p := 13) (r := 14 + n) hC n (mr_13 _ (by omega)) rfl (by omega) rfl (by omega) (by decide) d_Ne_findNext_46 rfl ?_
          refine x_iload_n (q := 48) hC d_Ne_findNext_47 rfl rfl rfl ?_
          refine x_iald (q := 49) (p := 14 + n) hC t (sh_14 _ (by omega)) (by omega) rfl (by omega) (by decide) d_Ne_findNext_48 rfl ?_
          refine x_iadd (q := 50) (z := (mi (7 + a) n) + (mi (14 + n) t)) hC d_Ne_findNext_49 rfl rfl ?_
          refine x_aload_n (q := 51) hC d_Ne_findNext_50 rfl rfl rfl ?_
          refine x_getr (q := 54) (p := 5) (j := 1) (r := 13) hC f_Ne_16 rfl rfl rfl (by omega) (hu _ _ (by decide)) d_Ne_findNext_51 rfl ?_
          refine x_iload_n (q := 55) hC d_Ne_findNext_54 rfl rfl rfl ?_
          refine x_aald (q := 56) (p := 13) (r := 14 + a) hC a (mr_13 _ (by omega)) rfl (by omega) rfl (by omega) (by decide) d_Ne_findNext_55 rfl ?_
          refine x_iload_n (q := 57) hC d_Ne_findNext_56 rfl rfl rfl ?_
          refine x_iald (q := 58) (p := 14 + a) hC t (sh_14 _ (by omega)) (by omega) rfl (by omega) (by decide) d_Ne_findNext_57 rfl ?_
          refine x_icmp_ne (tgt := 63) (q := 61) hC d_Ne_findNext_58 (by decide) rfl (fun h58 => ?_) (fun h58 => ?_)
          · skip
            refine x_iinc (q := 66) (y := nI (n + 1)) (L1 := [(3, .int (nI (n + 1))), (0, .ref 5), (1, .int (nI a)), (2, .int (nI t))]) hC d_Ne_findNext_63 rfl (mx_inc n) (by decide) rfl rfl ?_
            refine x_goto (tgt := 18) hC d_Ne_findNext_66 (by decide) ?_
            exact x_sub [0, 1, 2, 3] rfl (hN3 (by simp only [Ne_nt]; first | exact decide_eq_false (fun q => h30 q.1) | exact decide_eq_false (fun q => h58 q.2)))
          · skip
            refine x_iload_n (q := 62) hC d_Ne_findNext_61 rfl rfl rfl ?_
            exact x_iret hC rfl rfl ⟨by unfold Ne_next; first | (rw [if_pos (Or.inl ((nI_eq (by omega) (by omega)).mp h2))]; done) | (rw [if_pos (Or.inr h11)]; done) | (rw [if_neg (fun q => q.elim (fun z => h2 (by rw [z])) (fun z => z h11)), if_neg (by rw [pm_fd_none hx]; decide)]; done) | (rw [if_neg (fun q => q.elim (fun z => h2 (by rw [z])) (fun z => z h11)), pm_fd_eq hl1 (decide_eq_true ⟨h30, h58⟩) hn2, if_pos hl1]; done), rfl⟩ (by decide) (by decide) d_Ne_findNext_62
      · intro hx
        refine x_iload_n (q := 19) hC d_Ne_findNext_18 rfl rfl rfl ?_
        refine x_bipush (q := 21) (v := nI 6) hC d_Ne_findNext_19 (by decide) rfl ?_
        refine x_icmp_ge (tgt := 69) (q := 24) hC d_Ne_findNext_21 (by decide) rfl (fun _ => ?_) (fun h => absurd (nI_le (Nat.le_refl _) (by decide)) h)
        refine x_iconst (q := 70) (v := (-1)) hC d_Ne_findNext_69 (by decide) rfl ?_
        exact x_iret hC rfl rfl ⟨by unfold Ne_next; first | (rw [if_pos (Or.inl ((nI_eq (by omega) (by omega)).mp h2))]; done) | (rw [if_pos (Or.inr h11)]; done) | (rw [if_neg (fun q => q.elim (fun z => h2 (by rw [z])) (fun z => z h11)), if_neg (by rw [pm_fd_none hx]; decide)]; done) | (rw [if_neg (fun q => q.elim (fun z => h2 (by rw [z])) (fun z => z h11)), pm_fd_eq hl1 (decide_eq_true ⟨h30, h58⟩) hn2, if_pos hl1]; done), rfl⟩ (by decide) (by decide) d_Ne_findNext_70
    · have h11 := bz_0 h11
      refine x_iconst (q := 15) (v := (-1)) hC d_Ne_findNext_14 (by decide) rfl ?_
      exact x_iret hC rfl rfl ⟨by unfold Ne_next; first | (rw [if_pos (Or.inl ((nI_eq (by omega) (by omega)).mp h2))]; done) | (rw [if_pos (Or.inr h11)]; done) | (rw [if_neg (fun q => q.elim (fun z => h2 (by rw [z])) (fun z => z h11)), if_neg (by rw [pm_fd_none hx]; decide)]; done) | (rw [if_neg (fun q => q.elim (fun z => h2 (by rw [z])) (fun z => z h11)), pm_fd_eq hl1 (decide_eq_true ⟨h30, h58⟩) hn2, if_pos hl1]; done), rfl⟩ (by decide) (by decide) d_Ne_findNext_15
theorem mx_dec (p : Nat) : nI (p + 1) + Int32.ofInt (-1) = nI p := pk_m1 p
theorem Ne_w_le (t n : Nat) : ∀ (p : Nat) (m : mx_Mm), (Ne_w t n p m).1 ≤ p
  | 0, _ => Nat.le_refl _
  | p + 1, m => by
    unfold Ne_w
    split
    · exact Nat.le_trans (Ne_w_le t n p _) (by omega)
    · exact Nat.le_refl _
theorem Ne_w_ok (t n : Nat) (ht : t < 6) : ∀ (p : Nat) (m : mx_Mm), p < 6 → Ne_ok m → Ne_ok (Ne_w t n p m).2
  | 0, _, _, h => h
  | p + 1, m, hp, h => by
    unfold Ne_w
    split
    · exact Ne_w_ok t n ht p _ (by omega) (h.upR (h t p ht (by omega)))
    · exact h
theorem Ne_o1_ok {t n : Nat} (ht : t < 6) (hn : n < 6) {m : mx_Mm} (h : Ne_ok m) : Ne_ok (Ne_o1 t n m) := (Ne_w_ok t n ht n m (by omega) h).upR ⟨n, hn, rfl⟩
theorem Ne_order_ok {t : Nat} (ht : t < 6) {m : mx_Mm} (h : Ne_ok m) : Ne_ok (Ne_order t m) := lp_keep Ne_ok 6 h (fun _ _ hi h => Ne_o1_ok ht hi h)
set_option maxRecDepth 100000 in
set_option maxHeartbeats 4000000 in
theorem c_Ne_orderTowards {Γ : mx_X} {lau : Launch} {nx : Nat} {u : Nat → Nat → Bool} {mi : mx_Mm} {t : Nat} (hnx : 34 ≤ nx) (hu : ∀ p k, 2 ≤ p → u p k = true) (ht : t < 6) (hk : Ne_ok mi) : mx_C Γ lau M_Ne_orderTowards [.ref 5, .int (nI t)] (nx, u, mi) (fun ρ τ => ρ = none ∧ τ = (nx, u, Ne_order t mi)) := by
  refine mx_C.intro (by decide) rfl (Nat.le_of_ble_eq_true rfl) (fun κ _ hC => ?_)
  show mx_G Γ κ _ _ 0 [(0, .ref 5), (1, .int (nI t))] [] (nx, u, mi) 0 0
  refine x_aload_n (q := 1) hC d_Ne_orderTowards_0 rfl rfl rfl ?_
  refine x_getr (q := 4) (p := 5) (j := 3) (r := 27) hC f_Ne_22 rfl rfl rfl (by omega) (hu _ _ (by decide)) d_Ne_orderTowards_1 rfl ?_
  refine x_iload_n (q := 5) hC d_Ne_orderTowards_4 rfl rfl rfl ?_
  refine x_aald (q := 6) (p := 27) (r := 28 + t) hC t (mr_27 _ (by omega)) rfl (by omega) rfl (by omega) (by decide) d_Ne_orderTowards_5 rfl ?_
  refine x_astore_n (q := 7) (L1 := [(2, .ref (28 + t)), (0, .ref 5), (1, .int (nI t))]) hC d_Ne_orderTowards_6 rfl (by decide) rfl rfl ?_
  refine x_iconst (q := 8) (v := nI 0) hC d_Ne_orderTowards_7 (by decide) rfl ?_
  refine x_istore_n (q := 9) (L1 := [(3, .int (nI 0)), (2, .ref (28 + t)), (0, .ref 5), (1, .int (nI t))]) hC d_Ne_orderTowards_8 rfl (by decide) rfl rfl ?_
  refine x_sub (L1 := [(3, .int (nI 0)), (2, .ref (28 + t)), (0, .ref 5), (1, .int (nI t))]) [0, 1, 2, 3] rfl ?_
  refine mx_loop (N := 6) (Hd := fun n m1 => mx_G Γ κ _ _ 9 [(3, .int (nI n)), (2, .ref (28 + t)), (0, .ref 5), (1, .int (nI t))] [] (nx, u, m1) 0 0) (Ne_o1 t) (fun _ m => Ne_ok m) hk ?_ ?_ ?_
  · exact fun i m hi h => Ne_o1_ok ht hi h
  · intro n m1 hl2 hI3 hN4
    refine x_iload_n (q := 10) hC d_Ne_orderTowards_9 rfl rfl rfl ?_
    refine x_bipush (q := 12) (v := nI 6) hC d_Ne_orderTowards_10 (by decide) rfl ?_
    refine x_icmp_ge (tgt := 74) (q := 15) hC d_Ne_orderTowards_12 (by decide) rfl (fun h => absurd h (nI_ge hl2 (by decide))) (fun _ => ?_)
    refine x_iload_n (q := 16) hC d_Ne_orderTowards_15 rfl rfl rfl ?_
    refine x_istore (q := 18) (L1 := [(4, .int (nI n)), (3, .int (nI n)), (2, .ref (28 + t)), (0, .ref 5), (1, .int (nI t))]) hC d_Ne_orderTowards_16 (by decide) rfl rfl ?_
    have hW : ∀ p m, p ≤ n → Ne_ok m → mx_G Γ κ M_Ne_orderTowards (MQ (mx_b κ) (mx_Qc Γ (fun ρ τ => ρ = none ∧ τ = (nx, u, Ne_order t mi))) (mx_a κ) (mx_s κ) M_Ne_orderTowards.2.2.2.2.cells M_Ne_orderTowards.2.2.2.2.slots (mx_fr Γ)) 63 [(4, .int (nI ((Ne_w t n p m).1))), (3, .int (nI n)), (2, .ref (28 + t)), (0, .ref 5), (1, .int (nI t))] [] (nx, u, (Ne_w t n p m).2) 0 0 → mx_G Γ κ M_Ne_orderTowards (MQ (mx_b κ) (mx_Qc Γ (fun ρ τ => ρ = none ∧ τ = (nx, u, Ne_order t mi))) (mx_a κ) (mx_s κ) M_Ne_orderTowards.2.2.2.2.cells M_Ne_orderTowards.2.2.2.2.slots (mx_fr Γ)) 18 [(4, .int (nI p)), (3, .int (nI n)), (2, .ref (28 + t)), (0, .ref 5), (1, .int (nI t))] [] (nx, u, m) 0 0 := by
      intro p
      induction p with
      | zero =>
        intro m hp hk2 hE
        refine x_iload (q := 20) hC d_Ne_orderTowards_18 rfl rfl ?_
        refine x_if_le (tgt := 63) (q := 23) hC d_Ne_orderTowards_20 (by decide) rfl (fun _ => ?_) (fun h => absurd (by decide) h)
        exact hE
      | succ p ih =>
        intro m hp hk2 hE
        obtain ⟨eo, ho⟩ := hk2.tn (t := t) (k := p) ht (by omega)
        refine x_iload (q := 20) hC d_Ne_orderTowards_18 rfl rfl ?_
        refine x_if_le (tgt := 63) (q := 23) hC d_Ne_orderTowards_20 (by decide) rfl (fun h => absurd h (nI_nle (by omega) (by omega))) (fun _ => ?_)
        refine x_aload_n (q := 24) hC d_Ne_orderTowards_23 rfl rfl rfl ?_
        refine x_getr (q := 27) (p := 5) (j := 1) (r := 13) hC f_Ne_16 rfl rfl rfl (by omega) (hu _ _ (by decide)) d_Ne_orderTowards_24 rfl ?_
        refine x_aload_n (q := 28) hC d_Ne_orderTowards_27 rfl rfl rfl ?_
        refine x_iload (q := 30) hC d_Ne_orderTowards_28 rfl rfl ?_
        refine x_iconst (q := 31) (v := nI 1) hC d_Ne_orderTowards_30 (by decide) rfl ?_
        refine x_isub (q := 32) (z := nI p) hC d_Ne_orderTowards_31 (by rw [pk_sub (by omega)]; rfl) rfl ?_
        refine x_iald (q := 33) (p := 28 + t) hC p (sh_28 _ (by omega)) (by omega) rfl (by omega) (by decide) d_Ne_orderTowards_32 rfl ?_
        refine x_aald (q := 34) (p := 13) (r := 14 + (tn (m (28 + t) p))) hC (tn (m (28 + t) p)) (mr_13 _ (by omega)) rfl (by omega) eo ho (by decide) d_Ne_orderTowards_33 rfl ?_
        refine x_iload_n (q := 35) hC d_Ne_orderTowards_34 rfl rfl rfl ?_
        refine x_iald (q := 36) (p := 14 + (tn (m (28 + t) p))) hC t (sh_14 _ (by omega)) (by omega) rfl (by omega) (by decide) d_Ne_orderTowards_35 rfl ?_
        refine x_aload_n (q := 37) hC d_Ne_orderTowards_36 rfl rfl rfl ?_
        refine x_getr (q := 40) (p := 5) (j := 1) (r := 13) hC f_Ne_16 rfl rfl rfl (by omega) (hu _ _ (by decide)) d_Ne_orderTowards_37 rfl ?_
        refine x_iload_n (q := 41) hC d_Ne_orderTowards_40 rfl rfl rfl ?_
        refine x_aald (q := 42) (p := 13) (r := 14 + n) hC n (mr_13 _ (by omega)) rfl (by omega) rfl (by omega) (by decide) d_Ne_orderTowards_41 rfl ?_
        refine x_iload_n (q := 43) hC d_Ne_orderTowards_42 rfl rfl rfl ?_
        refine x_iald (q := 44) (p := 14 + n) hC t (sh_14 _ (by omega)) (by omega) rfl (by omega) (by decide) d_Ne_orderTowards_43 rfl ?_
        refine x_icmp_ge (tgt := 63) (q := 47) hC d_Ne_orderTowards_44 (by decide) rfl (fun h44 => ?_) (fun h44 => ?_)
        · skip
          exact (by rw [Ne_w, if_neg (Int32.not_lt.mpr h44)] at hE; exact hE)
        · skip
          refine x_aload_n (q := 48) hC d_Ne_orderTowards_47 rfl rfl rfl ?_
          refine x_iload (q := 50) hC d_Ne_orderTowards_48 rfl rfl ?_
          refine x_aload_n (q := 51) hC d_Ne_orderTowards_50 rfl rfl rfl ?_
          refine x_iload (q := 53) hC d_Ne_orderTowards_51 rfl rfl ?_
          refine x_iconst (q := 54) (v := nI 1) hC d_Ne_orderTowards_53 (by decide) rfl ?_
          refine x_isub (q := 55) (z := nI p) hC d_Ne_orderTowards_54 (by rw [pk_sub (by omega)]; rfl) rfl ?_
          refine x_iald (q := 56) (p := 28 + t) hC p (sh_28 _ (by omega)) (by omega) rfl (by omega) (by decide) d_Ne_orderTowards_55 rfl ?_
          refine x_iast (q := 57) (p := 28 + t) hC (p + 1) (sh_28 _ (by omega)) (by omega) (by omega) rfl (by omega) (by decide) d_Ne_orderTowards_56 rfl ?_
          refine x_iinc (q := 60) (y := nI p) (L1 := [(4, .int (nI p)), (3, .int (nI n)), (2, .ref (28 + t)), (0, .ref 5), (1, .int (nI t))]) hC d_Ne_orderTowards_57 rfl (mx_dec p) (by decide) rfl rfl ?_
          refine x_goto (tgt := 18) hC d_Ne_orderTowards_60 (by decide) ?_
          exact x_sub [0, 1, 2, 3, 4] rfl (ih _ (by omega) (hk2.upR (hk2 t p ht (by omega))) (by rw [Ne_w, if_pos (Int32.not_le.mp h44)] at hE; exact hE))
    refine x_sub (L1 := [(4, .int (nI n)), (3, .int (nI n)), (2, .ref (28 + t)), (0, .ref 5), (1, .int (nI t))]) [0, 1, 2, 3, 4] rfl ?_
    refine hW n m1 (Nat.le_refl _) hI3 ?_
    have hw1 := Ne_w_le t n n m1
    refine x_aload_n (q := 64) hC d_Ne_orderTowards_63 rfl rfl rfl ?_
    refine x_iload (q := 66) hC d_Ne_orderTowards_64 rfl rfl ?_
    refine x_iload_n (q := 67) hC d_Ne_orderTowards_66 rfl rfl rfl ?_
    refine x_iast (q := 68) (p := 28 + t) hC ((Ne_w t n n m1).1) (sh_28 _ (by omega)) (by omega) (by omega) rfl (by omega) (by decide) d_Ne_orderTowards_67 rfl ?_
    refine mx_nr (fun m5 e6 => ?_)
    refine x_iinc (q := 71) (y := nI (n + 1)) (L1 := [(3, .int (nI (n + 1))), (4, .int (nI ((Ne_w t n n m1).1))), (2, .ref (28 + t)), (0, .ref 5), (1, .int (nI t))]) hC d_Ne_orderTowards_68 rfl (mx_inc n) (by decide) rfl rfl ?_
    refine x_goto (tgt := 9) hC d_Ne_orderTowards_71 (by decide) ?_
    subst e6
    exact x_close hN4 [0, 2, 3, 4] rfl (by rfl)
  · intro hx7
    refine mx_nr (fun m8 e9 => ?_)
    try rw [e9] at hx7
    refine x_iload_n (q := 10) hC d_Ne_orderTowards_9 rfl rfl rfl ?_
    refine x_bipush (q := 12) (v := nI 6) hC d_Ne_orderTowards_10 (by decide) rfl ?_
    refine x_icmp_ge (tgt := 74) (q := 15) hC d_Ne_orderTowards_12 (by decide) rfl (fun _ => ?_) (fun h => absurd (nI_le (Nat.le_refl _) (by decide)) h)
    subst e9
    exact x_vret hC rfl ⟨rfl, rfl⟩ (by decide) (by decide) d_Ne_orderTowards_74
theorem lp_ok {f : Nat → mx_Mm → mx_Mm} {n : Nat} {m : mx_Mm} (h : Ne_ok m) (hf : ∀ i m, i < n → Ne_ok m → Ne_ok (f i m)) : Ne_ok (mx_lp n f m) := lp_keep Ne_ok n h hf
theorem Ne_start_ok {m : mx_Mm} (h : Ne_ok m) : Ne_ok (Ne_start m) := lp_ok h (fun a m ha h => (lp_ok h (fun b m hb h => h.upP (by omega))).upP (by omega))
theorem Ne_sh_ok {v : Nat} {m : mx_Mm} (h : Ne_ok m) : Ne_ok (Ne_sh v m) := lp_ok h (fun a m ha h => lp_ok h (fun b m hb h => h.upP (by omega)))
theorem Ne_m1s_ok {t : Nat} {m : mx_Mm} (h : Ne_ok m) : Ne_ok (mx_lp 6 (Ne_m1 t) m) := lp_ok h (fun a m ha h => h.upP (by omega))
theorem Ne_m2_ok {t : Nat} (ht : t < 6) {m : mx_Mm} (h : Ne_ok m) : Ne_ok (Ne_m2 t m) := Ne_order_ok ht (Ne_m1s_ok h)
theorem Ne_measure_ok {m : mx_Mm} (h : Ne_ok m) : Ne_ok (Ne_measure m) := lp_ok (lp_ok (Ne_start_ok h) (fun v m _ h => Ne_sh_ok h)) (fun t m ht h => Ne_m2_ok ht h)
set_option maxRecDepth 100000 in
set_option maxHeartbeats 4000000 in
theorem c_Ne_measure {Γ : mx_X} {lau : Launch} {nx : Nat} {u : Nat → Nat → Bool} {mi : mx_Mm}  (hnx : 34 ≤ nx) (hu : ∀ p k, 2 ≤ p → u p k = true) (hk : Ne_ok mi) : mx_C Γ lau M_Ne_measure [.ref 5] (nx, u, mi) (fun ρ τ => ρ = none ∧ τ = (nx, u, Ne_measure mi)) := by
  refine mx_C.intro (by decide) rfl (Nat.le_of_ble_eq_true rfl) (fun κ _ hC => ?_)
  show mx_G Γ κ _ _ 0 [(0, .ref 5)] [] (nx, u, mi) 0 0
  refine x_aload_n (q := 1) hC d_Ne_measure_0 rfl rfl rfl ?_
  refine x_callV (q := 4) (p := 5) (A := []) (S := []) (c1 := 0) (s1 := 0) hC (c_Ne_startLengths (by omega) hu) s_Ne_measure_28 rfl (by omega) rfl rfl rfl (Nat.le_of_ble_eq_true rfl) rfl rfl (by decide) (by decide) d_Ne_measure_1 rfl (fun r τ hP => ?_)
  obtain ⟨rfl, rfl⟩ := hP
  show mx_G Γ κ _ _ 4 [(0, .ref 5)] [] (nx, u, Ne_start mi) 0 0
  refine x_iconst (q := 5) (v := nI 0) hC d_Ne_measure_4 (by decide) rfl ?_
  refine x_istore_n (q := 6) (L1 := [(1, .int (nI 0)), (0, .ref 5)]) hC d_Ne_measure_5 rfl (by decide) rfl rfl ?_
  refine x_sub (L1 := [(1, .int (nI 0)), (0, .ref 5)]) [0, 1] rfl ?_
  refine mx_loop (N := 6) (Hd := fun v m1 => mx_G Γ κ _ _ 6 [(1, .int (nI v)), (0, .ref 5)] [] (nx, u, m1) 0 0) (Ne_sh) (fun _ _ => True) trivial ?_ ?_ ?_
  · exact fun _ _ _ _ => trivial
  · intro v m1 hl2 hI3 hN4
    refine x_iload_n (q := 7) hC d_Ne_measure_6 rfl rfl rfl ?_
    refine x_bipush (q := 9) (v := nI 6) hC d_Ne_measure_7 (by decide) rfl ?_
    refine x_icmp_ge (tgt := 23) (q := 12) hC d_Ne_measure_9 (by decide) rfl (fun h => absurd h (nI_ge hl2 (by decide))) (fun _ => ?_)
    refine x_aload_n (q := 13) hC d_Ne_measure_12 rfl rfl rfl ?_
    refine x_iload_n (q := 14) hC d_Ne_measure_13 rfl rfl rfl ?_
    refine x_callV (q := 17) (p := 5) (A := [.int (nI v)]) (S := []) (c1 := 0) (s1 := 0) hC (c_Ne_shortenBy (v := v) (by omega) hu (by omega)) s_Ne_measure_31 rfl (by omega) rfl rfl rfl (Nat.le_of_ble_eq_true rfl) rfl rfl (by decide) (by decide) d_Ne_measure_14 rfl (fun r τ hP => ?_)
    obtain ⟨rfl, rfl⟩ := hP
    show mx_G Γ κ _ _ 17 [(1, .int (nI v)), (0, .ref 5)] [] (nx, u, Ne_sh v m1) 0 0
    refine x_iinc (q := 20) (y := nI (v + 1)) (L1 := [(1, .int (nI (v + 1))), (0, .ref 5)]) hC d_Ne_measure_17 rfl (mx_inc v) (by decide) rfl rfl ?_
    refine x_goto (tgt := 6) hC d_Ne_measure_20 (by decide) ?_
    exact x_close hN4 [0, 1] rfl (by rfl)
  · intro hx5
    refine mx_nr (fun m6 e7 => ?_)
    try rw [e7] at hx5
    refine x_iload_n (q := 7) hC d_Ne_measure_6 rfl rfl rfl ?_
    refine x_bipush (q := 9) (v := nI 6) hC d_Ne_measure_7 (by decide) rfl ?_
    refine x_icmp_ge (tgt := 23) (q := 12) hC d_Ne_measure_9 (by decide) rfl (fun _ => ?_) (fun h => absurd (nI_le (Nat.le_refl _) (by decide)) h)
    refine x_iconst (q := 24) (v := nI 0) hC d_Ne_measure_23 (by decide) rfl ?_
    refine x_istore_n (q := 25) (L1 := [(1, .int (nI 0)), (0, .ref 5)]) hC d_Ne_measure_24 rfl (by decide) rfl rfl ?_
    refine x_sub (L1 := [(1, .int (nI 0)), (0, .ref 5)]) [0, 1] rfl ?_
    refine mx_loop (N := 6) (Hd := fun t m8 => mx_G Γ κ _ _ 25 [(1, .int (nI t)), (0, .ref 5)] [] (nx, u, m8) 0 0) (Ne_m2) (fun _ m => Ne_ok m) (by subst_vars; exact lp_ok (Ne_start_ok hk) (fun v m _ h => Ne_sh_ok h)) ?_ ?_ ?_
    · exact fun t m ht h => Ne_m2_ok ht h
    · intro t m8 hl9 hI10 hN11
      refine x_iload_n (q := 26) hC d_Ne_measure_25 rfl rfl rfl ?_
      refine x_bipush (q := 28) (v := nI 6) hC d_Ne_measure_26 (by decide) rfl ?_
      refine x_icmp_ge (tgt := 70) (q := 31) hC d_Ne_measure_28 (by decide) rfl (fun h => absurd h (nI_ge hl9 (by decide))) (fun _ => ?_)
      refine x_iconst (q := 32) (v := nI 0) hC d_Ne_measure_31 (by decide) rfl ?_
      refine x_istore_n (q := 33) (L1 := [(2, .int (nI 0)), (1, .int (nI t)), (0, .ref 5)]) hC d_Ne_measure_32 rfl (by decide) rfl rfl ?_
      refine x_sub (L1 := [(2, .int (nI 0)), (1, .int (nI t)), (0, .ref 5)]) [0, 1, 2] rfl ?_
      refine mx_loop (N := 6) (Hd := fun a m12 => mx_G Γ κ _ _ 33 [(2, .int (nI a)), (1, .int (nI t)), (0, .ref 5)] [] (nx, u, m12) 0 0) (Ne_m1 t) (fun _ _ => True) trivial ?_ ?_ ?_
      · exact fun _ _ _ _ => trivial
      · intro a m12 hl13 hI14 hN15
        refine x_iload_n (q := 34) hC d_Ne_measure_33 rfl rfl rfl ?_
        refine x_bipush (q := 36) (v := nI 6) hC d_Ne_measure_34 (by decide) rfl ?_
        refine x_icmp_ge (tgt := 59) (q := 39) hC d_Ne_measure_36 (by decide) rfl (fun h => absurd h (nI_ge hl13 (by decide))) (fun _ => ?_)
        refine x_aload_n (q := 40) hC d_Ne_measure_39 rfl rfl rfl ?_
        refine x_getr (q := 43) (p := 5) (j := 2) (r := 20) hC f_Ne_19 rfl rfl rfl (by omega) (hu _ _ (by decide)) d_Ne_measure_40 rfl ?_
        refine x_iload_n (q := 44) hC d_Ne_measure_43 rfl rfl rfl ?_
        refine x_aald (q := 45) (p := 20) (r := 21 + a) hC a (mr_20 _ (by omega)) rfl (by omega) rfl (by omega) (by decide) d_Ne_measure_44 rfl ?_
        refine x_iload_n (q := 46) hC d_Ne_measure_45 rfl rfl rfl ?_
        refine x_aload_n (q := 47) hC d_Ne_measure_46 rfl rfl rfl ?_
        refine x_iload_n (q := 48) hC d_Ne_measure_47 rfl rfl rfl ?_
        refine x_iload_n (q := 49) hC d_Ne_measure_48 rfl rfl rfl ?_
        refine x_callV (q := 52) (p := 5) (A := [.int (nI a), .int (nI t)]) (S := [.int (nI t), .ref (21 + a)]) (c1 := 0) (s1 := 0) hC (c_Ne_findNext (a := a) (t := t) (by omega) hu (by omega) (by omega)) s_Ne_measure_35 rfl (by omega) rfl rfl rfl (Nat.le_of_ble_eq_true rfl) rfl rfl (by decide) (by decide) d_Ne_measure_49 rfl (fun r τ hP => ?_)
        obtain ⟨rfl, rfl⟩ := hP
        show mx_G Γ κ _ _ 52 [(2, .int (nI a)), (1, .int (nI t)), (0, .ref 5)] [.int (Ne_next a t m12), .int (nI t), .ref (21 + a)] (nx, u, m12) 0 0
        refine x_iast (q := 53) (p := 21 + a) hC t (sh_21 _ (by omega)) (by omega) (by omega) rfl (by omega) (by decide) d_Ne_measure_52 rfl ?_
        refine x_iinc (q := 56) (y := nI (a + 1)) (L1 := [(2, .int (nI (a + 1))), (1, .int (nI t)), (0, .ref 5)]) hC d_Ne_measure_53 rfl (mx_inc a) (by decide) rfl rfl ?_
        refine x_goto (tgt := 33) hC d_Ne_measure_56 (by decide) ?_
        exact x_close hN15 [0, 1, 2] rfl (by rfl)
      · intro hx16
        refine mx_nr (fun m17 e18 => ?_)
        try rw [e18] at hx16
        refine x_iload_n (q := 34) hC d_Ne_measure_33 rfl rfl rfl ?_
        refine x_bipush (q := 36) (v := nI 6) hC d_Ne_measure_34 (by decide) rfl ?_
        refine x_icmp_ge (tgt := 59) (q := 39) hC d_Ne_measure_36 (by decide) rfl (fun _ => ?_) (fun h => absurd (nI_le (Nat.le_refl _) (by decide)) h)
        refine x_aload_n (q := 60) hC d_Ne_measure_59 rfl rfl rfl ?_
        refine x_iload_n (q := 61) hC d_Ne_measure_60 rfl rfl rfl ?_
        refine x_callV (q := 64) (p := 5) (A := [.int (nI t)]) (S := []) (c1 := 0) (s1 := 0) hC (c_Ne_orderTowards (t := t) (by omega) hu (by omega) (by subst_vars; exact Ne_m1s_ok hI10)) s_Ne_measure_39 rfl (by omega) rfl rfl rfl (Nat.le_of_ble_eq_true rfl) rfl rfl (by decide) (by decide) d_Ne_measure_61 rfl (fun r τ hP => ?_)
        obtain ⟨rfl, rfl⟩ := hP
        show mx_G Γ κ _ _ 64 [(2, .int (nI 6)), (1, .int (nI t)), (0, .ref 5)] [] (nx, u, Ne_order t m17) 0 0
        refine x_iinc (q := 67) (y := nI (t + 1)) (L1 := [(1, .int (nI (t + 1))), (2, .int (nI 6)), (0, .ref 5)]) hC d_Ne_measure_64 rfl (mx_inc t) (by decide) rfl rfl ?_
        refine x_goto (tgt := 25) hC d_Ne_measure_67 (by decide) ?_
        subst e18
        exact x_close hN11 [0, 2] rfl (by rfl)
    · intro hx19
      refine mx_nr (fun m20 e21 => ?_)
      try rw [e21] at hx19
      refine x_iload_n (q := 26) hC d_Ne_measure_25 rfl rfl rfl ?_
      refine x_bipush (q := 28) (v := nI 6) hC d_Ne_measure_26 (by decide) rfl ?_
      refine x_icmp_ge (tgt := 70) (q := 31) hC d_Ne_measure_28 (by decide) rfl (fun _ => ?_) (fun h => absurd (nI_le (Nat.le_refl _) (by decide)) h)
      subst e21
      subst e7
      exact x_vret hC rfl ⟨rfl, rfl⟩ (by decide) (by decide) d_Ne_measure_70
set_option maxRecDepth 100000 in
set_option maxHeartbeats 4000000 in
theorem c_Ne_setCost {Γ : mx_X} {lau : Launch} {nx : Nat} {u : Nat → Nat → Bool} {mi : mx_Mm} {a b : Nat} {c : Int32} (hnx : 34 ≤ nx) (hu : ∀ p k, 2 ≤ p → u p k = true) (ha : a < 6) (hb : b < 6) (hk : Ne_ok mi) : mx_C Γ lau M_Ne_setCost [.ref 5, .int (nI a), .int (nI b), .int c] (nx, u, mi) (fun ρ τ => ρ = none ∧ τ = (nx, u, Ne_set a b c mi)) := by
  refine mx_C.intro (by decide) rfl (Nat.le_of_ble_eq_true rfl) (fun κ _ hC => ?_)
  show mx_G Γ κ _ _ 0 [(0, .ref 5), (1, .int (nI a)), (2, .int (nI b)), (3, .int c)] [] (nx, u, mi) 0 0
  refine x_aload_n (q := 1) hC d_Ne_setCost_0 rfl rfl rfl ?_
  refine x_getr (q := 4) (p := 5) (j := 0) (r := 6) hC f_Ne_11 rfl rfl rfl (by omega) (hu _ _ (by decide)) d_Ne_setCost_1 rfl ?_
  refine x_iload_n (q := 5) hC d_Ne_setCost_4 rfl rfl rfl ?_
  refine x_aald (q := 6) (p := 6) (r := 7 + a) hC a (mr_6 _ (by omega)) rfl (by omega) rfl (by omega) (by decide) d_Ne_setCost_5 rfl ?_
  refine x_iload_n (q := 7) hC d_Ne_setCost_6 rfl rfl rfl ?_
  refine x_iload_n (q := 8) hC d_Ne_setCost_7 rfl rfl rfl ?_
  refine x_iast (q := 9) (p := 7 + a) hC b (sh_7 _ (by omega)) (by omega) (by omega) rfl (by omega) (by decide) d_Ne_setCost_8 rfl ?_
  refine x_aload_n (q := 10) hC d_Ne_setCost_9 rfl rfl rfl ?_
  refine x_getr (q := 13) (p := 5) (j := 0) (r := 6) hC f_Ne_11 rfl rfl rfl (by omega) (hu _ _ (by decide)) d_Ne_setCost_10 rfl ?_
  refine x_iload_n (q := 14) hC d_Ne_setCost_13 rfl rfl rfl ?_
  refine x_aald (q := 15) (p := 6) (r := 7 + b) hC b (mr_6 _ (by omega)) rfl (by omega) rfl (by omega) (by decide) d_Ne_setCost_14 rfl ?_
  refine x_iload_n (q := 16) hC d_Ne_setCost_15 rfl rfl rfl ?_
  refine x_iload_n (q := 17) hC d_Ne_setCost_16 rfl rfl rfl ?_
  refine x_iast (q := 18) (p := 7 + b) hC a (sh_7 _ (by omega)) (by omega) (by omega) rfl (by omega) (by decide) d_Ne_setCost_17 rfl ?_
  refine x_aload_n (q := 19) hC d_Ne_setCost_18 rfl rfl rfl ?_
  refine x_callV (q := 22) (p := 5) (A := []) (S := []) (c1 := 0) (s1 := 0) hC (c_Ne_measure (by omega) hu (by subst_vars; exact (hk.upP (by omega)).upP (by omega))) s_Ne_setCost_25 rfl (by omega) rfl rfl rfl (Nat.le_of_ble_eq_true rfl) rfl rfl (by decide) (by decide) d_Ne_setCost_19 rfl (fun r τ hP => ?_)
  obtain ⟨rfl, rfl⟩ := hP
  show mx_G Γ κ _ _ 22 [(0, .ref 5), (1, .int (nI a)), (2, .int (nI b)), (3, .int c)] [] (nx, u, Ne_measure (mx_up (mx_up mi (7 + a) b c) (7 + b) a c)) 0 0
  exact x_vret hC rfl ⟨rfl, rfl⟩ (by decide) (by decide) d_Ne_setCost_22
end
section
set_option maxRecDepth 100000 in
set_option maxHeartbeats 400000 in
theorem c_MT_isRouter {Γ : mx_X} {lau : Launch} {nx : Nat} {u : Nat → Nat → Bool} {mi : mx_Mm} {x : Int32}   : mx_C Γ lau M_MT_isRouter [.int x] (nx, u, mi) (fun ρ τ => ρ = some (.int (bz (0 ≤ x ∧ x < nI 6))) ∧ τ = (nx, u, mi)) := by
  refine mx_C.intro (by decide) rfl (Nat.le_of_ble_eq_true rfl) (fun κ _ hC => ?_)
  show mx_G Γ κ _ _ 0 [(0, .int x)] [] (nx, u, mi) 0 0
  refine x_iload_n (q := 1) hC d_MT_isRouter_0 rfl rfl rfl ?_
  refine x_if_lt (tgt := 14) (q := 4) hC d_MT_isRouter_1 (by decide) rfl (fun h1 => ?_) (fun h1 => ?_)
  · skip
    refine x_iconst (q := 15) (v := nI 0) hC d_MT_isRouter_14 (by decide) rfl ?_
    exact x_iret hC rfl rfl ⟨bz_f (by first | exact fun q => Int32.not_le.mpr h1 q.1 | exact fun q => Int32.not_lt.mpr h7 q.2), rfl⟩ (by decide) (by decide) d_MT_isRouter_15
  · skip
    refine x_iload_n (q := 5) hC d_MT_isRouter_4 rfl rfl rfl ?_
    refine x_bipush (q := 7) (v := nI 6) hC d_MT_isRouter_5 (by decide) rfl ?_
    refine x_icmp_ge (tgt := 14) (q := 10) hC d_MT_isRouter_7 (by decide) rfl (fun h7 => ?_) (fun h7 => ?_)
    · skip
      refine x_iconst (q := 15) (v := nI 0) hC d_MT_isRouter_14 (by decide) rfl ?_
      exact x_iret hC rfl rfl ⟨bz_f (by first | exact fun q => Int32.not_le.mpr h1 q.1 | exact fun q => Int32.not_lt.mpr h7 q.2), rfl⟩ (by decide) (by decide) d_MT_isRouter_15
    · skip
      refine x_iconst (q := 11) (v := nI 1) hC d_MT_isRouter_10 (by decide) rfl ?_
      refine x_goto (tgt := 15) hC d_MT_isRouter_11 (by decide) ?_
      exact x_iret hC rfl rfl ⟨bz_t (⟨Int32.not_lt.mp h1, Int32.not_le.mp h7⟩), rfl⟩ (by decide) (by decide) d_MT_isRouter_15
set_option maxRecDepth 100000 in
set_option maxHeartbeats 400000 in
theorem c_MT_isHost {Γ : mx_X} {lau : Launch} {nx : Nat} {u : Nat → Nat → Bool} {mi : mx_Mm} {x : Int32}   : mx_C Γ lau M_MT_isHost [.int x] (nx, u, mi) (fun ρ τ => ρ = some (.int (bz (0 ≤ x ∧ x < nI 4))) ∧ τ = (nx, u, mi)) := by
  refine mx_C.intro (by decide) rfl (Nat.le_of_ble_eq_true rfl) (fun κ _ hC => ?_)
  show mx_G Γ κ _ _ 0 [(0, .int x)] [] (nx, u, mi) 0 0
  refine x_iload_n (q := 1) hC d_MT_isHost_0 rfl rfl rfl ?_
  refine x_if_lt (tgt := 13) (q := 4) hC d_MT_isHost_1 (by decide) rfl (fun h1 => ?_) (fun h1 => ?_)
  · skip
    refine x_iconst (q := 14) (v := nI 0) hC d_MT_isHost_13 (by decide) rfl ?_
    exact x_iret hC rfl rfl ⟨bz_f (by first | exact fun q => Int32.not_le.mpr h1 q.1 | exact fun q => Int32.not_lt.mpr h6 q.2), rfl⟩ (by decide) (by decide) d_MT_isHost_14
  · skip
    refine x_iload_n (q := 5) hC d_MT_isHost_4 rfl rfl rfl ?_
    refine x_iconst (q := 6) (v := nI 4) hC d_MT_isHost_5 (by decide) rfl ?_
    refine x_icmp_ge (tgt := 13) (q := 9) hC d_MT_isHost_6 (by decide) rfl (fun h6 => ?_) (fun h6 => ?_)
    · skip
      refine x_iconst (q := 14) (v := nI 0) hC d_MT_isHost_13 (by decide) rfl ?_
      exact x_iret hC rfl rfl ⟨bz_f (by first | exact fun q => Int32.not_le.mpr h1 q.1 | exact fun q => Int32.not_lt.mpr h6 q.2), rfl⟩ (by decide) (by decide) d_MT_isHost_14
    · skip
      refine x_iconst (q := 10) (v := nI 1) hC d_MT_isHost_9 (by decide) rfl ?_
      refine x_goto (tgt := 14) hC d_MT_isHost_10 (by decide) ?_
      exact x_iret hC rfl rfl ⟨bz_t (⟨Int32.not_lt.mp h1, Int32.not_le.mp h6⟩), rfl⟩ (by decide) (by decide) d_MT_isHost_14
set_option maxRecDepth 100000 in
set_option maxHeartbeats 400000 in
theorem c_MT_isGroup {Γ : mx_X} {lau : Launch} {nx : Nat} {u : Nat → Nat → Bool} {mi : mx_Mm} {x : Int32}   : mx_C Γ lau M_MT_isGroup [.int x] (nx, u, mi) (fun ρ τ => ρ = some (.int (bz (0 ≤ x ∧ x < nI 3))) ∧ τ = (nx, u, mi)) := by
  refine mx_C.intro (by decide) rfl (Nat.le_of_ble_eq_true rfl) (fun κ _ hC => ?_)
  show mx_G Γ κ _ _ 0 [(0, .int x)] [] (nx, u, mi) 0 0
  refine x_iload_n (q := 1) hC d_MT_isGroup_0 rfl rfl rfl ?_
  refine x_if_lt (tgt := 13) (q := 4) hC d_MT_isGroup_1 (by decide) rfl (fun h1 => ?_) (fun h1 => ?_)
  · skip
    refine x_iconst (q := 14) (v := nI 0) hC d_MT_isGroup_13 (by decide) rfl ?_
    exact x_iret hC rfl rfl ⟨bz_f (by first | exact fun q => Int32.not_le.mpr h1 q.1 | exact fun q => Int32.not_lt.mpr h6 q.2), rfl⟩ (by decide) (by decide) d_MT_isGroup_14
  · skip
    refine x_iload_n (q := 5) hC d_MT_isGroup_4 rfl rfl rfl ?_
    refine x_iconst (q := 6) (v := nI 3) hC d_MT_isGroup_5 (by decide) rfl ?_
    refine x_icmp_ge (tgt := 13) (q := 9) hC d_MT_isGroup_6 (by decide) rfl (fun h6 => ?_) (fun h6 => ?_)
    · skip
      refine x_iconst (q := 14) (v := nI 0) hC d_MT_isGroup_13 (by decide) rfl ?_
      exact x_iret hC rfl rfl ⟨bz_f (by first | exact fun q => Int32.not_le.mpr h1 q.1 | exact fun q => Int32.not_lt.mpr h6 q.2), rfl⟩ (by decide) (by decide) d_MT_isGroup_14
    · skip
      refine x_iconst (q := 10) (v := nI 1) hC d_MT_isGroup_9 (by decide) rfl ?_
      refine x_goto (tgt := 14) hC d_MT_isGroup_10 (by decide) ?_
      exact x_iret hC rfl rfl ⟨bz_t (⟨Int32.not_lt.mp h1, Int32.not_le.mp h6⟩), rfl⟩ (by decide) (by decide) d_MT_isGroup_14
set_option maxRecDepth 100000 in
set_option maxHeartbeats 400000 in
theorem c_MT_streamOf {Γ : mx_X} {lau : Launch} {nx : Nat} {u : Nat → Nat → Bool} {mi : mx_Mm} {s g : Nat}   : mx_C Γ lau M_MT_streamOf [.int (nI s), .int (nI g)] (nx, u, mi) (fun ρ τ => ρ = some (.int (nI (s * 3 + g))) ∧ τ = (nx, u, mi)) := by
  refine mx_C.intro (by decide) rfl (Nat.le_of_ble_eq_true rfl) (fun κ _ hC => ?_)
  show mx_G Γ κ _ _ 0 [(0, .int (nI s)), (1, .int (nI g))] [] (nx, u, mi) 0 0
  refine x_iload_n (q := 1) hC d_MT_streamOf_0 rfl rfl rfl ?_
  refine x_iconst (q := 2) (v := nI 3) hC d_MT_streamOf_1 (by decide) rfl ?_
  refine x_imul (q := 3) (z := nI (s * 3)) hC d_MT_streamOf_2 (pk_mul _ _) rfl ?_
  refine x_iload_n (q := 4) hC d_MT_streamOf_3 rfl rfl rfl ?_
  refine x_iadd (q := 5) (z := nI ((s * 3) + g)) hC d_MT_streamOf_4 (nI_add _ _) rfl ?_
  exact x_iret hC rfl rfl ⟨rfl, rfl⟩ (by decide) (by decide) d_MT_streamOf_5
set_option maxRecDepth 100000 in
set_option maxHeartbeats 400000 in
theorem c_MT_holds {Γ : mx_X} {lau : Launch} {nx : Nat} {u : Nat → Nat → Bool} {mi : mx_Mm} {x : Int32} {n : Nat}   : mx_C Γ lau M_MT_holds [.int x, .int (nI n)] (nx, u, mi) (fun ρ τ => ρ = some (.int (bz (hold x n))) ∧ τ = (nx, u, mi)) := by
  refine mx_C.intro (by decide) rfl (Nat.le_of_ble_eq_true rfl) (fun κ _ hC => ?_)
  show mx_G Γ κ _ _ 0 [(0, .int x), (1, .int (nI n))] [] (nx, u, mi) 0 0
  refine x_iload_n (q := 1) hC d_MT_holds_0 rfl rfl rfl ?_
  refine x_iload_n (q := 2) hC d_MT_holds_1 rfl rfl rfl ?_
  refine x_ishr (q := 3) (z := x >>> ((nI n) &&& 31)) hC d_MT_holds_2 rfl rfl ?_
  refine x_iconst (q := 4) (v := nI 1) hC d_MT_holds_3 (by decide) rfl ?_
  refine x_iand (q := 5) (z := (x >>> ((nI n) &&& 31)) &&& (nI 1)) hC d_MT_holds_4 rfl rfl ?_
  refine x_if_eq (tgt := 12) (q := 8) hC d_MT_holds_5 (by decide) rfl (fun h5 => ?_) (fun h5 => ?_)
  · skip
    refine x_iconst (q := 13) (v := nI 0) hC d_MT_holds_12 (by decide) rfl ?_
    exact x_iret hC rfl rfl ⟨bz_f (fun q => q h5), rfl⟩ (by decide) (by decide) d_MT_holds_13
  · skip
    refine x_iconst (q := 9) (v := nI 1) hC d_MT_holds_8 (by decide) rfl ?_
    refine x_goto (tgt := 13) hC d_MT_holds_9 (by decide) ?_
    exact x_iret hC rfl rfl ⟨bz_t (h5), rfl⟩ (by decide) (by decide) d_MT_holds_13
set_option maxRecDepth 100000 in
set_option maxHeartbeats 400000 in
theorem c_La_isMember {Γ : mx_X} {lau : Launch} {nx : Nat} {u : Nat → Nat → Bool} {mi : mx_Mm} {l h g : Nat} (hnx : 57 ≤ nx) (hu : ∀ p k, 2 ≤ p → u p k = true) (hl : l < 6) (hh : h < 4) (hg : g < 3) : mx_C Γ lau M_La_isMember [.ref 34, .int (nI l), .int (nI h), .int (nI g)] (nx, u, mi) (fun ρ τ => ρ = some (.int (bz (hold (mi (36 + l) g) h))) ∧ τ = (nx, u, mi)) := by
  refine mx_C.intro (by decide) rfl (Nat.le_of_ble_eq_true rfl) (fun κ _ hC => ?_)
  show mx_G Γ κ _ _ 0 [(0, .ref 34), (1, .int (nI l)), (2, .int (nI h)), (3, .int (nI g))] [] (nx, u, mi) 0 0
  refine x_aload_n (q := 1) hC d_La_isMember_0 rfl rfl rfl ?_
  refine x_getr (q := 4) (p := 34) (j := 1) (r := 35) hC f_La_11 rfl rfl rfl (by omega) (hu _ _ (by decide)) d_La_isMember_1 rfl ?_
  refine x_iload_n (q := 5) hC d_La_isMember_4 rfl rfl rfl ?_
  refine x_aald (q := 6) (p := 35) (r := 36 + l) hC l (mr_35 _ (by omega)) rfl (by omega) rfl (by omega) (by decide) d_La_isMember_5 rfl ?_
  refine x_iload_n (q := 7) hC d_La_isMember_6 rfl rfl rfl ?_
  refine x_iald (q := 8) (p := 36 + l) hC g (sh_36 _ (by omega)) (by omega) rfl (by omega) (by decide) d_La_isMember_7 rfl ?_
  refine x_iload_n (q := 9) hC d_La_isMember_8 rfl rfl rfl ?_
  refine x_callSN (q := 12) (A := [.int (mi (36 + l) g), .int (nI h)]) (S := []) (c1 := 0) (s1 := 0) hC (c_MT_holds (n := h)) s_La_isMember_36 rfl rfl rfl (Nat.le_of_ble_eq_true rfl) rfl rfl (by decide) (by decide) d_La_isMember_9 rfl (fun r τ hP => ?_)
  obtain ⟨rfl, rfl⟩ := hP
  show mx_G Γ κ _ _ 12 [(0, .ref 34), (1, .int (nI l)), (2, .int (nI h)), (3, .int (nI g))] [.int (bz (hold (mi (36 + l) g) h))] (nx, u, mi) 0 0
  exact x_iret hC rfl bz_n ⟨rfl, rfl⟩ (by decide) (by decide) d_La_isMember_12
set_option maxRecDepth 100000 in
set_option maxHeartbeats 400000 in
theorem c_La_hasMembers {Γ : mx_X} {lau : Launch} {nx : Nat} {u : Nat → Nat → Bool} {mi : mx_Mm} {l g : Nat} (hnx : 57 ≤ nx) (hu : ∀ p k, 2 ≤ p → u p k = true) (hl : l < 6) (hg : g < 3) : mx_C Γ lau M_La_hasMembers [.ref 34, .int (nI l), .int (nI g)] (nx, u, mi) (fun ρ τ => ρ = some (.int (bz (¬ mi (36 + l) g = 0))) ∧ τ = (nx, u, mi)) := by
  refine mx_C.intro (by decide) rfl (Nat.le_of_ble_eq_true rfl) (fun κ _ hC => ?_)
  show mx_G Γ κ _ _ 0 [(0, .ref 34), (1, .int (nI l)), (2, .int (nI g))] [] (nx, u, mi) 0 0
  refine x_aload_n (q := 1) hC d_La_hasMembers_0 rfl rfl rfl ?_
  refine x_getr (q := 4) (p := 34) (j := 1) (r := 35) hC f_La_11 rfl rfl rfl (by omega) (hu _ _ (by decide)) d_La_hasMembers_1 rfl ?_
  refine x_iload_n (q := 5) hC d_La_hasMembers_4 rfl rfl rfl ?_
  refine x_aald (q := 6) (p := 35) (r := 36 + l) hC l (mr_35 _ (by omega)) rfl (by omega) rfl (by omega) (by decide) d_La_hasMembers_5 rfl ?_
  refine x_iload_n (q := 7) hC d_La_hasMembers_6 rfl rfl rfl ?_
  refine x_iald (q := 8) (p := 36 + l) hC g (sh_36 _ (by omega)) (by omega) rfl (by omega) (by decide) d_La_hasMembers_7 rfl ?_
  refine x_if_eq (tgt := 15) (q := 11) hC d_La_hasMembers_8 (by decide) rfl (fun h8 => ?_) (fun h8 => ?_)
  · skip
    refine x_iconst (q := 16) (v := nI 0) hC d_La_hasMembers_15 (by decide) rfl ?_
    exact x_iret hC rfl rfl ⟨bz_f (fun q => q h8), rfl⟩ (by decide) (by decide) d_La_hasMembers_16
  · skip
    refine x_iconst (q := 12) (v := nI 1) hC d_La_hasMembers_11 (by decide) rfl ?_
    refine x_goto (tgt := 16) hC d_La_hasMembers_12 (by decide) ?_
    exact x_iret hC rfl rfl ⟨bz_t (h8), rfl⟩ (by decide) (by decide) d_La_hasMembers_16
set_option maxRecDepth 100000 in
set_option maxHeartbeats 400000 in
theorem c_La_isMarked {Γ : mx_X} {lau : Launch} {nx : Nat} {u : Nat → Nat → Bool} {mi : mx_Mm} {l g : Nat} (hnx : 57 ≤ nx) (hu : ∀ p k, 2 ≤ p → u p k = true) (hl : l < 6) (hg : g < 3) : mx_C Γ lau M_La_isMarked [.ref 34, .int (nI l), .int (nI g)] (nx, u, mi) (fun ρ τ => ρ = some (.int (bz (mi 2 0 < mi (43 + l) g))) ∧ τ = (nx, u, mi)) := by
  refine mx_C.intro (by decide) rfl (Nat.le_of_ble_eq_true rfl) (fun κ _ hC => ?_)
  show mx_G Γ κ _ _ 0 [(0, .ref 34), (1, .int (nI l)), (2, .int (nI g))] [] (nx, u, mi) 0 0
  refine x_aload_n (q := 1) hC d_La_isMarked_0 rfl rfl rfl ?_
  refine x_getr (q := 4) (p := 34) (j := 0) (r := 2) hC f_La_26 rfl rfl rfl (by omega) (hu _ _ (by decide)) d_La_isMarked_1 rfl ?_
  refine x_callV (q := 7) (p := 2) (A := []) (S := []) (c1 := 0) (s1 := 0) hC (c_Ck_time (by omega) hu) s_La_isMarked_40 rfl (by omega) rfl rfl rfl (Nat.le_of_ble_eq_true rfl) rfl rfl (by decide) (by decide) d_La_isMarked_4 rfl (fun r τ hP => ?_)
  obtain ⟨rfl, rfl⟩ := hP
  show mx_G Γ κ _ _ 7 [(0, .ref 34), (1, .int (nI l)), (2, .int (nI g))] [.int (mi 2 0)] (nx, u, mi) 0 0
  refine x_aload_n (q := 8) hC d_La_isMarked_7 rfl rfl rfl ?_
  refine x_getr (q := 11) (p := 34) (j := 2) (r := 42) hC f_La_16 rfl rfl rfl (by omega) (hu _ _ (by decide)) d_La_isMarked_8 rfl ?_
  refine x_iload_n (q := 12) hC d_La_isMarked_11 rfl rfl rfl ?_
  refine x_aald (q := 13) (p := 42) (r := 43 + l) hC l (mr_42 _ (by omega)) rfl (by omega) rfl (by omega) (by decide) d_La_isMarked_12 rfl ?_
  refine x_iload_n (q := 14) hC d_La_isMarked_13 rfl rfl rfl ?_
  refine x_iald (q := 15) (p := 43 + l) hC g (sh_43 _ (by omega)) (by omega) rfl (by omega) (by decide) d_La_isMarked_14 rfl ?_
  refine x_icmp_ge (tgt := 22) (q := 18) hC d_La_isMarked_15 (by decide) rfl (fun h15 => ?_) (fun h15 => ?_)
  · skip
    refine x_iconst (q := 23) (v := nI 0) hC d_La_isMarked_22 (by decide) rfl ?_
    exact x_iret hC rfl rfl ⟨bz_f (Int32.not_lt.mpr h15), rfl⟩ (by decide) (by decide) d_La_isMarked_23
  · skip
    refine x_iconst (q := 19) (v := nI 1) hC d_La_isMarked_18 (by decide) rfl ?_
    refine x_goto (tgt := 23) hC d_La_isMarked_19 (by decide) ?_
    exact x_iret hC rfl rfl ⟨bz_t (Int32.not_le.mp h15), rfl⟩ (by decide) (by decide) d_La_isMarked_23
set_option maxRecDepth 100000 in
set_option maxHeartbeats 400000 in
theorem c_La_ticksLeft {Γ : mx_X} {lau : Launch} {nx : Nat} {u : Nat → Nat → Bool} {mi : mx_Mm} {l g : Nat} (hnx : 57 ≤ nx) (hu : ∀ p k, 2 ≤ p → u p k = true) (hl : l < 6) (hg : g < 3) : mx_C Γ lau M_La_ticksLeft [.ref 34, .int (nI l), .int (nI g)] (nx, u, mi) (fun ρ τ => ρ = some (.int (if mi 2 0 < mi (43 + l) g then mi (43 + l) g - mi 2 0 else nI 0)) ∧ τ = (nx, u, mi)) := by
  refine mx_C.intro (by decide) rfl (Nat.le_of_ble_eq_true rfl) (fun κ _ hC => ?_)
  show mx_G Γ κ _ _ 0 [(0, .ref 34), (1, .int (nI l)), (2, .int (nI g))] [] (nx, u, mi) 0 0
  refine x_aload_n (q := 1) hC d_La_ticksLeft_0 rfl rfl rfl ?_
  refine x_iload_n (q := 2) hC d_La_ticksLeft_1 rfl rfl rfl ?_
  refine x_iload_n (q := 3) hC d_La_ticksLeft_2 rfl rfl rfl ?_
  refine x_callV (q := 6) (p := 34) (A := [.int (nI l), .int (nI g)]) (S := []) (c1 := 0) (s1 := 0) hC (c_La_isMarked (l := l) (g := g) (by omega) hu (by omega) (by omega) ) s_La_ticksLeft_46 rfl (by omega) rfl rfl rfl (Nat.le_of_ble_eq_true rfl) rfl rfl (by decide) (by decide) d_La_ticksLeft_3 rfl (fun r τ hP => ?_)
  obtain ⟨rfl, rfl⟩ := hP
  show mx_G Γ κ _ _ 6 [(0, .ref 34), (1, .int (nI l)), (2, .int (nI g))] [.int (bz (mi 2 0 < mi (43 + l) g))] (nx, u, mi) 0 0
  refine x_if_eq (tgt := 28) (q := 9) hC d_La_ticksLeft_6 (by decide) rfl (fun h6 => ?_) (fun h6 => ?_)
  · have h6 := bz_0 h6
    refine x_iconst (q := 29) (v := nI 0) hC d_La_ticksLeft_28 (by decide) rfl ?_
    exact x_iret hC rfl rfl ⟨by first | rw [if_pos h6] | rw [if_neg h6], rfl⟩ (by decide) (by decide) d_La_ticksLeft_29
  · have h6 := bz_1 h6
    refine x_aload_n (q := 10) hC d_La_ticksLeft_9 rfl rfl rfl ?_
    refine x_getr (q := 13) (p := 34) (j := 2) (r := 42) hC f_La_16 rfl rfl rfl (by omega) (hu _ _ (by decide)) d_La_ticksLeft_10 rfl ?_
    refine x_iload_n (q := 14) hC d_La_ticksLeft_13 rfl rfl rfl ?_
    refine x_aald (q := 15) (p := 42) (r := 43 + l) hC l (mr_42 _ (by omega)) rfl (by omega) rfl (by omega) (by decide) d_La_ticksLeft_14 rfl ?_
    refine x_iload_n (q := 16) hC d_La_ticksLeft_15 rfl rfl rfl ?_
    refine x_iald (q := 17) (p := 43 + l) hC g (sh_43 _ (by omega)) (by omega) rfl (by omega) (by decide) d_La_ticksLeft_16 rfl ?_
    refine x_aload_n (q := 18) hC d_La_ticksLeft_17 rfl rfl rfl ?_
    refine x_getr (q := 21) (p := 34) (j := 0) (r := 2) hC f_La_26 rfl rfl rfl (by omega) (hu _ _ (by decide)) d_La_ticksLeft_18 rfl ?_
    refine x_callV (q := 24) (p := 2) (A := []) (S := [.int (mi (43 + l) g)]) (c1 := 0) (s1 := 0) hC (c_Ck_time (by omega) hu) s_La_ticksLeft_40 rfl (by omega) rfl rfl rfl (Nat.le_of_ble_eq_true rfl) rfl rfl (by decide) (by decide) d_La_ticksLeft_21 rfl (fun r τ hP => ?_)
    obtain ⟨rfl, rfl⟩ := hP
    show mx_G Γ κ _ _ 24 [(0, .ref 34), (1, .int (nI l)), (2, .int (nI g))] [.int (mi 2 0), .int (mi (43 + l) g)] (nx, u, mi) 0 0
    refine x_isub (q := 25) (z := (mi (43 + l) g) - (mi 2 0)) hC d_La_ticksLeft_24 rfl rfl ?_
    refine x_goto (tgt := 29) hC d_La_ticksLeft_25 (by decide) ?_
    exact x_iret hC rfl rfl ⟨by first | rw [if_pos h6] | rw [if_neg h6], rfl⟩ (by decide) (by decide) d_La_ticksLeft_29
set_option maxRecDepth 100000 in
set_option maxHeartbeats 400000 in
theorem c_La_report {Γ : mx_X} {lau : Launch} {nx : Nat} {u : Nat → Nat → Bool} {mi : mx_Mm} {l h g : Nat} (hnx : 57 ≤ nx) (hu : ∀ p k, 2 ≤ p → u p k = true) (hl : l < 6) (hh : h < 4) (hg : g < 3) : mx_C Γ lau M_La_report [.ref 34, .int (nI l), .int (nI h), .int (nI g)] (nx, u, mi) (fun ρ τ => ρ = none ∧ τ = (nx, u, La_report l h g mi)) := by
  refine mx_C.intro (by decide) rfl (Nat.le_of_ble_eq_true rfl) (fun κ _ hC => ?_)
  show mx_G Γ κ _ _ 0 [(0, .ref 34), (1, .int (nI l)), (2, .int (nI h)), (3, .int (nI g))] [] (nx, u, mi) 0 0
  refine x_aload_n (q := 1) hC d_La_report_0 rfl rfl rfl ?_
  refine x_getr (q := 4) (p := 34) (j := 2) (r := 42) hC f_La_16 rfl rfl rfl (by omega) (hu _ _ (by decide)) d_La_report_1 rfl ?_
  refine x_iload_n (q := 5) hC d_La_report_4 rfl rfl rfl ?_
  refine x_aald (q := 6) (p := 42) (r := 43 + l) hC l (mr_42 _ (by omega)) rfl (by omega) rfl (by omega) (by decide) d_La_report_5 rfl ?_
  refine x_iload_n (q := 7) hC d_La_report_6 rfl rfl rfl ?_
  refine x_aload_n (q := 8) hC d_La_report_7 rfl rfl rfl ?_
  refine x_getr (q := 11) (p := 34) (j := 0) (r := 2) hC f_La_26 rfl rfl rfl (by omega) (hu _ _ (by decide)) d_La_report_8 rfl ?_
  refine x_callV (q := 14) (p := 2) (A := []) (S := [.int (nI g), .ref (43 + l)]) (c1 := 0) (s1 := 0) hC (c_Ck_time (by omega) hu) s_La_report_40 rfl (by omega) rfl rfl rfl (Nat.le_of_ble_eq_true rfl) rfl rfl (by decide) (by decide) d_La_report_11 rfl (fun r τ hP => ?_)
  obtain ⟨rfl, rfl⟩ := hP
  show mx_G Γ κ _ _ 14 [(0, .ref 34), (1, .int (nI l)), (2, .int (nI h)), (3, .int (nI g))] [.int (mi 2 0), .int (nI g), .ref (43 + l)] (nx, u, mi) 0 0
  refine x_bipush (q := 16) (v := nI 12) hC d_La_report_14 (by decide) rfl ?_
  refine x_iadd (q := 17) (z := (mi 2 0) + (nI 12)) hC d_La_report_16 rfl rfl ?_
  refine x_iast (q := 18) (p := 43 + l) hC g (sh_43 _ (by omega)) (by omega) (by omega) rfl (by omega) (by decide) d_La_report_17 rfl ?_
  refine x_aload_n (q := 19) hC d_La_report_18 rfl rfl rfl ?_
  refine x_getr (q := 22) (p := 34) (j := 3) (r := 49) hC f_La_19 rfl rfl rfl (by omega) (hu _ _ (by decide)) d_La_report_19 rfl ?_
  refine x_iload_n (q := 23) hC d_La_report_22 rfl rfl rfl ?_
  refine x_aald (q := 24) (p := 49) (r := 50 + l) hC l (mr_49 _ (by omega)) rfl (by omega) rfl (by omega) (by decide) d_La_report_23 rfl ?_
  refine x_iload_n (q := 25) hC d_La_report_24 rfl rfl rfl ?_
  refine x_iload_n (q := 26) hC d_La_report_25 rfl rfl rfl ?_
  refine x_iast (q := 27) (p := 50 + l) hC g (sh_50 _ (by omega)) (by omega) (by omega) rfl (by omega) (by decide) d_La_report_26 rfl ?_
  refine mx_nr (fun m1 e2 => ?_)
  subst e2
  exact x_vret hC rfl ⟨rfl, rfl⟩ (by decide) (by decide) d_La_report_27
set_option maxRecDepth 100000 in
set_option maxHeartbeats 400000 in
theorem c_La_reportLowest {Γ : mx_X} {lau : Launch} {nx : Nat} {u : Nat → Nat → Bool} {mi : mx_Mm} {l g : Nat} (hnx : 57 ≤ nx) (hu : ∀ p k, 2 ≤ p → u p k = true) (hl : l < 6) (hg : g < 3) : mx_C Γ lau M_La_reportLowest [.ref 34, .int (nI l), .int (nI g)] (nx, u, mi) (fun ρ τ => ρ = none ∧ τ = (nx, u, La_rl l g mi)) := by
  refine mx_C.intro (by decide) rfl (Nat.le_of_ble_eq_true rfl) (fun κ _ hC => ?_)
  show mx_G Γ κ _ _ 0 [(0, .ref 34), (1, .int (nI l)), (2, .int (nI g))] [] (nx, u, mi) 0 0
  refine x_iconst (q := 1) (v := nI 0) hC d_La_reportLowest_0 (by decide) rfl ?_
  refine x_istore_n (q := 2) (L1 := [(3, .int (nI 0)), (0, .ref 34), (1, .int (nI l)), (2, .int (nI g))]) hC d_La_reportLowest_1 rfl (by decide) rfl rfl ?_
  refine x_sub (L1 := [(3, .int (nI 0)), (0, .ref 34), (1, .int (nI l)), (2, .int (nI g))]) [0, 1, 2, 3] rfl ?_
  refine mx_loopR (N := 4) (Hd := fun h => mx_G Γ κ _ _ 2 [(3, .int (nI h)), (0, .ref 34), (1, .int (nI l)), (2, .int (nI g))] [] (nx, u, mi) 0 0) (La_hs l g mi) ?_ ?_
  · intro h hl1 hn2 hN3
    refine x_iload_n (q := 3) hC d_La_reportLowest_2 rfl rfl rfl ?_
    refine x_iconst (q := 4) (v := nI 4) hC d_La_reportLowest_3 (by decide) rfl ?_
    refine x_icmp_ge (tgt := 31) (q := 7) hC d_La_reportLowest_4 (by decide) rfl (fun h => absurd h (nI_ge hl1 (by decide))) (fun _ => ?_)
    refine x_aload_n (q := 8) hC d_La_reportLowest_7 rfl rfl rfl ?_
    refine x_iload_n (q := 9) hC d_La_reportLowest_8 rfl rfl rfl ?_
    refine x_iload_n (q := 10) hC d_La_reportLowest_9 rfl rfl rfl ?_
    refine x_iload_n (q := 11) hC d_La_reportLowest_10 rfl rfl rfl ?_
    refine x_callV (q := 14) (p := 34) (A := [.int (nI l), .int (nI h), .int (nI g)]) (S := []) (c1 := 0) (s1 := 0) hC (c_La_isMember (l := l) (h := h) (g := g) (by omega) hu (by omega) (by omega) (by omega) ) s_La_reportLowest_66 rfl (by omega) rfl rfl rfl (Nat.le_of_ble_eq_true rfl) rfl rfl (by decide) (by decide) d_La_reportLowest_11 rfl (fun r τ hP => ?_)
    obtain ⟨rfl, rfl⟩ := hP
    show mx_G Γ κ _ _ 14 [(3, .int (nI h)), (0, .ref 34), (1, .int (nI l)), (2, .int (nI g))] [.int (bz (hold (mi (36 + l) g) h))] (nx, u, mi) 0 0
    refine x_if_eq (tgt := 25) (q := 17) hC d_La_reportLowest_14 (by decide) rfl (fun h14 => ?_) (fun h14 => ?_)
    · have h14 := bz_0 h14
      refine x_iinc (q := 28) (y := nI (h + 1)) (L1 := [(3, .int (nI (h + 1))), (0, .ref 34), (1, .int (nI l)), (2, .int (nI g))]) hC d_La_reportLowest_25 rfl (mx_inc h) (by decide) rfl rfl ?_
      refine x_goto (tgt := 2) hC d_La_reportLowest_28 (by decide) ?_
      exact x_sub [0, 1, 2, 3] rfl (hN3 (decide_eq_false h14))
    · have h14 := bz_1 h14
      refine x_aload_n (q := 18) hC d_La_reportLowest_17 rfl rfl rfl ?_
      refine x_iload_n (q := 19) hC d_La_reportLowest_18 rfl rfl rfl ?_
      refine x_iload_n (q := 20) hC d_La_reportLowest_19 rfl rfl rfl ?_
      refine x_iload_n (q := 21) hC d_La_reportLowest_20 rfl rfl rfl ?_
      refine x_callV (q := 24) (p := 34) (A := [.int (nI l), .int (nI h), .int (nI g)]) (S := []) (c1 := 0) (s1 := 0) hC (c_La_report (l := l) (h := h) (g := g) (by omega) hu (by omega) (by omega) (by omega) ) s_La_reportLowest_49 rfl (by omega) rfl rfl rfl (Nat.le_of_ble_eq_true rfl) rfl rfl (by decide) (by decide) d_La_reportLowest_21 rfl (fun r τ hP => ?_)
      obtain ⟨rfl, rfl⟩ := hP
      show mx_G Γ κ _ _ 24 [(3, .int (nI h)), (0, .ref 34), (1, .int (nI l)), (2, .int (nI g))] [] (nx, u, La_report l h g mi) 0 0
      exact x_vret hC rfl ⟨rfl, by unfold La_rl; first | rw [pm_fd_eq hl1 (decide_eq_true h14) hn2, if_pos hl1] | rw [if_neg (by rw [pm_fd_none hx]; decide)]⟩ (by decide) (by decide) d_La_reportLowest_24
  · intro hx
    refine x_iload_n (q := 3) hC d_La_reportLowest_2 rfl rfl rfl ?_
    refine x_iconst (q := 4) (v := nI 4) hC d_La_reportLowest_3 (by decide) rfl ?_
    refine x_icmp_ge (tgt := 31) (q := 7) hC d_La_reportLowest_4 (by decide) rfl (fun _ => ?_) (fun h => absurd (nI_le (Nat.le_refl _) (by decide)) h)
    exact x_vret hC rfl ⟨rfl, by unfold La_rl; first | rw [pm_fd_eq hl1 (decide_eq_true h14) hn2, if_pos hl1] | rw [if_neg (by rw [pm_fd_none hx]; decide)]⟩ (by decide) (by decide) d_La_reportLowest_31
set_option maxRecDepth 100000 in
set_option maxHeartbeats 400000 in
theorem c_La_reportAll {Γ : mx_X} {lau : Launch} {nx : Nat} {u : Nat → Nat → Bool} {mi : mx_Mm}  (hnx : 57 ≤ nx) (hu : ∀ p k, 2 ≤ p → u p k = true)  : mx_C Γ lau M_La_reportAll [.ref 34] (nx, u, mi) (fun ρ τ => ρ = none ∧ τ = (nx, u, La_all mi)) := by
  refine mx_C.intro (by decide) rfl (Nat.le_of_ble_eq_true rfl) (fun κ _ hC => ?_)
  show mx_G Γ κ _ _ 0 [(0, .ref 34)] [] (nx, u, mi) 0 0
  refine x_iconst (q := 1) (v := nI 0) hC d_La_reportAll_0 (by decide) rfl ?_
  refine x_istore_n (q := 2) (L1 := [(1, .int (nI 0)), (0, .ref 34)]) hC d_La_reportAll_1 rfl (by decide) rfl rfl ?_
  refine x_sub (L1 := [(1, .int (nI 0)), (0, .ref 34)]) [0, 1] rfl ?_
  refine mx_loop (N := 6) (Hd := fun l m1 => mx_G Γ κ _ _ 2 [(1, .int (nI l)), (0, .ref 34)] [] (nx, u, m1) 0 0) (fun l => mx_lp 3 (La_rl l)) (fun _ _ => True) trivial ?_ ?_ ?_
  · exact fun _ _ _ _ => trivial
  · intro l m1 hl2 hI3 hN4
    refine x_iload_n (q := 3) hC d_La_reportAll_2 rfl rfl rfl ?_
    refine x_bipush (q := 5) (v := nI 6) hC d_La_reportAll_3 (by decide) rfl ?_
    refine x_icmp_ge (tgt := 33) (q := 8) hC d_La_reportAll_5 (by decide) rfl (fun h => absurd h (nI_ge hl2 (by decide))) (fun _ => ?_)
    refine x_iconst (q := 9) (v := nI 0) hC d_La_reportAll_8 (by decide) rfl ?_
    refine x_istore_n (q := 10) (L1 := [(2, .int (nI 0)), (1, .int (nI l)), (0, .ref 34)]) hC d_La_reportAll_9 rfl (by decide) rfl rfl ?_
    refine x_sub (L1 := [(2, .int (nI 0)), (1, .int (nI l)), (0, .ref 34)]) [0, 1, 2] rfl ?_
    refine mx_loop (N := 3) (Hd := fun g m5 => mx_G Γ κ _ _ 10 [(2, .int (nI g)), (1, .int (nI l)), (0, .ref 34)] [] (nx, u, m5) 0 0) (La_rl l) (fun _ _ => True) trivial ?_ ?_ ?_
    · exact fun _ _ _ _ => trivial
    · intro g m5 hl6 hI7 hN8
      refine x_iload_n (q := 11) hC d_La_reportAll_10 rfl rfl rfl ?_
      refine x_iconst (q := 12) (v := nI 3) hC d_La_reportAll_11 (by decide) rfl ?_
      refine x_icmp_ge (tgt := 27) (q := 15) hC d_La_reportAll_12 (by decide) rfl (fun h => absurd h (nI_ge hl6 (by decide))) (fun _ => ?_)
      refine x_aload_n (q := 16) hC d_La_reportAll_15 rfl rfl rfl ?_
      refine x_iload_n (q := 17) hC d_La_reportAll_16 rfl rfl rfl ?_
      refine x_iload_n (q := 18) hC d_La_reportAll_17 rfl rfl rfl ?_
      refine x_callV (q := 21) (p := 34) (A := [.int (nI l), .int (nI g)]) (S := []) (c1 := 0) (s1 := 0) hC (c_La_reportLowest (l := l) (g := g) (by omega) hu (by omega) (by omega) ) s_La_reportAll_56 rfl (by omega) rfl rfl rfl (Nat.le_of_ble_eq_true rfl) rfl rfl (by decide) (by decide) d_La_reportAll_18 rfl (fun r τ hP => ?_)
      obtain ⟨rfl, rfl⟩ := hP
      show mx_G Γ κ _ _ 21 [(2, .int (nI g)), (1, .int (nI l)), (0, .ref 34)] [] (nx, u, La_rl l g m5) 0 0
      refine x_iinc (q := 24) (y := nI (g + 1)) (L1 := [(2, .int (nI (g + 1))), (1, .int (nI l)), (0, .ref 34)]) hC d_La_reportAll_21 rfl (mx_inc g) (by decide) rfl rfl ?_
      refine x_goto (tgt := 10) hC d_La_reportAll_24 (by decide) ?_
      exact x_close hN8 [0, 1, 2] rfl (by rfl)
    · intro hx9
      refine mx_nr (fun m10 e11 => ?_)
      try rw [e11] at hx9
      refine x_iload_n (q := 11) hC d_La_reportAll_10 rfl rfl rfl ?_
      refine x_iconst (q := 12) (v := nI 3) hC d_La_reportAll_11 (by decide) rfl ?_
      refine x_icmp_ge (tgt := 27) (q := 15) hC d_La_reportAll_12 (by decide) rfl (fun _ => ?_) (fun h => absurd (nI_le (Nat.le_refl _) (by decide)) h)
      refine x_iinc (q := 30) (y := nI (l + 1)) (L1 := [(1, .int (nI (l + 1))), (2, .int (nI 3)), (0, .ref 34)]) hC d_La_reportAll_27 rfl (mx_inc l) (by decide) rfl rfl ?_
      refine x_goto (tgt := 2) hC d_La_reportAll_30 (by decide) ?_
      subst e11
      exact x_close hN4 [0, 2] rfl (by rfl)
  · intro hx12
    refine mx_nr (fun m13 e14 => ?_)
    try rw [e14] at hx12
    refine x_iload_n (q := 3) hC d_La_reportAll_2 rfl rfl rfl ?_
    refine x_bipush (q := 5) (v := nI 6) hC d_La_reportAll_3 (by decide) rfl ?_
    refine x_icmp_ge (tgt := 33) (q := 8) hC d_La_reportAll_5 (by decide) rfl (fun _ => ?_) (fun h => absurd (nI_le (Nat.le_refl _) (by decide)) h)
    subst e14
    exact x_vret hC rfl ⟨rfl, rfl⟩ (by decide) (by decide) d_La_reportAll_33
set_option maxRecDepth 100000 in
set_option maxHeartbeats 400000 in
theorem c_La_admit {Γ : mx_X} {lau : Launch} {nx : Nat} {u : Nat → Nat → Bool} {mi : mx_Mm} {l h g : Nat} (hnx : 57 ≤ nx) (hu : ∀ p k, 2 ≤ p → u p k = true) (hl : l < 6) (hh : h < 4) (hg : g < 3) : mx_C Γ lau M_La_admit [.ref 34, .int (nI l), .int (nI h), .int (nI g)] (nx, u, mi) (fun ρ τ => ρ = none ∧ τ = (nx, u, La_admit l h g mi)) := by
  refine mx_C.intro (by decide) rfl (Nat.le_of_ble_eq_true rfl) (fun κ _ hC => ?_)
  show mx_G Γ κ _ _ 0 [(0, .ref 34), (1, .int (nI l)), (2, .int (nI h)), (3, .int (nI g))] [] (nx, u, mi) 0 0
  refine x_aload_n (q := 1) hC d_La_admit_0 rfl rfl rfl ?_
  refine x_getr (q := 4) (p := 34) (j := 1) (r := 35) hC f_La_11 rfl rfl rfl (by omega) (hu _ _ (by decide)) d_La_admit_1 rfl ?_
  refine x_iload_n (q := 5) hC d_La_admit_4 rfl rfl rfl ?_
  refine x_aald (q := 6) (p := 35) (r := 36 + l) hC l (mr_35 _ (by omega)) rfl (by omega) rfl (by omega) (by decide) d_La_admit_5 rfl ?_
  refine x_iload_n (q := 7) hC d_La_admit_6 rfl rfl rfl ?_
  refine x_dup2 (q := 8) hC d_La_admit_7 rfl rfl rfl ?_
  refine x_iald (q := 9) (p := 36 + l) hC g (sh_36 _ (by omega)) (by omega) rfl (by omega) (by decide) d_La_admit_8 rfl ?_
  refine x_iconst (q := 10) (v := nI 1) hC d_La_admit_9 (by decide) rfl ?_
  refine x_iload_n (q := 11) hC d_La_admit_10 rfl rfl rfl ?_
  refine x_ishl (q := 12) (z := (nI 1) <<< ((nI h) &&& 31)) hC d_La_admit_11 rfl rfl ?_
  refine x_ior (q := 13) (z := (mi (36 + l) g) ||| ((nI 1) <<< ((nI h) &&& 31))) hC d_La_admit_12 rfl rfl ?_
  refine x_iast (q := 14) (p := 36 + l) hC g (sh_36 _ (by omega)) (by omega) (by omega) rfl (by omega) (by decide) d_La_admit_13 rfl ?_
  refine mx_nr (fun m1 e2 => ?_)
  refine x_aload_n (q := 15) hC d_La_admit_14 rfl rfl rfl ?_
  refine x_iload_n (q := 16) hC d_La_admit_15 rfl rfl rfl ?_
  refine x_iload_n (q := 17) hC d_La_admit_16 rfl rfl rfl ?_
  refine x_iload_n (q := 18) hC d_La_admit_17 rfl rfl rfl ?_
  refine x_callV (q := 21) (p := 34) (A := [.int (nI l), .int (nI h), .int (nI g)]) (S := []) (c1 := 0) (s1 := 0) hC (c_La_report (l := l) (h := h) (g := g) (by omega) hu (by omega) (by omega) (by omega) ) s_La_admit_49 rfl (by omega) rfl rfl rfl (Nat.le_of_ble_eq_true rfl) rfl rfl (by decide) (by decide) d_La_admit_18 rfl (fun r τ hP => ?_)
  obtain ⟨rfl, rfl⟩ := hP
  show mx_G Γ κ _ _ 21 [(0, .ref 34), (1, .int (nI l)), (2, .int (nI h)), (3, .int (nI g))] [] (nx, u, La_report l h g m1) 0 0
  subst e2
  exact x_vret hC rfl ⟨rfl, rfl⟩ (by decide) (by decide) d_La_admit_21
set_option maxRecDepth 100000 in
set_option maxHeartbeats 400000 in
theorem c_La_dismiss {Γ : mx_X} {lau : Launch} {nx : Nat} {u : Nat → Nat → Bool} {mi : mx_Mm} {l h g : Nat} {x : Int32} (hnx : 57 ≤ nx) (hu : ∀ p k, 2 ≤ p → u p k = true) (hl : l < 6) (hh : h < 4) (hg : g < 3) : mx_C Γ lau M_La_dismiss [.ref 34, .int (nI l), .int (nI h), .int (nI g), .int x] (nx, u, mi) (fun ρ τ => ρ = none ∧ τ = (nx, u, La_dismiss l h g x mi)) := by
  refine mx_C.intro (by decide) rfl (Nat.le_of_ble_eq_true rfl) (fun κ _ hC => ?_)
  show mx_G Γ κ _ _ 0 [(0, .ref 34), (1, .int (nI l)), (2, .int (nI h)), (3, .int (nI g)), (4, .int x)] [] (nx, u, mi) 0 0
  refine x_aload_n (q := 1) hC d_La_dismiss_0 rfl rfl rfl ?_
  refine x_getr (q := 4) (p := 34) (j := 1) (r := 35) hC f_La_11 rfl rfl rfl (by omega) (hu _ _ (by decide)) d_La_dismiss_1 rfl ?_
  refine x_iload_n (q := 5) hC d_La_dismiss_4 rfl rfl rfl ?_
  refine x_aald (q := 6) (p := 35) (r := 36 + l) hC l (mr_35 _ (by omega)) rfl (by omega) rfl (by omega) (by decide) d_La_dismiss_5 rfl ?_
  refine x_iload_n (q := 7) hC d_La_dismiss_6 rfl rfl rfl ?_
  refine x_dup2 (q := 8) hC d_La_dismiss_7 rfl rfl rfl ?_
  refine x_iald (q := 9) (p := 36 + l) hC g (sh_36 _ (by omega)) (by omega) rfl (by omega) (by decide) d_La_dismiss_8 rfl ?_
  refine x_iconst (q := 10) (v := nI 1) hC d_La_dismiss_9 (by decide) rfl ?_
  refine x_iload_n (q := 11) hC d_La_dismiss_10 rfl rfl rfl ?_
  refine x_ishl (q := 12) (z := (nI 1) <<< ((nI h) &&& 31)) hC d_La_dismiss_11 rfl rfl ?_
  refine x_iconst (q := 13) (v := (-1)) hC d_La_dismiss_12 (by decide) rfl ?_
  refine x_ixor (q := 14) (z := ((nI 1) <<< ((nI h) &&& 31)) ^^^ (-1)) hC d_La_dismiss_13 rfl rfl ?_
  refine x_iand (q := 15) (z := (mi (36 + l) g) &&& (((nI 1) <<< ((nI h) &&& 31)) ^^^ (-1))) hC d_La_dismiss_14 rfl rfl ?_
  refine x_iast (q := 16) (p := 36 + l) hC g (sh_36 _ (by omega)) (by omega) (by omega) rfl (by omega) (by decide) d_La_dismiss_15 rfl ?_
  refine mx_nr (fun m1 e2 => ?_)
  refine x_iload (q := 18) hC d_La_dismiss_16 rfl rfl ?_
  refine x_if_eq (tgt := 33) (q := 21) hC d_La_dismiss_18 (by decide) rfl (fun h18 => ?_) (fun h18 => ?_)
  · skip
    subst e2
    exact x_vret hC rfl ⟨rfl, by first | exact pr (it_t (Or.inl h18) rfl) | exact pr (it_t (Or.inr h30) rfl) | exact pr (it_f (fun q => q.elim h18 (fun z => z h30)) (it_t h40 rfl)) | exact pr (it_f (fun q => q.elim h18 (fun z => z h30)) (it_f h40 rfl))⟩ (by decide) (by decide) d_La_dismiss_33
  · skip
    refine x_aload_n (q := 22) hC d_La_dismiss_21 rfl rfl rfl ?_
    refine x_getr (q := 25) (p := 34) (j := 3) (r := 49) hC f_La_19 rfl rfl rfl (by omega) (hu _ _ (by decide)) d_La_dismiss_22 rfl ?_
    refine x_iload_n (q := 26) hC d_La_dismiss_25 rfl rfl rfl ?_
    refine x_aald (q := 27) (p := 49) (r := 50 + l) hC l (mr_49 _ (by omega)) rfl (by omega) rfl (by omega) (by decide) d_La_dismiss_26 rfl ?_
    refine x_iload_n (q := 28) hC d_La_dismiss_27 rfl rfl rfl ?_
    refine x_iald (q := 29) (p := 50 + l) hC g (sh_50 _ (by omega)) (by omega) rfl (by omega) (by decide) d_La_dismiss_28 rfl ?_
    refine x_iload_n (q := 30) hC d_La_dismiss_29 rfl rfl rfl ?_
    refine x_icmp_eq (tgt := 34) (q := 33) hC d_La_dismiss_30 (by decide) rfl (fun h30 => ?_) (fun h30 => ?_)
    · skip
      refine x_aload_n (q := 35) hC d_La_dismiss_34 rfl rfl rfl ?_
      refine x_iload_n (q := 36) hC d_La_dismiss_35 rfl rfl rfl ?_
      refine x_iload_n (q := 37) hC d_La_dismiss_36 rfl rfl rfl ?_
      refine x_callV (q := 40) (p := 34) (A := [.int (nI l), .int (nI g)]) (S := []) (c1 := 0) (s1 := 0) hC (c_La_hasMembers (l := l) (g := g) (by omega) hu (by omega) (by omega) ) s_La_dismiss_53 rfl (by omega) rfl rfl rfl (Nat.le_of_ble_eq_true rfl) rfl rfl (by decide) (by decide) d_La_dismiss_37 rfl (fun r τ hP => ?_)
      obtain ⟨rfl, rfl⟩ := hP
      show mx_G Γ κ _ _ 40 [(0, .ref 34), (1, .int (nI l)), (2, .int (nI h)), (3, .int (nI g)), (4, .int x)] [.int (bz (¬ m1 (36 + l) g = 0))] (nx, u, m1) 0 0
      refine x_if_eq (tgt := 52) (q := 43) hC d_La_dismiss_40 (by decide) rfl (fun h40 => ?_) (fun h40 => ?_)
      · have h40 := bz_0 h40
        refine x_aload_n (q := 53) hC d_La_dismiss_52 rfl rfl rfl ?_
        refine x_getr (q := 56) (p := 34) (j := 3) (r := 49) hC f_La_19 rfl rfl rfl (by omega) (hu _ _ (by decide)) d_La_dismiss_53 rfl ?_
        refine x_iload_n (q := 57) hC d_La_dismiss_56 rfl rfl rfl ?_
        refine x_aald (q := 58) (p := 49) (r := 50 + l) hC l (mr_49 _ (by omega)) rfl (by omega) rfl (by omega) (by decide) d_La_dismiss_57 rfl ?_
        refine x_iload_n (q := 59) hC d_La_dismiss_58 rfl rfl rfl ?_
        refine x_iconst (q := 60) (v := (-1)) hC d_La_dismiss_59 (by decide) rfl ?_
        refine x_iast (q := 61) (p := 50 + l) hC g (sh_50 _ (by omega)) (by omega) (by omega) rfl (by omega) (by decide) d_La_dismiss_60 rfl ?_
        refine x_aload_n (q := 62) hC d_La_dismiss_61 rfl rfl rfl ?_
        refine x_getr (q := 65) (p := 34) (j := 2) (r := 42) hC f_La_16 rfl rfl rfl (by omega) (hu _ _ (by decide)) d_La_dismiss_62 rfl ?_
        refine x_iload_n (q := 66) hC d_La_dismiss_65 rfl rfl rfl ?_
        refine x_aald (q := 67) (p := 42) (r := 43 + l) hC l (mr_42 _ (by omega)) rfl (by omega) rfl (by omega) (by decide) d_La_dismiss_66 rfl ?_
        refine x_iload_n (q := 68) hC d_La_dismiss_67 rfl rfl rfl ?_
        refine x_aload_n (q := 69) hC d_La_dismiss_68 rfl rfl rfl ?_
        refine x_getr (q := 72) (p := 34) (j := 2) (r := 42) hC f_La_16 rfl rfl rfl (by omega) (hu _ _ (by decide)) d_La_dismiss_69 rfl ?_
        refine x_iload_n (q := 73) hC d_La_dismiss_72 rfl rfl rfl ?_
        refine x_aald (q := 74) (p := 42) (r := 43 + l) hC l (mr_42 _ (by omega)) rfl (by omega) rfl (by omega) (by decide) d_La_dismiss_73 rfl ?_
        refine x_iload_n (q := 75) hC d_La_dismiss_74 rfl rfl rfl ?_
        refine x_iald (q := 76) (p := 43 + l) hC g (sh_43 _ (by omega)) (by omega) rfl (by omega) (by decide) d_La_dismiss_75 rfl ?_
        refine x_aload_n (q := 77) hC d_La_dismiss_76 rfl rfl rfl ?_
        refine x_getr (q := 80) (p := 34) (j := 0) (r := 2) hC f_La_26 rfl rfl rfl (by omega) (hu _ _ (by decide)) d_La_dismiss_77 rfl ?_
        refine x_callV (q := 83) (p := 2) (A := []) (S := [.int ((mx_up m1 (50 + l) g (-1)) (43 + l) g), .int (nI g), .ref (43 + l)]) (c1 := 0) (s1 := 0) hC (c_Ck_time (by omega) hu) s_La_dismiss_40 rfl (by omega) rfl rfl rfl (Nat.le_of_ble_eq_true rfl) rfl rfl (by decide) (by decide) d_La_dismiss_80 rfl (fun r τ hP => ?_)
        obtain ⟨rfl, rfl⟩ := hP
        show mx_G Γ κ _ _ 83 [(0, .ref 34), (1, .int (nI l)), (2, .int (nI h)), (3, .int (nI g)), (4, .int x)] [.int ((mx_up m1 (50 + l) g (-1)) 2 0), .int ((mx_up m1 (50 + l) g (-1)) (43 + l) g), .int (nI g), .ref (43 + l)] (nx, u, mx_up m1 (50 + l) g (-1)) 0 0
        refine x_iconst (q := 84) (v := nI 2) hC d_La_dismiss_83 (by decide) rfl ?_
        refine x_iadd (q := 85) (z := ((mx_up m1 (50 + l) g (-1)) 2 0) + (nI 2)) hC d_La_dismiss_84 rfl rfl ?_
        refine x_callS (q := 88) (A := [.int ((mx_up m1 (50 + l) g (-1)) (43 + l) g), .int (((mx_up m1 (50 + l) g (-1)) 2 0) + (nI 2))]) (S := [.int (nI g), .ref (43 + l)]) (c1 := 0) (s1 := 0) hC (c_JM_min) s_La_dismiss_60 rfl rfl rfl (Nat.le_of_ble_eq_true rfl) rfl rfl (by decide) (by decide) d_La_dismiss_85 rfl (fun r τ hP => ?_)
        obtain ⟨rfl, rfl⟩ := hP
        show mx_G Γ κ _ _ 88 [(0, .ref 34), (1, .int (nI l)), (2, .int (nI h)), (3, .int (nI g)), (4, .int x)] [.int (pm_n ((mx_up m1 (50 + l) g (-1)) (43 + l) g) (((mx_up m1 (50 + l) g (-1)) 2 0) + (nI 2))), .int (nI g), .ref (43 + l)] (nx, u, mx_up m1 (50 + l) g (-1)) 0 0
        refine x_iast (q := 89) (p := 43 + l) hC g (sh_43 _ (by omega)) (by omega) (by omega) rfl (by omega) (by decide) d_La_dismiss_88 rfl ?_
        refine mx_nr (fun m3 e4 => ?_)
        subst e4
        subst e2
        exact x_vret hC rfl ⟨rfl, by first | exact pr (it_t (Or.inl h18) rfl) | exact pr (it_t (Or.inr h30) rfl) | exact pr (it_f (fun q => q.elim h18 (fun z => z h30)) (it_t h40 rfl)) | exact pr (it_f (fun q => q.elim h18 (fun z => z h30)) (it_f h40 rfl))⟩ (by decide) (by decide) d_La_dismiss_89
      · have h40 := bz_1 h40
        refine x_aload_n (q := 44) hC d_La_dismiss_43 rfl rfl rfl ?_
        refine x_iload_n (q := 45) hC d_La_dismiss_44 rfl rfl rfl ?_
        refine x_iload_n (q := 46) hC d_La_dismiss_45 rfl rfl rfl ?_
        refine x_callV (q := 49) (p := 34) (A := [.int (nI l), .int (nI g)]) (S := []) (c1 := 0) (s1 := 0) hC (c_La_reportLowest (l := l) (g := g) (by omega) hu (by omega) (by omega) ) s_La_dismiss_56 rfl (by omega) rfl rfl rfl (Nat.le_of_ble_eq_true rfl) rfl rfl (by decide) (by decide) d_La_dismiss_46 rfl (fun r τ hP => ?_)
        obtain ⟨rfl, rfl⟩ := hP
        show mx_G Γ κ _ _ 49 [(0, .ref 34), (1, .int (nI l)), (2, .int (nI h)), (3, .int (nI g)), (4, .int x)] [] (nx, u, La_rl l g m1) 0 0
        refine x_goto (tgt := 89) hC d_La_dismiss_49 (by decide) ?_
        subst e2
        exact x_vret hC rfl ⟨rfl, by first | exact pr (it_t (Or.inl h18) rfl) | exact pr (it_t (Or.inr h30) rfl) | exact pr (it_f (fun q => q.elim h18 (fun z => z h30)) (it_t h40 rfl)) | exact pr (it_f (fun q => q.elim h18 (fun z => z h30)) (it_f h40 rfl))⟩ (by decide) (by decide) d_La_dismiss_89
    · skip
      subst e2
      exact x_vret hC rfl ⟨rfl, by first | exact pr (it_t (Or.inl h18) rfl) | exact pr (it_t (Or.inr h30) rfl) | exact pr (it_f (fun q => q.elim h18 (fun z => z h30)) (it_t h40 rfl)) | exact pr (it_f (fun q => q.elim h18 (fun z => z h30)) (it_f h40 rfl))⟩ (by decide) (by decide) d_La_dismiss_33
set_option maxRecDepth 100000 in
set_option maxHeartbeats 400000 in
theorem c_La_setLosses {Γ : mx_X} {lau : Launch} {nx : Nat} {u : Nat → Nat → Bool} {mi : mx_Mm} {l : Nat} {c : Int32} (hnx : 57 ≤ nx) (hu : ∀ p k, 2 ≤ p → u p k = true) (hl : l < 6) : mx_C Γ lau M_La_setLosses [.ref 34, .int (nI l), .int c] (nx, u, mi) (fun ρ τ => ρ = none ∧ τ = (nx, u, mx_up mi 56 l c)) := by
  refine mx_C.intro (by decide) rfl (Nat.le_of_ble_eq_true rfl) (fun κ _ hC => ?_)
  show mx_G Γ κ _ _ 0 [(0, .ref 34), (1, .int (nI l)), (2, .int c)] [] (nx, u, mi) 0 0
  refine x_aload_n (q := 1) hC d_La_setLosses_0 rfl rfl rfl ?_
  refine x_getr (q := 4) (p := 34) (j := 4) (r := 56) hC f_La_22 rfl rfl rfl (by omega) (hu _ _ (by decide)) d_La_setLosses_1 rfl ?_
  refine x_iload_n (q := 5) hC d_La_setLosses_4 rfl rfl rfl ?_
  refine x_iload_n (q := 6) hC d_La_setLosses_5 rfl rfl rfl ?_
  refine x_iast (q := 7) (p := 56) hC l rfl (by omega) (by omega) rfl (by omega) (by decide) d_La_setLosses_6 rfl ?_
  exact x_vret hC rfl ⟨rfl, rfl⟩ (by decide) (by decide) d_La_setLosses_7
set_option maxRecDepth 100000 in
set_option maxHeartbeats 400000 in
theorem c_La_hearsOrLoses {Γ : mx_X} {lau : Launch} {nx : Nat} {u : Nat → Nat → Bool} {mi : mx_Mm} {l : Nat} (hnx : 57 ≤ nx) (hu : ∀ p k, 2 ≤ p → u p k = true) (hl : l < 6) : mx_C Γ lau M_La_hearsOrLoses [.ref 34, .int (nI l)] (nx, u, mi) (fun ρ τ => ρ = some (.int (bz (mi 56 l = 0))) ∧ τ = (nx, u, La_hear l mi)) := by
  refine mx_C.intro (by decide) rfl (Nat.le_of_ble_eq_true rfl) (fun κ _ hC => ?_)
  show mx_G Γ κ _ _ 0 [(0, .ref 34), (1, .int (nI l))] [] (nx, u, mi) 0 0
  refine x_aload_n (q := 1) hC d_La_hearsOrLoses_0 rfl rfl rfl ?_
  refine x_getr (q := 4) (p := 34) (j := 4) (r := 56) hC f_La_22 rfl rfl rfl (by omega) (hu _ _ (by decide)) d_La_hearsOrLoses_1 rfl ?_
  refine x_iload_n (q := 5) hC d_La_hearsOrLoses_4 rfl rfl rfl ?_
  refine x_iald (q := 6) (p := 56) hC l rfl (by omega) rfl (by omega) (by decide) d_La_hearsOrLoses_5 rfl ?_
  refine x_if_ne (tgt := 11) (q := 9) hC d_La_hearsOrLoses_6 (by decide) rfl (fun h6 => ?_) (fun h6 => ?_)
  · skip
    refine x_aload_n (q := 12) hC d_La_hearsOrLoses_11 rfl rfl rfl ?_
    refine x_getr (q := 15) (p := 34) (j := 4) (r := 56) hC f_La_22 rfl rfl rfl (by omega) (hu _ _ (by decide)) d_La_hearsOrLoses_12 rfl ?_
    refine x_iload_n (q := 16) hC d_La_hearsOrLoses_15 rfl rfl rfl ?_
    refine x_dup2 (q := 17) hC d_La_hearsOrLoses_16 rfl rfl rfl ?_
    refine x_iald (q := 18) (p := 56) hC l rfl (by omega) rfl (by omega) (by decide) d_La_hearsOrLoses_17 rfl ?_
    refine x_iconst (q := 19) (v := nI 1) hC d_La_hearsOrLoses_18 (by decide) rfl ?_
    refine x_isub (q := 20) (z := (mi 56 l) - (nI 1)) hC d_La_hearsOrLoses_19 rfl rfl ?_
    refine x_iast (q := 21) (p := 56) hC l rfl (by omega) (by omega) rfl (by omega) (by decide) d_La_hearsOrLoses_20 rfl ?_
    refine x_iconst (q := 22) (v := nI 0) hC d_La_hearsOrLoses_21 (by decide) rfl ?_
    exact x_iret hC rfl rfl ⟨bz_f (h6), by first | exact pr (it_t h6 rfl) | exact pr (it_f h6 rfl)⟩ (by decide) (by decide) d_La_hearsOrLoses_22
  · skip
    refine x_iconst (q := 10) (v := nI 1) hC d_La_hearsOrLoses_9 (by decide) rfl ?_
    exact x_iret hC rfl rfl ⟨bz_t (h6), by first | exact pr (it_t h6 rfl) | exact pr (it_f h6 rfl)⟩ (by decide) (by decide) d_La_hearsOrLoses_10
end
section
set_option maxRecDepth 100000 in
set_option maxHeartbeats 400000 in
theorem c_Sm_isAlive {Γ : mx_X} {lau : Launch} {nx : Nat} {u : Nat → Nat → Bool} {mi : mx_Mm} {s n : Nat} (hnx : 79 ≤ nx) (hu : ∀ p k, 2 ≤ p → u p k = true) (hs : s < 18) (hn : n < 6) : mx_C Γ lau M_Sm_isAlive [.ref 57, .int (nI s), .int (nI n)] (nx, u, mi) (fun ρ τ => ρ = some (.int (bz (mi 2 0 < mi (59 + s) n))) ∧ τ = (nx, u, mi)) := by
  refine mx_C.intro (by decide) rfl (Nat.le_of_ble_eq_true rfl) (fun κ _ hC => ?_)
  show mx_G Γ κ _ _ 0 [(0, .ref 57), (1, .int (nI s)), (2, .int (nI n))] [] (nx, u, mi) 0 0
  refine x_aload_n (q := 1) hC d_Sm_isAlive_0 rfl rfl rfl ?_
  refine x_getr (q := 4) (p := 57) (j := 0) (r := 2) hC f_Sm_23 rfl rfl rfl (by omega) (hu _ _ (by decide)) d_Sm_isAlive_1 rfl ?_
  refine x_callV (q := 7) (p := 2) (A := []) (S := []) (c1 := 0) (s1 := 0) hC (c_Ck_time (by omega) hu) s_Sm_isAlive_27 rfl (by omega) rfl rfl rfl (Nat.le_of_ble_eq_true rfl) rfl rfl (by decide) (by decide) d_Sm_isAlive_4 rfl (fun r τ hP => ?_)
  obtain ⟨rfl, rfl⟩ := hP
  show mx_G Γ κ _ _ 7 [(0, .ref 57), (1, .int (nI s)), (2, .int (nI n))] [.int (mi 2 0)] (nx, u, mi) 0 0
  refine x_aload_n (q := 8) hC d_Sm_isAlive_7 rfl rfl rfl ?_
  refine x_getr (q := 11) (p := 57) (j := 1) (r := 58) hC f_Sm_11 rfl rfl rfl (by omega) (hu _ _ (by decide)) d_Sm_isAlive_8 rfl ?_
  refine x_iload_n (q := 12) hC d_Sm_isAlive_11 rfl rfl rfl ?_
  refine x_aald (q := 13) (p := 58) (r := 59 + s) hC s (mr_58 _ (by omega)) rfl (by omega) rfl (by omega) (by decide) d_Sm_isAlive_12 rfl ?_
  refine x_iload_n (q := 14) hC d_Sm_isAlive_13 rfl rfl rfl ?_
  refine x_iald (q := 15) (p := 59 + s) hC n (sh_59 _ (by omega)) (by omega) rfl (by omega) (by decide) d_Sm_isAlive_14 rfl ?_
  refine x_icmp_ge (tgt := 22) (q := 18) hC d_Sm_isAlive_15 (by decide) rfl (fun h15 => ?_) (fun h15 => ?_)
  · skip
    refine x_iconst (q := 23) (v := nI 0) hC d_Sm_isAlive_22 (by decide) rfl ?_
    exact x_iret hC rfl rfl ⟨bz_f (Int32.not_lt.mpr h15), rfl⟩ (by decide) (by decide) d_Sm_isAlive_23
  · skip
    refine x_iconst (q := 19) (v := nI 1) hC d_Sm_isAlive_18 (by decide) rfl ?_
    refine x_goto (tgt := 23) hC d_Sm_isAlive_19 (by decide) ?_
    exact x_iret hC rfl rfl ⟨bz_t (Int32.not_le.mp h15), rfl⟩ (by decide) (by decide) d_Sm_isAlive_23
set_option maxRecDepth 100000 in
set_option maxHeartbeats 400000 in
theorem c_Sm_isSwitched {Γ : mx_X} {lau : Launch} {nx : Nat} {u : Nat → Nat → Bool} {mi : mx_Mm} {s n : Nat} (hnx : 79 ≤ nx) (hu : ∀ p k, 2 ≤ p → u p k = true) (hs : s < 18) (hn : n < 6) : mx_C Γ lau M_Sm_isSwitched [.ref 57, .int (nI s), .int (nI n)] (nx, u, mi) (fun ρ τ => ρ = some (.int (bz (hold (mi 77 s) n))) ∧ τ = (nx, u, mi)) := by
  refine mx_C.intro (by decide) rfl (Nat.le_of_ble_eq_true rfl) (fun κ _ hC => ?_)
  show mx_G Γ κ _ _ 0 [(0, .ref 57), (1, .int (nI s)), (2, .int (nI n))] [] (nx, u, mi) 0 0
  refine x_aload_n (q := 1) hC d_Sm_isSwitched_0 rfl rfl rfl ?_
  refine x_getr (q := 4) (p := 57) (j := 2) (r := 77) hC f_Sm_16 rfl rfl rfl (by omega) (hu _ _ (by decide)) d_Sm_isSwitched_1 rfl ?_
  refine x_iload_n (q := 5) hC d_Sm_isSwitched_4 rfl rfl rfl ?_
  refine x_iald (q := 6) (p := 77) hC s rfl (by omega) rfl (by omega) (by decide) d_Sm_isSwitched_5 rfl ?_
  refine x_iload_n (q := 7) hC d_Sm_isSwitched_6 rfl rfl rfl ?_
  refine x_callSN (q := 10) (A := [.int (mi 77 s), .int (nI n)]) (S := []) (c1 := 0) (s1 := 0) hC (c_MT_holds (n := n)) s_Sm_isSwitched_33 rfl rfl rfl (Nat.le_of_ble_eq_true rfl) rfl rfl (by decide) (by decide) d_Sm_isSwitched_7 rfl (fun r τ hP => ?_)
  obtain ⟨rfl, rfl⟩ := hP
  show mx_G Γ κ _ _ 10 [(0, .ref 57), (1, .int (nI s)), (2, .int (nI n))] [.int (bz (hold (mi 77 s) n))] (nx, u, mi) 0 0
  exact x_iret hC rfl bz_n ⟨rfl, rfl⟩ (by decide) (by decide) d_Sm_isSwitched_10
set_option maxRecDepth 100000 in
set_option maxHeartbeats 400000 in
theorem c_Sm_isQuiet {Γ : mx_X} {lau : Launch} {nx : Nat} {u : Nat → Nat → Bool} {mi : mx_Mm} {s : Nat} (hnx : 79 ≤ nx) (hu : ∀ p k, 2 ≤ p → u p k = true) (hs : s < 18) : mx_C Γ lau M_Sm_isQuiet [.ref 57, .int (nI s)] (nx, u, mi) (fun ρ τ => ρ = some (.int (bz (mi 2 0 < mi 78 s))) ∧ τ = (nx, u, mi)) := by
  refine mx_C.intro (by decide) rfl (Nat.le_of_ble_eq_true rfl) (fun κ _ hC => ?_)
  show mx_G Γ κ _ _ 0 [(0, .ref 57), (1, .int (nI s))] [] (nx, u, mi) 0 0
  refine x_aload_n (q := 1) hC d_Sm_isQuiet_0 rfl rfl rfl ?_
  refine x_getr (q := 4) (p := 57) (j := 3) (r := 78) hC f_Sm_20 rfl rfl rfl (by omega) (hu _ _ (by decide)) d_Sm_isQuiet_1 rfl ?_
  refine x_iload_n (q := 5) hC d_Sm_isQuiet_4 rfl rfl rfl ?_
  refine x_iald (q := 6) (p := 78) hC s rfl (by omega) rfl (by omega) (by decide) d_Sm_isQuiet_5 rfl ?_
  refine x_aload_n (q := 7) hC d_Sm_isQuiet_6 rfl rfl rfl ?_
  refine x_getr (q := 10) (p := 57) (j := 0) (r := 2) hC f_Sm_23 rfl rfl rfl (by omega) (hu _ _ (by decide)) d_Sm_isQuiet_7 rfl ?_
  refine x_callV (q := 13) (p := 2) (A := []) (S := [.int (mi 78 s)]) (c1 := 0) (s1 := 0) hC (c_Ck_time (by omega) hu) s_Sm_isQuiet_27 rfl (by omega) rfl rfl rfl (Nat.le_of_ble_eq_true rfl) rfl rfl (by decide) (by decide) d_Sm_isQuiet_10 rfl (fun r τ hP => ?_)
  obtain ⟨rfl, rfl⟩ := hP
  show mx_G Γ κ _ _ 13 [(0, .ref 57), (1, .int (nI s))] [.int (mi 2 0), .int (mi 78 s)] (nx, u, mi) 0 0
  refine x_icmp_le (tgt := 20) (q := 16) hC d_Sm_isQuiet_13 (by decide) rfl (fun h13 => ?_) (fun h13 => ?_)
  · skip
    refine x_iconst (q := 21) (v := nI 0) hC d_Sm_isQuiet_20 (by decide) rfl ?_
    exact x_iret hC rfl rfl ⟨bz_f (Int32.not_lt.mpr h13), rfl⟩ (by decide) (by decide) d_Sm_isQuiet_21
  · skip
    refine x_iconst (q := 17) (v := nI 1) hC d_Sm_isQuiet_16 (by decide) rfl ?_
    refine x_goto (tgt := 21) hC d_Sm_isQuiet_17 (by decide) ?_
    exact x_iret hC rfl rfl ⟨bz_t (Int32.not_le.mp h13), rfl⟩ (by decide) (by decide) d_Sm_isQuiet_21
set_option maxRecDepth 100000 in
set_option maxHeartbeats 400000 in
theorem c_Sm_renew {Γ : mx_X} {lau : Launch} {nx : Nat} {u : Nat → Nat → Bool} {mi : mx_Mm} {s n : Nat} (hnx : 79 ≤ nx) (hu : ∀ p k, 2 ≤ p → u p k = true) (hs : s < 18) (hn : n < 6) : mx_C Γ lau M_Sm_renew [.ref 57, .int (nI s), .int (nI n)] (nx, u, mi) (fun ρ τ => ρ = none ∧ τ = (nx, u, Sm_renew s n mi)) := by
  refine mx_C.intro (by decide) rfl (Nat.le_of_ble_eq_true rfl) (fun κ _ hC => ?_)
  show mx_G Γ κ _ _ 0 [(0, .ref 57), (1, .int (nI s)), (2, .int (nI n))] [] (nx, u, mi) 0 0
  refine x_aload_n (q := 1) hC d_Sm_renew_0 rfl rfl rfl ?_
  refine x_getr (q := 4) (p := 57) (j := 1) (r := 58) hC f_Sm_11 rfl rfl rfl (by omega) (hu _ _ (by decide)) d_Sm_renew_1 rfl ?_
  refine x_iload_n (q := 5) hC d_Sm_renew_4 rfl rfl rfl ?_
  refine x_aald (q := 6) (p := 58) (r := 59 + s) hC s (mr_58 _ (by omega)) rfl (by omega) rfl (by omega) (by decide) d_Sm_renew_5 rfl ?_
  refine x_iload_n (q := 7) hC d_Sm_renew_6 rfl rfl rfl ?_
  refine x_aload_n (q := 8) hC d_Sm_renew_7 rfl rfl rfl ?_
  refine x_getr (q := 11) (p := 57) (j := 0) (r := 2) hC f_Sm_23 rfl rfl rfl (by omega) (hu _ _ (by decide)) d_Sm_renew_8 rfl ?_
  refine x_callV (q := 14) (p := 2) (A := []) (S := [.int (nI n), .ref (59 + s)]) (c1 := 0) (s1 := 0) hC (c_Ck_time (by omega) hu) s_Sm_renew_27 rfl (by omega) rfl rfl rfl (Nat.le_of_ble_eq_true rfl) rfl rfl (by decide) (by decide) d_Sm_renew_11 rfl (fun r τ hP => ?_)
  obtain ⟨rfl, rfl⟩ := hP
  show mx_G Γ κ _ _ 14 [(0, .ref 57), (1, .int (nI s)), (2, .int (nI n))] [.int (mi 2 0), .int (nI n), .ref (59 + s)] (nx, u, mi) 0 0
  refine x_bipush (q := 16) (v := nI 8) hC d_Sm_renew_14 (by decide) rfl ?_
  refine x_iadd (q := 17) (z := (mi 2 0) + (nI 8)) hC d_Sm_renew_16 rfl rfl ?_
  refine x_iast (q := 18) (p := 59 + s) hC n (sh_59 _ (by omega)) (by omega) (by omega) rfl (by omega) (by decide) d_Sm_renew_17 rfl ?_
  exact x_vret hC rfl ⟨rfl, rfl⟩ (by decide) (by decide) d_Sm_renew_18
set_option maxRecDepth 100000 in
set_option maxHeartbeats 400000 in
theorem c_Sm_switchOver {Γ : mx_X} {lau : Launch} {nx : Nat} {u : Nat → Nat → Bool} {mi : mx_Mm} {s n : Nat} (hnx : 79 ≤ nx) (hu : ∀ p k, 2 ≤ p → u p k = true) (hs : s < 18) (hn : n < 6) : mx_C Γ lau M_Sm_switchOver [.ref 57, .int (nI s), .int (nI n)] (nx, u, mi) (fun ρ τ => ρ = none ∧ τ = (nx, u, Sm_over s n mi)) := by
  refine mx_C.intro (by decide) rfl (Nat.le_of_ble_eq_true rfl) (fun κ _ hC => ?_)
  show mx_G Γ κ _ _ 0 [(0, .ref 57), (1, .int (nI s)), (2, .int (nI n))] [] (nx, u, mi) 0 0
  refine x_aload_n (q := 1) hC d_Sm_switchOver_0 rfl rfl rfl ?_
  refine x_iload_n (q := 2) hC d_Sm_switchOver_1 rfl rfl rfl ?_
  refine x_iload_n (q := 3) hC d_Sm_switchOver_2 rfl rfl rfl ?_
  refine x_callV (q := 6) (p := 57) (A := [.int (nI s), .int (nI n)]) (S := []) (c1 := 0) (s1 := 0) hC (c_Sm_renew (s := s) (n := n) (by omega) hu (by omega) (by omega) ) s_Sm_switchOver_37 rfl (by omega) rfl rfl rfl (Nat.le_of_ble_eq_true rfl) rfl rfl (by decide) (by decide) d_Sm_switchOver_3 rfl (fun r τ hP => ?_)
  obtain ⟨rfl, rfl⟩ := hP
  show mx_G Γ κ _ _ 6 [(0, .ref 57), (1, .int (nI s)), (2, .int (nI n))] [] (nx, u, Sm_renew s n mi) 0 0
  refine x_aload_n (q := 7) hC d_Sm_switchOver_6 rfl rfl rfl ?_
  refine x_getr (q := 10) (p := 57) (j := 2) (r := 77) hC f_Sm_16 rfl rfl rfl (by omega) (hu _ _ (by decide)) d_Sm_switchOver_7 rfl ?_
  refine x_iload_n (q := 11) hC d_Sm_switchOver_10 rfl rfl rfl ?_
  refine x_dup2 (q := 12) hC d_Sm_switchOver_11 rfl rfl rfl ?_
  refine x_iald (q := 13) (p := 77) hC s rfl (by omega) rfl (by omega) (by decide) d_Sm_switchOver_12 rfl ?_
  refine x_iconst (q := 14) (v := nI 1) hC d_Sm_switchOver_13 (by decide) rfl ?_
  refine x_iload_n (q := 15) hC d_Sm_switchOver_14 rfl rfl rfl ?_
  refine x_ishl (q := 16) (z := (nI 1) <<< ((nI n) &&& 31)) hC d_Sm_switchOver_15 rfl rfl ?_
  refine x_ior (q := 17) (z := ((Sm_renew s n mi) 77 s) ||| ((nI 1) <<< ((nI n) &&& 31))) hC d_Sm_switchOver_16 rfl rfl ?_
  refine x_iast (q := 18) (p := 77) hC s rfl (by omega) (by omega) rfl (by omega) (by decide) d_Sm_switchOver_17 rfl ?_
  refine mx_nr (fun m1 e2 => ?_)
  subst e2
  exact x_vret hC rfl ⟨rfl, rfl⟩ (by decide) (by decide) d_Sm_switchOver_18
set_option maxRecDepth 100000 in
set_option maxHeartbeats 400000 in
theorem c_Sm_silence {Γ : mx_X} {lau : Launch} {nx : Nat} {u : Nat → Nat → Bool} {mi : mx_Mm} {s : Nat} (hnx : 79 ≤ nx) (hu : ∀ p k, 2 ≤ p → u p k = true) (hs : s < 18) : mx_C Γ lau M_Sm_silence [.ref 57, .int (nI s)] (nx, u, mi) (fun ρ τ => ρ = none ∧ τ = (nx, u, mx_up mi 78 s (mi 2 0 + nI 6))) := by
  refine mx_C.intro (by decide) rfl (Nat.le_of_ble_eq_true rfl) (fun κ _ hC => ?_)
  show mx_G Γ κ _ _ 0 [(0, .ref 57), (1, .int (nI s))] [] (nx, u, mi) 0 0
  refine x_aload_n (q := 1) hC d_Sm_silence_0 rfl rfl rfl ?_
  refine x_getr (q := 4) (p := 57) (j := 3) (r := 78) hC f_Sm_20 rfl rfl rfl (by omega) (hu _ _ (by decide)) d_Sm_silence_1 rfl ?_
  refine x_iload_n (q := 5) hC d_Sm_silence_4 rfl rfl rfl ?_
  refine x_aload_n (q := 6) hC d_Sm_silence_5 rfl rfl rfl ?_
  refine x_getr (q := 9) (p := 57) (j := 0) (r := 2) hC f_Sm_23 rfl rfl rfl (by omega) (hu _ _ (by decide)) d_Sm_silence_6 rfl ?_
  refine x_callV (q := 12) (p := 2) (A := []) (S := [.int (nI s), .ref 78]) (c1 := 0) (s1 := 0) hC (c_Ck_time (by omega) hu) s_Sm_silence_27 rfl (by omega) rfl rfl rfl (Nat.le_of_ble_eq_true rfl) rfl rfl (by decide) (by decide) d_Sm_silence_9 rfl (fun r τ hP => ?_)
  obtain ⟨rfl, rfl⟩ := hP
  show mx_G Γ κ _ _ 12 [(0, .ref 57), (1, .int (nI s))] [.int (mi 2 0), .int (nI s), .ref 78] (nx, u, mi) 0 0
  refine x_bipush (q := 14) (v := nI 6) hC d_Sm_silence_12 (by decide) rfl ?_
  refine x_iadd (q := 15) (z := (mi 2 0) + (nI 6)) hC d_Sm_silence_14 rfl rfl ?_
  refine x_iast (q := 16) (p := 78) hC s rfl (by omega) (by omega) rfl (by omega) (by decide) d_Sm_silence_15 rfl ?_
  exact x_vret hC rfl ⟨rfl, rfl⟩ (by decide) (by decide) d_Sm_silence_16
set_option maxRecDepth 100000 in
set_option maxHeartbeats 400000 in
theorem c_Sm_endStale {Γ : mx_X} {lau : Launch} {nx : Nat} {u : Nat → Nat → Bool} {mi : mx_Mm}  (hnx : 79 ≤ nx) (hu : ∀ p k, 2 ≤ p → u p k = true)  : mx_C Γ lau M_Sm_endStale [.ref 57] (nx, u, mi) (fun ρ τ => ρ = none ∧ τ = (nx, u, Sm_es mi)) := by
  refine mx_C.intro (by decide) rfl (Nat.le_of_ble_eq_true rfl) (fun κ _ hC => ?_)
  show mx_G Γ κ _ _ 0 [(0, .ref 57)] [] (nx, u, mi) 0 0
  refine x_iconst (q := 1) (v := nI 0) hC d_Sm_endStale_0 (by decide) rfl ?_
  refine x_istore_n (q := 2) (L1 := [(1, .int (nI 0)), (0, .ref 57)]) hC d_Sm_endStale_1 rfl (by decide) rfl rfl ?_
  refine x_sub (L1 := [(1, .int (nI 0)), (0, .ref 57)]) [0, 1] rfl ?_
  refine mx_loop (N := 18) (Hd := fun s m1 => mx_G Γ κ _ _ 2 [(1, .int (nI s)), (0, .ref 57)] [] (nx, u, m1) 0 0) (fun s => mx_lp 6 (Sm_es1 s)) (fun _ _ => True) trivial ?_ ?_ ?_
  · exact fun _ _ _ _ => trivial
  · intro s m1 hl2 hI3 hN4
    refine x_iload_n (q := 3) hC d_Sm_endStale_2 rfl rfl rfl ?_
    refine x_bipush (q := 5) (v := nI 18) hC d_Sm_endStale_3 (by decide) rfl ?_
    refine x_icmp_ge (tgt := 51) (q := 8) hC d_Sm_endStale_5 (by decide) rfl (fun h => absurd h (nI_ge hl2 (by decide))) (fun _ => ?_)
    refine x_iconst (q := 9) (v := nI 0) hC d_Sm_endStale_8 (by decide) rfl ?_
    refine x_istore_n (q := 10) (L1 := [(2, .int (nI 0)), (1, .int (nI s)), (0, .ref 57)]) hC d_Sm_endStale_9 rfl (by decide) rfl rfl ?_
    refine x_sub (L1 := [(2, .int (nI 0)), (1, .int (nI s)), (0, .ref 57)]) [0, 1, 2] rfl ?_
    refine mx_loop (N := 6) (Hd := fun n m5 => mx_G Γ κ _ _ 10 [(2, .int (nI n)), (1, .int (nI s)), (0, .ref 57)] [] (nx, u, m5) 0 0) (Sm_es1 s) (fun _ _ => True) trivial ?_ ?_ ?_
    · exact fun _ _ _ _ => trivial
    · intro n m5 hl6 hI7 hN8
      refine x_iload_n (q := 11) hC d_Sm_endStale_10 rfl rfl rfl ?_
      refine x_bipush (q := 13) (v := nI 6) hC d_Sm_endStale_11 (by decide) rfl ?_
      refine x_icmp_ge (tgt := 45) (q := 16) hC d_Sm_endStale_13 (by decide) rfl (fun h => absurd h (nI_ge hl6 (by decide))) (fun _ => ?_)
      refine x_aload_n (q := 17) hC d_Sm_endStale_16 rfl rfl rfl ?_
      refine x_iload_n (q := 18) hC d_Sm_endStale_17 rfl rfl rfl ?_
      refine x_iload_n (q := 19) hC d_Sm_endStale_18 rfl rfl rfl ?_
      refine x_callV (q := 22) (p := 57) (A := [.int (nI s), .int (nI n)]) (S := []) (c1 := 0) (s1 := 0) hC (c_Sm_isAlive (s := s) (n := n) (by omega) hu (by omega) (by omega) ) s_Sm_endStale_41 rfl (by omega) rfl rfl rfl (Nat.le_of_ble_eq_true rfl) rfl rfl (by decide) (by decide) d_Sm_endStale_19 rfl (fun r τ hP => ?_)
      obtain ⟨rfl, rfl⟩ := hP
      show mx_G Γ κ _ _ 22 [(2, .int (nI n)), (1, .int (nI s)), (0, .ref 57)] [.int (bz (m5 2 0 < m5 (59 + s) n))] (nx, u, m5) 0 0
      refine x_if_ne (tgt := 39) (q := 25) hC d_Sm_endStale_22 (by decide) rfl (fun h22 => ?_) (fun h22 => ?_)
      · have h22 := bz_1 h22
        refine x_iinc (q := 42) (y := nI (n + 1)) (L1 := [(2, .int (nI (n + 1))), (1, .int (nI s)), (0, .ref 57)]) hC d_Sm_endStale_39 rfl (mx_inc n) (by decide) rfl rfl ?_
        refine x_goto (tgt := 10) hC d_Sm_endStale_42 (by decide) ?_
        exact x_close hN8 [0, 1, 2] rfl (by unfold Sm_es1; first | rw [if_pos h22] | rw [if_neg h22])
      · have h22 := bz_0 h22
        refine x_aload_n (q := 26) hC d_Sm_endStale_25 rfl rfl rfl ?_
        refine x_getr (q := 29) (p := 57) (j := 2) (r := 77) hC f_Sm_16 rfl rfl rfl (by omega) (hu _ _ (by decide)) d_Sm_endStale_26 rfl ?_
        refine x_iload_n (q := 30) hC d_Sm_endStale_29 rfl rfl rfl ?_
        refine x_dup2 (q := 31) hC d_Sm_endStale_30 rfl rfl rfl ?_
        refine x_iald (q := 32) (p := 77) hC s rfl (by omega) rfl (by omega) (by decide) d_Sm_endStale_31 rfl ?_
        refine x_iconst (q := 33) (v := nI 1) hC d_Sm_endStale_32 (by decide) rfl ?_
        refine x_iload_n (q := 34) hC d_Sm_endStale_33 rfl rfl rfl ?_
        refine x_ishl (q := 35) (z := (nI 1) <<< ((nI n) &&& 31)) hC d_Sm_endStale_34 rfl rfl ?_
        refine x_iconst (q := 36) (v := (-1)) hC d_Sm_endStale_35 (by decide) rfl ?_
        refine x_ixor (q := 37) (z := ((nI 1) <<< ((nI n) &&& 31)) ^^^ (-1)) hC d_Sm_endStale_36 rfl rfl ?_
        refine x_iand (q := 38) (z := (m5 77 s) &&& (((nI 1) <<< ((nI n) &&& 31)) ^^^ (-1))) hC d_Sm_endStale_37 rfl rfl ?_
        refine x_iast (q := 39) (p := 77) hC s rfl (by omega) (by omega) rfl (by omega) (by decide) d_Sm_endStale_38 rfl ?_
        refine mx_nr (fun m9 e10 => ?_)
        refine x_iinc (q := 42) (y := nI (n + 1)) (L1 := [(2, .int (nI (n + 1))), (1, .int (nI s)), (0, .ref 57)]) hC d_Sm_endStale_39 rfl (mx_inc n) (by decide) rfl rfl ?_
        refine x_goto (tgt := 10) hC d_Sm_endStale_42 (by decide) ?_
        subst e10
        exact x_close hN8 [0, 1, 2] rfl (by unfold Sm_es1; first | rw [if_pos h22] | rw [if_neg h22])
    · intro hx11
      refine mx_nr (fun m12 e13 => ?_)
      try rw [e13] at hx11
      refine x_iload_n (q := 11) hC d_Sm_endStale_10 rfl rfl rfl ?_
      refine x_bipush (q := 13) (v := nI 6) hC d_Sm_endStale_11 (by decide) rfl ?_
      refine x_icmp_ge (tgt := 45) (q := 16) hC d_Sm_endStale_13 (by decide) rfl (fun _ => ?_) (fun h => absurd (nI_le (Nat.le_refl _) (by decide)) h)
      refine x_iinc (q := 48) (y := nI (s + 1)) (L1 := [(1, .int (nI (s + 1))), (2, .int (nI 6)), (0, .ref 57)]) hC d_Sm_endStale_45 rfl (mx_inc s) (by decide) rfl rfl ?_
      refine x_goto (tgt := 2) hC d_Sm_endStale_48 (by decide) ?_
      subst e13
      exact x_close hN4 [0, 2] rfl (by rfl)
  · intro hx14
    refine mx_nr (fun m15 e16 => ?_)
    try rw [e16] at hx14
    refine x_iload_n (q := 3) hC d_Sm_endStale_2 rfl rfl rfl ?_
    refine x_bipush (q := 5) (v := nI 18) hC d_Sm_endStale_3 (by decide) rfl ?_
    refine x_icmp_ge (tgt := 51) (q := 8) hC d_Sm_endStale_5 (by decide) rfl (fun _ => ?_) (fun h => absurd (nI_le (Nat.le_refl _) (by decide)) h)
    subst e16
    exact x_vret hC rfl ⟨rfl, rfl⟩ (by decide) (by decide) d_Sm_endStale_51
set_option maxRecDepth 100000 in
set_option maxHeartbeats 400000 in
theorem c_Sm_isAliveSomewhere {Γ : mx_X} {lau : Launch} {nx : Nat} {u : Nat → Nat → Bool} {mi : mx_Mm} {s : Nat} (hnx : 79 ≤ nx) (hu : ∀ p k, 2 ≤ p → u p k = true) (hs : s < 18) : mx_C Γ lau M_Sm_isAliveSomewhere [.ref 57, .int (nI s)] (nx, u, mi) (fun ρ τ => ρ = some (.int (bz (Sm_some s mi))) ∧ τ = (nx, u, mi)) := by
  refine mx_C.intro (by decide) rfl (Nat.le_of_ble_eq_true rfl) (fun κ _ hC => ?_)
  show mx_G Γ κ _ _ 0 [(0, .ref 57), (1, .int (nI s))] [] (nx, u, mi) 0 0
  refine x_iconst (q := 1) (v := nI 0) hC d_Sm_isAliveSomewhere_0 (by decide) rfl ?_
  refine x_istore_n (q := 2) (L1 := [(2, .int (nI 0)), (0, .ref 57), (1, .int (nI s))]) hC d_Sm_isAliveSomewhere_1 rfl (by decide) rfl rfl ?_
  refine x_sub (L1 := [(2, .int (nI 0)), (0, .ref 57), (1, .int (nI s))]) [0, 1, 2] rfl ?_
  refine mx_loopR (N := 6) (Hd := fun n => mx_G Γ κ _ _ 2 [(2, .int (nI n)), (0, .ref 57), (1, .int (nI s))] [] (nx, u, mi) 0 0) (Sm_al s mi) ?_ ?_
  · intro n hl1 hn2 hN3
    refine x_iload_n (q := 3) hC d_Sm_isAliveSomewhere_2 rfl rfl rfl ?_
    refine x_bipush (q := 5) (v := nI 6) hC d_Sm_isAliveSomewhere_3 (by decide) rfl ?_
    refine x_icmp_ge (tgt := 25) (q := 8) hC d_Sm_isAliveSomewhere_5 (by decide) rfl (fun h => absurd h (nI_ge hl1 (by decide))) (fun _ => ?_)
    refine x_aload_n (q := 9) hC d_Sm_isAliveSomewhere_8 rfl rfl rfl ?_
    refine x_iload_n (q := 10) hC d_Sm_isAliveSomewhere_9 rfl rfl rfl ?_
    refine x_iload_n (q := 11) hC d_Sm_isAliveSomewhere_10 rfl rfl rfl ?_
    refine x_callV (q := 14) (p := 57) (A := [.int (nI s), .int (nI n)]) (S := []) (c1 := 0) (s1 := 0) hC (c_Sm_isAlive (s := s) (n := n) (by omega) hu (by omega) (by omega) ) s_Sm_isAliveSomewhere_41 rfl (by omega) rfl rfl rfl (Nat.le_of_ble_eq_true rfl) rfl rfl (by decide) (by decide) d_Sm_isAliveSomewhere_11 rfl (fun r τ hP => ?_)
    obtain ⟨rfl, rfl⟩ := hP
    show mx_G Γ κ _ _ 14 [(2, .int (nI n)), (0, .ref 57), (1, .int (nI s))] [.int (bz (mi 2 0 < mi (59 + s) n))] (nx, u, mi) 0 0
    refine x_if_eq (tgt := 19) (q := 17) hC d_Sm_isAliveSomewhere_14 (by decide) rfl (fun h14 => ?_) (fun h14 => ?_)
    · have h14 := bz_0 h14
      refine x_iinc (q := 22) (y := nI (n + 1)) (L1 := [(2, .int (nI (n + 1))), (0, .ref 57), (1, .int (nI s))]) hC d_Sm_isAliveSomewhere_19 rfl (mx_inc n) (by decide) rfl rfl ?_
      refine x_goto (tgt := 2) hC d_Sm_isAliveSomewhere_22 (by decide) ?_
      exact x_sub [0, 1, 2] rfl (hN3 (decide_eq_false h14))
    · have h14 := bz_1 h14
      refine x_iconst (q := 18) (v := nI 1) hC d_Sm_isAliveSomewhere_17 (by decide) rfl ?_
      exact x_iret hC rfl rfl ⟨bz_t (by rw [Sm_some, pm_fd_eq hl1 (decide_eq_true h14) hn2]; exact hl1), rfl⟩ (by decide) (by decide) d_Sm_isAliveSomewhere_18
  · intro hx
    refine x_iload_n (q := 3) hC d_Sm_isAliveSomewhere_2 rfl rfl rfl ?_
    refine x_bipush (q := 5) (v := nI 6) hC d_Sm_isAliveSomewhere_3 (by decide) rfl ?_
    refine x_icmp_ge (tgt := 25) (q := 8) hC d_Sm_isAliveSomewhere_5 (by decide) rfl (fun _ => ?_) (fun h => absurd (nI_le (Nat.le_refl _) (by decide)) h)
    refine x_iconst (q := 26) (v := nI 0) hC d_Sm_isAliveSomewhere_25 (by decide) rfl ?_
    exact x_iret hC rfl rfl ⟨bz_f (by rw [Sm_some, pm_fd_none hx]; decide), rfl⟩ (by decide) (by decide) d_Sm_isAliveSomewhere_26
set_option maxRecDepth 100000 in
set_option maxHeartbeats 400000 in
theorem c_Sm_hasRoomFor {Γ : mx_X} {lau : Launch} {nx : Nat} {u : Nat → Nat → Bool} {mi : mx_Mm} {s : Nat} (hnx : 79 ≤ nx) (hu : ∀ p k, 2 ≤ p → u p k = true) (hs : s < 18) : mx_C Γ lau M_Sm_hasRoomFor [.ref 57, .int (nI s)] (nx, u, mi) (fun ρ τ => ρ = some (.int (bz (Sm_some s mi ∨ Sm_cnt mi < 5))) ∧ τ = (nx, u, mi)) := by
  refine mx_C.intro (by decide) rfl (Nat.le_of_ble_eq_true rfl) (fun κ _ hC => ?_)
  show mx_G Γ κ _ _ 0 [(0, .ref 57), (1, .int (nI s))] [] (nx, u, mi) 0 0
  refine x_aload_n (q := 1) hC d_Sm_hasRoomFor_0 rfl rfl rfl ?_
  refine x_iload_n (q := 2) hC d_Sm_hasRoomFor_1 rfl rfl rfl ?_
  refine x_callV (q := 5) (p := 57) (A := [.int (nI s)]) (S := []) (c1 := 0) (s1 := 0) hC (c_Sm_isAliveSomewhere (s := s) (by omega) hu (by omega) ) s_Sm_hasRoomFor_44 rfl (by omega) rfl rfl rfl (Nat.le_of_ble_eq_true rfl) rfl rfl (by decide) (by decide) d_Sm_hasRoomFor_2 rfl (fun r τ hP => ?_)
  obtain ⟨rfl, rfl⟩ := hP
  show mx_G Γ κ _ _ 5 [(0, .ref 57), (1, .int (nI s))] [.int (bz (Sm_some s mi))] (nx, u, mi) 0 0
  refine x_if_eq (tgt := 10) (q := 8) hC d_Sm_hasRoomFor_5 (by decide) rfl (fun h5 => ?_) (fun h5 => ?_)
  · have h5 := bz_0 h5
    refine x_iconst (q := 11) (v := nI 0) hC d_Sm_hasRoomFor_10 (by decide) rfl ?_
    refine x_istore_n (q := 12) (L1 := [(2, .int (nI 0)), (0, .ref 57), (1, .int (nI s))]) hC d_Sm_hasRoomFor_11 rfl (by decide) rfl rfl ?_
    refine x_iconst (q := 13) (v := nI 0) hC d_Sm_hasRoomFor_12 (by decide) rfl ?_
    refine x_istore_n (q := 14) (L1 := [(3, .int (nI 0)), (2, .int (nI 0)), (0, .ref 57), (1, .int (nI s))]) hC d_Sm_hasRoomFor_13 rfl (by decide) rfl rfl ?_
    refine x_sub (L1 := [(3, .int (nI 0)), (2, .int (nI 0)), (0, .ref 57), (1, .int (nI s))]) [0, 1, 2, 3] rfl ?_
    refine mx_loopG (N := 18) (Hd := fun i c => mx_G Γ κ _ _ 14 [(3, .int (nI i)), (2, .int (nI c)), (0, .ref 57), (1, .int (nI s))] [] (nx, u, mi) 0 0) (Sm_c1 mi) (fun i c => c ≤ i) (m := 0) (Nat.le_refl _) ?_ ?_ ?_
    · exact fun i c _ h => Nat.le_trans (Sm_c1_le mi i c) (by omega)
    · intro i c hl1 hI2 hN3
      refine x_iload_n (q := 15) hC d_Sm_hasRoomFor_14 rfl rfl rfl ?_
      refine x_bipush (q := 17) (v := nI 18) hC d_Sm_hasRoomFor_15 (by decide) rfl ?_
      refine x_icmp_ge (tgt := 37) (q := 20) hC d_Sm_hasRoomFor_17 (by decide) rfl (fun h => absurd h (nI_ge hl1 (by decide))) (fun _ => ?_)
      refine x_aload_n (q := 21) hC d_Sm_hasRoomFor_20 rfl rfl rfl ?_
      refine x_iload_n (q := 22) hC d_Sm_hasRoomFor_21 rfl rfl rfl ?_
      refine x_callV (q := 25) (p := 57) (A := [.int (nI i)]) (S := []) (c1 := 0) (s1 := 0) hC (c_Sm_isAliveSomewhere (s := i) (by omega) hu (by omega) ) s_Sm_hasRoomFor_44 rfl (by omega) rfl rfl rfl (Nat.le_of_ble_eq_true rfl) rfl rfl (by decide) (by decide) d_Sm_hasRoomFor_22 rfl (fun r τ hP => ?_)
      obtain ⟨rfl, rfl⟩ := hP
      show mx_G Γ κ _ _ 25 [(3, .int (nI i)), (2, .int (nI c)), (0, .ref 57), (1, .int (nI s))] [.int (bz (Sm_some i mi))] (nx, u, mi) 0 0
      refine x_if_eq (tgt := 31) (q := 28) hC d_Sm_hasRoomFor_25 (by decide) rfl (fun h25 => ?_) (fun h25 => ?_)
      · have h25 := bz_0 h25
        refine x_iinc (q := 34) (y := nI (i + 1)) (L1 := [(3, .int (nI (i + 1))), (2, .int (nI c)), (0, .ref 57), (1, .int (nI s))]) hC d_Sm_hasRoomFor_31 rfl (mx_inc i) (by decide) rfl rfl ?_
        refine x_goto (tgt := 14) hC d_Sm_hasRoomFor_34 (by decide) ?_
        refine x_sub (L1 := [(3, .int (nI (i + 1))), (2, .int (nI c)), (0, .ref 57), (1, .int (nI s))]) [0, 1, 2, 3] rfl (mx_eqG ?_ rfl ?_ hN3)
        · first | rw [Sm_c1, if_pos h25] | rw [Sm_c1, if_neg h25]
        · rfl
      · have h25 := bz_1 h25
        refine x_iinc (q := 31) (y := nI (c + 1)) (L1 := [(2, .int (nI (c + 1))), (3, .int (nI i)), (0, .ref 57), (1, .int (nI s))]) hC d_Sm_hasRoomFor_28 rfl (mx_inc c) (by decide) rfl rfl ?_
        refine x_iinc (q := 34) (y := nI (i + 1)) (L1 := [(3, .int (nI (i + 1))), (2, .int (nI (c + 1))), (0, .ref 57), (1, .int (nI s))]) hC d_Sm_hasRoomFor_31 rfl (mx_inc i) (by decide) rfl rfl ?_
        refine x_goto (tgt := 14) hC d_Sm_hasRoomFor_34 (by decide) ?_
        refine x_sub (L1 := [(3, .int (nI (i + 1))), (2, .int (nI (c + 1))), (0, .ref 57), (1, .int (nI s))]) [0, 1, 2, 3] rfl (mx_eqG ?_ rfl ?_ hN3)
        · first | rw [Sm_c1, if_pos h25] | rw [Sm_c1, if_neg h25]
        · rfl
    · intro hx4
      generalize e6 : mx_lp 18 (Sm_c1 mi) 0 = a5 at hx4 ⊢
      refine x_iload_n (q := 15) hC d_Sm_hasRoomFor_14 rfl rfl rfl ?_
      refine x_bipush (q := 17) (v := nI 18) hC d_Sm_hasRoomFor_15 (by decide) rfl ?_
      refine x_icmp_ge (tgt := 37) (q := 20) hC d_Sm_hasRoomFor_17 (by decide) rfl (fun _ => ?_) (fun h => absurd (nI_le (Nat.le_refl _) (by decide)) h)
      refine x_iload_n (q := 38) hC d_Sm_hasRoomFor_37 rfl rfl rfl ?_
      refine x_iconst (q := 39) (v := nI 5) hC d_Sm_hasRoomFor_38 (by decide) rfl ?_
      refine x_icmp_ge (tgt := 46) (q := 42) hC d_Sm_hasRoomFor_39 (by decide) rfl (fun h39 => ?_) (fun h39 => ?_)
      · skip
        refine x_iconst (q := 47) (v := nI 0) hC d_Sm_hasRoomFor_46 (by decide) rfl ?_
        subst e6
        exact x_iret hC rfl rfl ⟨bz_f (by intro q; rcases q with q | q; exact h5 q; unfold Sm_cnt at q; exact absurd ((nI_leI (by decide) (by omega)).mp h39) (by omega)), rfl⟩ (by decide) (by decide) d_Sm_hasRoomFor_47
      · skip
        refine x_iconst (q := 43) (v := nI 1) hC d_Sm_hasRoomFor_42 (by decide) rfl ?_
        refine x_goto (tgt := 47) hC d_Sm_hasRoomFor_43 (by decide) ?_
        subst e6
        exact x_iret hC rfl rfl ⟨bz_t (by first | exact Or.inl h5 | (refine Or.inr ?_; have h39 := Int32.not_le.mp h39; unfold Sm_cnt; exact (nI_ltI (by omega) (by decide)).mp h39)), rfl⟩ (by decide) (by decide) d_Sm_hasRoomFor_47
  · have h5 := bz_1 h5
    refine x_iconst (q := 9) (v := nI 1) hC d_Sm_hasRoomFor_8 (by decide) rfl ?_
    exact x_iret hC rfl rfl ⟨bz_t (by first | exact Or.inl h5 | (refine Or.inr ?_; have h39 := Int32.not_le.mp h39; unfold Sm_cnt; exact (nI_ltI (by omega) (by decide)).mp h39)), rfl⟩ (by decide) (by decide) d_Sm_hasRoomFor_9
end
section
/-! trees -/
def rng6 (x : Int32) : Prop := x = -1 ∨ ∃ j, j < 6 ∧ x = nI j
theorem tn_nI {n : Nat} (h : n < 2 ^ 31) : tn (nI n) = n := nI_clamp h
theorem rng6.tn {x : Int32} (h : rng6 x) (hx : ¬ x = -1) : x = nI (tn x) ∧ tn x < 6 := by
  rcases h with h | ⟨j, hj, e⟩
  · exact absurd h hx
  · subst e
    rw [tn_nI (by omega)]
    exact ⟨rfl, hj⟩
def Tr_cnt (k : Nat) (m : mx_Mm) : mx_Mm := mx_up m 4 k (m 4 k + nI 1)
def Tr_a1 (k n : Nat) (x : Int32) (m : mx_Mm) : mx_Mm := if x = -1 then m else if ¬ m (7 + n) (tn x) = 0 then Tr_cnt (k + 1) m else m
def Tr_a2 (k : Nat) (y : Int32) (m : mx_Mm) : mx_Mm := if y = -1 then m else Tr_cnt k m
def Tr_ann (k n : Nat) (x y : Int32) (m : mx_Mm) : mx_Mm := if x = y then m else Tr_a2 k y (Tr_a1 k n x m)
def Tr_at (g r n : Nat) (m : mx_Mm) : Int32 := if m 2 0 < m (43 + n) g ∨ ¬ m (85 + g) n = 0 then m (21 + n) r else -1
def Tr_s2 (g n : Nat) (x : Int32) (m : mx_Mm) : mx_Mm := if x = -1 then m else mx_up m (85 + g) (tn x) (m (85 + g) (tn x) ||| bit n)
def Tr_s3 (g n : Nat) (x : Int32) (m : mx_Mm) : mx_Mm := mx_up (Tr_ann 0 n (m (81 + g) n) x m) (81 + g) n x
def Tr_s1 (g r n : Nat) (m : mx_Mm) : mx_Mm := Tr_s3 g n (Tr_at g r n m) (Tr_s2 g n (Tr_at g r n m) m)
def Tr_sh1 (g r k : Nat) (m : mx_Mm) : mx_Mm := Tr_s1 g r (tn (m (28 + r) k)) m
def Tr_shared (g r : Nat) (m : mx_Mm) : mx_Mm := mx_lp 6 (Tr_sh1 g r) (fill_m (85 + g) 6 (nI 0) m)
def Tr_c1 (g st n : Nat) (c : Int32) (m : mx_Mm) : mx_Mm := mx_up m (127 + st) n (m (85 + g) n &&& (c ^^^ (-1)))
def Tr_c2 (g st n : Nat) (m : mx_Mm) : mx_Mm := if m 2 0 < m (43 + n) g then mx_up m (127 + st) n (m (127 + st) n ||| nI 64) else m
abbrev Tr_els (st s r n : Nat) (m : mx_Mm) : Prop := hold (m 77 st) n ∧ ¬ m (21 + n) s = m (21 + n) r
def Tr_cat (g st s r n : Nat) (m : mx_Mm) : Int32 := if m (127 + st) n = 0 ∨ Tr_els st s r n m then m (81 + g) n else -1
def Tr_cc (n : Nat) (x c : Int32) : Int32 := if x = -1 then c else c ||| bit n
def Tr_c4 (st n : Nat) (x : Int32) (m : mx_Mm) : mx_Mm := mx_up (Tr_ann 4 n (m (89 + st) n) x m) (89 + st) n x
def Tr_c12 (g st n : Nat) (a : Int32 × mx_Mm) : mx_Mm := Tr_c2 g st n (Tr_c1 g st n a.1 a.2)
def Tr_cb (g st s r n : Nat) (a : Int32 × mx_Mm) : Int32 × mx_Mm := (Tr_cc n (Tr_cat g st s r n (Tr_c12 g st n a)) a.1, Tr_c4 st n (Tr_cat g st s r n (Tr_c12 g st n a)) (Tr_c12 g st n a))
def Tr_ck (g st s r k : Nat) (a : Int32 × mx_Mm) : Int32 × mx_Mm := Tr_cb g st s r (tn (a.2 (28 + r) k)) a
def Tr_cuts (s g r : Nat) (m : mx_Mm) : mx_Mm := (mx_lp 6 (Tr_ck g (s * 3 + g) s r) (nI 0, m)).2
def Tr_o1 (st n : Nat) (m : mx_Mm) : mx_Mm := mx_up m (146 + st) n (m (127 + st) n ||| m 164 n)
def Tr_oat (st s n : Nat) (m : mx_Mm) : Int32 := if ¬ m 164 n = 0 ∨ (m 2 0 < m (59 + st) n ∧ ¬ m (146 + st) n = 0) then m (21 + n) s else -1
def Tr_o2 (n : Nat) (x : Int32) (m : mx_Mm) : mx_Mm := if x = -1 then m else mx_up m 164 (tn x) (m 164 (tn x) ||| bit n)
def Tr_o3 (st n : Nat) (x : Int32) (m : mx_Mm) : mx_Mm := mx_up (Tr_ann 2 n (m (108 + st) n) x m) (108 + st) n x
def Tr_ob (st s n : Nat) (m : mx_Mm) : mx_Mm := Tr_o3 st n (Tr_oat st s n (Tr_o1 st n m)) (Tr_o2 n (Tr_oat st s n (Tr_o1 st n m)) (Tr_o1 st n m))
def Tr_ok1 (st s k : Nat) (m : mx_Mm) : mx_Mm := Tr_ob st s (tn (m (28 + s) k)) m
def Tr_sources (s g : Nat) (m : mx_Mm) : mx_Mm := mx_lp 6 (Tr_ok1 (s * 3 + g) s) (fill_m 164 6 (nI 0) m)
def Tr_st1 (r s g : Nat) (m : mx_Mm) : mx_Mm := Tr_sources s g (Tr_cuts s g r m)
def Tr_settle (r : Nat) (m : mx_Mm) : mx_Mm := mx_lp 6 (fun s => mx_lp 3 (Tr_st1 r s)) (mx_lp 3 (fun g => Tr_shared g r) m)
/-- what the trees' methods ask: the meeting point, orders, ways and joins are routers (or none) -/
def Tr_ok (r : Nat) (m : mx_Mm) : Prop := m 79 0 = nI r ∧ Ne_ok m ∧ (∀ a t, a < 6 → t < 6 → rng6 (m (21 + a) t)) ∧ (∀ g n, g < 3 → n < 6 → rng6 (m (81 + g) n)) ∧ (∀ s n, s < 18 → n < 6 → rng6 (m (89 + s) n)) ∧ ∀ s n, s < 18 → n < 6 → rng6 (m (108 + s) n)
theorem Tr_ok.upP {r : Nat} {m : mx_Mm} (h : Tr_ok r m) {p k : Nat} {x : Int32} (hp : p < 21 ∨ (34 ≤ p ∧ p < 79) ∨ (84 ≤ p ∧ p < 89) ∨ 126 ≤ p) : Tr_ok r (mx_up m p k x) := by
  obtain ⟨h1, h2, h3, h4, h5, h6⟩ := h
  refine ⟨by rw [up_neP (by omega)]; exact h1, h2.upP (by omega), fun a t ha ht => ?_, fun a t ha ht => ?_, fun a t ha ht => ?_, fun a t ha ht => ?_⟩
  · rw [up_neP (by omega)]; exact h3 a t ha ht
  · rw [up_neP (by omega)]; exact h4 a t ha ht
  · rw [up_neP (by omega)]; exact h5 a t ha ht
  · rw [up_neP (by omega)]; exact h6 a t ha ht
theorem Tr_ok.upA {r : Nat} {m : mx_Mm} (h : Tr_ok r m) {p k : Nat} {x : Int32} (hp : 81 ≤ p ∧ p < 84 ∨ 89 ≤ p ∧ p < 107 ∨ 108 ≤ p ∧ p < 126) (hx : rng6 x) : Tr_ok r (mx_up m p k x) := by
  obtain ⟨h1, h2, h3, h4, h5, h6⟩ := h
  have key : ∀ q j, rng6 (m q j) → rng6 (mx_up m p k x q j) := fun q j hq => by
    by_cases e : q = p ∧ j = k
    · rw [e.1, e.2, up_same]; exact hx
    · rw [up_ne e]; exact hq
  exact ⟨by rw [up_neP (by omega)]; exact h1, h2.upP (by omega), fun a t ha ht => key _ _ (h3 a t ha ht), fun a t ha ht => key _ _ (h4 a t ha ht), fun a t ha ht => key _ _ (h5 a t ha ht), fun a t ha ht => key _ _ (h6 a t ha ht)⟩
theorem Tr_ok.n {r : Nat} {m : mx_Mm} (h : Tr_ok r m) {t k : Nat} (ht : t < 6) (hk : k < 6) : ∃ n, n < 6 ∧ m (28 + t) k = nI n ∧ tn (m (28 + t) k) = n := by
  obtain ⟨n, hn, e⟩ := h.2.1 t k ht hk
  exact ⟨n, hn, e, by rw [e]; exact tn_nI (by omega)⟩
theorem Tr_ann_ok {r k n : Nat} {x y : Int32} {m : mx_Mm} (h : Tr_ok r m) : Tr_ok r (Tr_ann k n x y m) := by
  have hc : ∀ {k : Nat} {m : mx_Mm}, Tr_ok r m → Tr_ok r (Tr_cnt k m) := fun h => h.upP (by omega)
  have h1 : Tr_ok r (Tr_a1 k n x m) := by
    unfold Tr_a1
    split
    · exact h
    · split
      · exact hc h
      · exact h
  unfold Tr_ann Tr_a2
  split
  · exact h
  · split
    · exact h1
    · exact hc h1
theorem Tr_at_rng {g r n : Nat} {m : mx_Mm} (h : Tr_ok r m) (hn : n < 6) (hr : r < 6) : rng6 (Tr_at g r n m) := by
  unfold Tr_at
  split
  · exact h.2.2.1 n r hn hr
  · exact Or.inl rfl
theorem Tr_s2_ok {g r n : Nat} {x : Int32} {m : mx_Mm} (hg : g < 3) (h : Tr_ok r m) : Tr_ok r (Tr_s2 g n x m) := by
  unfold Tr_s2
  split
  · exact h
  · exact h.upP (by omega)
theorem Tr_sh1_ok {g r k : Nat} {m : mx_Mm} (hg : g < 3) (hr : r < 6) (hk : k < 6) (h : Tr_ok r m) : Tr_ok r (Tr_sh1 g r k m) := by
  obtain ⟨n, hn, e, et⟩ := h.n hr hk
  show Tr_ok r (Tr_s1 g r (tn (m (28 + r) k)) m)
  rw [et]
  exact (Tr_ann_ok (Tr_s2_ok hg h)).upA (by omega) (Tr_at_rng h hn hr)
theorem Tr_fill_ok {r p n : Nat} {v : Int32} {m : mx_Mm} (hp : (84 ≤ p ∧ p < 89) ∨ 126 ≤ p) (h : Tr_ok r m) : Tr_ok r (fill_m p n v m) := lp_keep (Tr_ok r) n h (fun _ _ _ h => h.upP (by omega))
theorem Tr_shared_ok {g r : Nat} {m : mx_Mm} (hg : g < 3) (hr : r < 6) (h : Tr_ok r m) : Tr_ok r (Tr_shared g r m) := lp_keep (Tr_ok r) 6 (Tr_fill_ok (by omega) h) (fun _ _ hk h => Tr_sh1_ok hg hr hk h)
theorem Tr_c1_ok {r g st n : Nat} {c : Int32} {m : mx_Mm} (h : Tr_ok r m) : Tr_ok r (Tr_c1 g st n c m) := h.upP (by omega)
theorem Tr_c2_ok {r g st n : Nat} {m : mx_Mm} (h : Tr_ok r m) : Tr_ok r (Tr_c2 g st n m) := by
  unfold Tr_c2
  split
  · exact h.upP (by omega)
  · exact h
theorem Tr_cat_rng {g st s r n : Nat} {m : mx_Mm} (hg : g < 3) (hn : n < 6) (h : Tr_ok r m) : rng6 (Tr_cat g st s r n m) := by
  unfold Tr_cat
  split
  · exact h.2.2.2.1 g n hg hn
  · exact Or.inl rfl
theorem Tr_ck_ok {g st s r k : Nat} {a : Int32 × mx_Mm} (hg : g < 3) (hst : st < 18) (hr : r < 6) (hk : k < 6) (h : Tr_ok r a.2) : Tr_ok r (Tr_ck g st s r k a).2 := by
  obtain ⟨n, hn, e, et⟩ := h.n hr hk
  show Tr_ok r (Tr_cb g st s r (tn (a.2 (28 + r) k)) a).2
  rw [et]
  have h2 : Tr_ok r (Tr_c12 g st n a) := Tr_c2_ok (Tr_c1_ok h)
  exact (Tr_ann_ok h2).upA (by omega) (Tr_cat_rng hg hn h2)
theorem Tr_cuts_ok {s g r : Nat} {m : mx_Mm} (hs : s < 6) (hg : g < 3) (hr : r < 6) (h : Tr_ok r m) : Tr_ok r (Tr_cuts s g r m) := lp_keep (fun a : Int32 × mx_Mm => Tr_ok r a.2) 6 (m := (nI 0, m)) h (fun _ _ hk h => Tr_ck_ok hg (by omega) hr hk h)
theorem Tr_o1_ok {r st n : Nat} {m : mx_Mm} (h : Tr_ok r m) : Tr_ok r (Tr_o1 st n m) := h.upP (by omega)
theorem Tr_oat_rng {st s r n : Nat} {m : mx_Mm} (hs : s < 6) (hn : n < 6) (h : Tr_ok r m) : rng6 (Tr_oat st s n m) := by
  unfold Tr_oat
  split
  · exact h.2.2.1 n s hn hs
  · exact Or.inl rfl
theorem Tr_o2_ok {r n : Nat} {x : Int32} {m : mx_Mm} (h : Tr_ok r m) : Tr_ok r (Tr_o2 n x m) := by
  unfold Tr_o2
  split
  · exact h
  · exact h.upP (by omega)
theorem Tr_ok1_ok {st s r k : Nat} {m : mx_Mm} (hst : st < 18) (hs : s < 6) (hk : k < 6) (h : Tr_ok r m) : Tr_ok r (Tr_ok1 st s k m) := by
  obtain ⟨n, hn, e, et⟩ := h.n hs hk
  show Tr_ok r (Tr_ob st s (tn (m (28 + s) k)) m)
  rw [et]
  exact (Tr_ann_ok (Tr_o2_ok (Tr_o1_ok h))).upA (by omega) (Tr_oat_rng hs hn (Tr_o1_ok h))
theorem Tr_sources_ok {s g r : Nat} {m : mx_Mm} (hs : s < 6) (hg : g < 3) (h : Tr_ok r m) : Tr_ok r (Tr_sources s g m) := lp_keep (Tr_ok r) 6 (Tr_fill_ok (by omega) h) (fun _ _ hk h => Tr_ok1_ok (by omega) hs hk h)
theorem Tr_st1_ok {r s g : Nat} {m : mx_Mm} (hs : s < 6) (hg : g < 3) (hr : r < 6) (h : Tr_ok r m) : Tr_ok r (Tr_st1 r s g m) := Tr_sources_ok hs hg (Tr_cuts_ok hs hg hr h)
theorem Tr_shs_ok {r : Nat} {m : mx_Mm} (hr : r < 6) (h : Tr_ok r m) : Tr_ok r (mx_lp 3 (fun g => Tr_shared g r) m) := lp_keep (Tr_ok r) 3 h (fun _ _ hg h => Tr_shared_ok hg hr h)
theorem Tr_settle_ok {r : Nat} {m : mx_Mm} (hr : r < 6) (h : Tr_ok r m) : Tr_ok r (Tr_settle r m) := lp_keep (Tr_ok r) 6 (Tr_shs_ok hr h) (fun _ _ hs h => lp_keep (Tr_ok r) 3 h (fun _ _ hg h => Tr_st1_ok hs hg hr h))
end
section
set_option maxRecDepth 100000 in
set_option maxHeartbeats 400000 in
theorem c_Tr_sharedJoinOf {Γ : mx_X} {lau : Launch} {nx : Nat} {u : Nat → Nat → Bool} {mi : mx_Mm} {a n : Nat} (hnx : 165 ≤ nx) (hu : ∀ p k, 2 ≤ p → u p k = true) (ha : a < 3) (hn : n < 6) : mx_C Γ lau M_Tr_sharedJoinOf [.ref 79, .int (nI a), .int (nI n)] (nx, u, mi) (fun ρ τ => ρ = some (.int (mi (81 + a) n)) ∧ τ = (nx, u, mi)) := by
  refine mx_C.intro (by decide) rfl (Nat.le_of_ble_eq_true rfl) (fun κ _ hC => ?_)
  show mx_G Γ κ _ _ 0 [(0, .ref 79), (1, .int (nI a)), (2, .int (nI n))] [] (nx, u, mi) 0 0
  refine x_aload_n (q := 1) hC d_Tr_sharedJoinOf_0 rfl rfl rfl ?_
  refine x_getr (q := 4) (p := 79) (j := 5) (r := 80) hC f_Tr_11 rfl rfl rfl (by omega) (hu _ _ (by decide)) d_Tr_sharedJoinOf_1 rfl ?_
  refine x_iload_n (q := 5) hC d_Tr_sharedJoinOf_4 rfl rfl rfl ?_
  refine x_aald (q := 6) (p := 80) (r := 81 + a) hC a (mr_80 _ (by omega)) rfl (by omega) rfl (by omega) (by decide) d_Tr_sharedJoinOf_5 rfl ?_
  refine x_iload_n (q := 7) hC d_Tr_sharedJoinOf_6 rfl rfl rfl ?_
  refine x_iald (q := 8) (p := 81 + a) hC n (sh_81 _ (by omega)) (by omega) rfl (by omega) (by decide) d_Tr_sharedJoinOf_7 rfl ?_
  exact x_iret hC rfl rfl ⟨rfl, rfl⟩ (by decide) (by decide) d_Tr_sharedJoinOf_8
set_option maxRecDepth 100000 in
set_option maxHeartbeats 400000 in
theorem c_Tr_cutOf {Γ : mx_X} {lau : Launch} {nx : Nat} {u : Nat → Nat → Bool} {mi : mx_Mm} {a n : Nat} (hnx : 165 ≤ nx) (hu : ∀ p k, 2 ≤ p → u p k = true) (ha : a < 18) (hn : n < 6) : mx_C Γ lau M_Tr_cutOf [.ref 79, .int (nI a), .int (nI n)] (nx, u, mi) (fun ρ τ => ρ = some (.int (mi (89 + a) n)) ∧ τ = (nx, u, mi)) := by
  refine mx_C.intro (by decide) rfl (Nat.le_of_ble_eq_true rfl) (fun κ _ hC => ?_)
  show mx_G Γ κ _ _ 0 [(0, .ref 79), (1, .int (nI a)), (2, .int (nI n))] [] (nx, u, mi) 0 0
  refine x_aload_n (q := 1) hC d_Tr_cutOf_0 rfl rfl rfl ?_
  refine x_getr (q := 4) (p := 79) (j := 7) (r := 88) hC f_Tr_19 rfl rfl rfl (by omega) (hu _ _ (by decide)) d_Tr_cutOf_1 rfl ?_
  refine x_iload_n (q := 5) hC d_Tr_cutOf_4 rfl rfl rfl ?_
  refine x_aald (q := 6) (p := 88) (r := 89 + a) hC a (mr_88 _ (by omega)) rfl (by omega) rfl (by omega) (by decide) d_Tr_cutOf_5 rfl ?_
  refine x_iload_n (q := 7) hC d_Tr_cutOf_6 rfl rfl rfl ?_
  refine x_iald (q := 8) (p := 89 + a) hC n (sh_89 _ (by omega)) (by omega) rfl (by omega) (by decide) d_Tr_cutOf_7 rfl ?_
  exact x_iret hC rfl rfl ⟨rfl, rfl⟩ (by decide) (by decide) d_Tr_cutOf_8
set_option maxRecDepth 100000 in
set_option maxHeartbeats 400000 in
theorem c_Tr_sourceJoinOf {Γ : mx_X} {lau : Launch} {nx : Nat} {u : Nat → Nat → Bool} {mi : mx_Mm} {a n : Nat} (hnx : 165 ≤ nx) (hu : ∀ p k, 2 ≤ p → u p k = true) (ha : a < 18) (hn : n < 6) : mx_C Γ lau M_Tr_sourceJoinOf [.ref 79, .int (nI a), .int (nI n)] (nx, u, mi) (fun ρ τ => ρ = some (.int (mi (108 + a) n)) ∧ τ = (nx, u, mi)) := by
  refine mx_C.intro (by decide) rfl (Nat.le_of_ble_eq_true rfl) (fun κ _ hC => ?_)
  show mx_G Γ κ _ _ 0 [(0, .ref 79), (1, .int (nI a)), (2, .int (nI n))] [] (nx, u, mi) 0 0
  refine x_aload_n (q := 1) hC d_Tr_sourceJoinOf_0 rfl rfl rfl ?_
  refine x_getr (q := 4) (p := 79) (j := 8) (r := 107) hC f_Tr_22 rfl rfl rfl (by omega) (hu _ _ (by decide)) d_Tr_sourceJoinOf_1 rfl ?_
  refine x_iload_n (q := 5) hC d_Tr_sourceJoinOf_4 rfl rfl rfl ?_
  refine x_aald (q := 6) (p := 107) (r := 108 + a) hC a (mr_107 _ (by omega)) rfl (by omega) rfl (by omega) (by decide) d_Tr_sourceJoinOf_5 rfl ?_
  refine x_iload_n (q := 7) hC d_Tr_sourceJoinOf_6 rfl rfl rfl ?_
  refine x_iald (q := 8) (p := 108 + a) hC n (sh_108 _ (by omega)) (by omega) rfl (by omega) (by decide) d_Tr_sourceJoinOf_7 rfl ?_
  exact x_iret hC rfl rfl ⟨rfl, rfl⟩ (by decide) (by decide) d_Tr_sourceJoinOf_8
set_option maxRecDepth 100000 in
set_option maxHeartbeats 400000 in
theorem c_Tr_innerList {Γ : mx_X} {lau : Launch} {nx : Nat} {u : Nat → Nat → Bool} {mi : mx_Mm} {a n : Nat} (hnx : 165 ≤ nx) (hu : ∀ p k, 2 ≤ p → u p k = true) (ha : a < 18) (hn : n < 6) : mx_C Γ lau M_Tr_innerList [.ref 79, .int (nI a), .int (nI n)] (nx, u, mi) (fun ρ τ => ρ = some (.int (mi (127 + a) n)) ∧ τ = (nx, u, mi)) := by
  refine mx_C.intro (by decide) rfl (Nat.le_of_ble_eq_true rfl) (fun κ _ hC => ?_)
  show mx_G Γ κ _ _ 0 [(0, .ref 79), (1, .int (nI a)), (2, .int (nI n))] [] (nx, u, mi) 0 0
  refine x_aload_n (q := 1) hC d_Tr_innerList_0 rfl rfl rfl ?_
  refine x_getr (q := 4) (p := 79) (j := 9) (r := 126) hC f_Tr_25 rfl rfl rfl (by omega) (hu _ _ (by decide)) d_Tr_innerList_1 rfl ?_
  refine x_iload_n (q := 5) hC d_Tr_innerList_4 rfl rfl rfl ?_
  refine x_aald (q := 6) (p := 126) (r := 127 + a) hC a (mr_126 _ (by omega)) rfl (by omega) rfl (by omega) (by decide) d_Tr_innerList_5 rfl ?_
  refine x_iload_n (q := 7) hC d_Tr_innerList_6 rfl rfl rfl ?_
  refine x_iald (q := 8) (p := 127 + a) hC n (sh_127 _ (by omega)) (by omega) rfl (by omega) (by decide) d_Tr_innerList_7 rfl ?_
  exact x_iret hC rfl rfl ⟨rfl, rfl⟩ (by decide) (by decide) d_Tr_innerList_8
set_option maxRecDepth 100000 in
set_option maxHeartbeats 400000 in
theorem c_Tr_outerList {Γ : mx_X} {lau : Launch} {nx : Nat} {u : Nat → Nat → Bool} {mi : mx_Mm} {a n : Nat} (hnx : 165 ≤ nx) (hu : ∀ p k, 2 ≤ p → u p k = true) (ha : a < 18) (hn : n < 6) : mx_C Γ lau M_Tr_outerList [.ref 79, .int (nI a), .int (nI n)] (nx, u, mi) (fun ρ τ => ρ = some (.int (mi (146 + a) n)) ∧ τ = (nx, u, mi)) := by
  refine mx_C.intro (by decide) rfl (Nat.le_of_ble_eq_true rfl) (fun κ _ hC => ?_)
  show mx_G Γ κ _ _ 0 [(0, .ref 79), (1, .int (nI a)), (2, .int (nI n))] [] (nx, u, mi) 0 0
  refine x_aload_n (q := 1) hC d_Tr_outerList_0 rfl rfl rfl ?_
  refine x_getr (q := 4) (p := 79) (j := 10) (r := 145) hC f_Tr_28 rfl rfl rfl (by omega) (hu _ _ (by decide)) d_Tr_outerList_1 rfl ?_
  refine x_iload_n (q := 5) hC d_Tr_outerList_4 rfl rfl rfl ?_
  refine x_aald (q := 6) (p := 145) (r := 146 + a) hC a (mr_145 _ (by omega)) rfl (by omega) rfl (by omega) (by decide) d_Tr_outerList_5 rfl ?_
  refine x_iload_n (q := 7) hC d_Tr_outerList_6 rfl rfl rfl ?_
  refine x_iald (q := 8) (p := 146 + a) hC n (sh_146 _ (by omega)) (by omega) rfl (by omega) (by decide) d_Tr_outerList_7 rfl ?_
  exact x_iret hC rfl rfl ⟨rfl, rfl⟩ (by decide) (by decide) d_Tr_outerList_8
set_option maxRecDepth 100000 in
set_option maxHeartbeats 400000 in
theorem c_Tr_meetingPoint {Γ : mx_X} {lau : Launch} {nx : Nat} {u : Nat → Nat → Bool} {mi : mx_Mm}  (hnx : 165 ≤ nx) (hu : ∀ p k, 2 ≤ p → u p k = true)  : mx_C Γ lau M_Tr_meetingPoint [.ref 79] (nx, u, mi) (fun ρ τ => ρ = some (.int (mi 79 0)) ∧ τ = (nx, u, mi)) := by
  refine mx_C.intro (by decide) rfl (Nat.le_of_ble_eq_true rfl) (fun κ _ hC => ?_)
  show mx_G Γ κ _ _ 0 [(0, .ref 79)] [] (nx, u, mi) 0 0
  refine x_aload_n (q := 1) hC d_Tr_meetingPoint_0 rfl rfl rfl ?_
  refine x_geti (q := 4) (p := 79) (j := 0) hC f_Tr_35 rfl rfl (by omega) d_Tr_meetingPoint_1 rfl ?_
  exact x_iret hC rfl rfl ⟨rfl, rfl⟩ (by decide) (by decide) d_Tr_meetingPoint_4
set_option maxRecDepth 100000 in
set_option maxHeartbeats 400000 in
theorem c_Tr_announce {Γ : mx_X} {lau : Launch} {nx : Nat} {u : Nat → Nat → Bool} {mi : mx_Mm} {k n : Nat} {x y : Int32} (hnx : 165 ≤ nx) (hu : ∀ p k, 2 ≤ p → u p k = true) (hk : k < 9) (hn : n < 6) (hx : rng6 x) : mx_C Γ lau M_Tr_announce [.ref 79, .int (nI k), .int (nI n), .int x, .int y] (nx, u, mi) (fun ρ τ => ρ = none ∧ τ = (nx, u, Tr_ann k n x y mi)) := by
  refine mx_C.intro (by decide) rfl (Nat.le_of_ble_eq_true rfl) (fun κ _ hC => ?_)
  show mx_G Γ κ _ _ 0 [(0, .ref 79), (1, .int (nI k)), (2, .int (nI n)), (3, .int x), (4, .int y)] [] (nx, u, mi) 0 0
  refine x_iload_n (q := 1) hC d_Tr_announce_0 rfl rfl rfl ?_
  refine x_iload (q := 3) hC d_Tr_announce_1 rfl rfl ?_
  refine x_icmp_ne (tgt := 7) (q := 6) hC d_Tr_announce_3 (by decide) rfl (fun h3 => ?_) (fun h3 => ?_)
  · skip
    refine x_iload_n (q := 8) hC d_Tr_announce_7 rfl rfl rfl ?_
    refine x_iconst (q := 9) (v := (-1)) hC d_Tr_announce_8 (by decide) rfl ?_
    have J1 : mx_G Γ κ M_Tr_announce (MQ (mx_b κ) (mx_Qc Γ (fun ρ τ => ρ = none ∧ τ = (nx, u, Tr_ann k n x y mi))) (mx_a κ) (mx_s κ) M_Tr_announce.2.2.2.2.cells M_Tr_announce.2.2.2.2.slots (mx_fr Γ)) 34 [(0, .ref 79), (1, .int (nI k)), (2, .int (nI n)), (3, .int x), (4, .int y)] [] (nx, u, Tr_a1 k n x mi) 0 0 := by
      refine x_iload (q := 36) hC d_Tr_announce_34 rfl rfl ?_
      refine x_iconst (q := 37) (v := (-1)) hC d_Tr_announce_36 (by decide) rfl ?_
      refine x_icmp_eq (tgt := 48) (q := 40) hC d_Tr_announce_37 (by decide) rfl (fun h37 => ?_) (fun h37 => ?_)
      · skip
        exact x_vret hC rfl ⟨rfl, by first | exact pr (it_t h3 rfl) | exact pr (it_f h3 (it_t h37 rfl)) | exact pr (it_f h3 (it_f h37 rfl))⟩ (by decide) (by decide) d_Tr_announce_48
      · skip
        refine x_aload_n (q := 41) hC d_Tr_announce_40 rfl rfl rfl ?_
        refine x_getr (q := 44) (p := 79) (j := 4) (r := 3) hC f_Tr_51 rfl rfl rfl (by omega) (hu _ _ (by decide)) d_Tr_announce_41 rfl ?_
        refine x_iload_n (q := 45) hC d_Tr_announce_44 rfl rfl rfl ?_
        refine x_callV (q := 48) (p := 3) (A := [.int (nI k)]) (S := []) (c1 := 0) (s1 := 0) hC (c_Ta_count (k := k) (by omega) hu (by omega)) s_Tr_announce_109 rfl (by omega) rfl rfl rfl (Nat.le_of_ble_eq_true rfl) rfl rfl (by decide) (by decide) d_Tr_announce_45 rfl (fun r τ hP => ?_)
        obtain ⟨rfl, rfl⟩ := hP
        show mx_G Γ κ _ _ 48 [(0, .ref 79), (1, .int (nI k)), (2, .int (nI n)), (3, .int x), (4, .int y)] [] (nx, u, mx_up (Tr_a1 k n x mi) 4 k ((Tr_a1 k n x mi) 4 k + nI 1)) 0 0
        exact x_vret hC rfl ⟨rfl, by first | exact pr (it_t h3 rfl) | exact pr (it_f h3 (it_t h37 rfl)) | exact pr (it_f h3 (it_f h37 rfl))⟩ (by decide) (by decide) d_Tr_announce_48
    refine x_icmp_eq (tgt := 34) (q := 12) hC d_Tr_announce_9 (by decide) rfl (fun h9 => ?_) (fun h9 => ?_)
    · skip
      exact x_sub (L1 := [(0, .ref 79), (1, .int (nI k)), (2, .int (nI n)), (3, .int x), (4, .int y)]) [0, 1, 2, 3, 4] rfl (mx_eqG rfl rfl (pr (by first | exact it_t h9 rfl | exact it_f h9 (it_t h21 rfl) | exact it_f h9 (it_f h21 rfl))) J1)
    · skip
      obtain ⟨eb, hb⟩ := hx.tn h9
      refine mx_eqG (L1 := [(0, .ref 79), (1, .int (nI k)), (2, .int (nI n)), (3, .int (nI (tn x))), (4, .int y)]) (by rw [← eb]) rfl rfl ?_
      refine x_aload_n (q := 13) hC d_Tr_announce_12 rfl rfl rfl ?_
      refine x_getr (q := 16) (p := 79) (j := 1) (r := 5) hC f_Tr_39 rfl rfl rfl (by omega) (hu _ _ (by decide)) d_Tr_announce_13 rfl ?_
      refine x_iload_n (q := 17) hC d_Tr_announce_16 rfl rfl rfl ?_
      refine x_iload_n (q := 18) hC d_Tr_announce_17 rfl rfl rfl ?_
      refine x_callV (q := 21) (p := 5) (A := [.int (nI n), .int (nI (tn x))]) (S := []) (c1 := 0) (s1 := 0) hC (c_Ne_areLinked (a := n) (b := tn x) (by omega) hu (by omega) (by omega)) s_Tr_announce_106 rfl (by omega) rfl rfl rfl (Nat.le_of_ble_eq_true rfl) rfl rfl (by decide) (by decide) d_Tr_announce_18 rfl (fun r τ hP => ?_)
      obtain ⟨rfl, rfl⟩ := hP
      show mx_G Γ κ _ _ 21 [(0, .ref 79), (1, .int (nI k)), (2, .int (nI n)), (3, .int (nI (tn x))), (4, .int y)] [.int (bz (¬ mi (7 + n) (tn x) = 0))] (nx, u, mi) 0 0
      refine x_if_eq (tgt := 34) (q := 24) hC d_Tr_announce_21 (by decide) rfl (fun h21 => ?_) (fun h21 => ?_)
      · have h21 := bz_0 h21
        exact x_sub (L1 := [(0, .ref 79), (1, .int (nI k)), (2, .int (nI n)), (3, .int (nI (tn x))), (4, .int y)]) [0, 1, 2, 3, 4] rfl (mx_eqG (by rw [← eb]) rfl (pr (by first | exact it_t h9 rfl | exact it_f h9 (it_t h21 rfl) | exact it_f h9 (it_f h21 rfl))) J1)
      · have h21 := bz_1 h21
        refine x_aload_n (q := 25) hC d_Tr_announce_24 rfl rfl rfl ?_
        refine x_getr (q := 28) (p := 79) (j := 4) (r := 3) hC f_Tr_51 rfl rfl rfl (by omega) (hu _ _ (by decide)) d_Tr_announce_25 rfl ?_
        refine x_iload_n (q := 29) hC d_Tr_announce_28 rfl rfl rfl ?_
        refine x_iconst (q := 30) (v := nI 1) hC d_Tr_announce_29 (by decide) rfl ?_
        refine x_iadd (q := 31) (z := nI (k + 1)) hC d_Tr_announce_30 (nI_add _ _) rfl ?_
        refine x_callV (q := 34) (p := 3) (A := [.int (nI (k + 1))]) (S := []) (c1 := 0) (s1 := 0) hC (c_Ta_count (k := k + 1) (by omega) hu (by omega)) s_Tr_announce_109 rfl (by omega) rfl rfl rfl (Nat.le_of_ble_eq_true rfl) rfl rfl (by decide) (by decide) d_Tr_announce_31 rfl (fun r τ hP => ?_)
        obtain ⟨rfl, rfl⟩ := hP
        show mx_G Γ κ _ _ 34 [(0, .ref 79), (1, .int (nI k)), (2, .int (nI n)), (3, .int (nI (tn x))), (4, .int y)] [] (nx, u, mx_up mi 4 (k + 1) (mi 4 (k + 1) + nI 1)) 0 0
        exact x_sub (L1 := [(0, .ref 79), (1, .int (nI k)), (2, .int (nI n)), (3, .int (nI (tn x))), (4, .int y)]) [0, 1, 2, 3, 4] rfl (mx_eqG (by rw [← eb]) rfl (pr (by first | exact it_t h9 rfl | exact it_f h9 (it_t h21 rfl) | exact it_f h9 (it_f h21 rfl))) J1)
  · skip
    exact x_vret hC rfl ⟨rfl, by first | exact pr (it_t h3 rfl) | exact pr (it_f h3 (it_t h37 rfl)) | exact pr (it_f h3 (it_f h37 rfl))⟩ (by decide) (by decide) d_Tr_announce_6
set_option maxRecDepth 100000 in
set_option maxHeartbeats 400000 in
theorem c_Tr_settleShared {Γ : mx_X} {lau : Launch} {nx : Nat} {u : Nat → Nat → Bool} {mi : mx_Mm} {g r : Nat} (hnx : 165 ≤ nx) (hu : ∀ p k, 2 ≤ p → u p k = true) (hg : g < 3) (hr : r < 6) (hok : Tr_ok r mi) : mx_C Γ lau M_Tr_settleShared [.ref 79, .int (nI g)] (nx, u, mi) (fun ρ τ => ρ = none ∧ τ = (nx, u, Tr_shared g r mi)) := by
  refine mx_C.intro (by decide) rfl (Nat.le_of_ble_eq_true rfl) (fun κ _ hC => ?_)
  show mx_G Γ κ _ _ 0 [(0, .ref 79), (1, .int (nI g))] [] (nx, u, mi) 0 0
  refine x_aload_n (q := 1) hC d_Tr_settleShared_0 rfl rfl rfl ?_
  refine x_getr (q := 4) (p := 79) (j := 6) (r := 84) hC f_Tr_16 rfl rfl rfl (by omega) (hu _ _ (by decide)) d_Tr_settleShared_1 rfl ?_
  refine x_iload_n (q := 5) hC d_Tr_settleShared_4 rfl rfl rfl ?_
  refine x_aald (q := 6) (p := 84) (r := 85 + g) hC g (mr_84 _ (by omega)) rfl (by omega) rfl (by omega) (by decide) d_Tr_settleShared_5 rfl ?_
  refine x_astore_n (q := 7) (L1 := [(2, .ref (85 + g)), (0, .ref 79), (1, .int (nI g))]) hC d_Tr_settleShared_6 rfl (by decide) rfl rfl ?_
  refine x_aload_n (q := 8) hC d_Tr_settleShared_7 rfl rfl rfl ?_
  refine x_iconst (q := 9) (v := nI 0) hC d_Tr_settleShared_8 (by decide) rfl ?_
  refine x_callS (q := 12) (A := [.ref (85 + g), .int (nI 0)]) (S := []) (c1 := 0) (s1 := 0) hC (c_JA_fill (p := 85 + g) (n := 6) (v := nI 0) (sh_85 _ (by omega)) (by omega) (by omega) (by decide)) s_Tr_settleShared_55 rfl rfl rfl (Nat.le_of_ble_eq_true rfl) rfl rfl (by decide) (by decide) d_Tr_settleShared_9 rfl (fun r τ hP => ?_)
  obtain ⟨rfl, rfl⟩ := hP
  show mx_G Γ κ _ _ 12 [(2, .ref (85 + g)), (0, .ref 79), (1, .int (nI g))] [] (nx, u, fill_m (85 + g) 6 (nI 0) mi) 0 0
  refine x_iconst (q := 13) (v := nI 0) hC d_Tr_settleShared_12 (by decide) rfl ?_
  refine x_istore_n (q := 14) (L1 := [(3, .int (nI 0)), (2, .ref (85 + g)), (0, .ref 79), (1, .int (nI g))]) hC d_Tr_settleShared_13 rfl (by decide) rfl rfl ?_
  refine x_sub (L1 := [(3, .int (nI 0)), (2, .ref (85 + g)), (0, .ref 79), (1, .int (nI g))]) [0, 1, 2, 3] rfl ?_
  refine mx_loop (N := 6) (Hd := fun k m1 => mx_G Γ κ _ _ 14 [(3, .int (nI k)), (2, .ref (85 + g)), (0, .ref 79), (1, .int (nI g))] [] (nx, u, m1) 0 0) (Tr_sh1 g r) (fun _ m => Tr_ok r m) (by subst_vars; exact Tr_fill_ok (by omega) hok) ?_ ?_ ?_
  · exact fun k m hk h => Tr_sh1_ok hg hr hk h
  · intro k m1 hl2 hI3 hN4
    refine x_iload_n (q := 15) hC d_Tr_settleShared_14 rfl rfl rfl ?_
    refine x_bipush (q := 17) (v := nI 6) hC d_Tr_settleShared_15 (by decide) rfl ?_
    refine x_icmp_ge (tgt := 137) (q := 20) hC d_Tr_settleShared_17 (by decide) rfl (fun h => absurd h (nI_ge hl2 (by decide))) (fun _ => ?_)
    refine x_aload_n (q := 21) hC d_Tr_settleShared_20 rfl rfl rfl ?_
    refine x_getr (q := 24) (p := 79) (j := 1) (r := 5) hC f_Tr_39 rfl rfl rfl (by omega) (hu _ _ (by decide)) d_Tr_settleShared_21 rfl ?_
    refine x_aload_n (q := 25) hC d_Tr_settleShared_24 rfl rfl rfl ?_
    refine x_geti (q := 28) (p := 79) (j := 0) hC f_Tr_35 rfl rfl (by omega) d_Tr_settleShared_25 rfl ?_
    refine mx_eqG (S1 := [.int (nI r), .ref 5]) rfl (by exact congrArg (fun z => Value.int z :: ([.ref 5] : List Value)) (show m1 79 0 = nI r from hI3.1)) rfl ?_
    refine x_iload_n (q := 29) hC d_Tr_settleShared_28 rfl rfl rfl ?_
    refine x_callV (q := 32) (p := 5) (A := [.int (nI r), .int (nI k)]) (S := []) (c1 := 0) (s1 := 0) hC (c_Ne_fromFarthest (a := r) (b := k) (by omega) hu (by omega) (by omega)) s_Tr_settleShared_72 rfl (by omega) rfl rfl rfl (Nat.le_of_ble_eq_true rfl) rfl rfl (by decide) (by decide) d_Tr_settleShared_29 rfl (fun r τ hP => ?_)
    obtain ⟨rfl, rfl⟩ := hP
    show mx_G Γ κ _ _ 32 [(3, .int (nI k)), (2, .ref (85 + g)), (0, .ref 79), (1, .int (nI g))] [.int (m1 (28 + r) k)] (nx, u, m1) 0 0
    refine x_istore (q := 34) (L1 := [(4, .int (m1 (28 + r) k)), (3, .int (nI k)), (2, .ref (85 + g)), (0, .ref 79), (1, .int (nI g))]) hC d_Tr_settleShared_32 (by decide) rfl rfl ?_
    obtain ⟨n, hn, en, et⟩ := Tr_ok.n hI3 (t := r) (k := k) (by omega) (by omega)
    refine mx_eqG (L1 := [(4, .int (nI n)), (3, .int (nI k)), (2, .ref (85 + g)), (0, .ref 79), (1, .int (nI g))]) (by rw [en]) rfl rfl ?_
    refine x_aload_n (q := 35) hC d_Tr_settleShared_34 rfl rfl rfl ?_
    refine x_getr (q := 38) (p := 79) (j := 2) (r := 34) hC f_Tr_43 rfl rfl rfl (by omega) (hu _ _ (by decide)) d_Tr_settleShared_35 rfl ?_
    have J5 : mx_G Γ κ M_Tr_settleShared (MQ (mx_b κ) (mx_Qc Γ (fun ρ τ => ρ = none ∧ τ = (nx, u, Tr_shared g r mi))) (mx_a κ) (mx_s κ) M_Tr_settleShared.2.2.2.2.cells M_Tr_settleShared.2.2.2.2.slots (mx_fr Γ)) 85 [(6, .int (Tr_at g r n m1)), (4, .int (nI n)), (3, .int (nI k)), (2, .ref (85 + g)), (0, .ref 79), (1, .int (nI g))] [] (nx, u, m1) 0 0 := by
      have J6 : mx_G Γ κ M_Tr_settleShared (MQ (mx_b κ) (mx_Qc Γ (fun ρ τ => ρ = none ∧ τ = (nx, u, Tr_shared g r mi))) (mx_a κ) (mx_s κ) M_Tr_settleShared.2.2.2.2.cells M_Tr_settleShared.2.2.2.2.slots (mx_fr Γ)) 102 [(6, .int (Tr_at g r n m1)), (4, .int (nI n)), (3, .int (nI k)), (2, .ref (85 + g)), (0, .ref 79), (1, .int (nI g))] [] (nx, u, Tr_s2 g n (Tr_at g r n m1) m1) 0 0 := by
        refine mx_nr (fun mj ej => ?_)
        have hIj : Tr_ok r mj := ej ▸ Tr_s2_ok hg hI3
        refine x_aload_n (q := 103) hC d_Tr_settleShared_102 rfl rfl rfl ?_
        refine x_iconst (q := 104) (v := nI 0) hC d_Tr_settleShared_103 (by decide) rfl ?_
        refine x_iload (q := 106) hC d_Tr_settleShared_104 rfl rfl ?_
        refine x_aload_n (q := 107) hC d_Tr_settleShared_106 rfl rfl rfl ?_
        refine x_getr (q := 110) (p := 79) (j := 5) (r := 80) hC f_Tr_11 rfl rfl rfl (by omega) (hu _ _ (by decide)) d_Tr_settleShared_107 rfl ?_
        refine x_iload_n (q := 111) hC d_Tr_settleShared_110 rfl rfl rfl ?_
        refine x_aald (q := 112) (p := 80) (r := 81 + g) hC g (mr_80 _ (by omega)) rfl (by omega) rfl (by omega) (by decide) d_Tr_settleShared_111 rfl ?_
        refine x_iload (q := 114) hC d_Tr_settleShared_112 rfl rfl ?_
        refine x_iald (q := 115) (p := 81 + g) hC n (sh_81 _ (by omega)) (by omega) rfl (by omega) (by decide) d_Tr_settleShared_114 rfl ?_
        refine x_iload (q := 117) hC d_Tr_settleShared_115 rfl rfl ?_
        refine x_callV (q := 120) (p := 79) (A := [.int (nI 0), .int (nI n), .int (mj (81 + g) n), .int (Tr_at g r n m1)]) (S := []) (c1 := 0) (s1 := 0) hC (c_Tr_announce (k := 0) (n := n) (x := mj (81 + g) n) (y := Tr_at g r n m1) (by omega) hu (by omega) (by omega) (hIj.2.2.2.1 g n hg hn)) s_Tr_settleShared_87 rfl (by omega) rfl rfl rfl (Nat.le_of_ble_eq_true rfl) rfl rfl (by decide) (by decide) d_Tr_settleShared_117 rfl (fun r τ hP => ?_)
        obtain ⟨rfl, rfl⟩ := hP
        show mx_G Γ κ _ _ 120 [(6, .int (Tr_at g r n m1)), (4, .int (nI n)), (3, .int (nI k)), (2, .ref (85 + g)), (0, .ref 79), (1, .int (nI g))] [] (nx, u, Tr_ann 0 n (mj (81 + g) n) (Tr_at g r n m1) mj) 0 0
        refine x_aload_n (q := 121) hC d_Tr_settleShared_120 rfl rfl rfl ?_
        refine x_getr (q := 124) (p := 79) (j := 5) (r := 80) hC f_Tr_11 rfl rfl rfl (by omega) (hu _ _ (by decide)) d_Tr_settleShared_121 rfl ?_
        refine x_iload_n (q := 125) hC d_Tr_settleShared_124 rfl rfl rfl ?_
        refine x_aald (q := 126) (p := 80) (r := 81 + g) hC g (mr_80 _ (by omega)) rfl (by omega) rfl (by omega) (by decide) d_Tr_settleShared_125 rfl ?_
        refine x_iload (q := 128) hC d_Tr_settleShared_126 rfl rfl ?_
        refine x_iload (q := 130) hC d_Tr_settleShared_128 rfl rfl ?_
        refine x_iast (q := 131) (p := 81 + g) hC n (sh_81 _ (by omega)) (by omega) (by omega) rfl (by omega) (by decide) d_Tr_settleShared_130 rfl ?_
        refine mx_nr (fun m7 e8 => ?_)
        refine x_iinc (q := 134) (y := nI (k + 1)) (L1 := [(3, .int (nI (k + 1))), (6, .int (Tr_at g r n m1)), (4, .int (nI n)), (2, .ref (85 + g)), (0, .ref 79), (1, .int (nI g))]) hC d_Tr_settleShared_131 rfl (mx_inc k) (by decide) rfl rfl ?_
        refine x_goto (tgt := 14) hC d_Tr_settleShared_134 (by decide) ?_
        subst e8
        subst ej
        exact x_close hN4 [0, 3, 4, 5] rfl (by show _ = Tr_s1 g r (tn _) _; rw [et] <;> rfl)
      refine x_iload (q := 87) hC d_Tr_settleShared_85 rfl rfl ?_
      refine x_iconst (q := 88) (v := (-1)) hC d_Tr_settleShared_87 (by decide) rfl ?_
      refine x_icmp_eq (tgt := 102) (q := 91) hC d_Tr_settleShared_88 (by decide) rfl (fun h88 => ?_) (fun h88 => ?_)
      · skip
        exact x_sub (L1 := [(6, .int (Tr_at g r n m1)), (4, .int (nI n)), (3, .int (nI k)), (2, .ref (85 + g)), (0, .ref 79), (1, .int (nI g))]) [0, 1, 2, 3, 4, 5] rfl (mx_eqG rfl rfl (pr (by first | exact it_t h88 rfl | exact it_f h88 rfl)) J6)
      · skip
        obtain ⟨ea, ha⟩ := (Tr_at_rng (g := g) hI3 hn hr).tn h88
        refine x_aload_n (q := 92) hC d_Tr_settleShared_91 rfl rfl rfl ?_
        refine x_iload (q := 94) hC d_Tr_settleShared_92 rfl rfl ?_
        refine x_dup2 (q := 95) hC d_Tr_settleShared_94 rfl rfl rfl ?_
        refine x_iald (q := 96) (p := 85 + g) hC (tn (Tr_at g r n m1)) (sh_85 _ (by omega)) (by omega) ea ha (by decide) d_Tr_settleShared_95 rfl ?_
        refine x_iconst (q := 97) (v := nI 1) hC d_Tr_settleShared_96 (by decide) rfl ?_
        refine x_iload (q := 99) hC d_Tr_settleShared_97 rfl rfl ?_
        refine x_ishl (q := 100) (z := (nI 1) <<< ((nI n) &&& 31)) hC d_Tr_settleShared_99 rfl rfl ?_
        refine x_ior (q := 101) (z := (m1 (85 + g) (tn (Tr_at g r n m1))) ||| ((nI 1) <<< ((nI n) &&& 31))) hC d_Tr_settleShared_100 rfl rfl ?_
        refine x_iast (q := 102) (p := 85 + g) hC (tn (Tr_at g r n m1)) (sh_85 _ (by omega)) (by omega) (by omega) ea ha (by decide) d_Tr_settleShared_101 rfl ?_
        refine mx_nr (fun m9 e10 => ?_)
        exact x_sub (L1 := [(6, .int (Tr_at g r n m1)), (4, .int (nI n)), (3, .int (nI k)), (2, .ref (85 + g)), (0, .ref 79), (1, .int (nI g))]) [0, 1, 2, 3, 4, 5] rfl (mx_eqG rfl rfl (pr (by subst e10; first | exact it_t h88 rfl | exact it_f h88 rfl)) J6)
    refine x_iload (q := 40) hC d_Tr_settleShared_38 rfl rfl ?_
    refine x_iload_n (q := 41) hC d_Tr_settleShared_40 rfl rfl rfl ?_
    refine x_callV (q := 44) (p := 34) (A := [.int (nI n), .int (nI g)]) (S := []) (c1 := 0) (s1 := 0) hC (c_La_isMarked (l := n) (g := g) (by omega) hu (by omega) (by omega) ) s_Tr_settleShared_78 rfl (by omega) rfl rfl rfl (Nat.le_of_ble_eq_true rfl) rfl rfl (by decide) (by decide) d_Tr_settleShared_41 rfl (fun r τ hP => ?_)
    obtain ⟨rfl, rfl⟩ := hP
    show mx_G Γ κ _ _ 44 [(4, .int (nI n)), (3, .int (nI k)), (2, .ref (85 + g)), (0, .ref 79), (1, .int (nI g))] [.int (bz (m1 2 0 < m1 (43 + n) g))] (nx, u, m1) 0 0
    refine x_if_ne (tgt := 54) (q := 47) hC d_Tr_settleShared_44 (by decide) rfl (fun h44 => ?_) (fun h44 => ?_)
    · have h44 := bz_1 h44
      refine x_iconst (q := 55) (v := nI 1) hC d_Tr_settleShared_54 (by decide) rfl ?_
      refine x_goto (tgt := 59) hC d_Tr_settleShared_55 (by decide) ?_
      refine x_istore (q := 61) (L1 := [(5, .int (nI 1)), (4, .int (nI n)), (3, .int (nI k)), (2, .ref (85 + g)), (0, .ref 79), (1, .int (nI g))]) hC d_Tr_settleShared_59 (by decide) rfl rfl ?_
      refine x_iload (q := 63) hC d_Tr_settleShared_61 rfl rfl ?_
      refine x_if_eq (tgt := 82) (q := 66) hC d_Tr_settleShared_63 (by decide) rfl (fun h => absurd h (by decide)) (fun _ => ?_)
      refine x_aload_n (q := 67) hC d_Tr_settleShared_66 rfl rfl rfl ?_
      refine x_getr (q := 70) (p := 79) (j := 1) (r := 5) hC f_Tr_39 rfl rfl rfl (by omega) (hu _ _ (by decide)) d_Tr_settleShared_67 rfl ?_
      refine x_iload (q := 72) hC d_Tr_settleShared_70 rfl rfl ?_
      refine x_aload_n (q := 73) hC d_Tr_settleShared_72 rfl rfl rfl ?_
      refine x_geti (q := 76) (p := 79) (j := 0) hC f_Tr_35 rfl rfl (by omega) d_Tr_settleShared_73 rfl ?_
      refine mx_eqG (S1 := [.int (nI r), .int (nI n), .ref 5]) rfl (by exact congrArg (fun z => Value.int z :: ([.int (nI n), .ref 5] : List Value)) (show m1 79 0 = nI r from hI3.1)) rfl ?_
      refine x_callV (q := 79) (p := 5) (A := [.int (nI n), .int (nI r)]) (S := []) (c1 := 0) (s1 := 0) hC (c_Ne_nextTowards (a := n) (b := r) (by omega) hu (by omega) (by omega)) s_Tr_settleShared_84 rfl (by omega) rfl rfl rfl (Nat.le_of_ble_eq_true rfl) rfl rfl (by decide) (by decide) d_Tr_settleShared_76 rfl (fun r τ hP => ?_)
      obtain ⟨rfl, rfl⟩ := hP
      show mx_G Γ κ _ _ 79 [(5, .int (nI 1)), (4, .int (nI n)), (3, .int (nI k)), (2, .ref (85 + g)), (0, .ref 79), (1, .int (nI g))] [.int (m1 (21 + n) r)] (nx, u, m1) 0 0
      refine x_goto (tgt := 83) hC d_Tr_settleShared_79 (by decide) ?_
      refine x_istore (q := 85) (L1 := [(6, .int (m1 (21 + n) r)), (5, .int (nI 1)), (4, .int (nI n)), (3, .int (nI k)), (2, .ref (85 + g)), (0, .ref 79), (1, .int (nI g))]) hC d_Tr_settleShared_83 (by decide) rfl rfl ?_
      exact x_sub (L1 := [(6, .int (m1 (21 + n) r)), (4, .int (nI n)), (3, .int (nI k)), (2, .ref (85 + g)), (0, .ref 79), (1, .int (nI g))]) [0, 2, 3, 4, 5, 6] rfl (mx_eqG (by first | rw [Tr_at, if_pos (Or.inl h44)] | rw [Tr_at, if_pos (Or.inr h51)] | rw [Tr_at, if_neg (fun q => q.elim h44 (fun z => z h51))]) rfl rfl J5)
    · have h44 := bz_0 h44
      refine x_aload_n (q := 48) hC d_Tr_settleShared_47 rfl rfl rfl ?_
      refine x_iload (q := 50) hC d_Tr_settleShared_48 rfl rfl ?_
      refine x_iald (q := 51) (p := 85 + g) hC n (sh_85 _ (by omega)) (by omega) rfl (by omega) (by decide) d_Tr_settleShared_50 rfl ?_
      refine x_if_eq (tgt := 58) (q := 54) hC d_Tr_settleShared_51 (by decide) rfl (fun h51 => ?_) (fun h51 => ?_)
      · skip
        refine x_iconst (q := 59) (v := nI 0) hC d_Tr_settleShared_58 (by decide) rfl ?_
        refine x_istore (q := 61) (L1 := [(5, .int (nI 0)), (4, .int (nI n)), (3, .int (nI k)), (2, .ref (85 + g)), (0, .ref 79), (1, .int (nI g))]) hC d_Tr_settleShared_59 (by decide) rfl rfl ?_
        refine x_iload (q := 63) hC d_Tr_settleShared_61 rfl rfl ?_
        refine x_if_eq (tgt := 82) (q := 66) hC d_Tr_settleShared_63 (by decide) rfl (fun _ => ?_) (fun h => absurd (by decide) h)
        refine x_iconst (q := 83) (v := (-1)) hC d_Tr_settleShared_82 (by decide) rfl ?_
        refine x_istore (q := 85) (L1 := [(6, .int ((-1))), (5, .int (nI 0)), (4, .int (nI n)), (3, .int (nI k)), (2, .ref (85 + g)), (0, .ref 79), (1, .int (nI g))]) hC d_Tr_settleShared_83 (by decide) rfl rfl ?_
        exact x_sub (L1 := [(6, .int ((-1))), (4, .int (nI n)), (3, .int (nI k)), (2, .ref (85 + g)), (0, .ref 79), (1, .int (nI g))]) [0, 2, 3, 4, 5, 6] rfl (mx_eqG (by first | rw [Tr_at, if_pos (Or.inl h44)] | rw [Tr_at, if_pos (Or.inr h51)] | rw [Tr_at, if_neg (fun q => q.elim h44 (fun z => z h51))]) rfl rfl J5)
      · skip
        refine x_iconst (q := 55) (v := nI 1) hC d_Tr_settleShared_54 (by decide) rfl ?_
        refine x_goto (tgt := 59) hC d_Tr_settleShared_55 (by decide) ?_
        refine x_istore (q := 61) (L1 := [(5, .int (nI 1)), (4, .int (nI n)), (3, .int (nI k)), (2, .ref (85 + g)), (0, .ref 79), (1, .int (nI g))]) hC d_Tr_settleShared_59 (by decide) rfl rfl ?_
        refine x_iload (q := 63) hC d_Tr_settleShared_61 rfl rfl ?_
        refine x_if_eq (tgt := 82) (q := 66) hC d_Tr_settleShared_63 (by decide) rfl (fun h => absurd h (by decide)) (fun _ => ?_)
        refine x_aload_n (q := 67) hC d_Tr_settleShared_66 rfl rfl rfl ?_
        refine x_getr (q := 70) (p := 79) (j := 1) (r := 5) hC f_Tr_39 rfl rfl rfl (by omega) (hu _ _ (by decide)) d_Tr_settleShared_67 rfl ?_
        refine x_iload (q := 72) hC d_Tr_settleShared_70 rfl rfl ?_
        refine x_aload_n (q := 73) hC d_Tr_settleShared_72 rfl rfl rfl ?_
        refine x_geti (q := 76) (p := 79) (j := 0) hC f_Tr_35 rfl rfl (by omega) d_Tr_settleShared_73 rfl ?_
        refine mx_eqG (S1 := [.int (nI r), .int (nI n), .ref 5]) rfl (by exact congrArg (fun z => Value.int z :: ([.int (nI n), .ref 5] : List Value)) (show m1 79 0 = nI r from hI3.1)) rfl ?_
        refine x_callV (q := 79) (p := 5) (A := [.int (nI n), .int (nI r)]) (S := []) (c1 := 0) (s1 := 0) hC (c_Ne_nextTowards (a := n) (b := r) (by omega) hu (by omega) (by omega)) s_Tr_settleShared_84 rfl (by omega) rfl rfl rfl (Nat.le_of_ble_eq_true rfl) rfl rfl (by decide) (by decide) d_Tr_settleShared_76 rfl (fun r τ hP => ?_)
        obtain ⟨rfl, rfl⟩ := hP
        show mx_G Γ κ _ _ 79 [(5, .int (nI 1)), (4, .int (nI n)), (3, .int (nI k)), (2, .ref (85 + g)), (0, .ref 79), (1, .int (nI g))] [.int (m1 (21 + n) r)] (nx, u, m1) 0 0
        refine x_goto (tgt := 83) hC d_Tr_settleShared_79 (by decide) ?_
        refine x_istore (q := 85) (L1 := [(6, .int (m1 (21 + n) r)), (5, .int (nI 1)), (4, .int (nI n)), (3, .int (nI k)), (2, .ref (85 + g)), (0, .ref 79), (1, .int (nI g))]) hC d_Tr_settleShared_83 (by decide) rfl rfl ?_
        exact x_sub (L1 := [(6, .int (m1 (21 + n) r)), (4, .int (nI n)), (3, .int (nI k)), (2, .ref (85 + g)), (0, .ref 79), (1, .int (nI g))]) [0, 2, 3, 4, 5, 6] rfl (mx_eqG (by first | rw [Tr_at, if_pos (Or.inl h44)] | rw [Tr_at, if_pos (Or.inr h51)] | rw [Tr_at, if_neg (fun q => q.elim h44 (fun z => z h51))]) rfl rfl J5)
  · intro hx11
    refine mx_nr (fun m12 e13 => ?_)
    try rw [e13] at hx11
    refine x_iload_n (q := 15) hC d_Tr_settleShared_14 rfl rfl rfl ?_
    refine x_bipush (q := 17) (v := nI 6) hC d_Tr_settleShared_15 (by decide) rfl ?_
    refine x_icmp_ge (tgt := 137) (q := 20) hC d_Tr_settleShared_17 (by decide) rfl (fun _ => ?_) (fun h => absurd (nI_le (Nat.le_refl _) (by decide)) h)
    subst e13
    exact x_vret hC rfl ⟨rfl, rfl⟩ (by decide) (by decide) d_Tr_settleShared_137
set_option maxRecDepth 100000 in
set_option maxHeartbeats 400000 in
theorem c_Tr_takesElsewhere {Γ : mx_X} {lau : Launch} {nx : Nat} {u : Nat → Nat → Bool} {mi : mx_Mm} {st s n r : Nat} (hnx : 165 ≤ nx) (hu : ∀ p k, 2 ≤ p → u p k = true) (hst : st < 18) (hs : s < 6) (hn : n < 6) (hr : r < 6) (hm : mi 79 0 = nI r) : mx_C Γ lau M_Tr_takesElsewhere [.ref 79, .int (nI st), .int (nI s), .int (nI n)] (nx, u, mi) (fun ρ τ => ρ = some (.int (bz (Tr_els st s r n mi))) ∧ τ = (nx, u, mi)) := by
  refine mx_C.intro (by decide) rfl (Nat.le_of_ble_eq_true rfl) (fun κ _ hC => ?_)
  show mx_G Γ κ _ _ 0 [(0, .ref 79), (1, .int (nI st)), (2, .int (nI s)), (3, .int (nI n))] [] (nx, u, mi) 0 0
  refine x_aload_n (q := 1) hC d_Tr_takesElsewhere_0 rfl rfl rfl ?_
  refine x_getr (q := 4) (p := 79) (j := 3) (r := 57) hC f_Tr_47 rfl rfl rfl (by omega) (hu _ _ (by decide)) d_Tr_takesElsewhere_1 rfl ?_
  refine x_iload_n (q := 5) hC d_Tr_takesElsewhere_4 rfl rfl rfl ?_
  refine x_iload_n (q := 6) hC d_Tr_takesElsewhere_5 rfl rfl rfl ?_
  refine x_callV (q := 9) (p := 57) (A := [.int (nI st), .int (nI n)]) (S := []) (c1 := 0) (s1 := 0) hC (c_Sm_isSwitched (s := st) (n := n) (by omega) hu (by omega) (by omega) ) s_Tr_takesElsewhere_98 rfl (by omega) rfl rfl rfl (Nat.le_of_ble_eq_true rfl) rfl rfl (by decide) (by decide) d_Tr_takesElsewhere_6 rfl (fun r τ hP => ?_)
  obtain ⟨rfl, rfl⟩ := hP
  show mx_G Γ κ _ _ 9 [(0, .ref 79), (1, .int (nI st)), (2, .int (nI s)), (3, .int (nI n))] [.int (bz (hold (mi 77 st) n))] (nx, u, mi) 0 0
  refine x_if_eq (tgt := 40) (q := 12) hC d_Tr_takesElsewhere_9 (by decide) rfl (fun h9 => ?_) (fun h9 => ?_)
  · have h9 := bz_0 h9
    refine x_iconst (q := 41) (v := nI 0) hC d_Tr_takesElsewhere_40 (by decide) rfl ?_
    exact x_iret hC rfl rfl ⟨bz_f (by first | exact fun q => h9 q.1 | exact fun q => q.2 h33), rfl⟩ (by decide) (by decide) d_Tr_takesElsewhere_41
  · have h9 := bz_1 h9
    refine x_aload_n (q := 13) hC d_Tr_takesElsewhere_12 rfl rfl rfl ?_
    refine x_getr (q := 16) (p := 79) (j := 1) (r := 5) hC f_Tr_39 rfl rfl rfl (by omega) (hu _ _ (by decide)) d_Tr_takesElsewhere_13 rfl ?_
    refine x_iload_n (q := 17) hC d_Tr_takesElsewhere_16 rfl rfl rfl ?_
    refine x_iload_n (q := 18) hC d_Tr_takesElsewhere_17 rfl rfl rfl ?_
    refine x_callV (q := 21) (p := 5) (A := [.int (nI n), .int (nI s)]) (S := []) (c1 := 0) (s1 := 0) hC (c_Ne_nextTowards (a := n) (b := s) (by omega) hu (by omega) (by omega)) s_Tr_takesElsewhere_84 rfl (by omega) rfl rfl rfl (Nat.le_of_ble_eq_true rfl) rfl rfl (by decide) (by decide) d_Tr_takesElsewhere_18 rfl (fun r τ hP => ?_)
    obtain ⟨rfl, rfl⟩ := hP
    show mx_G Γ κ _ _ 21 [(0, .ref 79), (1, .int (nI st)), (2, .int (nI s)), (3, .int (nI n))] [.int (mi (21 + n) s)] (nx, u, mi) 0 0
    refine x_aload_n (q := 22) hC d_Tr_takesElsewhere_21 rfl rfl rfl ?_
    refine x_getr (q := 25) (p := 79) (j := 1) (r := 5) hC f_Tr_39 rfl rfl rfl (by omega) (hu _ _ (by decide)) d_Tr_takesElsewhere_22 rfl ?_
    refine x_iload_n (q := 26) hC d_Tr_takesElsewhere_25 rfl rfl rfl ?_
    refine x_aload_n (q := 27) hC d_Tr_takesElsewhere_26 rfl rfl rfl ?_
    refine x_geti (q := 30) (p := 79) (j := 0) hC f_Tr_35 rfl rfl (by omega) d_Tr_takesElsewhere_27 rfl ?_
    refine mx_eqG (S1 := [.int (nI r), .int (nI n), .ref 5, .int (mi (21 + n) s)]) rfl (by exact congrArg (fun z => Value.int z :: ([.int (nI n), .ref 5, .int (mi (21 + n) s)] : List Value)) (show mi 79 0 = nI r from hm)) rfl ?_
    refine x_callV (q := 33) (p := 5) (A := [.int (nI n), .int (nI r)]) (S := [.int (mi (21 + n) s)]) (c1 := 0) (s1 := 0) hC (c_Ne_nextTowards (a := n) (b := r) (by omega) hu (by omega) (by omega)) s_Tr_takesElsewhere_84 rfl (by omega) rfl rfl rfl (Nat.le_of_ble_eq_true rfl) rfl rfl (by decide) (by decide) d_Tr_takesElsewhere_30 rfl (fun r τ hP => ?_)
    obtain ⟨rfl, rfl⟩ := hP
    show mx_G Γ κ _ _ 33 [(0, .ref 79), (1, .int (nI st)), (2, .int (nI s)), (3, .int (nI n))] [.int (mi (21 + n) r), .int (mi (21 + n) s)] (nx, u, mi) 0 0
    refine x_icmp_eq (tgt := 40) (q := 36) hC d_Tr_takesElsewhere_33 (by decide) rfl (fun h33 => ?_) (fun h33 => ?_)
    · skip
      refine x_iconst (q := 41) (v := nI 0) hC d_Tr_takesElsewhere_40 (by decide) rfl ?_
      exact x_iret hC rfl rfl ⟨bz_f (by first | exact fun q => h9 q.1 | exact fun q => q.2 h33), rfl⟩ (by decide) (by decide) d_Tr_takesElsewhere_41
    · skip
      refine x_iconst (q := 37) (v := nI 1) hC d_Tr_takesElsewhere_36 (by decide) rfl ?_
      refine x_goto (tgt := 41) hC d_Tr_takesElsewhere_37 (by decide) ?_
      exact x_iret hC rfl rfl ⟨bz_t (⟨h9, h33⟩), rfl⟩ (by decide) (by decide) d_Tr_takesElsewhere_41
set_option maxRecDepth 100000 in
set_option maxHeartbeats 400000 in
theorem c_Tr_settleCuts {Γ : mx_X} {lau : Launch} {nx : Nat} {u : Nat → Nat → Bool} {mi : mx_Mm} {s g r : Nat} (hnx : 165 ≤ nx) (hu : ∀ p k, 2 ≤ p → u p k = true) (hs : s < 6) (hg : g < 3) (hr : r < 6) (hok : Tr_ok r mi) : mx_C Γ lau M_Tr_settleCuts [.ref 79, .int (nI s), .int (nI g)] (nx, u, mi) (fun ρ τ => ρ = none ∧ τ = (nx, u, Tr_cuts s g r mi)) := by
  refine mx_C.intro (by decide) rfl (Nat.le_of_ble_eq_true rfl) (fun κ _ hC => ?_)
  show mx_G Γ κ _ _ 0 [(0, .ref 79), (1, .int (nI s)), (2, .int (nI g))] [] (nx, u, mi) 0 0
  refine x_iload_n (q := 1) hC d_Tr_settleCuts_0 rfl rfl rfl ?_
  refine x_iload_n (q := 2) hC d_Tr_settleCuts_1 rfl rfl rfl ?_
  refine x_callSN (q := 5) (A := [.int (nI s), .int (nI g)]) (S := []) (c1 := 0) (s1 := 0) hC (c_MT_streamOf (s := s) (g := g)) s_Tr_settleCuts_91 rfl rfl rfl (Nat.le_of_ble_eq_true rfl) rfl rfl (by decide) (by decide) d_Tr_settleCuts_2 rfl (fun r τ hP => ?_)
  obtain ⟨rfl, rfl⟩ := hP
  show mx_G Γ κ _ _ 5 [(0, .ref 79), (1, .int (nI s)), (2, .int (nI g))] [.int (nI (s * 3 + g))] (nx, u, mi) 0 0
  refine x_istore_n (q := 6) (L1 := [(3, .int (nI (s * 3 + g))), (0, .ref 79), (1, .int (nI s)), (2, .int (nI g))]) hC d_Tr_settleCuts_5 rfl (by decide) rfl rfl ?_
  refine x_aload_n (q := 7) hC d_Tr_settleCuts_6 rfl rfl rfl ?_
  refine x_getr (q := 10) (p := 79) (j := 9) (r := 126) hC f_Tr_25 rfl rfl rfl (by omega) (hu _ _ (by decide)) d_Tr_settleCuts_7 rfl ?_
  refine x_iload_n (q := 11) hC d_Tr_settleCuts_10 rfl rfl rfl ?_
  refine x_aald (q := 12) (p := 126) (r := 127 + (s * 3 + g)) hC (s * 3 + g) (mr_126 _ (by omega)) rfl (by omega) rfl (by omega) (by decide) d_Tr_settleCuts_11 rfl ?_
  refine x_astore (q := 14) (L1 := [(4, .ref (127 + (s * 3 + g))), (3, .int (nI (s * 3 + g))), (0, .ref 79), (1, .int (nI s)), (2, .int (nI g))]) hC d_Tr_settleCuts_12 (by decide) rfl rfl ?_
  refine x_iconst (q := 15) (v := nI 0) hC d_Tr_settleCuts_14 (by decide) rfl ?_
  refine x_istore (q := 17) (L1 := [(5, .int (nI 0)), (4, .ref (127 + (s * 3 + g))), (3, .int (nI (s * 3 + g))), (0, .ref 79), (1, .int (nI s)), (2, .int (nI g))]) hC d_Tr_settleCuts_15 (by decide) rfl rfl ?_
  refine x_iconst (q := 18) (v := nI 0) hC d_Tr_settleCuts_17 (by decide) rfl ?_
  refine x_istore (q := 20) (L1 := [(6, .int (nI 0)), (5, .int (nI 0)), (4, .ref (127 + (s * 3 + g))), (3, .int (nI (s * 3 + g))), (0, .ref 79), (1, .int (nI s)), (2, .int (nI g))]) hC d_Tr_settleCuts_18 (by decide) rfl rfl ?_
  refine x_sub (L1 := [(6, .int (nI 0)), (5, .int (nI 0)), (4, .ref (127 + (s * 3 + g))), (3, .int (nI (s * 3 + g))), (0, .ref 79), (1, .int (nI s)), (2, .int (nI g))]) [0, 1, 2, 3, 4, 5, 6] rfl ?_
  refine mx_loopG (N := 6) (Hd := fun k a => mx_G Γ κ _ _ 20 [(6, .int (nI k)), (5, .int (a.1)), (4, .ref (127 + (s * 3 + g))), (3, .int (nI (s * 3 + g))), (0, .ref 79), (1, .int (nI s)), (2, .int (nI g))] [] (nx, u, a.2) 0 0) (Tr_ck g (s * 3 + g) s r) (fun _ a => Tr_ok r a.2) (m := (nI 0, mi)) hok ?_ ?_ ?_
  · exact fun k a hk h => Tr_ck_ok hg (by omega) hr hk h
  · intro k a hl1 hI2 hN3
    refine x_iload (q := 22) hC d_Tr_settleCuts_20 rfl rfl ?_
    refine x_bipush (q := 24) (v := nI 6) hC d_Tr_settleCuts_22 (by decide) rfl ?_
    refine x_icmp_ge (tgt := 180) (q := 27) hC d_Tr_settleCuts_24 (by decide) rfl (fun h => absurd h (nI_ge hl1 (by decide))) (fun _ => ?_)
    refine x_aload_n (q := 28) hC d_Tr_settleCuts_27 rfl rfl rfl ?_
    refine x_getr (q := 31) (p := 79) (j := 1) (r := 5) hC f_Tr_39 rfl rfl rfl (by omega) (hu _ _ (by decide)) d_Tr_settleCuts_28 rfl ?_
    refine x_aload_n (q := 32) hC d_Tr_settleCuts_31 rfl rfl rfl ?_
    refine x_geti (q := 35) (p := 79) (j := 0) hC f_Tr_35 rfl rfl (by omega) d_Tr_settleCuts_32 rfl ?_
    refine mx_eqG (S1 := [.int (nI r), .ref 5]) rfl (by exact congrArg (fun z => Value.int z :: ([.ref 5] : List Value)) (show a.2 79 0 = nI r from hI2.1)) rfl ?_
    refine x_iload (q := 37) hC d_Tr_settleCuts_35 rfl rfl ?_
    refine x_callV (q := 40) (p := 5) (A := [.int (nI r), .int (nI k)]) (S := []) (c1 := 0) (s1 := 0) hC (c_Ne_fromFarthest (a := r) (b := k) (by omega) hu (by omega) (by omega)) s_Tr_settleCuts_72 rfl (by omega) rfl rfl rfl (Nat.le_of_ble_eq_true rfl) rfl rfl (by decide) (by decide) d_Tr_settleCuts_37 rfl (fun r τ hP => ?_)
    obtain ⟨rfl, rfl⟩ := hP
    show mx_G Γ κ _ _ 40 [(6, .int (nI k)), (5, .int (a.1)), (4, .ref (127 + (s * 3 + g))), (3, .int (nI (s * 3 + g))), (0, .ref 79), (1, .int (nI s)), (2, .int (nI g))] [.int (a.2 (28 + r) k)] (nx, u, a.2) 0 0
    refine x_istore (q := 42) (L1 := [(7, .int (a.2 (28 + r) k)), (6, .int (nI k)), (5, .int (a.1)), (4, .ref (127 + (s * 3 + g))), (3, .int (nI (s * 3 + g))), (0, .ref 79), (1, .int (nI s)), (2, .int (nI g))]) hC d_Tr_settleCuts_40 (by decide) rfl rfl ?_
    obtain ⟨n, hn, en, et⟩ := Tr_ok.n hI2 (t := r) (k := k) (by omega) (by omega)
    refine mx_eqG (L1 := [(7, .int (nI n)), (6, .int (nI k)), (5, .int (a.1)), (4, .ref (127 + (s * 3 + g))), (3, .int (nI (s * 3 + g))), (0, .ref 79), (1, .int (nI s)), (2, .int (nI g))]) (by rw [en]) rfl rfl ?_
    refine x_aload (q := 44) hC d_Tr_settleCuts_42 rfl rfl ?_
    refine x_iload (q := 46) hC d_Tr_settleCuts_44 rfl rfl ?_
    refine x_aload_n (q := 47) hC d_Tr_settleCuts_46 rfl rfl rfl ?_
    refine x_getr (q := 50) (p := 79) (j := 6) (r := 84) hC f_Tr_16 rfl rfl rfl (by omega) (hu _ _ (by decide)) d_Tr_settleCuts_47 rfl ?_
    refine x_iload_n (q := 51) hC d_Tr_settleCuts_50 rfl rfl rfl ?_
    refine x_aald (q := 52) (p := 84) (r := 85 + g) hC g (mr_84 _ (by omega)) rfl (by omega) rfl (by omega) (by decide) d_Tr_settleCuts_51 rfl ?_
    refine x_iload (q := 54) hC d_Tr_settleCuts_52 rfl rfl ?_
    refine x_iald (q := 55) (p := 85 + g) hC n (sh_85 _ (by omega)) (by omega) rfl (by omega) (by decide) d_Tr_settleCuts_54 rfl ?_
    refine x_iload (q := 57) hC d_Tr_settleCuts_55 rfl rfl ?_
    refine x_iconst (q := 58) (v := (-1)) hC d_Tr_settleCuts_57 (by decide) rfl ?_
    refine x_ixor (q := 59) (z := a.1 ^^^ (-1)) hC d_Tr_settleCuts_58 rfl rfl ?_
    refine x_iand (q := 60) (z := (a.2 (85 + g) n) &&& (a.1 ^^^ (-1))) hC d_Tr_settleCuts_59 rfl rfl ?_
    refine x_iast (q := 61) (p := 127 + (s * 3 + g)) hC n (sh_127 _ (by omega)) (by omega) (by omega) rfl (by omega) (by decide) d_Tr_settleCuts_60 rfl ?_
    refine mx_nr (fun m4 e5 => ?_)
    refine x_aload_n (q := 62) hC d_Tr_settleCuts_61 rfl rfl rfl ?_
    have J6 : mx_G Γ κ M_Tr_settleCuts (MQ (mx_b κ) (mx_Qc Γ (fun ρ τ => ρ = none ∧ τ = (nx, u, Tr_cuts s g r mi))) (mx_a κ) (mx_s κ) M_Tr_settleCuts.2.2.2.2.cells M_Tr_settleCuts.2.2.2.2.slots (mx_fr Γ)) 84 [(7, .int (nI n)), (6, .int (nI k)), (5, .int (a.1)), (4, .ref (127 + (s * 3 + g))), (3, .int (nI (s * 3 + g))), (0, .ref 79), (1, .int (nI s)), (2, .int (nI g))] [] (nx, u, Tr_c12 g (s * 3 + g) n a) 0 0 := by
      refine mx_nr (fun mj ej => ?_)
      have hIj : Tr_ok r mj := ej ▸ Tr_c2_ok (Tr_c1_ok hI2)
      have J7 : mx_G Γ κ M_Tr_settleCuts (MQ (mx_b κ) (mx_Qc Γ (fun ρ τ => ρ = none ∧ τ = (nx, u, Tr_cuts s g r mi))) (mx_a κ) (mx_s κ) M_Tr_settleCuts.2.2.2.2.cells M_Tr_settleCuts.2.2.2.2.slots (mx_fr Γ)) 130 [(9, .int (Tr_cat g (s * 3 + g) s r n mj)), (7, .int (nI n)), (6, .int (nI k)), (5, .int (a.1)), (4, .ref (127 + (s * 3 + g))), (3, .int (nI (s * 3 + g))), (0, .ref 79), (1, .int (nI s)), (2, .int (nI g))] [] (nx, u, mj) 0 0 := by
        have J8 : mx_G Γ κ M_Tr_settleCuts (MQ (mx_b κ) (mx_Qc Γ (fun ρ τ => ρ = none ∧ τ = (nx, u, Tr_cuts s g r mi))) (mx_a κ) (mx_s κ) M_Tr_settleCuts.2.2.2.2.cells M_Tr_settleCuts.2.2.2.2.slots (mx_fr Γ)) 145 [(5, .int (Tr_cc n (Tr_cat g (s * 3 + g) s r n mj) a.1)), (9, .int (Tr_cat g (s * 3 + g) s r n mj)), (7, .int (nI n)), (6, .int (nI k)), (4, .ref (127 + (s * 3 + g))), (3, .int (nI (s * 3 + g))), (0, .ref 79), (1, .int (nI s)), (2, .int (nI g))] [] (nx, u, mj) 0 0 := by
          refine x_aload_n (q := 146) hC d_Tr_settleCuts_145 rfl rfl rfl ?_
          refine x_iconst (q := 147) (v := nI 4) hC d_Tr_settleCuts_146 (by decide) rfl ?_
          refine x_iload (q := 149) hC d_Tr_settleCuts_147 rfl rfl ?_
          refine x_aload_n (q := 150) hC d_Tr_settleCuts_149 rfl rfl rfl ?_
          refine x_getr (q := 153) (p := 79) (j := 7) (r := 88) hC f_Tr_19 rfl rfl rfl (by omega) (hu _ _ (by decide)) d_Tr_settleCuts_150 rfl ?_
          refine x_iload_n (q := 154) hC d_Tr_settleCuts_153 rfl rfl rfl ?_
          refine x_aald (q := 155) (p := 88) (r := 89 + (s * 3 + g)) hC (s * 3 + g) (mr_88 _ (by omega)) rfl (by omega) rfl (by omega) (by decide) d_Tr_settleCuts_154 rfl ?_
          refine x_iload (q := 157) hC d_Tr_settleCuts_155 rfl rfl ?_
          refine x_iald (q := 158) (p := 89 + (s * 3 + g)) hC n (sh_89 _ (by omega)) (by omega) rfl (by omega) (by decide) d_Tr_settleCuts_157 rfl ?_
          refine x_iload (q := 160) hC d_Tr_settleCuts_158 rfl rfl ?_
          refine x_callV (q := 163) (p := 79) (A := [.int (nI 4), .int (nI n), .int (mj (89 + (s * 3 + g)) n), .int (Tr_cat g (s * 3 + g) s r n mj)]) (S := []) (c1 := 0) (s1 := 0) hC (c_Tr_announce (k := 4) (n := n) (x := mj (89 + (s * 3 + g)) n) (y := Tr_cat g (s * 3 + g) s r n mj) (by omega) hu (by omega) (by omega) (hIj.2.2.2.2.1 _ n (by omega) hn)) s_Tr_settleCuts_87 rfl (by omega) rfl rfl rfl (Nat.le_of_ble_eq_true rfl) rfl rfl (by decide) (by decide) d_Tr_settleCuts_160 rfl (fun r τ hP => ?_)
          obtain ⟨rfl, rfl⟩ := hP
          show mx_G Γ κ _ _ 163 [(5, .int (Tr_cc n (Tr_cat g (s * 3 + g) s r n mj) a.1)), (9, .int (Tr_cat g (s * 3 + g) s r n mj)), (7, .int (nI n)), (6, .int (nI k)), (4, .ref (127 + (s * 3 + g))), (3, .int (nI (s * 3 + g))), (0, .ref 79), (1, .int (nI s)), (2, .int (nI g))] [] (nx, u, Tr_ann 4 n (mj (89 + (s * 3 + g)) n) (Tr_cat g (s * 3 + g) s r n mj) mj) 0 0
          refine mx_nr (fun m9 e10 => ?_)
          refine x_aload_n (q := 164) hC d_Tr_settleCuts_163 rfl rfl rfl ?_
          refine x_getr (q := 167) (p := 79) (j := 7) (r := 88) hC f_Tr_19 rfl rfl rfl (by omega) (hu _ _ (by decide)) d_Tr_settleCuts_164 rfl ?_
          refine x_iload_n (q := 168) hC d_Tr_settleCuts_167 rfl rfl rfl ?_
          refine x_aald (q := 169) (p := 88) (r := 89 + (s * 3 + g)) hC (s * 3 + g) (mr_88 _ (by omega)) rfl (by omega) rfl (by omega) (by decide) d_Tr_settleCuts_168 rfl ?_
          refine x_iload (q := 171) hC d_Tr_settleCuts_169 rfl rfl ?_
          refine x_iload (q := 173) hC d_Tr_settleCuts_171 rfl rfl ?_
          refine x_iast (q := 174) (p := 89 + (s * 3 + g)) hC n (sh_89 _ (by omega)) (by omega) (by omega) rfl (by omega) (by decide) d_Tr_settleCuts_173 rfl ?_
          refine mx_nr (fun m11 e12 => ?_)
          refine x_iinc (q := 177) (y := nI (k + 1)) (L1 := [(6, .int (nI (k + 1))), (5, .int (Tr_cc n (Tr_cat g (s * 3 + g) s r n mj) a.1)), (9, .int (Tr_cat g (s * 3 + g) s r n mj)), (7, .int (nI n)), (4, .ref (127 + (s * 3 + g))), (3, .int (nI (s * 3 + g))), (0, .ref 79), (1, .int (nI s)), (2, .int (nI g))]) hC d_Tr_settleCuts_174 rfl (mx_inc k) (by decide) rfl rfl ?_
          refine x_goto (tgt := 20) hC d_Tr_settleCuts_177 (by decide) ?_
          refine x_sub (L1 := [(6, .int (nI (k + 1))), (5, .int (Tr_cc n (Tr_cat g (s * 3 + g) s r n mj) a.1)), (4, .ref (127 + (s * 3 + g))), (3, .int (nI (s * 3 + g))), (0, .ref 79), (1, .int (nI s)), (2, .int (nI g))]) [0, 1, 4, 5, 6, 7, 8] rfl (mx_eqG ?_ rfl ?_ hN3)
          · subst e12; subst e10; subst ej; subst e5; show _ = [_, _, _, _, _, _, _]; rw [show Tr_ck g (s * 3 + g) s r k a = Tr_cb g (s * 3 + g) s r n a by unfold Tr_ck; rw [et]] <;> rfl
          · subst e12; subst e10; subst ej; subst e5; refine pr ?_; rw [show Tr_ck g (s * 3 + g) s r k a = Tr_cb g (s * 3 + g) s r n a by unfold Tr_ck; rw [et]] <;> rfl
        refine x_iload (q := 132) hC d_Tr_settleCuts_130 rfl rfl ?_
        refine x_iconst (q := 133) (v := (-1)) hC d_Tr_settleCuts_132 (by decide) rfl ?_
        refine x_icmp_eq (tgt := 145) (q := 136) hC d_Tr_settleCuts_133 (by decide) rfl (fun h133 => ?_) (fun h133 => ?_)
        · skip
          exact x_sub (L1 := [(5, .int (a.1)), (9, .int (Tr_cat g (s * 3 + g) s r n mj)), (7, .int (nI n)), (6, .int (nI k)), (4, .ref (127 + (s * 3 + g))), (3, .int (nI (s * 3 + g))), (0, .ref 79), (1, .int (nI s)), (2, .int (nI g))]) [3, 0, 1, 2, 4, 5, 6, 7, 8] rfl (mx_eqG (by subst ej; subst e5; first | rw [Tr_cc, if_pos h133] | rw [Tr_cc, if_neg h133]) rfl rfl J8)
        · skip
          refine x_iload (q := 138) hC d_Tr_settleCuts_136 rfl rfl ?_
          refine x_iconst (q := 139) (v := nI 1) hC d_Tr_settleCuts_138 (by decide) rfl ?_
          refine x_iload (q := 141) hC d_Tr_settleCuts_139 rfl rfl ?_
          refine x_ishl (q := 142) (z := (nI 1) <<< ((nI n) &&& 31)) hC d_Tr_settleCuts_141 rfl rfl ?_
          refine x_ior (q := 143) (z := a.1 ||| ((nI 1) <<< ((nI n) &&& 31))) hC d_Tr_settleCuts_142 rfl rfl ?_
          refine x_istore (q := 145) (L1 := [(5, .int (a.1 ||| ((nI 1) <<< ((nI n) &&& 31)))), (9, .int (Tr_cat g (s * 3 + g) s r n mj)), (7, .int (nI n)), (6, .int (nI k)), (4, .ref (127 + (s * 3 + g))), (3, .int (nI (s * 3 + g))), (0, .ref 79), (1, .int (nI s)), (2, .int (nI g))]) hC d_Tr_settleCuts_143 (by decide) rfl rfl ?_
          exact x_sub (L1 := [(5, .int (a.1 ||| ((nI 1) <<< ((nI n) &&& 31)))), (9, .int (Tr_cat g (s * 3 + g) s r n mj)), (7, .int (nI n)), (6, .int (nI k)), (4, .ref (127 + (s * 3 + g))), (3, .int (nI (s * 3 + g))), (0, .ref 79), (1, .int (nI s)), (2, .int (nI g))]) [0, 1, 2, 3, 4, 5, 6, 7, 8] rfl (mx_eqG (by subst ej; subst e5; first | rw [Tr_cc, if_pos h133] | rw [Tr_cc, if_neg h133]) rfl rfl J8)
      refine x_aload (q := 86) hC d_Tr_settleCuts_84 rfl rfl ?_
      refine x_iload (q := 88) hC d_Tr_settleCuts_86 rfl rfl ?_
      refine x_iald (q := 89) (p := 127 + (s * 3 + g)) hC n (sh_127 _ (by omega)) (by omega) rfl (by omega) (by decide) d_Tr_settleCuts_88 rfl ?_
      refine x_if_eq (tgt := 103) (q := 92) hC d_Tr_settleCuts_89 (by decide) rfl (fun h89 => ?_) (fun h89 => ?_)
      · skip
        refine x_iconst (q := 104) (v := nI 1) hC d_Tr_settleCuts_103 (by decide) rfl ?_
        refine x_goto (tgt := 108) hC d_Tr_settleCuts_104 (by decide) ?_
        refine x_istore (q := 110) (L1 := [(8, .int (nI 1)), (7, .int (nI n)), (6, .int (nI k)), (5, .int (a.1)), (4, .ref (127 + (s * 3 + g))), (3, .int (nI (s * 3 + g))), (0, .ref 79), (1, .int (nI s)), (2, .int (nI g))]) hC d_Tr_settleCuts_108 (by decide) rfl rfl ?_
        refine x_iload (q := 112) hC d_Tr_settleCuts_110 rfl rfl ?_
        refine x_if_eq (tgt := 127) (q := 115) hC d_Tr_settleCuts_112 (by decide) rfl (fun h => absurd h (by decide)) (fun _ => ?_)
        refine x_aload_n (q := 116) hC d_Tr_settleCuts_115 rfl rfl rfl ?_
        refine x_getr (q := 119) (p := 79) (j := 5) (r := 80) hC f_Tr_11 rfl rfl rfl (by omega) (hu _ _ (by decide)) d_Tr_settleCuts_116 rfl ?_
        refine x_iload_n (q := 120) hC d_Tr_settleCuts_119 rfl rfl rfl ?_
        refine x_aald (q := 121) (p := 80) (r := 81 + g) hC g (mr_80 _ (by omega)) rfl (by omega) rfl (by omega) (by decide) d_Tr_settleCuts_120 rfl ?_
        refine x_iload (q := 123) hC d_Tr_settleCuts_121 rfl rfl ?_
        refine x_iald (q := 124) (p := 81 + g) hC n (sh_81 _ (by omega)) (by omega) rfl (by omega) (by decide) d_Tr_settleCuts_123 rfl ?_
        refine x_goto (tgt := 128) hC d_Tr_settleCuts_124 (by decide) ?_
        refine x_istore (q := 130) (L1 := [(9, .int (mj (81 + g) n)), (8, .int (nI 1)), (7, .int (nI n)), (6, .int (nI k)), (5, .int (a.1)), (4, .ref (127 + (s * 3 + g))), (3, .int (nI (s * 3 + g))), (0, .ref 79), (1, .int (nI s)), (2, .int (nI g))]) hC d_Tr_settleCuts_128 (by decide) rfl rfl ?_
        exact x_sub (L1 := [(9, .int (mj (81 + g) n)), (7, .int (nI n)), (6, .int (nI k)), (5, .int (a.1)), (4, .ref (127 + (s * 3 + g))), (3, .int (nI (s * 3 + g))), (0, .ref 79), (1, .int (nI s)), (2, .int (nI g))]) [0, 2, 3, 4, 5, 6, 7, 8, 9] rfl (mx_eqG (by subst ej; subst e5; first | rw [Tr_cat, if_pos (Or.inl h89)] | rw [Tr_cat, if_pos (Or.inr h100)] | rw [Tr_cat, if_neg (fun q => q.elim h89 h100)]) rfl rfl J7)
      · skip
        refine x_aload_n (q := 93) hC d_Tr_settleCuts_92 rfl rfl rfl ?_
        refine x_iload_n (q := 94) hC d_Tr_settleCuts_93 rfl rfl rfl ?_
        refine x_iload_n (q := 95) hC d_Tr_settleCuts_94 rfl rfl rfl ?_
        refine x_iload (q := 97) hC d_Tr_settleCuts_95 rfl rfl ?_
        refine x_callV (q := 100) (p := 79) (A := [.int (nI (s * 3 + g)), .int (nI s), .int (nI n)]) (S := []) (c1 := 0) (s1 := 0) hC (c_Tr_takesElsewhere (st := s * 3 + g) (s := s) (n := n) (r := r) (by omega) hu (by omega) (by omega) (by omega) hr hIj.1) s_Tr_settleCuts_94 rfl (by omega) rfl rfl rfl (Nat.le_of_ble_eq_true rfl) rfl rfl (by decide) (by decide) d_Tr_settleCuts_97 rfl (fun r τ hP => ?_)
        obtain ⟨rfl, rfl⟩ := hP
        show mx_G Γ κ _ _ 100 [(7, .int (nI n)), (6, .int (nI k)), (5, .int (a.1)), (4, .ref (127 + (s * 3 + g))), (3, .int (nI (s * 3 + g))), (0, .ref 79), (1, .int (nI s)), (2, .int (nI g))] [.int (bz (Tr_els (s * 3 + g) s r n mj))] (nx, u, mj) 0 0
        refine x_if_eq (tgt := 107) (q := 103) hC d_Tr_settleCuts_100 (by decide) rfl (fun h100 => ?_) (fun h100 => ?_)
        · have h100 := bz_0 h100
          refine x_iconst (q := 108) (v := nI 0) hC d_Tr_settleCuts_107 (by decide) rfl ?_
          refine x_istore (q := 110) (L1 := [(8, .int (nI 0)), (7, .int (nI n)), (6, .int (nI k)), (5, .int (a.1)), (4, .ref (127 + (s * 3 + g))), (3, .int (nI (s * 3 + g))), (0, .ref 79), (1, .int (nI s)), (2, .int (nI g))]) hC d_Tr_settleCuts_108 (by decide) rfl rfl ?_
          refine x_iload (q := 112) hC d_Tr_settleCuts_110 rfl rfl ?_
          refine x_if_eq (tgt := 127) (q := 115) hC d_Tr_settleCuts_112 (by decide) rfl (fun _ => ?_) (fun h => absurd (by decide) h)
          refine x_iconst (q := 128) (v := (-1)) hC d_Tr_settleCuts_127 (by decide) rfl ?_
          refine x_istore (q := 130) (L1 := [(9, .int ((-1))), (8, .int (nI 0)), (7, .int (nI n)), (6, .int (nI k)), (5, .int (a.1)), (4, .ref (127 + (s * 3 + g))), (3, .int (nI (s * 3 + g))), (0, .ref 79), (1, .int (nI s)), (2, .int (nI g))]) hC d_Tr_settleCuts_128 (by decide) rfl rfl ?_
          exact x_sub (L1 := [(9, .int ((-1))), (7, .int (nI n)), (6, .int (nI k)), (5, .int (a.1)), (4, .ref (127 + (s * 3 + g))), (3, .int (nI (s * 3 + g))), (0, .ref 79), (1, .int (nI s)), (2, .int (nI g))]) [0, 2, 3, 4, 5, 6, 7, 8, 9] rfl (mx_eqG (by subst ej; subst e5; first | rw [Tr_cat, if_pos (Or.inl h89)] | rw [Tr_cat, if_pos (Or.inr h100)] | rw [Tr_cat, if_neg (fun q => q.elim h89 h100)]) rfl rfl J7)
        · have h100 := bz_1 h100
          refine x_iconst (q := 104) (v := nI 1) hC d_Tr_settleCuts_103 (by decide) rfl ?_
          refine x_goto (tgt := 108) hC d_Tr_settleCuts_104 (by decide) ?_
          refine x_istore (q := 110) (L1 := [(8, .int (nI 1)), (7, .int (nI n)), (6, .int (nI k)), (5, .int (a.1)), (4, .ref (127 + (s * 3 + g))), (3, .int (nI (s * 3 + g))), (0, .ref 79), (1, .int (nI s)), (2, .int (nI g))]) hC d_Tr_settleCuts_108 (by decide) rfl rfl ?_
          refine x_iload (q := 112) hC d_Tr_settleCuts_110 rfl rfl ?_
          refine x_if_eq (tgt := 127) (q := 115) hC d_Tr_settleCuts_112 (by decide) rfl (fun h => absurd h (by decide)) (fun _ => ?_)
          refine x_aload_n (q := 116) hC d_Tr_settleCuts_115 rfl rfl rfl ?_
          refine x_getr (q := 119) (p := 79) (j := 5) (r := 80) hC f_Tr_11 rfl rfl rfl (by omega) (hu _ _ (by decide)) d_Tr_settleCuts_116 rfl ?_
          refine x_iload_n (q := 120) hC d_Tr_settleCuts_119 rfl rfl rfl ?_
          refine x_aald (q := 121) (p := 80) (r := 81 + g) hC g (mr_80 _ (by omega)) rfl (by omega) rfl (by omega) (by decide) d_Tr_settleCuts_120 rfl ?_
          refine x_iload (q := 123) hC d_Tr_settleCuts_121 rfl rfl ?_
          refine x_iald (q := 124) (p := 81 + g) hC n (sh_81 _ (by omega)) (by omega) rfl (by omega) (by decide) d_Tr_settleCuts_123 rfl ?_
          refine x_goto (tgt := 128) hC d_Tr_settleCuts_124 (by decide) ?_
          refine x_istore (q := 130) (L1 := [(9, .int (mj (81 + g) n)), (8, .int (nI 1)), (7, .int (nI n)), (6, .int (nI k)), (5, .int (a.1)), (4, .ref (127 + (s * 3 + g))), (3, .int (nI (s * 3 + g))), (0, .ref 79), (1, .int (nI s)), (2, .int (nI g))]) hC d_Tr_settleCuts_128 (by decide) rfl rfl ?_
          exact x_sub (L1 := [(9, .int (mj (81 + g) n)), (7, .int (nI n)), (6, .int (nI k)), (5, .int (a.1)), (4, .ref (127 + (s * 3 + g))), (3, .int (nI (s * 3 + g))), (0, .ref 79), (1, .int (nI s)), (2, .int (nI g))]) [0, 2, 3, 4, 5, 6, 7, 8, 9] rfl (mx_eqG (by subst ej; subst e5; first | rw [Tr_cat, if_pos (Or.inl h89)] | rw [Tr_cat, if_pos (Or.inr h100)] | rw [Tr_cat, if_neg (fun q => q.elim h89 h100)]) rfl rfl J7)
    refine x_getr (q := 65) (p := 79) (j := 2) (r := 34) hC f_Tr_43 rfl rfl rfl (by omega) (hu _ _ (by decide)) d_Tr_settleCuts_62 rfl ?_
    refine x_iload (q := 67) hC d_Tr_settleCuts_65 rfl rfl ?_
    refine x_iload_n (q := 68) hC d_Tr_settleCuts_67 rfl rfl rfl ?_
    refine x_callV (q := 71) (p := 34) (A := [.int (nI n), .int (nI g)]) (S := []) (c1 := 0) (s1 := 0) hC (c_La_isMarked (l := n) (g := g) (by omega) hu (by omega) (by omega) ) s_Tr_settleCuts_78 rfl (by omega) rfl rfl rfl (Nat.le_of_ble_eq_true rfl) rfl rfl (by decide) (by decide) d_Tr_settleCuts_68 rfl (fun r τ hP => ?_)
    obtain ⟨rfl, rfl⟩ := hP
    show mx_G Γ κ _ _ 71 [(7, .int (nI n)), (6, .int (nI k)), (5, .int (a.1)), (4, .ref (127 + (s * 3 + g))), (3, .int (nI (s * 3 + g))), (0, .ref 79), (1, .int (nI s)), (2, .int (nI g))] [.int (bz (m4 2 0 < m4 (43 + n) g))] (nx, u, m4) 0 0
    refine x_if_eq (tgt := 84) (q := 74) hC d_Tr_settleCuts_71 (by decide) rfl (fun h71 => ?_) (fun h71 => ?_)
    · have h71 := bz_0 h71
      exact x_sub (L1 := [(7, .int (nI n)), (6, .int (nI k)), (5, .int (a.1)), (4, .ref (127 + (s * 3 + g))), (3, .int (nI (s * 3 + g))), (0, .ref 79), (1, .int (nI s)), (2, .int (nI g))]) [0, 1, 2, 3, 4, 5, 6, 7] rfl (mx_eqG rfl rfl (pr (by subst e5; first | exact it_t h71 rfl | exact it_f h71 rfl)) J6)
    · have h71 := bz_1 h71
      refine x_aload (q := 76) hC d_Tr_settleCuts_74 rfl rfl ?_
      refine x_iload (q := 78) hC d_Tr_settleCuts_76 rfl rfl ?_
      refine x_dup2 (q := 79) hC d_Tr_settleCuts_78 rfl rfl rfl ?_
      refine x_iald (q := 80) (p := 127 + (s * 3 + g)) hC n (sh_127 _ (by omega)) (by omega) rfl (by omega) (by decide) d_Tr_settleCuts_79 rfl ?_
      refine x_bipush (q := 82) (v := nI 64) hC d_Tr_settleCuts_80 (by decide) rfl ?_
      refine x_ior (q := 83) (z := (m4 (127 + (s * 3 + g)) n) ||| (nI 64)) hC d_Tr_settleCuts_82 rfl rfl ?_
      refine x_iast (q := 84) (p := 127 + (s * 3 + g)) hC n (sh_127 _ (by omega)) (by omega) (by omega) rfl (by omega) (by decide) d_Tr_settleCuts_83 rfl ?_
      refine mx_nr (fun m13 e14 => ?_)
      exact x_sub (L1 := [(7, .int (nI n)), (6, .int (nI k)), (5, .int (a.1)), (4, .ref (127 + (s * 3 + g))), (3, .int (nI (s * 3 + g))), (0, .ref 79), (1, .int (nI s)), (2, .int (nI g))]) [0, 1, 2, 3, 4, 5, 6, 7] rfl (mx_eqG rfl rfl (pr (by subst e14; subst e5; first | exact it_t h71 rfl | exact it_f h71 rfl)) J6)
  · intro hx15
    generalize e17 : mx_lp 6 (Tr_ck g (s * 3 + g) s r) (nI 0, mi) = a16 at hx15 ⊢
    refine x_iload (q := 22) hC d_Tr_settleCuts_20 rfl rfl ?_
    refine x_bipush (q := 24) (v := nI 6) hC d_Tr_settleCuts_22 (by decide) rfl ?_
    refine x_icmp_ge (tgt := 180) (q := 27) hC d_Tr_settleCuts_24 (by decide) rfl (fun _ => ?_) (fun h => absurd (nI_le (Nat.le_refl _) (by decide)) h)
    subst e17
    exact x_vret hC rfl ⟨rfl, by subst_vars; rfl⟩ (by decide) (by decide) d_Tr_settleCuts_180
set_option maxRecDepth 100000 in
set_option maxHeartbeats 400000 in
theorem c_Tr_settleSources {Γ : mx_X} {lau : Launch} {nx : Nat} {u : Nat → Nat → Bool} {mi : mx_Mm} {s g r : Nat} (hnx : 165 ≤ nx) (hu : ∀ p k, 2 ≤ p → u p k = true) (hs : s < 6) (hg : g < 3) (hok : Tr_ok r mi) : mx_C Γ lau M_Tr_settleSources [.ref 79, .int (nI s), .int (nI g)] (nx, u, mi) (fun ρ τ => ρ = none ∧ τ = (nx, u, Tr_sources s g mi)) := by
  refine mx_C.intro (by decide) rfl (Nat.le_of_ble_eq_true rfl) (fun κ _ hC => ?_)
  show mx_G Γ κ _ _ 0 [(0, .ref 79), (1, .int (nI s)), (2, .int (nI g))] [] (nx, u, mi) 0 0
  refine x_iload_n (q := 1) hC d_Tr_settleSources_0 rfl rfl rfl ?_
  refine x_iload_n (q := 2) hC d_Tr_settleSources_1 rfl rfl rfl ?_
  refine x_callSN (q := 5) (A := [.int (nI s), .int (nI g)]) (S := []) (c1 := 0) (s1 := 0) hC (c_MT_streamOf (s := s) (g := g)) s_Tr_settleSources_91 rfl rfl rfl (Nat.le_of_ble_eq_true rfl) rfl rfl (by decide) (by decide) d_Tr_settleSources_2 rfl (fun r τ hP => ?_)
  obtain ⟨rfl, rfl⟩ := hP
  show mx_G Γ κ _ _ 5 [(0, .ref 79), (1, .int (nI s)), (2, .int (nI g))] [.int (nI (s * 3 + g))] (nx, u, mi) 0 0
  refine x_istore_n (q := 6) (L1 := [(3, .int (nI (s * 3 + g))), (0, .ref 79), (1, .int (nI s)), (2, .int (nI g))]) hC d_Tr_settleSources_5 rfl (by decide) rfl rfl ?_
  refine x_aload_n (q := 7) hC d_Tr_settleSources_6 rfl rfl rfl ?_
  refine x_getr (q := 10) (p := 79) (j := 10) (r := 145) hC f_Tr_28 rfl rfl rfl (by omega) (hu _ _ (by decide)) d_Tr_settleSources_7 rfl ?_
  refine x_iload_n (q := 11) hC d_Tr_settleSources_10 rfl rfl rfl ?_
  refine x_aald (q := 12) (p := 145) (r := 146 + (s * 3 + g)) hC (s * 3 + g) (mr_145 _ (by omega)) rfl (by omega) rfl (by omega) (by decide) d_Tr_settleSources_11 rfl ?_
  refine x_astore (q := 14) (L1 := [(4, .ref (146 + (s * 3 + g))), (3, .int (nI (s * 3 + g))), (0, .ref 79), (1, .int (nI s)), (2, .int (nI g))]) hC d_Tr_settleSources_12 (by decide) rfl rfl ?_
  refine x_aload_n (q := 15) hC d_Tr_settleSources_14 rfl rfl rfl ?_
  refine x_getr (q := 18) (p := 79) (j := 11) (r := 164) hC f_Tr_31 rfl rfl rfl (by omega) (hu _ _ (by decide)) d_Tr_settleSources_15 rfl ?_
  refine x_iconst (q := 19) (v := nI 0) hC d_Tr_settleSources_18 (by decide) rfl ?_
  refine x_callS (q := 22) (A := [.ref 164, .int (nI 0)]) (S := []) (c1 := 0) (s1 := 0) hC (c_JA_fill (p := 164) (n := 6) (v := nI 0) rfl (by omega) (by omega) (by decide)) s_Tr_settleSources_55 rfl rfl rfl (Nat.le_of_ble_eq_true rfl) rfl rfl (by decide) (by decide) d_Tr_settleSources_19 rfl (fun r τ hP => ?_)
  obtain ⟨rfl, rfl⟩ := hP
  show mx_G Γ κ _ _ 22 [(4, .ref (146 + (s * 3 + g))), (3, .int (nI (s * 3 + g))), (0, .ref 79), (1, .int (nI s)), (2, .int (nI g))] [] (nx, u, fill_m 164 6 (nI 0) mi) 0 0
  refine x_iconst (q := 23) (v := nI 0) hC d_Tr_settleSources_22 (by decide) rfl ?_
  refine x_istore (q := 25) (L1 := [(5, .int (nI 0)), (4, .ref (146 + (s * 3 + g))), (3, .int (nI (s * 3 + g))), (0, .ref 79), (1, .int (nI s)), (2, .int (nI g))]) hC d_Tr_settleSources_23 (by decide) rfl rfl ?_
  refine x_sub (L1 := [(5, .int (nI 0)), (4, .ref (146 + (s * 3 + g))), (3, .int (nI (s * 3 + g))), (0, .ref 79), (1, .int (nI s)), (2, .int (nI g))]) [0, 1, 2, 3, 4, 5] rfl ?_
  refine mx_loop (N := 6) (Hd := fun k m1 => mx_G Γ κ _ _ 25 [(5, .int (nI k)), (4, .ref (146 + (s * 3 + g))), (3, .int (nI (s * 3 + g))), (0, .ref 79), (1, .int (nI s)), (2, .int (nI g))] [] (nx, u, m1) 0 0) (Tr_ok1 (s * 3 + g) s) (fun _ m => Tr_ok r m) (by subst_vars; exact Tr_fill_ok (by omega) hok) ?_ ?_ ?_
  · exact fun k m hk h => Tr_ok1_ok (by omega) hs hk h
  · intro k m1 hl2 hI3 hN4
    refine x_iload (q := 27) hC d_Tr_settleSources_25 rfl rfl ?_
    refine x_bipush (q := 29) (v := nI 6) hC d_Tr_settleSources_27 (by decide) rfl ?_
    refine x_icmp_ge (tgt := 180) (q := 32) hC d_Tr_settleSources_29 (by decide) rfl (fun h => absurd h (nI_ge hl2 (by decide))) (fun _ => ?_)
    refine x_aload_n (q := 33) hC d_Tr_settleSources_32 rfl rfl rfl ?_
    refine x_getr (q := 36) (p := 79) (j := 1) (r := 5) hC f_Tr_39 rfl rfl rfl (by omega) (hu _ _ (by decide)) d_Tr_settleSources_33 rfl ?_
    refine x_iload_n (q := 37) hC d_Tr_settleSources_36 rfl rfl rfl ?_
    refine x_iload (q := 39) hC d_Tr_settleSources_37 rfl rfl ?_
    refine x_callV (q := 42) (p := 5) (A := [.int (nI s), .int (nI k)]) (S := []) (c1 := 0) (s1 := 0) hC (c_Ne_fromFarthest (a := s) (b := k) (by omega) hu (by omega) (by omega)) s_Tr_settleSources_72 rfl (by omega) rfl rfl rfl (Nat.le_of_ble_eq_true rfl) rfl rfl (by decide) (by decide) d_Tr_settleSources_39 rfl (fun r τ hP => ?_)
    obtain ⟨rfl, rfl⟩ := hP
    show mx_G Γ κ _ _ 42 [(5, .int (nI k)), (4, .ref (146 + (s * 3 + g))), (3, .int (nI (s * 3 + g))), (0, .ref 79), (1, .int (nI s)), (2, .int (nI g))] [.int (m1 (28 + s) k)] (nx, u, m1) 0 0
    refine x_istore (q := 44) (L1 := [(6, .int (m1 (28 + s) k)), (5, .int (nI k)), (4, .ref (146 + (s * 3 + g))), (3, .int (nI (s * 3 + g))), (0, .ref 79), (1, .int (nI s)), (2, .int (nI g))]) hC d_Tr_settleSources_42 (by decide) rfl rfl ?_
    obtain ⟨n, hn, en, et⟩ := Tr_ok.n hI3 (t := s) (k := k) (by omega) (by omega)
    refine mx_eqG (L1 := [(6, .int (nI n)), (5, .int (nI k)), (4, .ref (146 + (s * 3 + g))), (3, .int (nI (s * 3 + g))), (0, .ref 79), (1, .int (nI s)), (2, .int (nI g))]) (by rw [en]) rfl rfl ?_
    refine x_aload (q := 46) hC d_Tr_settleSources_44 rfl rfl ?_
    refine x_iload (q := 48) hC d_Tr_settleSources_46 rfl rfl ?_
    refine x_aload_n (q := 49) hC d_Tr_settleSources_48 rfl rfl rfl ?_
    refine x_getr (q := 52) (p := 79) (j := 9) (r := 126) hC f_Tr_25 rfl rfl rfl (by omega) (hu _ _ (by decide)) d_Tr_settleSources_49 rfl ?_
    refine x_iload_n (q := 53) hC d_Tr_settleSources_52 rfl rfl rfl ?_
    refine x_aald (q := 54) (p := 126) (r := 127 + (s * 3 + g)) hC (s * 3 + g) (mr_126 _ (by omega)) rfl (by omega) rfl (by omega) (by decide) d_Tr_settleSources_53 rfl ?_
    refine x_iload (q := 56) hC d_Tr_settleSources_54 rfl rfl ?_
    refine x_iald (q := 57) (p := 127 + (s * 3 + g)) hC n (sh_127 _ (by omega)) (by omega) rfl (by omega) (by decide) d_Tr_settleSources_56 rfl ?_
    refine x_aload_n (q := 58) hC d_Tr_settleSources_57 rfl rfl rfl ?_
    refine x_getr (q := 61) (p := 79) (j := 11) (r := 164) hC f_Tr_31 rfl rfl rfl (by omega) (hu _ _ (by decide)) d_Tr_settleSources_58 rfl ?_
    refine x_iload (q := 63) hC d_Tr_settleSources_61 rfl rfl ?_
    refine x_iald (q := 64) (p := 164) hC n rfl (by omega) rfl (by omega) (by decide) d_Tr_settleSources_63 rfl ?_
    refine x_ior (q := 65) (z := (m1 (127 + (s * 3 + g)) n) ||| (m1 164 n)) hC d_Tr_settleSources_64 rfl rfl ?_
    refine x_iast (q := 66) (p := 146 + (s * 3 + g)) hC n (sh_146 _ (by omega)) (by omega) (by omega) rfl (by omega) (by decide) d_Tr_settleSources_65 rfl ?_
    refine mx_nr (fun m5 e6 => ?_)
    have hIl : Tr_ok r m5 := by subst e6; exact Tr_o1_ok hI3
    refine x_aload_n (q := 67) hC d_Tr_settleSources_66 rfl rfl rfl ?_
    have J7 : mx_G Γ κ M_Tr_settleSources (MQ (mx_b κ) (mx_Qc Γ (fun ρ τ => ρ = none ∧ τ = (nx, u, Tr_sources s g mi))) (mx_a κ) (mx_s κ) M_Tr_settleSources.2.2.2.2.cells M_Tr_settleSources.2.2.2.2.slots (mx_fr Γ)) 125 [(8, .int (Tr_oat (s * 3 + g) s n m5)), (6, .int (nI n)), (5, .int (nI k)), (4, .ref (146 + (s * 3 + g))), (3, .int (nI (s * 3 + g))), (0, .ref 79), (1, .int (nI s)), (2, .int (nI g))] [] (nx, u, m5) 0 0 := by
      have J8 : mx_G Γ κ M_Tr_settleSources (MQ (mx_b κ) (mx_Qc Γ (fun ρ τ => ρ = none ∧ τ = (nx, u, Tr_sources s g mi))) (mx_a κ) (mx_s κ) M_Tr_settleSources.2.2.2.2.cells M_Tr_settleSources.2.2.2.2.slots (mx_fr Γ)) 145 [(8, .int (Tr_oat (s * 3 + g) s n m5)), (6, .int (nI n)), (5, .int (nI k)), (4, .ref (146 + (s * 3 + g))), (3, .int (nI (s * 3 + g))), (0, .ref 79), (1, .int (nI s)), (2, .int (nI g))] [] (nx, u, Tr_o2 n (Tr_oat (s * 3 + g) s n m5) m5) 0 0 := by
        refine mx_nr (fun mj ej => ?_)
        have hIj : Tr_ok r mj := ej ▸ Tr_o2_ok hIl
        refine x_aload_n (q := 146) hC d_Tr_settleSources_145 rfl rfl rfl ?_
        refine x_iconst (q := 147) (v := nI 2) hC d_Tr_settleSources_146 (by decide) rfl ?_
        refine x_iload (q := 149) hC d_Tr_settleSources_147 rfl rfl ?_
        refine x_aload_n (q := 150) hC d_Tr_settleSources_149 rfl rfl rfl ?_
        refine x_getr (q := 153) (p := 79) (j := 8) (r := 107) hC f_Tr_22 rfl rfl rfl (by omega) (hu _ _ (by decide)) d_Tr_settleSources_150 rfl ?_
        refine x_iload_n (q := 154) hC d_Tr_settleSources_153 rfl rfl rfl ?_
        refine x_aald (q := 155) (p := 107) (r := 108 + (s * 3 + g)) hC (s * 3 + g) (mr_107 _ (by omega)) rfl (by omega) rfl (by omega) (by decide) d_Tr_settleSources_154 rfl ?_
        refine x_iload (q := 157) hC d_Tr_settleSources_155 rfl rfl ?_
        refine x_iald (q := 158) (p := 108 + (s * 3 + g)) hC n (sh_108 _ (by omega)) (by omega) rfl (by omega) (by decide) d_Tr_settleSources_157 rfl ?_
        refine x_iload (q := 160) hC d_Tr_settleSources_158 rfl rfl ?_
        refine x_callV (q := 163) (p := 79) (A := [.int (nI 2), .int (nI n), .int (mj (108 + (s * 3 + g)) n), .int (Tr_oat (s * 3 + g) s n m5)]) (S := []) (c1 := 0) (s1 := 0) hC (c_Tr_announce (k := 2) (n := n) (x := mj (108 + (s * 3 + g)) n) (y := Tr_oat (s * 3 + g) s n m5) (by omega) hu (by omega) (by omega) (hIj.2.2.2.2.2 _ n (by omega) hn)) s_Tr_settleSources_87 rfl (by omega) rfl rfl rfl (Nat.le_of_ble_eq_true rfl) rfl rfl (by decide) (by decide) d_Tr_settleSources_160 rfl (fun r τ hP => ?_)
        obtain ⟨rfl, rfl⟩ := hP
        show mx_G Γ κ _ _ 163 [(8, .int (Tr_oat (s * 3 + g) s n m5)), (6, .int (nI n)), (5, .int (nI k)), (4, .ref (146 + (s * 3 + g))), (3, .int (nI (s * 3 + g))), (0, .ref 79), (1, .int (nI s)), (2, .int (nI g))] [] (nx, u, Tr_ann 2 n (mj (108 + (s * 3 + g)) n) (Tr_oat (s * 3 + g) s n m5) mj) 0 0
        refine mx_nr (fun m9 e10 => ?_)
        refine x_aload_n (q := 164) hC d_Tr_settleSources_163 rfl rfl rfl ?_
        refine x_getr (q := 167) (p := 79) (j := 8) (r := 107) hC f_Tr_22 rfl rfl rfl (by omega) (hu _ _ (by decide)) d_Tr_settleSources_164 rfl ?_
        refine x_iload_n (q := 168) hC d_Tr_settleSources_167 rfl rfl rfl ?_
        refine x_aald (q := 169) (p := 107) (r := 108 + (s * 3 + g)) hC (s * 3 + g) (mr_107 _ (by omega)) rfl (by omega) rfl (by omega) (by decide) d_Tr_settleSources_168 rfl ?_
        refine x_iload (q := 171) hC d_Tr_settleSources_169 rfl rfl ?_
        refine x_iload (q := 173) hC d_Tr_settleSources_171 rfl rfl ?_
        refine x_iast (q := 174) (p := 108 + (s * 3 + g)) hC n (sh_108 _ (by omega)) (by omega) (by omega) rfl (by omega) (by decide) d_Tr_settleSources_173 rfl ?_
        refine x_iinc (q := 177) (y := nI (k + 1)) (L1 := [(5, .int (nI (k + 1))), (8, .int (Tr_oat (s * 3 + g) s n m5)), (6, .int (nI n)), (4, .ref (146 + (s * 3 + g))), (3, .int (nI (s * 3 + g))), (0, .ref 79), (1, .int (nI s)), (2, .int (nI g))]) hC d_Tr_settleSources_174 rfl (mx_inc k) (by decide) rfl rfl ?_
        refine x_goto (tgt := 25) hC d_Tr_settleSources_177 (by decide) ?_
        subst e10
        subst ej
        subst e6
        exact x_close hN4 [0, 3, 4, 5, 6, 7] rfl (by show _ = Tr_ob _ _ (tn _) _; rw [et] <;> rfl)
      refine x_iload (q := 127) hC d_Tr_settleSources_125 rfl rfl ?_
      refine x_iconst (q := 128) (v := (-1)) hC d_Tr_settleSources_127 (by decide) rfl ?_
      refine x_icmp_eq (tgt := 145) (q := 131) hC d_Tr_settleSources_128 (by decide) rfl (fun h128 => ?_) (fun h128 => ?_)
      · skip
        exact x_sub (L1 := [(8, .int (Tr_oat (s * 3 + g) s n m5)), (6, .int (nI n)), (5, .int (nI k)), (4, .ref (146 + (s * 3 + g))), (3, .int (nI (s * 3 + g))), (0, .ref 79), (1, .int (nI s)), (2, .int (nI g))]) [0, 1, 2, 3, 4, 5, 6, 7] rfl (mx_eqG rfl rfl (pr (by subst e6; first | exact it_t h128 rfl | exact it_f h128 rfl)) J8)
      · skip
        obtain ⟨ea, ha⟩ := (Tr_oat_rng (st := s * 3 + g) hs hn hIl).tn h128
        refine x_aload_n (q := 132) hC d_Tr_settleSources_131 rfl rfl rfl ?_
        refine x_getr (q := 135) (p := 79) (j := 11) (r := 164) hC f_Tr_31 rfl rfl rfl (by omega) (hu _ _ (by decide)) d_Tr_settleSources_132 rfl ?_
        refine x_iload (q := 137) hC d_Tr_settleSources_135 rfl rfl ?_
        refine x_dup2 (q := 138) hC d_Tr_settleSources_137 rfl rfl rfl ?_
        refine x_iald (q := 139) (p := 164) hC (tn (Tr_oat (s * 3 + g) s n m5)) rfl (by omega) ea ha (by decide) d_Tr_settleSources_138 rfl ?_
        refine x_iconst (q := 140) (v := nI 1) hC d_Tr_settleSources_139 (by decide) rfl ?_
        refine x_iload (q := 142) hC d_Tr_settleSources_140 rfl rfl ?_
        refine x_ishl (q := 143) (z := (nI 1) <<< ((nI n) &&& 31)) hC d_Tr_settleSources_142 rfl rfl ?_
        refine x_ior (q := 144) (z := (m5 164 (tn (Tr_oat (s * 3 + g) s n m5))) ||| ((nI 1) <<< ((nI n) &&& 31))) hC d_Tr_settleSources_143 rfl rfl ?_
        refine x_iast (q := 145) (p := 164) hC (tn (Tr_oat (s * 3 + g) s n m5)) rfl (by omega) (by omega) ea ha (by decide) d_Tr_settleSources_144 rfl ?_
        refine mx_nr (fun m11 e12 => ?_)
        exact x_sub (L1 := [(8, .int (Tr_oat (s * 3 + g) s n m5)), (6, .int (nI n)), (5, .int (nI k)), (4, .ref (146 + (s * 3 + g))), (3, .int (nI (s * 3 + g))), (0, .ref 79), (1, .int (nI s)), (2, .int (nI g))]) [0, 1, 2, 3, 4, 5, 6, 7] rfl (mx_eqG rfl rfl (pr (by subst e12; subst e6; first | exact it_t h128 rfl | exact it_f h128 rfl)) J8)
    refine x_getr (q := 70) (p := 79) (j := 11) (r := 164) hC f_Tr_31 rfl rfl rfl (by omega) (hu _ _ (by decide)) d_Tr_settleSources_67 rfl ?_
    refine x_iload (q := 72) hC d_Tr_settleSources_70 rfl rfl ?_
    refine x_iald (q := 73) (p := 164) hC n rfl (by omega) rfl (by omega) (by decide) d_Tr_settleSources_72 rfl ?_
    refine x_if_ne (tgt := 97) (q := 76) hC d_Tr_settleSources_73 (by decide) rfl (fun h73 => ?_) (fun h73 => ?_)
    · skip
      refine x_iconst (q := 98) (v := nI 1) hC d_Tr_settleSources_97 (by decide) rfl ?_
      refine x_goto (tgt := 102) hC d_Tr_settleSources_98 (by decide) ?_
      refine x_istore (q := 104) (L1 := [(7, .int (nI 1)), (6, .int (nI n)), (5, .int (nI k)), (4, .ref (146 + (s * 3 + g))), (3, .int (nI (s * 3 + g))), (0, .ref 79), (1, .int (nI s)), (2, .int (nI g))]) hC d_Tr_settleSources_102 (by decide) rfl rfl ?_
      refine x_iload (q := 106) hC d_Tr_settleSources_104 rfl rfl ?_
      refine x_if_eq (tgt := 122) (q := 109) hC d_Tr_settleSources_106 (by decide) rfl (fun h => absurd h (by decide)) (fun _ => ?_)
      refine x_aload_n (q := 110) hC d_Tr_settleSources_109 rfl rfl rfl ?_
      refine x_getr (q := 113) (p := 79) (j := 1) (r := 5) hC f_Tr_39 rfl rfl rfl (by omega) (hu _ _ (by decide)) d_Tr_settleSources_110 rfl ?_
      refine x_iload (q := 115) hC d_Tr_settleSources_113 rfl rfl ?_
      refine x_iload_n (q := 116) hC d_Tr_settleSources_115 rfl rfl rfl ?_
      refine x_callV (q := 119) (p := 5) (A := [.int (nI n), .int (nI s)]) (S := []) (c1 := 0) (s1 := 0) hC (c_Ne_nextTowards (a := n) (b := s) (by omega) hu (by omega) (by omega)) s_Tr_settleSources_84 rfl (by omega) rfl rfl rfl (Nat.le_of_ble_eq_true rfl) rfl rfl (by decide) (by decide) d_Tr_settleSources_116 rfl (fun r τ hP => ?_)
      obtain ⟨rfl, rfl⟩ := hP
      show mx_G Γ κ _ _ 119 [(7, .int (nI 1)), (6, .int (nI n)), (5, .int (nI k)), (4, .ref (146 + (s * 3 + g))), (3, .int (nI (s * 3 + g))), (0, .ref 79), (1, .int (nI s)), (2, .int (nI g))] [.int (m5 (21 + n) s)] (nx, u, m5) 0 0
      refine x_goto (tgt := 123) hC d_Tr_settleSources_119 (by decide) ?_
      refine x_istore (q := 125) (L1 := [(8, .int (m5 (21 + n) s)), (7, .int (nI 1)), (6, .int (nI n)), (5, .int (nI k)), (4, .ref (146 + (s * 3 + g))), (3, .int (nI (s * 3 + g))), (0, .ref 79), (1, .int (nI s)), (2, .int (nI g))]) hC d_Tr_settleSources_123 (by decide) rfl rfl ?_
      exact x_sub (L1 := [(8, .int (m5 (21 + n) s)), (6, .int (nI n)), (5, .int (nI k)), (4, .ref (146 + (s * 3 + g))), (3, .int (nI (s * 3 + g))), (0, .ref 79), (1, .int (nI s)), (2, .int (nI g))]) [0, 2, 3, 4, 5, 6, 7, 8] rfl (mx_eqG (by subst e6; first | rw [Tr_oat, if_pos (Or.inl h73)] | rw [Tr_oat, if_pos (Or.inr (And.intro h86 h94))] | rw [Tr_oat, if_neg (by intro q; rcases q with q | q; exact q h73; first | exact h86 q.1 | exact q.2 h94)]) rfl rfl J7)
    · skip
      refine x_aload_n (q := 77) hC d_Tr_settleSources_76 rfl rfl rfl ?_
      refine x_getr (q := 80) (p := 79) (j := 3) (r := 57) hC f_Tr_47 rfl rfl rfl (by omega) (hu _ _ (by decide)) d_Tr_settleSources_77 rfl ?_
      refine x_iload_n (q := 81) hC d_Tr_settleSources_80 rfl rfl rfl ?_
      refine x_iload (q := 83) hC d_Tr_settleSources_81 rfl rfl ?_
      refine x_callV (q := 86) (p := 57) (A := [.int (nI (s * 3 + g)), .int (nI n)]) (S := []) (c1 := 0) (s1 := 0) hC (c_Sm_isAlive (s := s * 3 + g) (n := n) (by omega) hu (by omega) (by omega) ) s_Tr_settleSources_103 rfl (by omega) rfl rfl rfl (Nat.le_of_ble_eq_true rfl) rfl rfl (by decide) (by decide) d_Tr_settleSources_83 rfl (fun r τ hP => ?_)
      obtain ⟨rfl, rfl⟩ := hP
      show mx_G Γ κ _ _ 86 [(6, .int (nI n)), (5, .int (nI k)), (4, .ref (146 + (s * 3 + g))), (3, .int (nI (s * 3 + g))), (0, .ref 79), (1, .int (nI s)), (2, .int (nI g))] [.int (bz (m5 2 0 < m5 (59 + (s * 3 + g)) n))] (nx, u, m5) 0 0
      refine x_if_eq (tgt := 101) (q := 89) hC d_Tr_settleSources_86 (by decide) rfl (fun h86 => ?_) (fun h86 => ?_)
      · have h86 := bz_0 h86
        refine x_iconst (q := 102) (v := nI 0) hC d_Tr_settleSources_101 (by decide) rfl ?_
        refine x_istore (q := 104) (L1 := [(7, .int (nI 0)), (6, .int (nI n)), (5, .int (nI k)), (4, .ref (146 + (s * 3 + g))), (3, .int (nI (s * 3 + g))), (0, .ref 79), (1, .int (nI s)), (2, .int (nI g))]) hC d_Tr_settleSources_102 (by decide) rfl rfl ?_
        refine x_iload (q := 106) hC d_Tr_settleSources_104 rfl rfl ?_
        refine x_if_eq (tgt := 122) (q := 109) hC d_Tr_settleSources_106 (by decide) rfl (fun _ => ?_) (fun h => absurd (by decide) h)
        refine x_iconst (q := 123) (v := (-1)) hC d_Tr_settleSources_122 (by decide) rfl ?_
        refine x_istore (q := 125) (L1 := [(8, .int ((-1))), (7, .int (nI 0)), (6, .int (nI n)), (5, .int (nI k)), (4, .ref (146 + (s * 3 + g))), (3, .int (nI (s * 3 + g))), (0, .ref 79), (1, .int (nI s)), (2, .int (nI g))]) hC d_Tr_settleSources_123 (by decide) rfl rfl ?_
        exact x_sub (L1 := [(8, .int ((-1))), (6, .int (nI n)), (5, .int (nI k)), (4, .ref (146 + (s * 3 + g))), (3, .int (nI (s * 3 + g))), (0, .ref 79), (1, .int (nI s)), (2, .int (nI g))]) [0, 2, 3, 4, 5, 6, 7, 8] rfl (mx_eqG (by subst e6; first | rw [Tr_oat, if_pos (Or.inl h73)] | rw [Tr_oat, if_pos (Or.inr (And.intro h86 h94))] | rw [Tr_oat, if_neg (by intro q; rcases q with q | q; exact q h73; first | exact h86 q.1 | exact q.2 h94)]) rfl rfl J7)
      · have h86 := bz_1 h86
        refine x_aload (q := 91) hC d_Tr_settleSources_89 rfl rfl ?_
        refine x_iload (q := 93) hC d_Tr_settleSources_91 rfl rfl ?_
        refine x_iald (q := 94) (p := 146 + (s * 3 + g)) hC n (sh_146 _ (by omega)) (by omega) rfl (by omega) (by decide) d_Tr_settleSources_93 rfl ?_
        refine x_if_eq (tgt := 101) (q := 97) hC d_Tr_settleSources_94 (by decide) rfl (fun h94 => ?_) (fun h94 => ?_)
        · skip
          refine x_iconst (q := 102) (v := nI 0) hC d_Tr_settleSources_101 (by decide) rfl ?_
          refine x_istore (q := 104) (L1 := [(7, .int (nI 0)), (6, .int (nI n)), (5, .int (nI k)), (4, .ref (146 + (s * 3 + g))), (3, .int (nI (s * 3 + g))), (0, .ref 79), (1, .int (nI s)), (2, .int (nI g))]) hC d_Tr_settleSources_102 (by decide) rfl rfl ?_
          refine x_iload (q := 106) hC d_Tr_settleSources_104 rfl rfl ?_
          refine x_if_eq (tgt := 122) (q := 109) hC d_Tr_settleSources_106 (by decide) rfl (fun _ => ?_) (fun h => absurd (by decide) h)
          refine x_iconst (q := 123) (v := (-1)) hC d_Tr_settleSources_122 (by decide) rfl ?_
          refine x_istore (q := 125) (L1 := [(8, .int ((-1))), (7, .int (nI 0)), (6, .int (nI n)), (5, .int (nI k)), (4, .ref (146 + (s * 3 + g))), (3, .int (nI (s * 3 + g))), (0, .ref 79), (1, .int (nI s)), (2, .int (nI g))]) hC d_Tr_settleSources_123 (by decide) rfl rfl ?_
          exact x_sub (L1 := [(8, .int ((-1))), (6, .int (nI n)), (5, .int (nI k)), (4, .ref (146 + (s * 3 + g))), (3, .int (nI (s * 3 + g))), (0, .ref 79), (1, .int (nI s)), (2, .int (nI g))]) [0, 2, 3, 4, 5, 6, 7, 8] rfl (mx_eqG (by subst e6; first | rw [Tr_oat, if_pos (Or.inl h73)] | rw [Tr_oat, if_pos (Or.inr (And.intro h86 h94))] | rw [Tr_oat, if_neg (by intro q; rcases q with q | q; exact q h73; first | exact h86 q.1 | exact q.2 h94)]) rfl rfl J7)
        · skip
          refine x_iconst (q := 98) (v := nI 1) hC d_Tr_settleSources_97 (by decide) rfl ?_
          refine x_goto (tgt := 102) hC d_Tr_settleSources_98 (by decide) ?_
          refine x_istore (q := 104) (L1 := [(7, .int (nI 1)), (6, .int (nI n)), (5, .int (nI k)), (4, .ref (146 + (s * 3 + g))), (3, .int (nI (s * 3 + g))), (0, .ref 79), (1, .int (nI s)), (2, .int (nI g))]) hC d_Tr_settleSources_102 (by decide) rfl rfl ?_
          refine x_iload (q := 106) hC d_Tr_settleSources_104 rfl rfl ?_
          refine x_if_eq (tgt := 122) (q := 109) hC d_Tr_settleSources_106 (by decide) rfl (fun h => absurd h (by decide)) (fun _ => ?_)
          refine x_aload_n (q := 110) hC d_Tr_settleSources_109 rfl rfl rfl ?_
          refine x_getr (q := 113) (p := 79) (j := 1) (r := 5) hC f_Tr_39 rfl rfl rfl (by omega) (hu _ _ (by decide)) d_Tr_settleSources_110 rfl ?_
          refine x_iload (q := 115) hC d_Tr_settleSources_113 rfl rfl ?_
          refine x_iload_n (q := 116) hC d_Tr_settleSources_115 rfl rfl rfl ?_
          refine x_callV (q := 119) (p := 5) (A := [.int (nI n), .int (nI s)]) (S := []) (c1 := 0) (s1 := 0) hC (c_Ne_nextTowards (a := n) (b := s) (by omega) hu (by omega) (by omega)) s_Tr_settleSources_84 rfl (by omega) rfl rfl rfl (Nat.le_of_ble_eq_true rfl) rfl rfl (by decide) (by decide) d_Tr_settleSources_116 rfl (fun r τ hP => ?_)
          obtain ⟨rfl, rfl⟩ := hP
          show mx_G Γ κ _ _ 119 [(7, .int (nI 1)), (6, .int (nI n)), (5, .int (nI k)), (4, .ref (146 + (s * 3 + g))), (3, .int (nI (s * 3 + g))), (0, .ref 79), (1, .int (nI s)), (2, .int (nI g))] [.int (m5 (21 + n) s)] (nx, u, m5) 0 0
          refine x_goto (tgt := 123) hC d_Tr_settleSources_119 (by decide) ?_
          refine x_istore (q := 125) (L1 := [(8, .int (m5 (21 + n) s)), (7, .int (nI 1)), (6, .int (nI n)), (5, .int (nI k)), (4, .ref (146 + (s * 3 + g))), (3, .int (nI (s * 3 + g))), (0, .ref 79), (1, .int (nI s)), (2, .int (nI g))]) hC d_Tr_settleSources_123 (by decide) rfl rfl ?_
          exact x_sub (L1 := [(8, .int (m5 (21 + n) s)), (6, .int (nI n)), (5, .int (nI k)), (4, .ref (146 + (s * 3 + g))), (3, .int (nI (s * 3 + g))), (0, .ref 79), (1, .int (nI s)), (2, .int (nI g))]) [0, 2, 3, 4, 5, 6, 7, 8] rfl (mx_eqG (by subst e6; first | rw [Tr_oat, if_pos (Or.inl h73)] | rw [Tr_oat, if_pos (Or.inr (And.intro h86 h94))] | rw [Tr_oat, if_neg (by intro q; rcases q with q | q; exact q h73; first | exact h86 q.1 | exact q.2 h94)]) rfl rfl J7)
  · intro hx13
    refine mx_nr (fun m14 e15 => ?_)
    try rw [e15] at hx13
    refine x_iload (q := 27) hC d_Tr_settleSources_25 rfl rfl ?_
    refine x_bipush (q := 29) (v := nI 6) hC d_Tr_settleSources_27 (by decide) rfl ?_
    refine x_icmp_ge (tgt := 180) (q := 32) hC d_Tr_settleSources_29 (by decide) rfl (fun _ => ?_) (fun h => absurd (nI_le (Nat.le_refl _) (by decide)) h)
    subst e15
    exact x_vret hC rfl ⟨rfl, by subst_vars; rfl⟩ (by decide) (by decide) d_Tr_settleSources_180
set_option maxRecDepth 100000 in
set_option maxHeartbeats 400000 in
theorem c_Tr_settle {Γ : mx_X} {lau : Launch} {nx : Nat} {u : Nat → Nat → Bool} {mi : mx_Mm} {r : Nat} (hnx : 165 ≤ nx) (hu : ∀ p k, 2 ≤ p → u p k = true) (hr : r < 6) (hok : Tr_ok r mi) : mx_C Γ lau M_Tr_settle [.ref 79] (nx, u, mi) (fun ρ τ => ρ = none ∧ τ = (nx, u, Tr_settle r mi)) := by
  refine mx_C.intro (by decide) rfl (Nat.le_of_ble_eq_true rfl) (fun κ _ hC => ?_)
  show mx_G Γ κ _ _ 0 [(0, .ref 79)] [] (nx, u, mi) 0 0
  refine x_iconst (q := 1) (v := nI 0) hC d_Tr_settle_0 (by decide) rfl ?_
  refine x_istore_n (q := 2) (L1 := [(1, .int (nI 0)), (0, .ref 79)]) hC d_Tr_settle_1 rfl (by decide) rfl rfl ?_
  refine x_sub (L1 := [(1, .int (nI 0)), (0, .ref 79)]) [0, 1] rfl ?_
  refine mx_loop (N := 3) (Hd := fun g m1 => mx_G Γ κ _ _ 2 [(1, .int (nI g)), (0, .ref 79)] [] (nx, u, m1) 0 0) (fun g => Tr_shared g r) (fun _ m => Tr_ok r m) hok ?_ ?_ ?_
  · exact fun g m hg h => Tr_shared_ok hg hr h
  · intro g m1 hl2 hI3 hN4
    refine x_iload_n (q := 3) hC d_Tr_settle_2 rfl rfl rfl ?_
    refine x_iconst (q := 4) (v := nI 3) hC d_Tr_settle_3 (by decide) rfl ?_
    refine x_icmp_ge (tgt := 18) (q := 7) hC d_Tr_settle_4 (by decide) rfl (fun h => absurd h (nI_ge hl2 (by decide))) (fun _ => ?_)
    refine x_aload_n (q := 8) hC d_Tr_settle_7 rfl rfl rfl ?_
    refine x_iload_n (q := 9) hC d_Tr_settle_8 rfl rfl rfl ?_
    refine x_callV (q := 12) (p := 79) (A := [.int (nI g)]) (S := []) (c1 := 0) (s1 := 0) hC (c_Tr_settleShared (g := g) (r := r) (by omega) hu (by omega) hr hI3) s_Tr_settle_61 rfl (by omega) rfl rfl rfl (Nat.le_of_ble_eq_true rfl) rfl rfl (by decide) (by decide) d_Tr_settle_9 rfl (fun r τ hP => ?_)
    obtain ⟨rfl, rfl⟩ := hP
    show mx_G Γ κ _ _ 12 [(1, .int (nI g)), (0, .ref 79)] [] (nx, u, Tr_shared g r m1) 0 0
    refine x_iinc (q := 15) (y := nI (g + 1)) (L1 := [(1, .int (nI (g + 1))), (0, .ref 79)]) hC d_Tr_settle_12 rfl (mx_inc g) (by decide) rfl rfl ?_
    refine x_goto (tgt := 2) hC d_Tr_settle_15 (by decide) ?_
    exact x_close hN4 [0, 1] rfl (by rfl)
  · intro hx5
    refine mx_nr (fun m6 e7 => ?_)
    try rw [e7] at hx5
    refine x_iload_n (q := 3) hC d_Tr_settle_2 rfl rfl rfl ?_
    refine x_iconst (q := 4) (v := nI 3) hC d_Tr_settle_3 (by decide) rfl ?_
    refine x_icmp_ge (tgt := 18) (q := 7) hC d_Tr_settle_4 (by decide) rfl (fun _ => ?_) (fun h => absurd (nI_le (Nat.le_refl _) (by decide)) h)
    refine x_iconst (q := 19) (v := nI 0) hC d_Tr_settle_18 (by decide) rfl ?_
    refine x_istore_n (q := 20) (L1 := [(1, .int (nI 0)), (0, .ref 79)]) hC d_Tr_settle_19 rfl (by decide) rfl rfl ?_
    refine x_sub (L1 := [(1, .int (nI 0)), (0, .ref 79)]) [0, 1] rfl ?_
    refine mx_loop (N := 6) (Hd := fun s m8 => mx_G Γ κ _ _ 20 [(1, .int (nI s)), (0, .ref 79)] [] (nx, u, m8) 0 0) (fun s => mx_lp 3 (Tr_st1 r s)) (fun _ m => Tr_ok r m) (by assumption) ?_ ?_ ?_
    · exact fun s m hs h => lp_keep (Tr_ok r) 3 h (fun _ _ hg h => Tr_st1_ok hs hg hr h)
    · intro s m8 hl9 hI10 hN11
      have hs' := hl9
      refine x_iload_n (q := 21) hC d_Tr_settle_20 rfl rfl rfl ?_
      refine x_bipush (q := 23) (v := nI 6) hC d_Tr_settle_21 (by decide) rfl ?_
      refine x_icmp_ge (tgt := 57) (q := 26) hC d_Tr_settle_23 (by decide) rfl (fun h => absurd h (nI_ge hl9 (by decide))) (fun _ => ?_)
      refine x_iconst (q := 27) (v := nI 0) hC d_Tr_settle_26 (by decide) rfl ?_
      refine x_istore_n (q := 28) (L1 := [(2, .int (nI 0)), (1, .int (nI s)), (0, .ref 79)]) hC d_Tr_settle_27 rfl (by decide) rfl rfl ?_
      refine x_sub (L1 := [(2, .int (nI 0)), (1, .int (nI s)), (0, .ref 79)]) [0, 1, 2] rfl ?_
      refine mx_loop (N := 3) (Hd := fun g m12 => mx_G Γ κ _ _ 28 [(2, .int (nI g)), (1, .int (nI s)), (0, .ref 79)] [] (nx, u, m12) 0 0) (Tr_st1 r s) (fun _ m => Tr_ok r m) (by assumption) ?_ ?_ ?_
      · exact fun g m hg h => Tr_st1_ok hs' hg hr h
      · intro g m12 hl13 hI14 hN15
        have hg' := hl13
        refine x_iload_n (q := 29) hC d_Tr_settle_28 rfl rfl rfl ?_
        refine x_iconst (q := 30) (v := nI 3) hC d_Tr_settle_29 (by decide) rfl ?_
        refine x_icmp_ge (tgt := 51) (q := 33) hC d_Tr_settle_30 (by decide) rfl (fun h => absurd h (nI_ge hl13 (by decide))) (fun _ => ?_)
        refine x_aload_n (q := 34) hC d_Tr_settle_33 rfl rfl rfl ?_
        refine x_iload_n (q := 35) hC d_Tr_settle_34 rfl rfl rfl ?_
        refine x_iload_n (q := 36) hC d_Tr_settle_35 rfl rfl rfl ?_
        refine x_callV (q := 39) (p := 79) (A := [.int (nI s), .int (nI g)]) (S := []) (c1 := 0) (s1 := 0) hC (c_Tr_settleCuts (s := s) (g := g) (r := r) (by omega) hu (by omega) (by omega) hr hI14) s_Tr_settle_65 rfl (by omega) rfl rfl rfl (Nat.le_of_ble_eq_true rfl) rfl rfl (by decide) (by decide) d_Tr_settle_36 rfl (fun r τ hP => ?_)
        obtain ⟨rfl, rfl⟩ := hP
        show mx_G Γ κ _ _ 39 [(2, .int (nI g)), (1, .int (nI s)), (0, .ref 79)] [] (nx, u, Tr_cuts s g r m12) 0 0
        refine x_aload_n (q := 40) hC d_Tr_settle_39 rfl rfl rfl ?_
        refine x_iload_n (q := 41) hC d_Tr_settle_40 rfl rfl rfl ?_
        refine x_iload_n (q := 42) hC d_Tr_settle_41 rfl rfl rfl ?_
        refine x_callV (q := 45) (p := 79) (A := [.int (nI s), .int (nI g)]) (S := []) (c1 := 0) (s1 := 0) hC (c_Tr_settleSources (s := s) (g := g) (r := r) (by omega) hu (by omega) (by omega) (by subst_vars; exact Tr_cuts_ok hs' hg' hr hI14)) s_Tr_settle_69 rfl (by omega) rfl rfl rfl (Nat.le_of_ble_eq_true rfl) rfl rfl (by decide) (by decide) d_Tr_settle_42 rfl (fun r τ hP => ?_)
        obtain ⟨rfl, rfl⟩ := hP
        show mx_G Γ κ _ _ 45 [(2, .int (nI g)), (1, .int (nI s)), (0, .ref 79)] [] (nx, u, Tr_sources s g (Tr_cuts s g r m12)) 0 0
        refine x_iinc (q := 48) (y := nI (g + 1)) (L1 := [(2, .int (nI (g + 1))), (1, .int (nI s)), (0, .ref 79)]) hC d_Tr_settle_45 rfl (mx_inc g) (by decide) rfl rfl ?_
        refine x_goto (tgt := 28) hC d_Tr_settle_48 (by decide) ?_
        exact x_close hN15 [0, 1, 2] rfl (by rfl)
      · intro hx16
        refine mx_nr (fun m17 e18 => ?_)
        try rw [e18] at hx16
        refine x_iload_n (q := 29) hC d_Tr_settle_28 rfl rfl rfl ?_
        refine x_iconst (q := 30) (v := nI 3) hC d_Tr_settle_29 (by decide) rfl ?_
        refine x_icmp_ge (tgt := 51) (q := 33) hC d_Tr_settle_30 (by decide) rfl (fun _ => ?_) (fun h => absurd (nI_le (Nat.le_refl _) (by decide)) h)
        refine x_iinc (q := 54) (y := nI (s + 1)) (L1 := [(1, .int (nI (s + 1))), (2, .int (nI 3)), (0, .ref 79)]) hC d_Tr_settle_51 rfl (mx_inc s) (by decide) rfl rfl ?_
        refine x_goto (tgt := 20) hC d_Tr_settle_54 (by decide) ?_
        subst e18
        exact x_close hN11 [0, 2] rfl (by rfl)
    · intro hx19
      refine mx_nr (fun m20 e21 => ?_)
      try rw [e21] at hx19
      refine x_iload_n (q := 21) hC d_Tr_settle_20 rfl rfl rfl ?_
      refine x_bipush (q := 23) (v := nI 6) hC d_Tr_settle_21 (by decide) rfl ?_
      refine x_icmp_ge (tgt := 57) (q := 26) hC d_Tr_settle_23 (by decide) rfl (fun _ => ?_) (fun h => absurd (nI_le (Nat.le_refl _) (by decide)) h)
      subst e21
      subst e7
      exact x_vret hC rfl ⟨rfl, by subst_vars; rfl⟩ (by decide) (by decide) d_Tr_settle_57
end
section
/-! packets -/
/-- a counted loop that a test of the memory may end early -/
theorem mx_loopB {N : Nat} {Hd : Nat → mx_Mm → Prop} {Ex : mx_Mm → Prop} (f : Nat → mx_Mm → mx_Mm) (c : Nat → mx_Mm → Prop) (I : Nat → mx_Mm → Prop) {m : mx_Mm} (h0 : I 0 m) (hI : ∀ i m, i < N → I i m → I (i + 1) (f i m)) (hc : ∀ i j m, i ≤ j → j < N → ¬ c i m → f j m = m)
    (hs : ∀ i m, i < N → I i m → (c i m → Hd (i + 1) (f i m)) → (¬ c i m → Ex m) → Hd i m) (hx : ∀ m, I N m → Ex m → Hd N m) (he : Ex (mx_lp N f m)) : Hd 0 m := by
  have hA := mx_lp_inv (f := f) (m := m) N h0 hI
  have hst : ∀ d i, i + d ≤ N → ¬ c i (mx_lp i f m) → mx_lp (i + d) f m = mx_lp i f m := by
    intro d i hd hn
    induction d with
    | zero => rfl
    | succ d ih =>
      show f (i + d) (mx_lp (i + d) f m) = _
      rw [ih (by omega)]
      exact hc i (i + d) _ (by omega) (by omega) hn
  have key : ∀ j, j ≤ N → Hd (N - j) (mx_lp (N - j) f m) := by
    intro j
    induction j with
    | zero => intro _; exact hx _ (hA N (Nat.le_refl _)) he
    | succ j ih =>
      intro hj
      have h1 := ih (by omega)
      have e : N - j = (N - (j + 1)) + 1 := by omega
      rw [e] at h1
      refine hs _ _ (by omega) (hA _ (by omega)) (fun _ => h1) (fun hn => ?_)
      have h2 := hst (j + 1) (N - (j + 1)) (by omega) hn
      rw [show N - (j + 1) + (j + 1) = N by omega] at h2
      rw [← h2]
      exact he
  have := key N (Nat.le_refl _)
  rw [Nat.sub_self] at this
  exact this
def Pa_c1 (n c : Nat) (x : Int32) (m : mx_Mm) : mx_Mm := mx_up (mx_up m 166 c (nI n)) 167 c x
def Pa_carry (n : Nat) (x : Int32) (m : mx_Mm) : mx_Mm := if m 165 7 < nI 6 then mx_up (Pa_c1 n (tn (m 165 7)) x m) 165 7 ((Pa_c1 n (tn (m 165 7)) x m) 165 7 + nI 1) else m
def Pa_side (st s r n : Nat) (m : mx_Mm) : Nat := if hold (m 77 st) n then s else r
def Pa_x1 (m : mx_Mm) : mx_Mm := mx_up m 165 8 (m 165 8 + nI 1)
def Pa_x2 (m : mx_Mm) : mx_Mm := mx_up m 165 9 (m 165 9 + nI 1)
def Pa_xs (st s r q n : Nat) (m : mx_Mm) : mx_Mm := if ¬ n = s ∧ m (21 + n) (Pa_side st s r n m) = nI q then Pa_carry n (nI q) m else Pa_x2 m
def Pa_cross (st s r q n : Nat) (m : mx_Mm) : mx_Mm := Pa_xs st s r q n (Pa_x1 m)
def Pa_list (st q : Nat) (m : mx_Mm) : Int32 := if hold (m 77 st) q then m (146 + st) q else m (127 + st) q
def Pa_po1 (s q : Nat) (x : Int32) (m : mx_Mm) : mx_Mm := if ¬ x &&& nI 64 = 0 ∧ ¬ q = s then mx_up m 165 10 (m 165 10 ||| bit q) else m
def Pa_po2 (st s r q k : Nat) (x : Int32) (n : Nat) (m : mx_Mm) : mx_Mm := if hold x n ∧ ¬ nI n = m 167 k then Pa_cross st s r q n m else m
def Pa_putq (st s r q k : Nat) (m : mx_Mm) : mx_Mm := mx_lp 6 (Pa_po2 st s r q k (Pa_list st q m)) (Pa_po1 s q (Pa_list st q m) m)
def Pa_put (st s r k : Nat) (m : mx_Mm) : mx_Mm := Pa_putq st s r (tn (m 166 k)) k m
def Pa_puts (st s r k : Nat) (m : mx_Mm) : mx_Mm := if nI k < m 165 7 then Pa_put st s r k m else m
def Pa_rnq (st g q : Nat) (m : mx_Mm) : mx_Mm := if ¬ hold (m 77 st) q ∧ m 2 0 < m (43 + q) g then Sm_renew st q m else m
def Pa_rn (st g k : Nat) (m : mx_Mm) : mx_Mm := if nI k < m 165 7 then Pa_rnq st g (tn (m 166 k)) m else m
def Pa_l2 (l : Nat) (m : mx_Mm) : mx_Mm := mx_up m 165 11 (m 165 11 ||| bit l)
def Pa_l1 (l : Nat) (m : mx_Mm) : mx_Mm := if hold (m 165 10) l then (if m 56 l = 0 then Pa_l2 l (La_hear l m) else La_hear l m) else m
def Pa_listen (m : mx_Mm) : mx_Mm := mx_lp 6 Pa_l1 (mx_up m 165 11 (nI 0))
def Pa_j1 (st s : Nat) (m : mx_Mm) : mx_Mm := if ¬ m (146 + st) s = 0 then Sm_over st s m else m
def Pa_j2 (st n : Nat) (m : mx_Mm) : mx_Mm := if m (108 + st) n = -1 then m else Sm_over st n m
def Pa_sj (st s : Nat) (m : mx_Mm) : mx_Mm := mx_lp 6 (Pa_j2 st) (Pa_j1 st s (Sm_renew st s m))
abbrev Pa_rc (st s r : Nat) (m : mx_Mm) : Prop := ¬ s = r ∧ m (14 + s) r < nI 1000 ∧ ¬ m 2 0 < m 78 st
def Pa_r3 (st : Nat) (m : mx_Mm) : mx_Mm := mx_up m 78 st (m 2 0 + nI 6)
def Pa_r2 (st r : Nat) (m : mx_Mm) : mx_Mm := if hold (m 77 st) r ∨ m (146 + st) r = 0 then Pa_r3 st (Tr_cnt 7 m) else m
def Pa_reg (st s r : Nat) (m : mx_Mm) : mx_Mm := if Pa_rc st s r m then Pa_r2 st r (Sm_renew st r (Tr_cnt 6 m)) else m
def Pa_d0 (s g : Nat) (m : mx_Mm) : mx_Mm := mx_up m 165 10 (if m 2 0 < m (43 + s) g then bit s else nI 0)
def Pa_z (m : mx_Mm) : mx_Mm := mx_up (mx_up (mx_up m 165 7 (nI 0)) 165 8 (nI 0)) 165 9 (nI 0)
def Pa_d3 (st s : Nat) (m : mx_Mm) : mx_Mm := if ¬ m (146 + st) s = 0 then Pa_carry s (-1) m else m
def Pa_d4 (st r : Nat) (b : Prop) [Decidable b] (m : mx_Mm) : mx_Mm := if b ∧ ¬ hold (m 77 st) r then Pa_carry r (-1) m else m
def Pa_dA (st s r : Nat) (m : mx_Mm) : mx_Mm := Pa_d4 st r (Pa_rc st s r m) (Pa_d3 st s (Pa_reg st s r m))
def Pa_dB (st s r g : Nat) (m : mx_Mm) : mx_Mm := Pa_listen (mx_lp 6 (Pa_rn st g) (mx_lp 6 (Pa_puts st s r) m))
def Pa_disp (s g r : Nat) (m : mx_Mm) : mx_Mm := Pa_dB (s * 3 + g) s r g (Pa_dA (s * 3 + g) s r (Pa_sj (s * 3 + g) s (Pa_d0 s g (Pa_z m))))
def Pa_ok (r : Nat) (m : mx_Mm) : Prop := m 79 0 = nI r ∧ (∃ c, c ≤ 6 ∧ m 165 7 = nI c) ∧ ∀ k, k < 6 → ∃ j, j < 6 ∧ m 166 k = nI j
theorem Pa_ok.upP {r : Nat} {m : mx_Mm} (h : Pa_ok r m) {p k : Nat} {x : Int32} (hp : p ≠ 79 ∧ p ≠ 166 ∧ (p ≠ 165 ∨ k ≠ 7)) : Pa_ok r (mx_up m p k x) := by
  obtain ⟨h1, ⟨c, hc, h2⟩, h3⟩ := h
  exact ⟨by rw [up_neP (by omega)]; exact h1, ⟨c, hc, by rw [up_ne (by omega)]; exact h2⟩, fun j hj => by rw [up_neP (by omega)]; exact h3 j hj⟩
theorem Pa_ok.c {r : Nat} {m : mx_Mm} (h : Pa_ok r m) : m 165 7 = nI (tn (m 165 7)) ∧ tn (m 165 7) ≤ 6 := by
  obtain ⟨-, ⟨c, hc, h2⟩, -⟩ := h
  have e : tn (m 165 7) = c := by rw [h2]; exact tn_nI (by omega)
  rw [e]
  exact ⟨h2, hc⟩
theorem Pa_ok.q {r : Nat} {m : mx_Mm} (h : Pa_ok r m) {k : Nat} (hk : k < 6) : ∃ q, q < 6 ∧ m 166 k = nI q ∧ tn (m 166 k) = q := by
  obtain ⟨q, hq, e⟩ := h.2.2 k hk
  exact ⟨q, hq, e, by rw [e]; exact tn_nI (by omega)⟩
theorem Pa_carry_ok {r n : Nat} {x : Int32} {m : mx_Mm} (hn : n < 6) (h : Pa_ok r m) : Pa_ok r (Pa_carry n x m) := by
  unfold Pa_carry
  split
  next hlt =>
    obtain ⟨ec, hc⟩ := h.c
    obtain ⟨h1, -, h3⟩ := h
    have hc6 : tn (m 165 7) < 6 := by
      rw [ec] at hlt
      exact (nI_ltI (by omega) (by decide)).mp hlt
    refine ⟨by simp [Pa_c1, mx_up]; exact h1, ⟨tn (m 165 7) + 1, by omega, ?_⟩, fun k hk => ?_⟩
    · rw [up_same]
      have e1 : (Pa_c1 n (tn (m 165 7)) x m) 165 7 = nI (tn (m 165 7)) := by
        rw [Pa_c1, up_neP (by decide), up_neP (by decide)]
        exact ec
      rw [e1, nI_add]
    · rw [up_neP (by decide), Pa_c1, up_neP (by decide)]
      by_cases e : k = tn (m 165 7)
      · rw [e, up_same]; exact ⟨n, hn, rfl⟩
      · rw [up_neK e]; exact h3 k hk
  next => exact h
theorem Pa_x1_ok {r : Nat} {m : mx_Mm} (h : Pa_ok r m) : Pa_ok r (Pa_x1 m) := h.upP (by decide)
theorem Pa_x2_ok {r : Nat} {m : mx_Mm} (h : Pa_ok r m) : Pa_ok r (Pa_x2 m) := h.upP (by decide)
theorem Pa_cross_ok {r st s r' q n : Nat} {m : mx_Mm} (hn : n < 6) (h : Pa_ok r m) : Pa_ok r (Pa_cross st s r' q n m) := by
  unfold Pa_cross Pa_xs
  split
  · exact Pa_carry_ok hn (Pa_x1_ok h)
  · exact Pa_x2_ok (Pa_x1_ok h)
theorem Pa_po1_ok {r s q : Nat} {x : Int32} {m : mx_Mm} (h : Pa_ok r m) : Pa_ok r (Pa_po1 s q x m) := by
  unfold Pa_po1
  split
  · exact h.upP (by decide)
  · exact h
theorem Pa_po2_ok {r st s r' q k : Nat} {x : Int32} {n : Nat} {m : mx_Mm} (hn : n < 6) (h : Pa_ok r m) : Pa_ok r (Pa_po2 st s r' q k x n m) := by
  unfold Pa_po2
  split
  · exact Pa_cross_ok hn h
  · exact h
theorem Pa_put_ok {r st s r' k : Nat} {m : mx_Mm} (h : Pa_ok r m) : Pa_ok r (Pa_put st s r' k m) := lp_keep (Pa_ok r) 6 (Pa_po1_ok h) (fun _ _ hn h => Pa_po2_ok hn h)
theorem Pa_puts_ok {r st s r' k : Nat} {m : mx_Mm} (h : Pa_ok r m) : Pa_ok r (Pa_puts st s r' k m) := by
  unfold Pa_puts
  split
  · exact Pa_put_ok h
  · exact h
theorem Pa_renew_ok {r st n : Nat} {m : mx_Mm} (hst : st < 18) (h : Pa_ok r m) : Pa_ok r (Sm_renew st n m) := h.upP (by omega)
theorem Pa_over_ok {r st n : Nat} {m : mx_Mm} (hst : st < 18) (h : Pa_ok r m) : Pa_ok r (Sm_over st n m) := (Pa_renew_ok hst h).upP (by omega)
theorem Pa_rn_ok {r st g k : Nat} {m : mx_Mm} (hst : st < 18) (h : Pa_ok r m) : Pa_ok r (Pa_rn st g k m) := by
  unfold Pa_rn Pa_rnq
  split
  · split
    · exact Pa_renew_ok hst h
    · exact h
  · exact h
theorem Pa_hear_ok {r l : Nat} {m : mx_Mm} (h : Pa_ok r m) : Pa_ok r (La_hear l m) := by
  unfold La_hear
  split
  · exact h
  · exact h.upP (by omega)
theorem Pa_l1_ok {r l : Nat} {m : mx_Mm} (h : Pa_ok r m) : Pa_ok r (Pa_l1 l m) := by
  unfold Pa_l1 Pa_l2
  split
  · split
    · exact (Pa_hear_ok h).upP (by decide)
    · exact Pa_hear_ok h
  · exact h
theorem Pa_listen_ok {r : Nat} {m : mx_Mm} (h : Pa_ok r m) : Pa_ok r (Pa_listen m) := lp_keep (Pa_ok r) 6 (h.upP (by decide)) (fun _ _ _ h => Pa_l1_ok h)
theorem Pa_sj_ok {r st s : Nat} {m : mx_Mm} (hst : st < 18) (h : Pa_ok r m) : Pa_ok r (Pa_sj st s m) := by
  refine lp_keep (Pa_ok r) 6 ?_ (fun _ _ _ h => ?_)
  · unfold Pa_j1
    split
    · exact Pa_over_ok hst (Pa_renew_ok hst h)
    · exact Pa_renew_ok hst h
  · unfold Pa_j2
    split
    · exact h
    · exact Pa_over_ok hst h
theorem Pa_reg_ok {r st s r' : Nat} {m : mx_Mm} (hst : st < 18) (h : Pa_ok r m) : Pa_ok r (Pa_reg st s r' m) := by
  have hc : ∀ {k : Nat} {m : mx_Mm}, Pa_ok r m → Pa_ok r (Tr_cnt k m) := fun h => h.upP (by omega)
  unfold Pa_reg Pa_r2 Pa_r3
  split
  · split
    · exact (hc (Pa_renew_ok hst (hc h))).upP (by omega)
    · exact Pa_renew_ok hst (hc h)
  · exact h
theorem Pa_z_ok {r : Nat} {m : mx_Mm} (h : Pa_ok r m) : Pa_ok r (Pa_z m) := by
  have h1 : Pa_ok r (mx_up m 165 7 (nI 0)) := ⟨by rw [up_neP (by decide)]; exact h.1, ⟨0, by decide, up_same _ _ _ _⟩, fun k hk => by rw [up_neP (by decide)]; exact h.2.2 k hk⟩
  exact (h1.upP (by decide)).upP (by decide)
theorem Pa_d0_ok {r s g : Nat} {m : mx_Mm} (h : Pa_ok r m) : Pa_ok r (Pa_d0 s g m) := h.upP (by decide)
theorem Pa_d3_ok {r st s : Nat} {m : mx_Mm} (hs : s < 6) (h : Pa_ok r m) : Pa_ok r (Pa_d3 st s m) := by
  unfold Pa_d3
  split
  · exact Pa_carry_ok hs h
  · exact h
theorem Pa_d4_ok {r st r' : Nat} {b : Prop} [Decidable b] {m : mx_Mm} (hr : r' < 6) (h : Pa_ok r m) : Pa_ok r (Pa_d4 st r' b m) := by
  unfold Pa_d4
  split
  · exact Pa_carry_ok hr h
  · exact h
theorem Pa_dA_ok {r st s : Nat} {m : mx_Mm} (hst : st < 18) (hs : s < 6) (hr : r < 6) (h : Pa_ok r m) : Pa_ok r (Pa_dA st s r m) := Pa_d4_ok hr (Pa_d3_ok hs (Pa_reg_ok hst h))
theorem Pa_dB_ok {r st s g : Nat} {m : mx_Mm} (hst : st < 18) (h : Pa_ok r m) : Pa_ok r (Pa_dB st s r g m) := Pa_listen_ok (lp_keep (Pa_ok r) 6 (lp_keep (Pa_ok r) 6 h (fun _ _ _ h => Pa_puts_ok h)) (fun _ _ _ h => Pa_rn_ok hst h))
theorem Pa_disp_ok {s g r : Nat} {m : mx_Mm} (hs : s < 6) (hg : g < 3) (hr : r < 6) (h : Pa_ok r m) : Pa_ok r (Pa_disp s g r m) := Pa_dB_ok (by omega) (Pa_dA_ok (by omega) hs hr (Pa_sj_ok (by omega) (Pa_d0_ok (Pa_z_ok h))))
theorem Pa_stay {i j : Nat} {x : Int32} (hij : i ≤ j) (hj : j < 6) (hn : ¬ nI i < x) : ¬ nI j < x := fun h => hn (Int32.lt_of_le_of_lt (nI_le hij (by omega)) h)
end
section
set_option maxRecDepth 100000 in
set_option maxHeartbeats 400000 in
theorem c_Pa_crossingCount {Γ : mx_X} {lau : Launch} {nx : Nat} {u : Nat → Nat → Bool} {mi : mx_Mm}  (hnx : 168 ≤ nx) (hu : ∀ p k, 2 ≤ p → u p k = true)  : mx_C Γ lau M_Pa_crossingCount [.ref 165] (nx, u, mi) (fun ρ τ => ρ = some (.int (mi 165 8)) ∧ τ = (nx, u, mi)) := by
  refine mx_C.intro (by decide) rfl (Nat.le_of_ble_eq_true rfl) (fun κ _ hC => ?_)
  show mx_G Γ κ _ _ 0 [(0, .ref 165)] [] (nx, u, mi) 0 0
  refine x_aload_n (q := 1) hC d_Pa_crossingCount_0 rfl rfl rfl ?_
  refine x_geti (q := 4) (p := 165) (j := 8) hC f_Pa_22 rfl rfl (by omega) d_Pa_crossingCount_1 rfl ?_
  exact x_iret hC rfl rfl ⟨rfl, rfl⟩ (by decide) (by decide) d_Pa_crossingCount_4
set_option maxRecDepth 100000 in
set_option maxHeartbeats 400000 in
theorem c_Pa_dropCount {Γ : mx_X} {lau : Launch} {nx : Nat} {u : Nat → Nat → Bool} {mi : mx_Mm}  (hnx : 168 ≤ nx) (hu : ∀ p k, 2 ≤ p → u p k = true)  : mx_C Γ lau M_Pa_dropCount [.ref 165] (nx, u, mi) (fun ρ τ => ρ = some (.int (mi 165 9)) ∧ τ = (nx, u, mi)) := by
  refine mx_C.intro (by decide) rfl (Nat.le_of_ble_eq_true rfl) (fun κ _ hC => ?_)
  show mx_G Γ κ _ _ 0 [(0, .ref 165)] [] (nx, u, mi) 0 0
  refine x_aload_n (q := 1) hC d_Pa_dropCount_0 rfl rfl rfl ?_
  refine x_geti (q := 4) (p := 165) (j := 9) hC f_Pa_25 rfl rfl (by omega) d_Pa_dropCount_1 rfl ?_
  exact x_iret hC rfl rfl ⟨rfl, rfl⟩ (by decide) (by decide) d_Pa_dropCount_4
set_option maxRecDepth 100000 in
set_option maxHeartbeats 400000 in
theorem c_Pa_reachedLans {Γ : mx_X} {lau : Launch} {nx : Nat} {u : Nat → Nat → Bool} {mi : mx_Mm}  (hnx : 168 ≤ nx) (hu : ∀ p k, 2 ≤ p → u p k = true)  : mx_C Γ lau M_Pa_reachedLans [.ref 165] (nx, u, mi) (fun ρ τ => ρ = some (.int (mi 165 10)) ∧ τ = (nx, u, mi)) := by
  refine mx_C.intro (by decide) rfl (Nat.le_of_ble_eq_true rfl) (fun κ _ hC => ?_)
  show mx_G Γ κ _ _ 0 [(0, .ref 165)] [] (nx, u, mi) 0 0
  refine x_aload_n (q := 1) hC d_Pa_reachedLans_0 rfl rfl rfl ?_
  refine x_geti (q := 4) (p := 165) (j := 10) hC f_Pa_28 rfl rfl (by omega) d_Pa_reachedLans_1 rfl ?_
  exact x_iret hC rfl rfl ⟨rfl, rfl⟩ (by decide) (by decide) d_Pa_reachedLans_4
set_option maxRecDepth 100000 in
set_option maxHeartbeats 400000 in
theorem c_Pa_heardBy {Γ : mx_X} {lau : Launch} {nx : Nat} {u : Nat → Nat → Bool} {mi : mx_Mm}  (hnx : 168 ≤ nx) (hu : ∀ p k, 2 ≤ p → u p k = true)  : mx_C Γ lau M_Pa_heardBy [.ref 165] (nx, u, mi) (fun ρ τ => ρ = some (.int (mi 165 11)) ∧ τ = (nx, u, mi)) := by
  refine mx_C.intro (by decide) rfl (Nat.le_of_ble_eq_true rfl) (fun κ _ hC => ?_)
  show mx_G Γ κ _ _ 0 [(0, .ref 165)] [] (nx, u, mi) 0 0
  refine x_aload_n (q := 1) hC d_Pa_heardBy_0 rfl rfl rfl ?_
  refine x_geti (q := 4) (p := 165) (j := 11) hC f_Pa_31 rfl rfl (by omega) d_Pa_heardBy_1 rfl ?_
  exact x_iret hC rfl rfl ⟨rfl, rfl⟩ (by decide) (by decide) d_Pa_heardBy_4
set_option maxRecDepth 100000 in
set_option maxHeartbeats 400000 in
theorem c_Pa_carry {Γ : mx_X} {lau : Launch} {nx : Nat} {u : Nat → Nat → Bool} {mi : mx_Mm} {n r : Nat} {x : Int32} (hnx : 168 ≤ nx) (hu : ∀ p k, 2 ≤ p → u p k = true) (hok : Pa_ok r mi) : mx_C Γ lau M_Pa_carry [.ref 165, .int (nI n), .int x] (nx, u, mi) (fun ρ τ => ρ = none ∧ τ = (nx, u, Pa_carry n x mi)) := by
  refine mx_C.intro (by decide) rfl (Nat.le_of_ble_eq_true rfl) (fun κ _ hC => ?_)
  show mx_G Γ κ _ _ 0 [(0, .ref 165), (1, .int (nI n)), (2, .int x)] [] (nx, u, mi) 0 0
  obtain ⟨ec, hc⟩ := hok.c
  refine x_aload_n (q := 1) hC d_Pa_carry_0 rfl rfl rfl ?_
  refine x_geti (q := 4) (p := 165) (j := 7) hC f_Pa_18 rfl rfl (by omega) d_Pa_carry_1 rfl ?_
  refine x_bipush (q := 6) (v := nI 6) hC d_Pa_carry_4 (by decide) rfl ?_
  refine x_icmp_lt (tgt := 10) (q := 9) hC d_Pa_carry_6 (by decide) rfl (fun h6 => ?_) (fun h6 => ?_)
  · skip
    have h6c : tn (mi 165 7) < 6 := by have h6' := h6; rw [show (nx, u, mi).2.2 165 7 = nI (tn (mi 165 7)) from ec] at h6'; exact (nI_ltI (by omega) (by decide)).mp h6'
    refine x_aload_n (q := 11) hC d_Pa_carry_10 rfl rfl rfl ?_
    refine x_getr (q := 14) (p := 165) (j := 5) (r := 166) hC f_Pa_9 rfl rfl rfl (by omega) (hu _ _ (by decide)) d_Pa_carry_11 rfl ?_
    refine x_aload_n (q := 15) hC d_Pa_carry_14 rfl rfl rfl ?_
    refine x_geti (q := 18) (p := 165) (j := 7) hC f_Pa_18 rfl rfl (by omega) d_Pa_carry_15 rfl ?_
    refine x_iload_n (q := 19) hC d_Pa_carry_18 rfl rfl rfl ?_
    refine x_iast (q := 20) (p := 166) hC (tn (mi 165 7)) rfl (by omega) (by omega) ec h6c (by decide) d_Pa_carry_19 rfl ?_
    refine x_aload_n (q := 21) hC d_Pa_carry_20 rfl rfl rfl ?_
    refine x_getr (q := 24) (p := 165) (j := 6) (r := 167) hC f_Pa_15 rfl rfl rfl (by omega) (hu _ _ (by decide)) d_Pa_carry_21 rfl ?_
    refine x_aload_n (q := 25) hC d_Pa_carry_24 rfl rfl rfl ?_
    refine x_geti (q := 28) (p := 165) (j := 7) hC f_Pa_18 rfl rfl (by omega) d_Pa_carry_25 rfl ?_
    refine x_iload_n (q := 29) hC d_Pa_carry_28 rfl rfl rfl ?_
    refine x_iast (q := 30) (p := 167) hC (tn (mi 165 7)) rfl (by omega) (by omega) (by show mx_up mi 166 (tn (mi 165 7)) (nI n) 165 7 = nI (tn (mi 165 7)); rw [up_neP (by decide)]; exact ec) h6c (by decide) d_Pa_carry_29 rfl ?_
    refine mx_nr (fun m1 e2 => ?_)
    refine x_aload_n (q := 31) hC d_Pa_carry_30 rfl rfl rfl ?_
    refine x_dup (q := 32) hC d_Pa_carry_31 rfl rfl ?_
    refine x_geti (q := 35) (p := 165) (j := 7) hC f_Pa_18 rfl rfl (by omega) d_Pa_carry_32 rfl ?_
    refine x_iconst (q := 36) (v := nI 1) hC d_Pa_carry_35 (by decide) rfl ?_
    refine x_iadd (q := 37) (z := (m1 165 7) + (nI 1)) hC d_Pa_carry_36 rfl rfl ?_
    refine x_puti (q := 40) (p := 165) (j := 7) hC f_Pa_18 y_Pa rfl rfl rfl rfl rfl (by omega) (by decide) d_Pa_carry_37 rfl ?_
    subst e2
    exact x_vret hC rfl ⟨rfl, by first | exact pr (it_f h6 rfl) | exact pr (it_t h6 rfl)⟩ (by decide) (by decide) d_Pa_carry_40
  · skip
    exact x_vret hC rfl ⟨rfl, by first | exact pr (it_f h6 rfl) | exact pr (it_t h6 rfl)⟩ (by decide) (by decide) d_Pa_carry_9
set_option maxRecDepth 100000 in
set_option maxHeartbeats 400000 in
theorem c_Pa_cross {Γ : mx_X} {lau : Launch} {nx : Nat} {u : Nat → Nat → Bool} {mi : mx_Mm} {st s q n r : Nat} (hnx : 168 ≤ nx) (hu : ∀ p k, 2 ≤ p → u p k = true) (hst : st < 18) (hs : s < 6) (hq : q < 6) (hn : n < 6) (hr : r < 6) (hok : Pa_ok r mi) : mx_C Γ lau M_Pa_cross [.ref 165, .int (nI st), .int (nI s), .int (nI q), .int (nI n)] (nx, u, mi) (fun ρ τ => ρ = none ∧ τ = (nx, u, Pa_cross st s r q n mi)) := by
  refine mx_C.intro (by decide) rfl (Nat.le_of_ble_eq_true rfl) (fun κ _ hC => ?_)
  show mx_G Γ κ _ _ 0 [(0, .ref 165), (1, .int (nI st)), (2, .int (nI s)), (3, .int (nI q)), (4, .int (nI n))] [] (nx, u, mi) 0 0
  refine x_aload_n (q := 1) hC d_Pa_cross_0 rfl rfl rfl ?_
  refine x_dup (q := 2) hC d_Pa_cross_1 rfl rfl ?_
  refine x_geti (q := 5) (p := 165) (j := 8) hC f_Pa_22 rfl rfl (by omega) d_Pa_cross_2 rfl ?_
  refine x_iconst (q := 6) (v := nI 1) hC d_Pa_cross_5 (by decide) rfl ?_
  refine x_iadd (q := 7) (z := (mi 165 8) + (nI 1)) hC d_Pa_cross_6 rfl rfl ?_
  refine x_puti (q := 10) (p := 165) (j := 8) hC f_Pa_22 y_Pa rfl rfl rfl rfl rfl (by omega) (by decide) d_Pa_cross_7 rfl ?_
  refine mx_nr (fun mX eX => ?_)
  have eX' : Pa_x1 mi = mX := eX
  have hX : Pa_ok r mX := eX' ▸ Pa_x1_ok hok
  refine x_aload_n (q := 11) hC d_Pa_cross_10 rfl rfl rfl ?_
  refine x_getr (q := 14) (p := 165) (j := 2) (r := 57) hC f_Pa_42 rfl rfl rfl (by omega) (hu _ _ (by decide)) d_Pa_cross_11 rfl ?_
  refine x_iload_n (q := 15) hC d_Pa_cross_14 rfl rfl rfl ?_
  refine x_iload (q := 17) hC d_Pa_cross_15 rfl rfl ?_
  refine x_callV (q := 20) (p := 57) (A := [.int (nI st), .int (nI n)]) (S := []) (c1 := 0) (s1 := 0) hC (c_Sm_isSwitched (s := st) (n := n) (by omega) hu (by omega) (by omega) ) s_Pa_cross_83 rfl (by omega) rfl rfl rfl (Nat.le_of_ble_eq_true rfl) rfl rfl (by decide) (by decide) d_Pa_cross_17 rfl (fun r τ hP => ?_)
  obtain ⟨rfl, rfl⟩ := hP
  show mx_G Γ κ _ _ 20 [(0, .ref 165), (1, .int (nI st)), (2, .int (nI s)), (3, .int (nI q)), (4, .int (nI n))] [.int (bz (hold (mX 77 st) n))] (nx, u, mX) 0 0
  refine x_if_eq (tgt := 27) (q := 23) hC d_Pa_cross_20 (by decide) rfl (fun h20 => ?_) (fun h20 => ?_)
  · have h20 := bz_0 h20
    refine x_aload_n (q := 28) hC d_Pa_cross_27 rfl rfl rfl ?_
    refine x_getr (q := 31) (p := 165) (j := 3) (r := 79) hC f_Pa_46 rfl rfl rfl (by omega) (hu _ _ (by decide)) d_Pa_cross_28 rfl ?_
    refine x_callV (q := 34) (p := 79) (A := []) (S := []) (c1 := 0) (s1 := 0) hC (c_Tr_meetingPoint  (by omega) hu  ) s_Pa_cross_79 rfl (by omega) rfl rfl rfl (Nat.le_of_ble_eq_true rfl) rfl rfl (by decide) (by decide) d_Pa_cross_31 rfl (fun r τ hP => ?_)
    obtain ⟨rfl, rfl⟩ := hP
    show mx_G Γ κ _ _ 34 [(0, .ref 165), (1, .int (nI st)), (2, .int (nI s)), (3, .int (nI q)), (4, .int (nI n))] [.int (mX 79 0)] (nx, u, mX) 0 0
    refine mx_eqG (S1 := [.int (nI r)]) rfl (by exact congrArg (fun z => Value.int z :: ([] : List Value)) (show mX 79 0 = nI r from hX.1)) rfl ?_
    refine x_istore (q := 36) (L1 := [(5, .int (nI r)), (0, .ref 165), (1, .int (nI st)), (2, .int (nI s)), (3, .int (nI q)), (4, .int (nI n))]) hC d_Pa_cross_34 (by decide) rfl rfl ?_
    refine x_iload (q := 38) hC d_Pa_cross_36 rfl rfl ?_
    refine x_iload_n (q := 39) hC d_Pa_cross_38 rfl rfl rfl ?_
    refine x_icmp_eq (tgt := 67) (q := 42) hC d_Pa_cross_39 (by decide) rfl (fun h39 => ?_) (fun h39 => ?_)
    · skip
      refine x_aload_n (q := 68) hC d_Pa_cross_67 rfl rfl rfl ?_
      refine x_dup (q := 69) hC d_Pa_cross_68 rfl rfl ?_
      refine x_geti (q := 72) (p := 165) (j := 9) hC f_Pa_25 rfl rfl (by omega) d_Pa_cross_69 rfl ?_
      refine x_iconst (q := 73) (v := nI 1) hC d_Pa_cross_72 (by decide) rfl ?_
      refine x_iadd (q := 74) (z := (mX 165 9) + (nI 1)) hC d_Pa_cross_73 rfl rfl ?_
      refine x_puti (q := 77) (p := 165) (j := 9) hC f_Pa_25 y_Pa rfl rfl rfl rfl rfl (by omega) (by decide) d_Pa_cross_74 rfl ?_
      exact x_vret hC rfl ⟨rfl, pr (by show _ = Pa_xs st s r q n (Pa_x1 mi); rw [eX']; unfold Pa_xs; exact it_f (fun z => z.1 ((nI_eq (by omega) (by omega)).mp h39)) rfl)⟩ (by decide) (by decide) d_Pa_cross_77
    · skip
      refine x_aload_n (q := 43) hC d_Pa_cross_42 rfl rfl rfl ?_
      refine x_getr (q := 46) (p := 165) (j := 0) (r := 5) hC f_Pa_34 rfl rfl rfl (by omega) (hu _ _ (by decide)) d_Pa_cross_43 rfl ?_
      refine x_iload (q := 48) hC d_Pa_cross_46 rfl rfl ?_
      refine x_iload (q := 50) hC d_Pa_cross_48 rfl rfl ?_
      refine x_callV (q := 53) (p := 5) (A := [.int (nI n), .int (nI r)]) (S := []) (c1 := 0) (s1 := 0) hC (c_Ne_nextTowards (a := n) (b := r) (by omega) hu (by omega) (by omega)) s_Pa_cross_135 rfl (by omega) rfl rfl rfl (Nat.le_of_ble_eq_true rfl) rfl rfl (by decide) (by decide) d_Pa_cross_50 rfl (fun r τ hP => ?_)
      obtain ⟨rfl, rfl⟩ := hP
      show mx_G Γ κ _ _ 53 [(5, .int (nI r)), (0, .ref 165), (1, .int (nI st)), (2, .int (nI s)), (3, .int (nI q)), (4, .int (nI n))] [.int (mX (21 + n) r)] (nx, u, mX) 0 0
      refine x_iload_n (q := 54) hC d_Pa_cross_53 rfl rfl rfl ?_
      refine x_icmp_ne (tgt := 67) (q := 57) hC d_Pa_cross_54 (by decide) rfl (fun h54 => ?_) (fun h54 => ?_)
      · skip
        refine x_aload_n (q := 68) hC d_Pa_cross_67 rfl rfl rfl ?_
        refine x_dup (q := 69) hC d_Pa_cross_68 rfl rfl ?_
        refine x_geti (q := 72) (p := 165) (j := 9) hC f_Pa_25 rfl rfl (by omega) d_Pa_cross_69 rfl ?_
        refine x_iconst (q := 73) (v := nI 1) hC d_Pa_cross_72 (by decide) rfl ?_
        refine x_iadd (q := 74) (z := (mX 165 9) + (nI 1)) hC d_Pa_cross_73 rfl rfl ?_
        refine x_puti (q := 77) (p := 165) (j := 9) hC f_Pa_25 y_Pa rfl rfl rfl rfl rfl (by omega) (by decide) d_Pa_cross_74 rfl ?_
        exact x_vret hC rfl ⟨rfl, pr (by show _ = Pa_xs st s r q n (Pa_x1 mi); rw [eX']; unfold Pa_xs; refine it_f (fun z => ?_) rfl; have z2 := z.2; rw [Pa_side, if_neg h20] at z2; exact h54 z2)⟩ (by decide) (by decide) d_Pa_cross_77
      · skip
        refine x_aload_n (q := 58) hC d_Pa_cross_57 rfl rfl rfl ?_
        refine x_iload (q := 60) hC d_Pa_cross_58 rfl rfl ?_
        refine x_iload_n (q := 61) hC d_Pa_cross_60 rfl rfl rfl ?_
        refine x_callV (q := 64) (p := 165) (A := [.int (nI n), .int (nI q)]) (S := []) (c1 := 0) (s1 := 0) hC (c_Pa_carry (n := n) (r := r) (x := nI q) (by omega) hu hX) s_Pa_cross_76 rfl (by omega) rfl rfl rfl (Nat.le_of_ble_eq_true rfl) rfl rfl (by decide) (by decide) d_Pa_cross_61 rfl (fun r τ hP => ?_)
        obtain ⟨rfl, rfl⟩ := hP
        show mx_G Γ κ _ _ 64 [(5, .int (nI r)), (0, .ref 165), (1, .int (nI st)), (2, .int (nI s)), (3, .int (nI q)), (4, .int (nI n))] [] (nx, u, Pa_carry n (nI q) mX) 0 0
        refine x_goto (tgt := 77) hC d_Pa_cross_64 (by decide) ?_
        exact x_vret hC rfl ⟨rfl, pr (by show _ = Pa_xs st s r q n (Pa_x1 mi); rw [eX']; unfold Pa_xs; refine it_t (And.intro (fun z => h39 (by rw [z])) ?_) rfl; rw [Pa_side, if_neg h20]; exact h54)⟩ (by decide) (by decide) d_Pa_cross_77
  · have h20 := bz_1 h20
    refine x_iload_n (q := 24) hC d_Pa_cross_23 rfl rfl rfl ?_
    refine x_goto (tgt := 34) hC d_Pa_cross_24 (by decide) ?_
    refine x_istore (q := 36) (L1 := [(5, .int (nI s)), (0, .ref 165), (1, .int (nI st)), (2, .int (nI s)), (3, .int (nI q)), (4, .int (nI n))]) hC d_Pa_cross_34 (by decide) rfl rfl ?_
    refine x_iload (q := 38) hC d_Pa_cross_36 rfl rfl ?_
    refine x_iload_n (q := 39) hC d_Pa_cross_38 rfl rfl rfl ?_
    refine x_icmp_eq (tgt := 67) (q := 42) hC d_Pa_cross_39 (by decide) rfl (fun h39 => ?_) (fun h39 => ?_)
    · skip
      refine x_aload_n (q := 68) hC d_Pa_cross_67 rfl rfl rfl ?_
      refine x_dup (q := 69) hC d_Pa_cross_68 rfl rfl ?_
      refine x_geti (q := 72) (p := 165) (j := 9) hC f_Pa_25 rfl rfl (by omega) d_Pa_cross_69 rfl ?_
      refine x_iconst (q := 73) (v := nI 1) hC d_Pa_cross_72 (by decide) rfl ?_
      refine x_iadd (q := 74) (z := (mX 165 9) + (nI 1)) hC d_Pa_cross_73 rfl rfl ?_
      refine x_puti (q := 77) (p := 165) (j := 9) hC f_Pa_25 y_Pa rfl rfl rfl rfl rfl (by omega) (by decide) d_Pa_cross_74 rfl ?_
      exact x_vret hC rfl ⟨rfl, pr (by show _ = Pa_xs st s r q n (Pa_x1 mi); rw [eX']; unfold Pa_xs; exact it_f (fun z => z.1 ((nI_eq (by omega) (by omega)).mp h39)) rfl)⟩ (by decide) (by decide) d_Pa_cross_77
    · skip
      refine x_aload_n (q := 43) hC d_Pa_cross_42 rfl rfl rfl ?_
      refine x_getr (q := 46) (p := 165) (j := 0) (r := 5) hC f_Pa_34 rfl rfl rfl (by omega) (hu _ _ (by decide)) d_Pa_cross_43 rfl ?_
      refine x_iload (q := 48) hC d_Pa_cross_46 rfl rfl ?_
      refine x_iload (q := 50) hC d_Pa_cross_48 rfl rfl ?_
      refine x_callV (q := 53) (p := 5) (A := [.int (nI n), .int (nI s)]) (S := []) (c1 := 0) (s1 := 0) hC (c_Ne_nextTowards (a := n) (b := s) (by omega) hu (by omega) (by omega)) s_Pa_cross_135 rfl (by omega) rfl rfl rfl (Nat.le_of_ble_eq_true rfl) rfl rfl (by decide) (by decide) d_Pa_cross_50 rfl (fun r τ hP => ?_)
      obtain ⟨rfl, rfl⟩ := hP
      show mx_G Γ κ _ _ 53 [(5, .int (nI s)), (0, .ref 165), (1, .int (nI st)), (2, .int (nI s)), (3, .int (nI q)), (4, .int (nI n))] [.int (mX (21 + n) s)] (nx, u, mX) 0 0
      refine x_iload_n (q := 54) hC d_Pa_cross_53 rfl rfl rfl ?_
      refine x_icmp_ne (tgt := 67) (q := 57) hC d_Pa_cross_54 (by decide) rfl (fun h54 => ?_) (fun h54 => ?_)
      · skip
        refine x_aload_n (q := 68) hC d_Pa_cross_67 rfl rfl rfl ?_
        refine x_dup (q := 69) hC d_Pa_cross_68 rfl rfl ?_
        refine x_geti (q := 72) (p := 165) (j := 9) hC f_Pa_25 rfl rfl (by omega) d_Pa_cross_69 rfl ?_
        refine x_iconst (q := 73) (v := nI 1) hC d_Pa_cross_72 (by decide) rfl ?_
        refine x_iadd (q := 74) (z := (mX 165 9) + (nI 1)) hC d_Pa_cross_73 rfl rfl ?_
        refine x_puti (q := 77) (p := 165) (j := 9) hC f_Pa_25 y_Pa rfl rfl rfl rfl rfl (by omega) (by decide) d_Pa_cross_74 rfl ?_
        exact x_vret hC rfl ⟨rfl, pr (by show _ = Pa_xs st s r q n (Pa_x1 mi); rw [eX']; unfold Pa_xs; refine it_f (fun z => ?_) rfl; have z2 := z.2; rw [Pa_side, if_pos h20] at z2; exact h54 z2)⟩ (by decide) (by decide) d_Pa_cross_77
      · skip
        refine x_aload_n (q := 58) hC d_Pa_cross_57 rfl rfl rfl ?_
        refine x_iload (q := 60) hC d_Pa_cross_58 rfl rfl ?_
        refine x_iload_n (q := 61) hC d_Pa_cross_60 rfl rfl rfl ?_
        refine x_callV (q := 64) (p := 165) (A := [.int (nI n), .int (nI q)]) (S := []) (c1 := 0) (s1 := 0) hC (c_Pa_carry (n := n) (r := r) (x := nI q) (by omega) hu hX) s_Pa_cross_76 rfl (by omega) rfl rfl rfl (Nat.le_of_ble_eq_true rfl) rfl rfl (by decide) (by decide) d_Pa_cross_61 rfl (fun r τ hP => ?_)
        obtain ⟨rfl, rfl⟩ := hP
        show mx_G Γ κ _ _ 64 [(5, .int (nI s)), (0, .ref 165), (1, .int (nI st)), (2, .int (nI s)), (3, .int (nI q)), (4, .int (nI n))] [] (nx, u, Pa_carry n (nI q) mX) 0 0
        refine x_goto (tgt := 77) hC d_Pa_cross_64 (by decide) ?_
        exact x_vret hC rfl ⟨rfl, pr (by show _ = Pa_xs st s r q n (Pa_x1 mi); rw [eX']; unfold Pa_xs; refine it_t (And.intro (fun z => h39 (by rw [z])) ?_) rfl; rw [Pa_side, if_pos h20]; exact h54)⟩ (by decide) (by decide) d_Pa_cross_77
set_option maxRecDepth 100000 in
set_option maxHeartbeats 400000 in
theorem c_Pa_putOut {Γ : mx_X} {lau : Launch} {nx : Nat} {u : Nat → Nat → Bool} {mi : mx_Mm} {st s k r : Nat} (hnx : 168 ≤ nx) (hu : ∀ p k, 2 ≤ p → u p k = true) (hst : st < 18) (hs : s < 6) (hk : k < 6) (hr : r < 6) (hok : Pa_ok r mi) : mx_C Γ lau M_Pa_putOut [.ref 165, .int (nI st), .int (nI s), .int (nI k)] (nx, u, mi) (fun ρ τ => ρ = none ∧ τ = (nx, u, Pa_put st s r k mi)) := by
  refine mx_C.intro (by decide) rfl (Nat.le_of_ble_eq_true rfl) (fun κ _ hC => ?_)
  show mx_G Γ κ _ _ 0 [(0, .ref 165), (1, .int (nI st)), (2, .int (nI s)), (3, .int (nI k))] [] (nx, u, mi) 0 0
  refine x_aload_n (q := 1) hC d_Pa_putOut_0 rfl rfl rfl ?_
  refine x_getr (q := 4) (p := 165) (j := 5) (r := 166) hC f_Pa_9 rfl rfl rfl (by omega) (hu _ _ (by decide)) d_Pa_putOut_1 rfl ?_
  refine x_iload_n (q := 5) hC d_Pa_putOut_4 rfl rfl rfl ?_
  refine x_iald (q := 6) (p := 166) hC k rfl (by omega) rfl (by omega) (by decide) d_Pa_putOut_5 rfl ?_
  refine x_istore (q := 8) (L1 := [(4, .int (mi 166 k)), (0, .ref 165), (1, .int (nI st)), (2, .int (nI s)), (3, .int (nI k))]) hC d_Pa_putOut_6 (by decide) rfl rfl ?_
  obtain ⟨q, hq, eq0, et⟩ := hok.q hk
  refine mx_eqG (L1 := [(4, .int (nI q)), (0, .ref 165), (1, .int (nI st)), (2, .int (nI s)), (3, .int (nI k))]) (by rw [eq0]) rfl rfl ?_
  refine x_aload_n (q := 9) hC d_Pa_putOut_8 rfl rfl rfl ?_
  have J1 : mx_G Γ κ M_Pa_putOut (MQ (mx_b κ) (mx_Qc Γ (fun ρ τ => ρ = none ∧ τ = (nx, u, Pa_put st s r k mi))) (mx_a κ) (mx_s κ) M_Pa_putOut.2.2.2.2.cells M_Pa_putOut.2.2.2.2.slots (mx_fr Γ)) 46 [(5, .int (Pa_list st q mi)), (4, .int (nI q)), (0, .ref 165), (1, .int (nI st)), (2, .int (nI s)), (3, .int (nI k))] [] (nx, u, mi) 0 0 := by
    have J2 : mx_G Γ κ M_Pa_putOut (MQ (mx_b κ) (mx_Qc Γ (fun ρ τ => ρ = none ∧ τ = (nx, u, Pa_put st s r k mi))) (mx_a κ) (mx_s κ) M_Pa_putOut.2.2.2.2.cells M_Pa_putOut.2.2.2.2.slots (mx_fr Γ)) 73 [(5, .int (Pa_list st q mi)), (4, .int (nI q)), (0, .ref 165), (1, .int (nI st)), (2, .int (nI s)), (3, .int (nI k))] [] (nx, u, Pa_po1 s q (Pa_list st q mi) mi) 0 0 := by
      refine mx_nr (fun mj ej => ?_)
      have hIj : Pa_ok r mj := ej ▸ Pa_po1_ok hok
      refine x_iconst (q := 74) (v := nI 0) hC d_Pa_putOut_73 (by decide) rfl ?_
      refine x_istore (q := 76) (L1 := [(6, .int (nI 0)), (5, .int (Pa_list st q mi)), (4, .int (nI q)), (0, .ref 165), (1, .int (nI st)), (2, .int (nI s)), (3, .int (nI k))]) hC d_Pa_putOut_74 (by decide) rfl rfl ?_
      refine x_sub (L1 := [(6, .int (nI 0)), (5, .int (Pa_list st q mi)), (4, .int (nI q)), (0, .ref 165), (1, .int (nI st)), (2, .int (nI s)), (3, .int (nI k))]) [0, 1, 2, 3, 4, 5, 6] rfl ?_
      refine mx_loop (N := 6) (Hd := fun n m3 => mx_G Γ κ _ _ 76 [(6, .int (nI n)), (5, .int (Pa_list st q mi)), (4, .int (nI q)), (0, .ref 165), (1, .int (nI st)), (2, .int (nI s)), (3, .int (nI k))] [] (nx, u, m3) 0 0) (Pa_po2 st s r q k (Pa_list st q mi)) (fun _ m => Pa_ok r m) hIj ?_ ?_ ?_
      · exact fun n m hn h => Pa_po2_ok hn h
      · intro n m3 hl4 hI5 hN6
        refine x_iload (q := 78) hC d_Pa_putOut_76 rfl rfl ?_
        refine x_bipush (q := 80) (v := nI 6) hC d_Pa_putOut_78 (by decide) rfl ?_
        refine x_icmp_ge (tgt := 120) (q := 83) hC d_Pa_putOut_80 (by decide) rfl (fun h => absurd h (nI_ge hl4 (by decide))) (fun _ => ?_)
        refine x_iload (q := 85) hC d_Pa_putOut_83 rfl rfl ?_
        refine x_iload (q := 87) hC d_Pa_putOut_85 rfl rfl ?_
        refine x_callSN (q := 90) (A := [.int (Pa_list st q mi), .int (nI n)]) (S := []) (c1 := 0) (s1 := 0) hC (c_MT_holds (n := n)) s_Pa_putOut_128 rfl rfl rfl (Nat.le_of_ble_eq_true rfl) rfl rfl (by decide) (by decide) d_Pa_putOut_87 rfl (fun r τ hP => ?_)
        obtain ⟨rfl, rfl⟩ := hP
        show mx_G Γ κ _ _ 90 [(6, .int (nI n)), (5, .int (Pa_list st q mi)), (4, .int (nI q)), (0, .ref 165), (1, .int (nI st)), (2, .int (nI s)), (3, .int (nI k))] [.int (bz (hold (Pa_list st q mi) n))] (nx, u, m3) 0 0
        refine x_if_eq (tgt := 114) (q := 93) hC d_Pa_putOut_90 (by decide) rfl (fun h90 => ?_) (fun h90 => ?_)
        · have h90 := bz_0 h90
          refine x_iinc (q := 117) (y := nI (n + 1)) (L1 := [(6, .int (nI (n + 1))), (5, .int (Pa_list st q mi)), (4, .int (nI q)), (0, .ref 165), (1, .int (nI st)), (2, .int (nI s)), (3, .int (nI k))]) hC d_Pa_putOut_114 rfl (mx_inc n) (by decide) rfl rfl ?_
          refine x_goto (tgt := 76) hC d_Pa_putOut_117 (by decide) ?_
          exact x_close hN6 [0, 1, 2, 3, 4, 5, 6] rfl (by first | exact it_t (And.intro h90 h101) rfl | exact it_f (fun z => h90 z.1) rfl | exact it_f (fun z => z.2 h101) rfl)
        · have h90 := bz_1 h90
          refine x_iload (q := 95) hC d_Pa_putOut_93 rfl rfl ?_
          refine x_aload_n (q := 96) hC d_Pa_putOut_95 rfl rfl rfl ?_
          refine x_getr (q := 99) (p := 165) (j := 6) (r := 167) hC f_Pa_15 rfl rfl rfl (by omega) (hu _ _ (by decide)) d_Pa_putOut_96 rfl ?_
          refine x_iload_n (q := 100) hC d_Pa_putOut_99 rfl rfl rfl ?_
          refine x_iald (q := 101) (p := 167) hC k rfl (by omega) rfl (by omega) (by decide) d_Pa_putOut_100 rfl ?_
          refine x_icmp_eq (tgt := 114) (q := 104) hC d_Pa_putOut_101 (by decide) rfl (fun h101 => ?_) (fun h101 => ?_)
          · skip
            refine x_iinc (q := 117) (y := nI (n + 1)) (L1 := [(6, .int (nI (n + 1))), (5, .int (Pa_list st q mi)), (4, .int (nI q)), (0, .ref 165), (1, .int (nI st)), (2, .int (nI s)), (3, .int (nI k))]) hC d_Pa_putOut_114 rfl (mx_inc n) (by decide) rfl rfl ?_
            refine x_goto (tgt := 76) hC d_Pa_putOut_117 (by decide) ?_
            exact x_close hN6 [0, 1, 2, 3, 4, 5, 6] rfl (by first | exact it_t (And.intro h90 h101) rfl | exact it_f (fun z => h90 z.1) rfl | exact it_f (fun z => z.2 h101) rfl)
          · skip
            refine x_aload_n (q := 105) hC d_Pa_putOut_104 rfl rfl rfl ?_
            refine x_iload_n (q := 106) hC d_Pa_putOut_105 rfl rfl rfl ?_
            refine x_iload_n (q := 107) hC d_Pa_putOut_106 rfl rfl rfl ?_
            refine x_iload (q := 109) hC d_Pa_putOut_107 rfl rfl ?_
            refine x_iload (q := 111) hC d_Pa_putOut_109 rfl rfl ?_
            refine x_callV (q := 114) (p := 165) (A := [.int (nI st), .int (nI s), .int (nI q), .int (nI n)]) (S := []) (c1 := 0) (s1 := 0) hC (c_Pa_cross (st := st) (s := s) (q := q) (n := n) (r := r) (by omega) hu (by omega) (by omega) (by omega) (by omega) hr hI5) s_Pa_putOut_131 rfl (by omega) rfl rfl rfl (Nat.le_of_ble_eq_true rfl) rfl rfl (by decide) (by decide) d_Pa_putOut_111 rfl (fun r τ hP => ?_)
            obtain ⟨rfl, rfl⟩ := hP
            show mx_G Γ κ _ _ 114 [(6, .int (nI n)), (5, .int (Pa_list st q mi)), (4, .int (nI q)), (0, .ref 165), (1, .int (nI st)), (2, .int (nI s)), (3, .int (nI k))] [] (nx, u, Pa_cross st s r q n m3) 0 0
            refine x_iinc (q := 117) (y := nI (n + 1)) (L1 := [(6, .int (nI (n + 1))), (5, .int (Pa_list st q mi)), (4, .int (nI q)), (0, .ref 165), (1, .int (nI st)), (2, .int (nI s)), (3, .int (nI k))]) hC d_Pa_putOut_114 rfl (mx_inc n) (by decide) rfl rfl ?_
            refine x_goto (tgt := 76) hC d_Pa_putOut_117 (by decide) ?_
            exact x_close hN6 [0, 1, 2, 3, 4, 5, 6] rfl (by first | exact it_t (And.intro h90 h101) rfl | exact it_f (fun z => h90 z.1) rfl | exact it_f (fun z => z.2 h101) rfl)
      · intro hx7
        refine mx_nr (fun m8 e9 => ?_)
        try rw [e9] at hx7
        refine x_iload (q := 78) hC d_Pa_putOut_76 rfl rfl ?_
        refine x_bipush (q := 80) (v := nI 6) hC d_Pa_putOut_78 (by decide) rfl ?_
        refine x_icmp_ge (tgt := 120) (q := 83) hC d_Pa_putOut_80 (by decide) rfl (fun _ => ?_) (fun h => absurd (nI_le (Nat.le_refl _) (by decide)) h)
        subst e9
        subst ej
        exact x_vret hC rfl ⟨rfl, pr (by unfold Pa_put; rw [et] <;> rfl)⟩ (by decide) (by decide) d_Pa_putOut_120
    refine x_iload (q := 48) hC d_Pa_putOut_46 rfl rfl ?_
    refine x_bipush (q := 50) (v := nI 64) hC d_Pa_putOut_48 (by decide) rfl ?_
    refine x_iand (q := 51) (z := (Pa_list st q mi) &&& (nI 64)) hC d_Pa_putOut_50 rfl rfl ?_
    refine x_if_eq (tgt := 73) (q := 54) hC d_Pa_putOut_51 (by decide) rfl (fun h51 => ?_) (fun h51 => ?_)
    · skip
      exact x_sub (L1 := [(5, .int (Pa_list st q mi)), (4, .int (nI q)), (0, .ref 165), (1, .int (nI st)), (2, .int (nI s)), (3, .int (nI k))]) [0, 1, 2, 3, 4, 5] rfl (mx_eqG rfl rfl (pr (by first | exact it_t (And.intro h51 (fun z => h57 (by rw [z]))) rfl | exact it_f (fun z => z.1 h51) rfl | exact it_f (fun z => z.2 ((nI_eq (by omega) (by omega)).mp h57)) rfl)) J2)
    · skip
      refine x_iload (q := 56) hC d_Pa_putOut_54 rfl rfl ?_
      refine x_iload_n (q := 57) hC d_Pa_putOut_56 rfl rfl rfl ?_
      refine x_icmp_eq (tgt := 73) (q := 60) hC d_Pa_putOut_57 (by decide) rfl (fun h57 => ?_) (fun h57 => ?_)
      · skip
        exact x_sub (L1 := [(5, .int (Pa_list st q mi)), (4, .int (nI q)), (0, .ref 165), (1, .int (nI st)), (2, .int (nI s)), (3, .int (nI k))]) [0, 1, 2, 3, 4, 5] rfl (mx_eqG rfl rfl (pr (by first | exact it_t (And.intro h51 (fun z => h57 (by rw [z]))) rfl | exact it_f (fun z => z.1 h51) rfl | exact it_f (fun z => z.2 ((nI_eq (by omega) (by omega)).mp h57)) rfl)) J2)
      · skip
        refine x_aload_n (q := 61) hC d_Pa_putOut_60 rfl rfl rfl ?_
        refine x_dup (q := 62) hC d_Pa_putOut_61 rfl rfl ?_
        refine x_geti (q := 65) (p := 165) (j := 10) hC f_Pa_28 rfl rfl (by omega) d_Pa_putOut_62 rfl ?_
        refine x_iconst (q := 66) (v := nI 1) hC d_Pa_putOut_65 (by decide) rfl ?_
        refine x_iload (q := 68) hC d_Pa_putOut_66 rfl rfl ?_
        refine x_ishl (q := 69) (z := (nI 1) <<< ((nI q) &&& 31)) hC d_Pa_putOut_68 rfl rfl ?_
        refine x_ior (q := 70) (z := (mi 165 10) ||| ((nI 1) <<< ((nI q) &&& 31))) hC d_Pa_putOut_69 rfl rfl ?_
        refine x_puti (q := 73) (p := 165) (j := 10) hC f_Pa_28 y_Pa rfl rfl rfl rfl rfl (by omega) (by decide) d_Pa_putOut_70 rfl ?_
        refine mx_nr (fun m10 e11 => ?_)
        exact x_sub (L1 := [(5, .int (Pa_list st q mi)), (4, .int (nI q)), (0, .ref 165), (1, .int (nI st)), (2, .int (nI s)), (3, .int (nI k))]) [0, 1, 2, 3, 4, 5] rfl (mx_eqG rfl rfl (pr (by subst e11; first | exact it_t (And.intro h51 (fun z => h57 (by rw [z]))) rfl | exact it_f (fun z => z.1 h51) rfl | exact it_f (fun z => z.2 ((nI_eq (by omega) (by omega)).mp h57)) rfl)) J2)
  refine x_getr (q := 12) (p := 165) (j := 2) (r := 57) hC f_Pa_42 rfl rfl rfl (by omega) (hu _ _ (by decide)) d_Pa_putOut_9 rfl ?_
  refine x_iload_n (q := 13) hC d_Pa_putOut_12 rfl rfl rfl ?_
  refine x_iload (q := 15) hC d_Pa_putOut_13 rfl rfl ?_
  refine x_callV (q := 18) (p := 57) (A := [.int (nI st), .int (nI q)]) (S := []) (c1 := 0) (s1 := 0) hC (c_Sm_isSwitched (s := st) (n := q) (by omega) hu (by omega) (by omega) ) s_Pa_putOut_83 rfl (by omega) rfl rfl rfl (Nat.le_of_ble_eq_true rfl) rfl rfl (by decide) (by decide) d_Pa_putOut_15 rfl (fun r τ hP => ?_)
  obtain ⟨rfl, rfl⟩ := hP
  show mx_G Γ κ _ _ 18 [(4, .int (nI q)), (0, .ref 165), (1, .int (nI st)), (2, .int (nI s)), (3, .int (nI k))] [.int (bz (hold (mi 77 st) q))] (nx, u, mi) 0 0
  refine x_if_eq (tgt := 34) (q := 21) hC d_Pa_putOut_18 (by decide) rfl (fun h18 => ?_) (fun h18 => ?_)
  · have h18 := bz_0 h18
    refine x_aload_n (q := 35) hC d_Pa_putOut_34 rfl rfl rfl ?_
    refine x_getr (q := 38) (p := 165) (j := 3) (r := 79) hC f_Pa_46 rfl rfl rfl (by omega) (hu _ _ (by decide)) d_Pa_putOut_35 rfl ?_
    refine x_iload_n (q := 39) hC d_Pa_putOut_38 rfl rfl rfl ?_
    refine x_iload (q := 41) hC d_Pa_putOut_39 rfl rfl ?_
    refine x_callV (q := 44) (p := 79) (A := [.int (nI st), .int (nI q)]) (S := []) (c1 := 0) (s1 := 0) hC (c_Tr_innerList (a := st) (n := q) (by omega) hu (by omega) (by omega) ) s_Pa_putOut_125 rfl (by omega) rfl rfl rfl (Nat.le_of_ble_eq_true rfl) rfl rfl (by decide) (by decide) d_Pa_putOut_41 rfl (fun r τ hP => ?_)
    obtain ⟨rfl, rfl⟩ := hP
    show mx_G Γ κ _ _ 44 [(4, .int (nI q)), (0, .ref 165), (1, .int (nI st)), (2, .int (nI s)), (3, .int (nI k))] [.int (mi (127 + st) q)] (nx, u, mi) 0 0
    refine x_istore (q := 46) (L1 := [(5, .int (mi (127 + st) q)), (4, .int (nI q)), (0, .ref 165), (1, .int (nI st)), (2, .int (nI s)), (3, .int (nI k))]) hC d_Pa_putOut_44 (by decide) rfl rfl ?_
    exact x_sub (L1 := [(5, .int (mi (127 + st) q)), (4, .int (nI q)), (0, .ref 165), (1, .int (nI st)), (2, .int (nI s)), (3, .int (nI k))]) [0, 1, 2, 3, 4, 5] rfl (mx_eqG (by first | rw [Pa_list, if_pos h18] | rw [Pa_list, if_neg h18]) rfl rfl J1)
  · have h18 := bz_1 h18
    refine x_aload_n (q := 22) hC d_Pa_putOut_21 rfl rfl rfl ?_
    refine x_getr (q := 25) (p := 165) (j := 3) (r := 79) hC f_Pa_46 rfl rfl rfl (by omega) (hu _ _ (by decide)) d_Pa_putOut_22 rfl ?_
    refine x_iload_n (q := 26) hC d_Pa_putOut_25 rfl rfl rfl ?_
    refine x_iload (q := 28) hC d_Pa_putOut_26 rfl rfl ?_
    refine x_callV (q := 31) (p := 79) (A := [.int (nI st), .int (nI q)]) (S := []) (c1 := 0) (s1 := 0) hC (c_Tr_outerList (a := st) (n := q) (by omega) hu (by omega) (by omega) ) s_Pa_putOut_71 rfl (by omega) rfl rfl rfl (Nat.le_of_ble_eq_true rfl) rfl rfl (by decide) (by decide) d_Pa_putOut_28 rfl (fun r τ hP => ?_)
    obtain ⟨rfl, rfl⟩ := hP
    show mx_G Γ κ _ _ 31 [(4, .int (nI q)), (0, .ref 165), (1, .int (nI st)), (2, .int (nI s)), (3, .int (nI k))] [.int (mi (146 + st) q)] (nx, u, mi) 0 0
    refine x_goto (tgt := 44) hC d_Pa_putOut_31 (by decide) ?_
    refine x_istore (q := 46) (L1 := [(5, .int (mi (146 + st) q)), (4, .int (nI q)), (0, .ref 165), (1, .int (nI st)), (2, .int (nI s)), (3, .int (nI k))]) hC d_Pa_putOut_44 (by decide) rfl rfl ?_
    exact x_sub (L1 := [(5, .int (mi (146 + st) q)), (4, .int (nI q)), (0, .ref 165), (1, .int (nI st)), (2, .int (nI s)), (3, .int (nI k))]) [0, 1, 2, 3, 4, 5] rfl (mx_eqG (by first | rw [Pa_list, if_pos h18] | rw [Pa_list, if_neg h18]) rfl rfl J1)
set_option maxRecDepth 100000 in
set_option maxHeartbeats 400000 in
theorem c_Pa_renewCarriers {Γ : mx_X} {lau : Launch} {nx : Nat} {u : Nat → Nat → Bool} {mi : mx_Mm} {st g r : Nat} (hnx : 168 ≤ nx) (hu : ∀ p k, 2 ≤ p → u p k = true) (hst : st < 18) (hg : g < 3) (hok : Pa_ok r mi) : mx_C Γ lau M_Pa_renewCarriers [.ref 165, .int (nI st), .int (nI g)] (nx, u, mi) (fun ρ τ => ρ = none ∧ τ = (nx, u, mx_lp 6 (Pa_rn st g) mi)) := by
  refine mx_C.intro (by decide) rfl (Nat.le_of_ble_eq_true rfl) (fun κ _ hC => ?_)
  show mx_G Γ κ _ _ 0 [(0, .ref 165), (1, .int (nI st)), (2, .int (nI g))] [] (nx, u, mi) 0 0
  refine x_iconst (q := 1) (v := nI 0) hC d_Pa_renewCarriers_0 (by decide) rfl ?_
  refine x_istore_n (q := 2) (L1 := [(3, .int (nI 0)), (0, .ref 165), (1, .int (nI st)), (2, .int (nI g))]) hC d_Pa_renewCarriers_1 rfl (by decide) rfl rfl ?_
  refine x_sub (L1 := [(3, .int (nI 0)), (0, .ref 165), (1, .int (nI st)), (2, .int (nI g))]) [0, 1, 2, 3] rfl ?_
  refine mx_loopB (N := 6) (Hd := fun k m1 => mx_G Γ κ M_Pa_renewCarriers (MQ (mx_b κ) (mx_Qc Γ (fun ρ τ => ρ = none ∧ τ = (nx, u, mx_lp 6 (Pa_rn st g) mi))) (mx_a κ) (mx_s κ) M_Pa_renewCarriers.2.2.2.2.cells M_Pa_renewCarriers.2.2.2.2.slots (mx_fr Γ)) 2 [(3, .int (nI k)), (0, .ref 165), (1, .int (nI st)), (2, .int (nI g))] [] (nx, u, m1) 0 0) (Ex := fun m1 => mx_G Γ κ M_Pa_renewCarriers (MQ (mx_b κ) (mx_Qc Γ (fun ρ τ => ρ = none ∧ τ = (nx, u, mx_lp 6 (Pa_rn st g) mi))) (mx_a κ) (mx_s κ) M_Pa_renewCarriers.2.2.2.2.cells M_Pa_renewCarriers.2.2.2.2.slots (mx_fr Γ)) 66 [(0, .ref 165), (1, .int (nI st)), (2, .int (nI g))] [] (nx, u, m1) 0 0) (Pa_rn st g) (fun k m => nI k < m 165 7) (fun _ m => Pa_ok r m) hok ?_ ?_ ?_ ?_ ?_
  · exact fun k m hk h => Pa_rn_ok hst h
  · exact fun i j m hij hj hn => if_neg (Pa_stay hij hj hn)
  · intro k m1 hl2 hI3 hN4 hE5
    refine x_iload_n (q := 3) hC d_Pa_renewCarriers_2 rfl rfl rfl ?_
    refine x_bipush (q := 5) (v := nI 6) hC d_Pa_renewCarriers_3 (by decide) rfl ?_
    refine x_icmp_ge (tgt := 66) (q := 8) hC d_Pa_renewCarriers_5 (by decide) rfl (fun h => absurd h (nI_ge hl2 (by decide))) (fun _ => ?_)
    refine x_iload_n (q := 9) hC d_Pa_renewCarriers_8 rfl rfl rfl ?_
    refine x_aload_n (q := 10) hC d_Pa_renewCarriers_9 rfl rfl rfl ?_
    refine x_geti (q := 13) (p := 165) (j := 7) hC f_Pa_18 rfl rfl (by omega) d_Pa_renewCarriers_10 rfl ?_
    refine x_icmp_ge (tgt := 66) (q := 16) hC d_Pa_renewCarriers_13 (by decide) rfl (fun h13 => ?_) (fun h13 => ?_)
    · skip
      exact x_sub (L1 := [(0, .ref 165), (1, .int (nI st)), (2, .int (nI g))]) [1, 2, 3] rfl (hE5 (Int32.not_lt.mpr h13))
    · skip
      refine x_aload_n (q := 17) hC d_Pa_renewCarriers_16 rfl rfl rfl ?_
      refine x_getr (q := 20) (p := 165) (j := 5) (r := 166) hC f_Pa_9 rfl rfl rfl (by omega) (hu _ _ (by decide)) d_Pa_renewCarriers_17 rfl ?_
      refine x_iload_n (q := 21) hC d_Pa_renewCarriers_20 rfl rfl rfl ?_
      refine x_iald (q := 22) (p := 166) hC k rfl (by omega) rfl (by omega) (by decide) d_Pa_renewCarriers_21 rfl ?_
      refine x_istore (q := 24) (L1 := [(4, .int (m1 166 k)), (3, .int (nI k)), (0, .ref 165), (1, .int (nI st)), (2, .int (nI g))]) hC d_Pa_renewCarriers_22 (by decide) rfl rfl ?_
      obtain ⟨q, hq, eq0, et⟩ := hI3.q hl2
      refine mx_eqG (L1 := [(4, .int (nI q)), (3, .int (nI k)), (0, .ref 165), (1, .int (nI st)), (2, .int (nI g))]) (by rw [eq0]) rfl rfl ?_
      refine x_aload_n (q := 25) hC d_Pa_renewCarriers_24 rfl rfl rfl ?_
      refine x_getr (q := 28) (p := 165) (j := 2) (r := 57) hC f_Pa_42 rfl rfl rfl (by omega) (hu _ _ (by decide)) d_Pa_renewCarriers_25 rfl ?_
      refine x_iload_n (q := 29) hC d_Pa_renewCarriers_28 rfl rfl rfl ?_
      refine x_iload (q := 31) hC d_Pa_renewCarriers_29 rfl rfl ?_
      refine x_callV (q := 34) (p := 57) (A := [.int (nI st), .int (nI q)]) (S := []) (c1 := 0) (s1 := 0) hC (c_Sm_isSwitched (s := st) (n := q) (by omega) hu (by omega) (by omega) ) s_Pa_renewCarriers_83 rfl (by omega) rfl rfl rfl (Nat.le_of_ble_eq_true rfl) rfl rfl (by decide) (by decide) d_Pa_renewCarriers_31 rfl (fun r τ hP => ?_)
      obtain ⟨rfl, rfl⟩ := hP
      show mx_G Γ κ _ _ 34 [(4, .int (nI q)), (3, .int (nI k)), (0, .ref 165), (1, .int (nI st)), (2, .int (nI g))] [.int (bz (hold (m1 77 st) q))] (nx, u, m1) 0 0
      refine x_if_ne (tgt := 60) (q := 37) hC d_Pa_renewCarriers_34 (by decide) rfl (fun h34 => ?_) (fun h34 => ?_)
      · have h34 := bz_1 h34
        refine x_iinc (q := 63) (y := nI (k + 1)) (L1 := [(3, .int (nI (k + 1))), (4, .int (nI q)), (0, .ref 165), (1, .int (nI st)), (2, .int (nI g))]) hC d_Pa_renewCarriers_60 rfl (mx_inc k) (by decide) rfl rfl ?_
        refine x_goto (tgt := 2) hC d_Pa_renewCarriers_63 (by decide) ?_
        exact x_close (hN4 (Int32.not_le.mp h13)) [0, 2, 3, 4] rfl (by refine it_t (Int32.not_le.mp h13) ?_; show _ = Pa_rnq st g (tn _) _; rw [et]; first | exact it_t (And.intro h34 h47) rfl | exact it_f (fun z => z.1 h34) rfl | exact it_f (fun z => h47 z.2) rfl)
      · have h34 := bz_0 h34
        refine x_aload_n (q := 38) hC d_Pa_renewCarriers_37 rfl rfl rfl ?_
        refine x_getr (q := 41) (p := 165) (j := 1) (r := 34) hC f_Pa_38 rfl rfl rfl (by omega) (hu _ _ (by decide)) d_Pa_renewCarriers_38 rfl ?_
        refine x_iload (q := 43) hC d_Pa_renewCarriers_41 rfl rfl ?_
        refine x_iload_n (q := 44) hC d_Pa_renewCarriers_43 rfl rfl rfl ?_
        refine x_callV (q := 47) (p := 34) (A := [.int (nI q), .int (nI g)]) (S := []) (c1 := 0) (s1 := 0) hC (c_La_isMarked (l := q) (g := g) (by omega) hu (by omega) (by omega) ) s_Pa_renewCarriers_58 rfl (by omega) rfl rfl rfl (Nat.le_of_ble_eq_true rfl) rfl rfl (by decide) (by decide) d_Pa_renewCarriers_44 rfl (fun r τ hP => ?_)
        obtain ⟨rfl, rfl⟩ := hP
        show mx_G Γ κ _ _ 47 [(4, .int (nI q)), (3, .int (nI k)), (0, .ref 165), (1, .int (nI st)), (2, .int (nI g))] [.int (bz (m1 2 0 < m1 (43 + q) g))] (nx, u, m1) 0 0
        refine x_if_eq (tgt := 60) (q := 50) hC d_Pa_renewCarriers_47 (by decide) rfl (fun h47 => ?_) (fun h47 => ?_)
        · have h47 := bz_0 h47
          refine x_iinc (q := 63) (y := nI (k + 1)) (L1 := [(3, .int (nI (k + 1))), (4, .int (nI q)), (0, .ref 165), (1, .int (nI st)), (2, .int (nI g))]) hC d_Pa_renewCarriers_60 rfl (mx_inc k) (by decide) rfl rfl ?_
          refine x_goto (tgt := 2) hC d_Pa_renewCarriers_63 (by decide) ?_
          exact x_close (hN4 (Int32.not_le.mp h13)) [0, 2, 3, 4] rfl (by refine it_t (Int32.not_le.mp h13) ?_; show _ = Pa_rnq st g (tn _) _; rw [et]; first | exact it_t (And.intro h34 h47) rfl | exact it_f (fun z => z.1 h34) rfl | exact it_f (fun z => h47 z.2) rfl)
        · have h47 := bz_1 h47
          refine x_aload_n (q := 51) hC d_Pa_renewCarriers_50 rfl rfl rfl ?_
          refine x_getr (q := 54) (p := 165) (j := 2) (r := 57) hC f_Pa_42 rfl rfl rfl (by omega) (hu _ _ (by decide)) d_Pa_renewCarriers_51 rfl ?_
          refine x_iload_n (q := 55) hC d_Pa_renewCarriers_54 rfl rfl rfl ?_
          refine x_iload (q := 57) hC d_Pa_renewCarriers_55 rfl rfl ?_
          refine x_callV (q := 60) (p := 57) (A := [.int (nI st), .int (nI q)]) (S := []) (c1 := 0) (s1 := 0) hC (c_Sm_renew (s := st) (n := q) (by omega) hu (by omega) (by omega) ) s_Pa_renewCarriers_98 rfl (by omega) rfl rfl rfl (Nat.le_of_ble_eq_true rfl) rfl rfl (by decide) (by decide) d_Pa_renewCarriers_57 rfl (fun r τ hP => ?_)
          obtain ⟨rfl, rfl⟩ := hP
          show mx_G Γ κ _ _ 60 [(4, .int (nI q)), (3, .int (nI k)), (0, .ref 165), (1, .int (nI st)), (2, .int (nI g))] [] (nx, u, Sm_renew st q m1) 0 0
          refine x_iinc (q := 63) (y := nI (k + 1)) (L1 := [(3, .int (nI (k + 1))), (4, .int (nI q)), (0, .ref 165), (1, .int (nI st)), (2, .int (nI g))]) hC d_Pa_renewCarriers_60 rfl (mx_inc k) (by decide) rfl rfl ?_
          refine x_goto (tgt := 2) hC d_Pa_renewCarriers_63 (by decide) ?_
          exact x_close (hN4 (Int32.not_le.mp h13)) [0, 2, 3, 4] rfl (by refine it_t (Int32.not_le.mp h13) ?_; show _ = Pa_rnq st g (tn _) _; rw [et]; first | exact it_t (And.intro h34 h47) rfl | exact it_f (fun z => z.1 h34) rfl | exact it_f (fun z => h47 z.2) rfl)
  · intro m1 hI7 hE6
    refine x_iload_n (q := 3) hC d_Pa_renewCarriers_2 rfl rfl rfl ?_
    refine x_bipush (q := 5) (v := nI 6) hC d_Pa_renewCarriers_3 (by decide) rfl ?_
    refine x_icmp_ge (tgt := 66) (q := 8) hC d_Pa_renewCarriers_5 (by decide) rfl (fun _ => ?_) (fun h => absurd (nI_le (Nat.le_refl _) (by decide)) h)
    exact x_sub (L1 := [(0, .ref 165), (1, .int (nI st)), (2, .int (nI g))]) [1, 2, 3] rfl hE6
  · refine mx_nr (fun mb2 eb2 => ?_)
    subst eb2
    exact x_vret hC rfl ⟨rfl, rfl⟩ (by decide) (by decide) d_Pa_renewCarriers_66
set_option maxRecDepth 100000 in
set_option maxHeartbeats 400000 in
theorem c_Pa_listen {Γ : mx_X} {lau : Launch} {nx : Nat} {u : Nat → Nat → Bool} {mi : mx_Mm}  (hnx : 168 ≤ nx) (hu : ∀ p k, 2 ≤ p → u p k = true)  : mx_C Γ lau M_Pa_listen [.ref 165] (nx, u, mi) (fun ρ τ => ρ = none ∧ τ = (nx, u, Pa_listen mi)) := by
  refine mx_C.intro (by decide) rfl (Nat.le_of_ble_eq_true rfl) (fun κ _ hC => ?_)
  show mx_G Γ κ _ _ 0 [(0, .ref 165)] [] (nx, u, mi) 0 0
  refine x_aload_n (q := 1) hC d_Pa_listen_0 rfl rfl rfl ?_
  refine x_iconst (q := 2) (v := nI 0) hC d_Pa_listen_1 (by decide) rfl ?_
  refine x_puti (q := 5) (p := 165) (j := 11) hC f_Pa_31 y_Pa rfl rfl rfl rfl rfl (by omega) (by decide) d_Pa_listen_2 rfl ?_
  refine x_iconst (q := 6) (v := nI 0) hC d_Pa_listen_5 (by decide) rfl ?_
  refine x_istore_n (q := 7) (L1 := [(1, .int (nI 0)), (0, .ref 165)]) hC d_Pa_listen_6 rfl (by decide) rfl rfl ?_
  refine x_sub (L1 := [(1, .int (nI 0)), (0, .ref 165)]) [0, 1] rfl ?_
  refine mx_loop (N := 6) (Hd := fun l m1 => mx_G Γ κ _ _ 7 [(1, .int (nI l)), (0, .ref 165)] [] (nx, u, m1) 0 0) (Pa_l1) (fun _ _ => True) trivial ?_ ?_ ?_
  · exact fun _ _ _ _ => trivial
  · intro l m1 hl2 hI3 hN4
    refine x_iload_n (q := 8) hC d_Pa_listen_7 rfl rfl rfl ?_
    refine x_bipush (q := 10) (v := nI 6) hC d_Pa_listen_8 (by decide) rfl ?_
    refine x_icmp_ge (tgt := 53) (q := 13) hC d_Pa_listen_10 (by decide) rfl (fun h => absurd h (nI_ge hl2 (by decide))) (fun _ => ?_)
    refine x_aload_n (q := 14) hC d_Pa_listen_13 rfl rfl rfl ?_
    refine x_geti (q := 17) (p := 165) (j := 10) hC f_Pa_28 rfl rfl (by omega) d_Pa_listen_14 rfl ?_
    refine x_iload_n (q := 18) hC d_Pa_listen_17 rfl rfl rfl ?_
    refine x_callSN (q := 21) (A := [.int (m1 165 10), .int (nI l)]) (S := []) (c1 := 0) (s1 := 0) hC (c_MT_holds (n := l)) s_Pa_listen_128 rfl rfl rfl (Nat.le_of_ble_eq_true rfl) rfl rfl (by decide) (by decide) d_Pa_listen_18 rfl (fun r τ hP => ?_)
    obtain ⟨rfl, rfl⟩ := hP
    show mx_G Γ κ _ _ 21 [(1, .int (nI l)), (0, .ref 165)] [.int (bz (hold (m1 165 10) l))] (nx, u, m1) 0 0
    refine x_if_eq (tgt := 47) (q := 24) hC d_Pa_listen_21 (by decide) rfl (fun h21 => ?_) (fun h21 => ?_)
    · have h21 := bz_0 h21
      refine x_iinc (q := 50) (y := nI (l + 1)) (L1 := [(1, .int (nI (l + 1))), (0, .ref 165)]) hC d_Pa_listen_47 rfl (mx_inc l) (by decide) rfl rfl ?_
      refine x_goto (tgt := 7) hC d_Pa_listen_50 (by decide) ?_
      exact x_close hN4 [0, 1] rfl (by first | exact it_t h21 (it_t h32 rfl) | exact it_t h21 (it_f h32 rfl) | exact it_f h21 rfl)
    · have h21 := bz_1 h21
      refine x_aload_n (q := 25) hC d_Pa_listen_24 rfl rfl rfl ?_
      refine x_getr (q := 28) (p := 165) (j := 1) (r := 34) hC f_Pa_38 rfl rfl rfl (by omega) (hu _ _ (by decide)) d_Pa_listen_25 rfl ?_
      refine x_iload_n (q := 29) hC d_Pa_listen_28 rfl rfl rfl ?_
      refine x_callV (q := 32) (p := 34) (A := [.int (nI l)]) (S := []) (c1 := 0) (s1 := 0) hC (c_La_hearsOrLoses (l := l) (by omega) hu (by omega)) s_Pa_listen_138 rfl (by omega) rfl rfl rfl (Nat.le_of_ble_eq_true rfl) rfl rfl (by decide) (by decide) d_Pa_listen_29 rfl (fun r τ hP => ?_)
      obtain ⟨rfl, rfl⟩ := hP
      show mx_G Γ κ _ _ 32 [(1, .int (nI l)), (0, .ref 165)] [.int (bz (m1 56 l = 0))] (nx, u, La_hear l m1) 0 0
      refine x_if_eq (tgt := 47) (q := 35) hC d_Pa_listen_32 (by decide) rfl (fun h32 => ?_) (fun h32 => ?_)
      · have h32 := bz_0 h32
        refine x_iinc (q := 50) (y := nI (l + 1)) (L1 := [(1, .int (nI (l + 1))), (0, .ref 165)]) hC d_Pa_listen_47 rfl (mx_inc l) (by decide) rfl rfl ?_
        refine x_goto (tgt := 7) hC d_Pa_listen_50 (by decide) ?_
        exact x_close hN4 [0, 1] rfl (by first | exact it_t h21 (it_t h32 rfl) | exact it_t h21 (it_f h32 rfl) | exact it_f h21 rfl)
      · have h32 := bz_1 h32
        refine x_aload_n (q := 36) hC d_Pa_listen_35 rfl rfl rfl ?_
        refine x_dup (q := 37) hC d_Pa_listen_36 rfl rfl ?_
        refine x_geti (q := 40) (p := 165) (j := 11) hC f_Pa_31 rfl rfl (by omega) d_Pa_listen_37 rfl ?_
        refine x_iconst (q := 41) (v := nI 1) hC d_Pa_listen_40 (by decide) rfl ?_
        refine x_iload_n (q := 42) hC d_Pa_listen_41 rfl rfl rfl ?_
        refine x_ishl (q := 43) (z := (nI 1) <<< ((nI l) &&& 31)) hC d_Pa_listen_42 rfl rfl ?_
        refine x_ior (q := 44) (z := ((La_hear l m1) 165 11) ||| ((nI 1) <<< ((nI l) &&& 31))) hC d_Pa_listen_43 rfl rfl ?_
        refine x_puti (q := 47) (p := 165) (j := 11) hC f_Pa_31 y_Pa rfl rfl rfl rfl rfl (by omega) (by decide) d_Pa_listen_44 rfl ?_
        refine mx_nr (fun m5 e6 => ?_)
        refine x_iinc (q := 50) (y := nI (l + 1)) (L1 := [(1, .int (nI (l + 1))), (0, .ref 165)]) hC d_Pa_listen_47 rfl (mx_inc l) (by decide) rfl rfl ?_
        refine x_goto (tgt := 7) hC d_Pa_listen_50 (by decide) ?_
        subst e6
        exact x_close hN4 [0, 1] rfl (by first | exact it_t h21 (it_t h32 rfl) | exact it_t h21 (it_f h32 rfl) | exact it_f h21 rfl)
  · intro hx7
    refine mx_nr (fun m8 e9 => ?_)
    try rw [e9] at hx7
    refine x_iload_n (q := 8) hC d_Pa_listen_7 rfl rfl rfl ?_
    refine x_bipush (q := 10) (v := nI 6) hC d_Pa_listen_8 (by decide) rfl ?_
    refine x_icmp_ge (tgt := 53) (q := 13) hC d_Pa_listen_10 (by decide) rfl (fun _ => ?_) (fun h => absurd (nI_le (Nat.le_refl _) (by decide)) h)
    subst e9
    exact x_vret hC rfl ⟨rfl, rfl⟩ (by decide) (by decide) d_Pa_listen_53
set_option maxRecDepth 100000 in
set_option maxHeartbeats 400000 in
theorem c_Pa_switchJoined {Γ : mx_X} {lau : Launch} {nx : Nat} {u : Nat → Nat → Bool} {mi : mx_Mm} {st s : Nat} (hnx : 168 ≤ nx) (hu : ∀ p k, 2 ≤ p → u p k = true) (hst : st < 18) (hs : s < 6) : mx_C Γ lau M_Pa_switchJoined [.ref 165, .int (nI st), .int (nI s)] (nx, u, mi) (fun ρ τ => ρ = none ∧ τ = (nx, u, Pa_sj st s mi)) := by
  refine mx_C.intro (by decide) rfl (Nat.le_of_ble_eq_true rfl) (fun κ _ hC => ?_)
  show mx_G Γ κ _ _ 0 [(0, .ref 165), (1, .int (nI st)), (2, .int (nI s))] [] (nx, u, mi) 0 0
  refine x_aload_n (q := 1) hC d_Pa_switchJoined_0 rfl rfl rfl ?_
  refine x_getr (q := 4) (p := 165) (j := 2) (r := 57) hC f_Pa_42 rfl rfl rfl (by omega) (hu _ _ (by decide)) d_Pa_switchJoined_1 rfl ?_
  refine x_iload_n (q := 5) hC d_Pa_switchJoined_4 rfl rfl rfl ?_
  refine x_iload_n (q := 6) hC d_Pa_switchJoined_5 rfl rfl rfl ?_
  refine x_callV (q := 9) (p := 57) (A := [.int (nI st), .int (nI s)]) (S := []) (c1 := 0) (s1 := 0) hC (c_Sm_renew (s := st) (n := s) (by omega) hu (by omega) (by omega) ) s_Pa_switchJoined_98 rfl (by omega) rfl rfl rfl (Nat.le_of_ble_eq_true rfl) rfl rfl (by decide) (by decide) d_Pa_switchJoined_6 rfl (fun r τ hP => ?_)
  obtain ⟨rfl, rfl⟩ := hP
  show mx_G Γ κ _ _ 9 [(0, .ref 165), (1, .int (nI st)), (2, .int (nI s))] [] (nx, u, Sm_renew st s mi) 0 0
  have J1 : mx_G Γ κ M_Pa_switchJoined (MQ (mx_b κ) (mx_Qc Γ (fun ρ τ => ρ = none ∧ τ = (nx, u, Pa_sj st s mi))) (mx_a κ) (mx_s κ) M_Pa_switchJoined.2.2.2.2.cells M_Pa_switchJoined.2.2.2.2.slots (mx_fr Γ)) 30 [(0, .ref 165), (1, .int (nI st)), (2, .int (nI s))] [] (nx, u, Pa_j1 st s (Sm_renew st s mi)) 0 0 := by
    refine x_iconst (q := 31) (v := nI 0) hC d_Pa_switchJoined_30 (by decide) rfl ?_
    refine x_istore_n (q := 32) (L1 := [(3, .int (nI 0)), (0, .ref 165), (1, .int (nI st)), (2, .int (nI s))]) hC d_Pa_switchJoined_31 rfl (by decide) rfl rfl ?_
    refine x_sub (L1 := [(3, .int (nI 0)), (0, .ref 165), (1, .int (nI st)), (2, .int (nI s))]) [0, 1, 2, 3] rfl ?_
    refine mx_loop (N := 6) (Hd := fun n m2 => mx_G Γ κ _ _ 32 [(3, .int (nI n)), (0, .ref 165), (1, .int (nI st)), (2, .int (nI s))] [] (nx, u, m2) 0 0) (Pa_j2 st) (fun _ _ => True) trivial ?_ ?_ ?_
    · exact fun _ _ _ _ => trivial
    · intro n m2 hl3 hI4 hN5
      refine x_iload_n (q := 33) hC d_Pa_switchJoined_32 rfl rfl rfl ?_
      refine x_bipush (q := 35) (v := nI 6) hC d_Pa_switchJoined_33 (by decide) rfl ?_
      refine x_icmp_ge (tgt := 66) (q := 38) hC d_Pa_switchJoined_35 (by decide) rfl (fun h => absurd h (nI_ge hl3 (by decide))) (fun _ => ?_)
      refine x_aload_n (q := 39) hC d_Pa_switchJoined_38 rfl rfl rfl ?_
      refine x_getr (q := 42) (p := 165) (j := 3) (r := 79) hC f_Pa_46 rfl rfl rfl (by omega) (hu _ _ (by decide)) d_Pa_switchJoined_39 rfl ?_
      refine x_iload_n (q := 43) hC d_Pa_switchJoined_42 rfl rfl rfl ?_
      refine x_iload_n (q := 44) hC d_Pa_switchJoined_43 rfl rfl rfl ?_
      refine x_callV (q := 47) (p := 79) (A := [.int (nI st), .int (nI n)]) (S := []) (c1 := 0) (s1 := 0) hC (c_Tr_sourceJoinOf (a := st) (n := n) (by omega) hu (by omega) (by omega) ) s_Pa_switchJoined_104 rfl (by omega) rfl rfl rfl (Nat.le_of_ble_eq_true rfl) rfl rfl (by decide) (by decide) d_Pa_switchJoined_44 rfl (fun r τ hP => ?_)
      obtain ⟨rfl, rfl⟩ := hP
      show mx_G Γ κ _ _ 47 [(3, .int (nI n)), (0, .ref 165), (1, .int (nI st)), (2, .int (nI s))] [.int (m2 (108 + st) n)] (nx, u, m2) 0 0
      refine x_iconst (q := 48) (v := (-1)) hC d_Pa_switchJoined_47 (by decide) rfl ?_
      refine x_icmp_eq (tgt := 60) (q := 51) hC d_Pa_switchJoined_48 (by decide) rfl (fun h48 => ?_) (fun h48 => ?_)
      · skip
        refine x_iinc (q := 63) (y := nI (n + 1)) (L1 := [(3, .int (nI (n + 1))), (0, .ref 165), (1, .int (nI st)), (2, .int (nI s))]) hC d_Pa_switchJoined_60 rfl (mx_inc n) (by decide) rfl rfl ?_
        refine x_goto (tgt := 32) hC d_Pa_switchJoined_63 (by decide) ?_
        exact x_close hN5 [0, 1, 2, 3] rfl (by first | exact it_t h48 rfl | exact it_f h48 rfl)
      · skip
        refine x_aload_n (q := 52) hC d_Pa_switchJoined_51 rfl rfl rfl ?_
        refine x_getr (q := 55) (p := 165) (j := 2) (r := 57) hC f_Pa_42 rfl rfl rfl (by omega) (hu _ _ (by decide)) d_Pa_switchJoined_52 rfl ?_
        refine x_iload_n (q := 56) hC d_Pa_switchJoined_55 rfl rfl rfl ?_
        refine x_iload_n (q := 57) hC d_Pa_switchJoined_56 rfl rfl rfl ?_
        refine x_callV (q := 60) (p := 57) (A := [.int (nI st), .int (nI n)]) (S := []) (c1 := 0) (s1 := 0) hC (c_Sm_switchOver (s := st) (n := n) (by omega) hu (by omega) (by omega) ) s_Pa_switchJoined_101 rfl (by omega) rfl rfl rfl (Nat.le_of_ble_eq_true rfl) rfl rfl (by decide) (by decide) d_Pa_switchJoined_57 rfl (fun r τ hP => ?_)
        obtain ⟨rfl, rfl⟩ := hP
        show mx_G Γ κ _ _ 60 [(3, .int (nI n)), (0, .ref 165), (1, .int (nI st)), (2, .int (nI s))] [] (nx, u, Sm_over st n m2) 0 0
        refine x_iinc (q := 63) (y := nI (n + 1)) (L1 := [(3, .int (nI (n + 1))), (0, .ref 165), (1, .int (nI st)), (2, .int (nI s))]) hC d_Pa_switchJoined_60 rfl (mx_inc n) (by decide) rfl rfl ?_
        refine x_goto (tgt := 32) hC d_Pa_switchJoined_63 (by decide) ?_
        exact x_close hN5 [0, 1, 2, 3] rfl (by first | exact it_t h48 rfl | exact it_f h48 rfl)
    · intro hx6
      refine mx_nr (fun m7 e8 => ?_)
      try rw [e8] at hx6
      refine x_iload_n (q := 33) hC d_Pa_switchJoined_32 rfl rfl rfl ?_
      refine x_bipush (q := 35) (v := nI 6) hC d_Pa_switchJoined_33 (by decide) rfl ?_
      refine x_icmp_ge (tgt := 66) (q := 38) hC d_Pa_switchJoined_35 (by decide) rfl (fun _ => ?_) (fun h => absurd (nI_le (Nat.le_refl _) (by decide)) h)
      subst e8
      exact x_vret hC rfl ⟨rfl, rfl⟩ (by decide) (by decide) d_Pa_switchJoined_66
  refine x_aload_n (q := 10) hC d_Pa_switchJoined_9 rfl rfl rfl ?_
  refine x_getr (q := 13) (p := 165) (j := 3) (r := 79) hC f_Pa_46 rfl rfl rfl (by omega) (hu _ _ (by decide)) d_Pa_switchJoined_10 rfl ?_
  refine x_iload_n (q := 14) hC d_Pa_switchJoined_13 rfl rfl rfl ?_
  refine x_iload_n (q := 15) hC d_Pa_switchJoined_14 rfl rfl rfl ?_
  refine x_callV (q := 18) (p := 79) (A := [.int (nI st), .int (nI s)]) (S := []) (c1 := 0) (s1 := 0) hC (c_Tr_outerList (a := st) (n := s) (by omega) hu (by omega) (by omega) ) s_Pa_switchJoined_71 rfl (by omega) rfl rfl rfl (Nat.le_of_ble_eq_true rfl) rfl rfl (by decide) (by decide) d_Pa_switchJoined_15 rfl (fun r τ hP => ?_)
  obtain ⟨rfl, rfl⟩ := hP
  show mx_G Γ κ _ _ 18 [(0, .ref 165), (1, .int (nI st)), (2, .int (nI s))] [.int ((Sm_renew st s mi) (146 + st) s)] (nx, u, Sm_renew st s mi) 0 0
  refine x_if_eq (tgt := 30) (q := 21) hC d_Pa_switchJoined_18 (by decide) rfl (fun h18 => ?_) (fun h18 => ?_)
  · skip
    exact x_sub (L1 := [(0, .ref 165), (1, .int (nI st)), (2, .int (nI s))]) [0, 1, 2] rfl (mx_eqG rfl rfl (pr (by first | exact it_t h18 rfl | exact it_f (fun z => z h18) rfl)) J1)
  · skip
    refine x_aload_n (q := 22) hC d_Pa_switchJoined_21 rfl rfl rfl ?_
    refine x_getr (q := 25) (p := 165) (j := 2) (r := 57) hC f_Pa_42 rfl rfl rfl (by omega) (hu _ _ (by decide)) d_Pa_switchJoined_22 rfl ?_
    refine x_iload_n (q := 26) hC d_Pa_switchJoined_25 rfl rfl rfl ?_
    refine x_iload_n (q := 27) hC d_Pa_switchJoined_26 rfl rfl rfl ?_
    refine x_callV (q := 30) (p := 57) (A := [.int (nI st), .int (nI s)]) (S := []) (c1 := 0) (s1 := 0) hC (c_Sm_switchOver (s := st) (n := s) (by omega) hu (by omega) (by omega) ) s_Pa_switchJoined_101 rfl (by omega) rfl rfl rfl (Nat.le_of_ble_eq_true rfl) rfl rfl (by decide) (by decide) d_Pa_switchJoined_27 rfl (fun r τ hP => ?_)
    obtain ⟨rfl, rfl⟩ := hP
    show mx_G Γ κ _ _ 30 [(0, .ref 165), (1, .int (nI st)), (2, .int (nI s))] [] (nx, u, Sm_over st s (Sm_renew st s mi)) 0 0
    exact x_sub (L1 := [(0, .ref 165), (1, .int (nI st)), (2, .int (nI s))]) [0, 1, 2] rfl (mx_eqG rfl rfl (pr (by first | exact it_t h18 rfl | exact it_f (fun z => z h18) rfl)) J1)
set_option maxRecDepth 100000 in
set_option maxHeartbeats 400000 in
theorem c_Pa_register {Γ : mx_X} {lau : Launch} {nx : Nat} {u : Nat → Nat → Bool} {mi : mx_Mm} {st s r : Nat} (hnx : 168 ≤ nx) (hu : ∀ p k, 2 ≤ p → u p k = true) (hst : st < 18) (hs : s < 6) (hr : r < 6) (hm : mi 79 0 = nI r) : mx_C Γ lau M_Pa_register [.ref 165, .int (nI st), .int (nI s)] (nx, u, mi) (fun ρ τ => ρ = some (.int (bz (Pa_rc st s r mi))) ∧ τ = (nx, u, Pa_reg st s r mi)) := by
  refine mx_C.intro (by decide) rfl (Nat.le_of_ble_eq_true rfl) (fun κ _ hC => ?_)
  show mx_G Γ κ _ _ 0 [(0, .ref 165), (1, .int (nI st)), (2, .int (nI s))] [] (nx, u, mi) 0 0
  refine x_aload_n (q := 1) hC d_Pa_register_0 rfl rfl rfl ?_
  refine x_getr (q := 4) (p := 165) (j := 3) (r := 79) hC f_Pa_46 rfl rfl rfl (by omega) (hu _ _ (by decide)) d_Pa_register_1 rfl ?_
  refine x_callV (q := 7) (p := 79) (A := []) (S := []) (c1 := 0) (s1 := 0) hC (c_Tr_meetingPoint  (by omega) hu  ) s_Pa_register_79 rfl (by omega) rfl rfl rfl (Nat.le_of_ble_eq_true rfl) rfl rfl (by decide) (by decide) d_Pa_register_4 rfl (fun r τ hP => ?_)
  obtain ⟨rfl, rfl⟩ := hP
  show mx_G Γ κ _ _ 7 [(0, .ref 165), (1, .int (nI st)), (2, .int (nI s))] [.int (mi 79 0)] (nx, u, mi) 0 0
  refine mx_eqG (S1 := [.int (nI r)]) rfl (by exact congrArg (fun z => Value.int z :: ([] : List Value)) (show mi 79 0 = nI r from hm)) rfl ?_
  refine x_istore_n (q := 8) (L1 := [(3, .int (nI r)), (0, .ref 165), (1, .int (nI st)), (2, .int (nI s))]) hC d_Pa_register_7 rfl (by decide) rfl rfl ?_
  refine x_iload_n (q := 9) hC d_Pa_register_8 rfl rfl rfl ?_
  refine x_iload_n (q := 10) hC d_Pa_register_9 rfl rfl rfl ?_
  refine x_icmp_eq (tgt := 36) (q := 13) hC d_Pa_register_10 (by decide) rfl (fun h10 => ?_) (fun h10 => ?_)
  · skip
    refine x_iconst (q := 37) (v := nI 0) hC d_Pa_register_36 (by decide) rfl ?_
    exact x_iret hC rfl rfl ⟨bz_f (by intro z; first | exact z.1 ((nI_eq (by omega) (by omega)).mp h10) | exact h22 z.2.1 | exact z.2.2 h33), by first | exact pr (it_f (by intro z; first | exact z.1 ((nI_eq (by omega) (by omega)).mp h10) | exact h22 z.2.1 | exact z.2.2 h33) rfl) | exact pr (it_t (And.intro (fun z => h10 (by rw [z])) (And.intro h22 h33)) rfl)⟩ (by decide) (by decide) d_Pa_register_37
  · skip
    refine x_aload_n (q := 14) hC d_Pa_register_13 rfl rfl rfl ?_
    refine x_getr (q := 17) (p := 165) (j := 0) (r := 5) hC f_Pa_34 rfl rfl rfl (by omega) (hu _ _ (by decide)) d_Pa_register_14 rfl ?_
    refine x_iload_n (q := 18) hC d_Pa_register_17 rfl rfl rfl ?_
    refine x_iload_n (q := 19) hC d_Pa_register_18 rfl rfl rfl ?_
    refine x_callV (q := 22) (p := 5) (A := [.int (nI s), .int (nI r)]) (S := []) (c1 := 0) (s1 := 0) hC (c_Ne_areConnected (a := s) (b := r) (by omega) hu (by omega) (by omega)) s_Pa_register_107 rfl (by omega) rfl rfl rfl (Nat.le_of_ble_eq_true rfl) rfl rfl (by decide) (by decide) d_Pa_register_19 rfl (fun r τ hP => ?_)
    obtain ⟨rfl, rfl⟩ := hP
    show mx_G Γ κ _ _ 22 [(3, .int (nI r)), (0, .ref 165), (1, .int (nI st)), (2, .int (nI s))] [.int (bz (mi (14 + s) r < nI 1000))] (nx, u, mi) 0 0
    refine x_if_eq (tgt := 36) (q := 25) hC d_Pa_register_22 (by decide) rfl (fun h22 => ?_) (fun h22 => ?_)
    · have h22 := bz_0 h22
      refine x_iconst (q := 37) (v := nI 0) hC d_Pa_register_36 (by decide) rfl ?_
      exact x_iret hC rfl rfl ⟨bz_f (by intro z; first | exact z.1 ((nI_eq (by omega) (by omega)).mp h10) | exact h22 z.2.1 | exact z.2.2 h33), by first | exact pr (it_f (by intro z; first | exact z.1 ((nI_eq (by omega) (by omega)).mp h10) | exact h22 z.2.1 | exact z.2.2 h33) rfl) | exact pr (it_t (And.intro (fun z => h10 (by rw [z])) (And.intro h22 h33)) rfl)⟩ (by decide) (by decide) d_Pa_register_37
    · have h22 := bz_1 h22
      refine x_aload_n (q := 26) hC d_Pa_register_25 rfl rfl rfl ?_
      refine x_getr (q := 29) (p := 165) (j := 2) (r := 57) hC f_Pa_42 rfl rfl rfl (by omega) (hu _ _ (by decide)) d_Pa_register_26 rfl ?_
      refine x_iload_n (q := 30) hC d_Pa_register_29 rfl rfl rfl ?_
      refine x_callV (q := 33) (p := 57) (A := [.int (nI st)]) (S := []) (c1 := 0) (s1 := 0) hC (c_Sm_isQuiet (s := st) (by omega) hu (by omega) ) s_Pa_register_112 rfl (by omega) rfl rfl rfl (Nat.le_of_ble_eq_true rfl) rfl rfl (by decide) (by decide) d_Pa_register_30 rfl (fun r τ hP => ?_)
      obtain ⟨rfl, rfl⟩ := hP
      show mx_G Γ κ _ _ 33 [(3, .int (nI r)), (0, .ref 165), (1, .int (nI st)), (2, .int (nI s))] [.int (bz (mi 2 0 < mi 78 st))] (nx, u, mi) 0 0
      refine x_if_eq (tgt := 38) (q := 36) hC d_Pa_register_33 (by decide) rfl (fun h33 => ?_) (fun h33 => ?_)
      · have h33 := bz_0 h33
        refine x_aload_n (q := 39) hC d_Pa_register_38 rfl rfl rfl ?_
        refine x_getr (q := 42) (p := 165) (j := 4) (r := 3) hC f_Pa_50 rfl rfl rfl (by omega) (hu _ _ (by decide)) d_Pa_register_39 rfl ?_
        refine x_bipush (q := 44) (v := nI 6) hC d_Pa_register_42 (by decide) rfl ?_
        refine x_callV (q := 47) (p := 3) (A := [.int (nI 6)]) (S := []) (c1 := 0) (s1 := 0) hC (c_Ta_count (k := 6) (by omega) hu (by omega)) s_Pa_register_116 rfl (by omega) rfl rfl rfl (Nat.le_of_ble_eq_true rfl) rfl rfl (by decide) (by decide) d_Pa_register_44 rfl (fun r τ hP => ?_)
        obtain ⟨rfl, rfl⟩ := hP
        show mx_G Γ κ _ _ 47 [(3, .int (nI r)), (0, .ref 165), (1, .int (nI st)), (2, .int (nI s))] [] (nx, u, mx_up mi 4 6 (mi 4 6 + nI 1)) 0 0
        refine x_aload_n (q := 48) hC d_Pa_register_47 rfl rfl rfl ?_
        refine x_getr (q := 51) (p := 165) (j := 2) (r := 57) hC f_Pa_42 rfl rfl rfl (by omega) (hu _ _ (by decide)) d_Pa_register_48 rfl ?_
        refine x_iload_n (q := 52) hC d_Pa_register_51 rfl rfl rfl ?_
        refine x_iload_n (q := 53) hC d_Pa_register_52 rfl rfl rfl ?_
        refine x_callV (q := 56) (p := 57) (A := [.int (nI st), .int (nI r)]) (S := []) (c1 := 0) (s1 := 0) hC (c_Sm_renew (s := st) (n := r) (by omega) hu (by omega) (by omega) ) s_Pa_register_98 rfl (by omega) rfl rfl rfl (Nat.le_of_ble_eq_true rfl) rfl rfl (by decide) (by decide) d_Pa_register_53 rfl (fun r τ hP => ?_)
        obtain ⟨rfl, rfl⟩ := hP
        show mx_G Γ κ _ _ 56 [(3, .int (nI r)), (0, .ref 165), (1, .int (nI st)), (2, .int (nI s))] [] (nx, u, Sm_renew st r (mx_up mi 4 6 (mi 4 6 + nI 1))) 0 0
        refine x_aload_n (q := 57) hC d_Pa_register_56 rfl rfl rfl ?_
        have J1 : mx_G Γ κ M_Pa_register (MQ (mx_b κ) (mx_Qc Γ (fun ρ τ => ρ = some (.int (bz (Pa_rc st s r mi))) ∧ τ = (nx, u, Pa_reg st s r mi))) (mx_a κ) (mx_s κ) M_Pa_register.2.2.2.2.cells M_Pa_register.2.2.2.2.slots (mx_fr Γ)) 97 [(3, .int (nI r)), (0, .ref 165), (1, .int (nI st)), (2, .int (nI s))] [] (nx, u, Pa_r2 st r (Sm_renew st r (Tr_cnt 6 mi))) 0 0 := by
          refine x_iconst (q := 98) (v := nI 1) hC d_Pa_register_97 (by decide) rfl ?_
          exact x_iret hC rfl rfl ⟨bz_t (And.intro (fun z => h10 (by rw [z])) (And.intro h22 h33)), by first | exact pr (it_f (by intro z; first | exact z.1 ((nI_eq (by omega) (by omega)).mp h10) | exact h22 z.2.1 | exact z.2.2 h33) rfl) | exact pr (it_t (And.intro (fun z => h10 (by rw [z])) (And.intro h22 h33)) rfl)⟩ (by decide) (by decide) d_Pa_register_98
        refine x_getr (q := 60) (p := 165) (j := 2) (r := 57) hC f_Pa_42 rfl rfl rfl (by omega) (hu _ _ (by decide)) d_Pa_register_57 rfl ?_
        refine x_iload_n (q := 61) hC d_Pa_register_60 rfl rfl rfl ?_
        refine x_iload_n (q := 62) hC d_Pa_register_61 rfl rfl rfl ?_
        refine x_callV (q := 65) (p := 57) (A := [.int (nI st), .int (nI r)]) (S := []) (c1 := 0) (s1 := 0) hC (c_Sm_isSwitched (s := st) (n := r) (by omega) hu (by omega) (by omega) ) s_Pa_register_83 rfl (by omega) rfl rfl rfl (Nat.le_of_ble_eq_true rfl) rfl rfl (by decide) (by decide) d_Pa_register_62 rfl (fun r τ hP => ?_)
        obtain ⟨rfl, rfl⟩ := hP
        show mx_G Γ κ _ _ 65 [(3, .int (nI r)), (0, .ref 165), (1, .int (nI st)), (2, .int (nI s))] [.int (bz (hold ((Sm_renew st r (mx_up mi 4 6 (mi 4 6 + nI 1))) 77 st) r))] (nx, u, Sm_renew st r (mx_up mi 4 6 (mi 4 6 + nI 1))) 0 0
        refine x_if_ne (tgt := 80) (q := 68) hC d_Pa_register_65 (by decide) rfl (fun h65 => ?_) (fun h65 => ?_)
        · have h65 := bz_1 h65
          refine x_aload_n (q := 81) hC d_Pa_register_80 rfl rfl rfl ?_
          refine x_getr (q := 84) (p := 165) (j := 4) (r := 3) hC f_Pa_50 rfl rfl rfl (by omega) (hu _ _ (by decide)) d_Pa_register_81 rfl ?_
          refine x_bipush (q := 86) (v := nI 7) hC d_Pa_register_84 (by decide) rfl ?_
          refine x_callV (q := 89) (p := 3) (A := [.int (nI 7)]) (S := []) (c1 := 0) (s1 := 0) hC (c_Ta_count (k := 7) (by omega) hu (by omega)) s_Pa_register_116 rfl (by omega) rfl rfl rfl (Nat.le_of_ble_eq_true rfl) rfl rfl (by decide) (by decide) d_Pa_register_86 rfl (fun r τ hP => ?_)
          obtain ⟨rfl, rfl⟩ := hP
          show mx_G Γ κ _ _ 89 [(3, .int (nI r)), (0, .ref 165), (1, .int (nI st)), (2, .int (nI s))] [] (nx, u, mx_up (Sm_renew st r (mx_up mi 4 6 (mi 4 6 + nI 1))) 4 7 ((Sm_renew st r (mx_up mi 4 6 (mi 4 6 + nI 1))) 4 7 + nI 1)) 0 0
          refine mx_nr (fun m2 e3 => ?_)
          refine x_aload_n (q := 90) hC d_Pa_register_89 rfl rfl rfl ?_
          refine x_getr (q := 93) (p := 165) (j := 2) (r := 57) hC f_Pa_42 rfl rfl rfl (by omega) (hu _ _ (by decide)) d_Pa_register_90 rfl ?_
          refine x_iload_n (q := 94) hC d_Pa_register_93 rfl rfl rfl ?_
          refine x_callV (q := 97) (p := 57) (A := [.int (nI st)]) (S := []) (c1 := 0) (s1 := 0) hC (c_Sm_silence (s := st) (by omega) hu (by omega) ) s_Pa_register_122 rfl (by omega) rfl rfl rfl (Nat.le_of_ble_eq_true rfl) rfl rfl (by decide) (by decide) d_Pa_register_94 rfl (fun r τ hP => ?_)
          obtain ⟨rfl, rfl⟩ := hP
          show mx_G Γ κ _ _ 97 [(3, .int (nI r)), (0, .ref 165), (1, .int (nI st)), (2, .int (nI s))] [] (nx, u, mx_up m2 78 st (m2 2 0 + nI 6)) 0 0
          exact x_sub (L1 := [(3, .int (nI r)), (0, .ref 165), (1, .int (nI st)), (2, .int (nI s))]) [0, 1, 2, 3] rfl (mx_eqG rfl rfl (pr (by subst e3; first | exact it_t (Or.inl h65) rfl | exact it_t (Or.inr h77) rfl | exact it_f (fun z => z.elim h65 h77) rfl)) J1)
        · have h65 := bz_0 h65
          refine x_aload_n (q := 69) hC d_Pa_register_68 rfl rfl rfl ?_
          refine x_getr (q := 72) (p := 165) (j := 3) (r := 79) hC f_Pa_46 rfl rfl rfl (by omega) (hu _ _ (by decide)) d_Pa_register_69 rfl ?_
          refine x_iload_n (q := 73) hC d_Pa_register_72 rfl rfl rfl ?_
          refine x_iload_n (q := 74) hC d_Pa_register_73 rfl rfl rfl ?_
          refine x_callV (q := 77) (p := 79) (A := [.int (nI st), .int (nI r)]) (S := []) (c1 := 0) (s1 := 0) hC (c_Tr_outerList (a := st) (n := r) (by omega) hu (by omega) (by omega) ) s_Pa_register_71 rfl (by omega) rfl rfl rfl (Nat.le_of_ble_eq_true rfl) rfl rfl (by decide) (by decide) d_Pa_register_74 rfl (fun r τ hP => ?_)
          obtain ⟨rfl, rfl⟩ := hP
          show mx_G Γ κ _ _ 77 [(3, .int (nI r)), (0, .ref 165), (1, .int (nI st)), (2, .int (nI s))] [.int ((Sm_renew st r (mx_up mi 4 6 (mi 4 6 + nI 1))) (146 + st) r)] (nx, u, Sm_renew st r (mx_up mi 4 6 (mi 4 6 + nI 1))) 0 0
          refine x_if_ne (tgt := 97) (q := 80) hC d_Pa_register_77 (by decide) rfl (fun h77 => ?_) (fun h77 => ?_)
          · skip
            exact x_sub (L1 := [(3, .int (nI r)), (0, .ref 165), (1, .int (nI st)), (2, .int (nI s))]) [0, 1, 2, 3] rfl (mx_eqG rfl rfl (pr (by first | exact it_t (Or.inl h65) rfl | exact it_t (Or.inr h77) rfl | exact it_f (fun z => z.elim h65 h77) rfl)) J1)
          · skip
            refine x_aload_n (q := 81) hC d_Pa_register_80 rfl rfl rfl ?_
            refine x_getr (q := 84) (p := 165) (j := 4) (r := 3) hC f_Pa_50 rfl rfl rfl (by omega) (hu _ _ (by decide)) d_Pa_register_81 rfl ?_
            refine x_bipush (q := 86) (v := nI 7) hC d_Pa_register_84 (by decide) rfl ?_
            refine x_callV (q := 89) (p := 3) (A := [.int (nI 7)]) (S := []) (c1 := 0) (s1 := 0) hC (c_Ta_count (k := 7) (by omega) hu (by omega)) s_Pa_register_116 rfl (by omega) rfl rfl rfl (Nat.le_of_ble_eq_true rfl) rfl rfl (by decide) (by decide) d_Pa_register_86 rfl (fun r τ hP => ?_)
            obtain ⟨rfl, rfl⟩ := hP
            show mx_G Γ κ _ _ 89 [(3, .int (nI r)), (0, .ref 165), (1, .int (nI st)), (2, .int (nI s))] [] (nx, u, mx_up (Sm_renew st r (mx_up mi 4 6 (mi 4 6 + nI 1))) 4 7 ((Sm_renew st r (mx_up mi 4 6 (mi 4 6 + nI 1))) 4 7 + nI 1)) 0 0
            refine mx_nr (fun m4 e5 => ?_)
            refine x_aload_n (q := 90) hC d_Pa_register_89 rfl rfl rfl ?_
            refine x_getr (q := 93) (p := 165) (j := 2) (r := 57) hC f_Pa_42 rfl rfl rfl (by omega) (hu _ _ (by decide)) d_Pa_register_90 rfl ?_
            refine x_iload_n (q := 94) hC d_Pa_register_93 rfl rfl rfl ?_
            refine x_callV (q := 97) (p := 57) (A := [.int (nI st)]) (S := []) (c1 := 0) (s1 := 0) hC (c_Sm_silence (s := st) (by omega) hu (by omega) ) s_Pa_register_122 rfl (by omega) rfl rfl rfl (Nat.le_of_ble_eq_true rfl) rfl rfl (by decide) (by decide) d_Pa_register_94 rfl (fun r τ hP => ?_)
            obtain ⟨rfl, rfl⟩ := hP
            show mx_G Γ κ _ _ 97 [(3, .int (nI r)), (0, .ref 165), (1, .int (nI st)), (2, .int (nI s))] [] (nx, u, mx_up m4 78 st (m4 2 0 + nI 6)) 0 0
            exact x_sub (L1 := [(3, .int (nI r)), (0, .ref 165), (1, .int (nI st)), (2, .int (nI s))]) [0, 1, 2, 3] rfl (mx_eqG rfl rfl (pr (by subst e5; first | exact it_t (Or.inl h65) rfl | exact it_t (Or.inr h77) rfl | exact it_f (fun z => z.elim h65 h77) rfl)) J1)
      · have h33 := bz_1 h33
        refine x_iconst (q := 37) (v := nI 0) hC d_Pa_register_36 (by decide) rfl ?_
        exact x_iret hC rfl rfl ⟨bz_f (by intro z; first | exact z.1 ((nI_eq (by omega) (by omega)).mp h10) | exact h22 z.2.1 | exact z.2.2 h33), by first | exact pr (it_f (by intro z; first | exact z.1 ((nI_eq (by omega) (by omega)).mp h10) | exact h22 z.2.1 | exact z.2.2 h33) rfl) | exact pr (it_t (And.intro (fun z => h10 (by rw [z])) (And.intro h22 h33)) rfl)⟩ (by decide) (by decide) d_Pa_register_37
set_option maxRecDepth 100000 in
set_option maxHeartbeats 400000 in
theorem c_Pa_dispatch {Γ : mx_X} {lau : Launch} {nx : Nat} {u : Nat → Nat → Bool} {mi : mx_Mm} {s g r : Nat} (hnx : 168 ≤ nx) (hu : ∀ p k, 2 ≤ p → u p k = true) (hs : s < 6) (hg : g < 3) (hr : r < 6) (hok : Pa_ok r mi) : mx_C Γ lau M_Pa_dispatch [.ref 165, .int (nI s), .int (nI g)] (nx, u, mi) (fun ρ τ => ρ = none ∧ τ = (nx, u, Pa_disp s g r mi)) := by
  refine mx_C.intro (by decide) rfl (Nat.le_of_ble_eq_true rfl) (fun κ _ hC => ?_)
  show mx_G Γ κ _ _ 0 [(0, .ref 165), (1, .int (nI s)), (2, .int (nI g))] [] (nx, u, mi) 0 0
  refine x_iload_n (q := 1) hC d_Pa_dispatch_0 rfl rfl rfl ?_
  refine x_iload_n (q := 2) hC d_Pa_dispatch_1 rfl rfl rfl ?_
  refine x_callSN (q := 5) (A := [.int (nI s), .int (nI g)]) (S := []) (c1 := 0) (s1 := 0) hC (c_MT_streamOf (s := s) (g := g)) s_Pa_dispatch_54 rfl rfl rfl (Nat.le_of_ble_eq_true rfl) rfl rfl (by decide) (by decide) d_Pa_dispatch_2 rfl (fun r τ hP => ?_)
  obtain ⟨rfl, rfl⟩ := hP
  show mx_G Γ κ _ _ 5 [(0, .ref 165), (1, .int (nI s)), (2, .int (nI g))] [.int (nI (s * 3 + g))] (nx, u, mi) 0 0
  refine x_istore_n (q := 6) (L1 := [(3, .int (nI (s * 3 + g))), (0, .ref 165), (1, .int (nI s)), (2, .int (nI g))]) hC d_Pa_dispatch_5 rfl (by decide) rfl rfl ?_
  refine x_aload_n (q := 7) hC d_Pa_dispatch_6 rfl rfl rfl ?_
  refine x_iconst (q := 8) (v := nI 0) hC d_Pa_dispatch_7 (by decide) rfl ?_
  refine x_puti (q := 11) (p := 165) (j := 7) hC f_Pa_18 y_Pa rfl rfl rfl rfl rfl (by omega) (by decide) d_Pa_dispatch_8 rfl ?_
  refine x_aload_n (q := 12) hC d_Pa_dispatch_11 rfl rfl rfl ?_
  refine x_iconst (q := 13) (v := nI 0) hC d_Pa_dispatch_12 (by decide) rfl ?_
  refine x_puti (q := 16) (p := 165) (j := 8) hC f_Pa_22 y_Pa rfl rfl rfl rfl rfl (by omega) (by decide) d_Pa_dispatch_13 rfl ?_
  refine x_aload_n (q := 17) hC d_Pa_dispatch_16 rfl rfl rfl ?_
  refine x_iconst (q := 18) (v := nI 0) hC d_Pa_dispatch_17 (by decide) rfl ?_
  refine x_puti (q := 21) (p := 165) (j := 9) hC f_Pa_25 y_Pa rfl rfl rfl rfl rfl (by omega) (by decide) d_Pa_dispatch_18 rfl ?_
  refine mx_nr (fun m1 e2 => ?_)
  have J3 : mx_G Γ κ M_Pa_dispatch (MQ (mx_b κ) (mx_Qc Γ (fun ρ τ => ρ = none ∧ τ = (nx, u, Pa_disp s g r mi))) (mx_a κ) (mx_s κ) M_Pa_dispatch.2.2.2.2.cells M_Pa_dispatch.2.2.2.2.slots (mx_fr Γ)) 44 [(3, .int (nI (s * 3 + g))), (0, .ref 165), (1, .int (nI s)), (2, .int (nI g))] [] (nx, u, Pa_d0 s g (Pa_z mi)) 0 0 := by
    refine x_aload_n (q := 45) hC d_Pa_dispatch_44 rfl rfl rfl ?_
    refine x_iload_n (q := 46) hC d_Pa_dispatch_45 rfl rfl rfl ?_
    refine x_iload_n (q := 47) hC d_Pa_dispatch_46 rfl rfl rfl ?_
    refine x_callV (q := 50) (p := 165) (A := [.int (nI (s * 3 + g)), .int (nI s)]) (S := []) (c1 := 0) (s1 := 0) hC (c_Pa_switchJoined (st := s * 3 + g) (s := s) (by omega) hu (by omega) (by omega) ) s_Pa_dispatch_64 rfl (by omega) rfl rfl rfl (Nat.le_of_ble_eq_true rfl) rfl rfl (by decide) (by decide) d_Pa_dispatch_47 rfl (fun r τ hP => ?_)
    obtain ⟨rfl, rfl⟩ := hP
    show mx_G Γ κ _ _ 50 [(3, .int (nI (s * 3 + g))), (0, .ref 165), (1, .int (nI s)), (2, .int (nI g))] [] (nx, u, Pa_sj (s * 3 + g) s (Pa_d0 s g (Pa_z mi))) 0 0
    refine mx_nr (fun mS eS => ?_)
    have hIS : Pa_ok r mS := eS ▸ Pa_sj_ok (by omega) (Pa_d0_ok (Pa_z_ok hok))
    have hmS := hIS.1
    refine x_aload_n (q := 51) hC d_Pa_dispatch_50 rfl rfl rfl ?_
    refine x_iload_n (q := 52) hC d_Pa_dispatch_51 rfl rfl rfl ?_
    refine x_iload_n (q := 53) hC d_Pa_dispatch_52 rfl rfl rfl ?_
    refine x_callV (q := 56) (p := 165) (A := [.int (nI (s * 3 + g)), .int (nI s)]) (S := []) (c1 := 0) (s1 := 0) hC (c_Pa_register (st := s * 3 + g) (s := s) (r := r) (by omega) hu (by omega) (by omega) hr hmS) s_Pa_dispatch_68 rfl (by omega) rfl rfl rfl (Nat.le_of_ble_eq_true rfl) rfl rfl (by decide) (by decide) d_Pa_dispatch_53 rfl (fun r τ hP => ?_)
    obtain ⟨rfl, rfl⟩ := hP
    show mx_G Γ κ _ _ 56 [(3, .int (nI (s * 3 + g))), (0, .ref 165), (1, .int (nI s)), (2, .int (nI g))] [.int (bz (Pa_rc (s * 3 + g) s r mS))] (nx, u, Pa_reg (s * 3 + g) s r mS) 0 0
    refine mx_nr (fun mR eR => ?_)
    have hIR : Pa_ok r mR := eR ▸ Pa_reg_ok (by omega) hIS
    refine x_istore (q := 58) (L1 := [(4, .int (bz (Pa_rc (s * 3 + g) s r mS))), (3, .int (nI (s * 3 + g))), (0, .ref 165), (1, .int (nI s)), (2, .int (nI g))]) hC d_Pa_dispatch_56 (by decide) rfl rfl ?_
    have J4 : mx_G Γ κ M_Pa_dispatch (MQ (mx_b κ) (mx_Qc Γ (fun ρ τ => ρ = none ∧ τ = (nx, u, Pa_disp s g r mi))) (mx_a κ) (mx_s κ) M_Pa_dispatch.2.2.2.2.cells M_Pa_dispatch.2.2.2.2.slots (mx_fr Γ)) 76 [(4, .int (bz (Pa_rc (s * 3 + g) s r mS))), (3, .int (nI (s * 3 + g))), (0, .ref 165), (1, .int (nI s)), (2, .int (nI g))] [] (nx, u, Pa_d3 (s * 3 + g) s mR) 0 0 := by
      refine mx_nr (fun m3 e3 => ?_)
      have hI3 : Pa_ok r m3 := e3 ▸ Pa_d3_ok hs hIR
      refine x_aload_n (q := 77) hC d_Pa_dispatch_76 rfl rfl rfl ?_
      refine x_getr (q := 80) (p := 165) (j := 3) (r := 79) hC f_Pa_46 rfl rfl rfl (by omega) (hu _ _ (by decide)) d_Pa_dispatch_77 rfl ?_
      refine x_callV (q := 83) (p := 79) (A := []) (S := []) (c1 := 0) (s1 := 0) hC (c_Tr_meetingPoint  (by omega) hu  ) s_Pa_dispatch_79 rfl (by omega) rfl rfl rfl (Nat.le_of_ble_eq_true rfl) rfl rfl (by decide) (by decide) d_Pa_dispatch_80 rfl (fun r τ hP => ?_)
      obtain ⟨rfl, rfl⟩ := hP
      show mx_G Γ κ _ _ 83 [(4, .int (bz (Pa_rc (s * 3 + g) s r mS))), (3, .int (nI (s * 3 + g))), (0, .ref 165), (1, .int (nI s)), (2, .int (nI g))] [.int (m3 79 0)] (nx, u, m3) 0 0
      refine mx_eqG (S1 := [.int (nI r)]) rfl (by exact congrArg (fun z => Value.int z :: ([] : List Value)) (show m3 79 0 = nI r from hI3.1)) rfl ?_
      refine x_istore (q := 85) (L1 := [(5, .int (nI r)), (4, .int (bz (Pa_rc (s * 3 + g) s r mS))), (3, .int (nI (s * 3 + g))), (0, .ref 165), (1, .int (nI s)), (2, .int (nI g))]) hC d_Pa_dispatch_83 (by decide) rfl rfl ?_
      have J5 : mx_G Γ κ M_Pa_dispatch (MQ (mx_b κ) (mx_Qc Γ (fun ρ τ => ρ = none ∧ τ = (nx, u, Pa_disp s g r mi))) (mx_a κ) (mx_s κ) M_Pa_dispatch.2.2.2.2.cells M_Pa_dispatch.2.2.2.2.slots (mx_fr Γ)) 110 [(3, .int (nI (s * 3 + g))), (0, .ref 165), (1, .int (nI s)), (2, .int (nI g))] [] (nx, u, Pa_d4 (s * 3 + g) r (Pa_rc (s * 3 + g) s r mS) m3) 0 0 := by
        refine mx_nr (fun m4 e4 => ?_)
        have hI4 : Pa_ok r m4 := e4 ▸ Pa_d4_ok hr hI3
        refine x_iconst (q := 111) (v := nI 0) hC d_Pa_dispatch_110 (by decide) rfl ?_
        refine x_istore (q := 113) (L1 := [(6, .int (nI 0)), (3, .int (nI (s * 3 + g))), (0, .ref 165), (1, .int (nI s)), (2, .int (nI g))]) hC d_Pa_dispatch_111 (by decide) rfl rfl ?_
        refine x_sub (L1 := [(6, .int (nI 0)), (3, .int (nI (s * 3 + g))), (0, .ref 165), (1, .int (nI s)), (2, .int (nI g))]) [0, 1, 2, 3, 4] rfl ?_
        refine mx_loopB (N := 6) (Hd := fun k m6 => mx_G Γ κ M_Pa_dispatch (MQ (mx_b κ) (mx_Qc Γ (fun ρ τ => ρ = none ∧ τ = (nx, u, Pa_disp s g r mi))) (mx_a κ) (mx_s κ) M_Pa_dispatch.2.2.2.2.cells M_Pa_dispatch.2.2.2.2.slots (mx_fr Γ)) 113 [(6, .int (nI k)), (3, .int (nI (s * 3 + g))), (0, .ref 165), (1, .int (nI s)), (2, .int (nI g))] [] (nx, u, m6) 0 0) (Ex := fun m6 => mx_G Γ κ M_Pa_dispatch (MQ (mx_b κ) (mx_Qc Γ (fun ρ τ => ρ = none ∧ τ = (nx, u, Pa_disp s g r mi))) (mx_a κ) (mx_s κ) M_Pa_dispatch.2.2.2.2.cells M_Pa_dispatch.2.2.2.2.slots (mx_fr Γ)) 143 [(3, .int (nI (s * 3 + g))), (0, .ref 165), (1, .int (nI s)), (2, .int (nI g))] [] (nx, u, m6) 0 0) (Pa_puts (s * 3 + g) s r) (fun k m => nI k < m 165 7) (fun _ m => Pa_ok r m) hI4 ?_ ?_ ?_ ?_ ?_
        · exact fun k m hk h => Pa_puts_ok h
        · exact fun i j m hij hj hn => if_neg (Pa_stay hij hj hn)
        · intro k m6 hl7 hI8 hN9 hE10
          refine x_iload (q := 115) hC d_Pa_dispatch_113 rfl rfl ?_
          refine x_bipush (q := 117) (v := nI 6) hC d_Pa_dispatch_115 (by decide) rfl ?_
          refine x_icmp_ge (tgt := 143) (q := 120) hC d_Pa_dispatch_117 (by decide) rfl (fun h => absurd h (nI_ge hl7 (by decide))) (fun _ => ?_)
          refine x_iload (q := 122) hC d_Pa_dispatch_120 rfl rfl ?_
          refine x_aload_n (q := 123) hC d_Pa_dispatch_122 rfl rfl rfl ?_
          refine x_geti (q := 126) (p := 165) (j := 7) hC f_Pa_18 rfl rfl (by omega) d_Pa_dispatch_123 rfl ?_
          refine x_icmp_ge (tgt := 143) (q := 129) hC d_Pa_dispatch_126 (by decide) rfl (fun h126 => ?_) (fun h126 => ?_)
          · skip
            exact x_sub (L1 := [(3, .int (nI (s * 3 + g))), (0, .ref 165), (1, .int (nI s)), (2, .int (nI g))]) [1, 2, 3, 4] rfl (hE10 (Int32.not_lt.mpr h126))
          · skip
            refine x_aload_n (q := 130) hC d_Pa_dispatch_129 rfl rfl rfl ?_
            refine x_iload_n (q := 131) hC d_Pa_dispatch_130 rfl rfl rfl ?_
            refine x_iload_n (q := 132) hC d_Pa_dispatch_131 rfl rfl rfl ?_
            refine x_iload (q := 134) hC d_Pa_dispatch_132 rfl rfl ?_
            refine x_callV (q := 137) (p := 165) (A := [.int (nI (s * 3 + g)), .int (nI s), .int (nI k)]) (S := []) (c1 := 0) (s1 := 0) hC (c_Pa_putOut (st := s * 3 + g) (s := s) (k := k) (r := r) (by omega) hu (by omega) (by omega) (by omega) hr hI8) s_Pa_dispatch_88 rfl (by omega) rfl rfl rfl (Nat.le_of_ble_eq_true rfl) rfl rfl (by decide) (by decide) d_Pa_dispatch_134 rfl (fun r τ hP => ?_)
            obtain ⟨rfl, rfl⟩ := hP
            show mx_G Γ κ _ _ 137 [(6, .int (nI k)), (3, .int (nI (s * 3 + g))), (0, .ref 165), (1, .int (nI s)), (2, .int (nI g))] [] (nx, u, Pa_put (s * 3 + g) s r k m6) 0 0
            refine x_iinc (q := 140) (y := nI (k + 1)) (L1 := [(6, .int (nI (k + 1))), (3, .int (nI (s * 3 + g))), (0, .ref 165), (1, .int (nI s)), (2, .int (nI g))]) hC d_Pa_dispatch_137 rfl (mx_inc k) (by decide) rfl rfl ?_
            refine x_goto (tgt := 113) hC d_Pa_dispatch_140 (by decide) ?_
            exact x_close (hN9 (Int32.not_le.mp h126)) [0, 1, 2, 3, 4] rfl (by exact it_t (Int32.not_le.mp h126) rfl)
        · intro m6 hI12 hE11
          refine x_iload (q := 115) hC d_Pa_dispatch_113 rfl rfl ?_
          refine x_bipush (q := 117) (v := nI 6) hC d_Pa_dispatch_115 (by decide) rfl ?_
          refine x_icmp_ge (tgt := 143) (q := 120) hC d_Pa_dispatch_117 (by decide) rfl (fun _ => ?_) (fun h => absurd (nI_le (Nat.le_refl _) (by decide)) h)
          exact x_sub (L1 := [(3, .int (nI (s * 3 + g))), (0, .ref 165), (1, .int (nI s)), (2, .int (nI g))]) [1, 2, 3, 4] rfl hE11
        · refine mx_nr (fun mb113 eb113 => ?_)
          refine x_aload_n (q := 144) hC d_Pa_dispatch_143 rfl rfl rfl ?_
          refine x_iload_n (q := 145) hC d_Pa_dispatch_144 rfl rfl rfl ?_
          refine x_iload_n (q := 146) hC d_Pa_dispatch_145 rfl rfl rfl ?_
          refine x_callV (q := 149) (p := 165) (A := [.int (nI (s * 3 + g)), .int (nI g)]) (S := []) (c1 := 0) (s1 := 0) hC (c_Pa_renewCarriers (st := s * 3 + g) (g := g) (r := r) (by omega) hu (by omega) (by omega) (eb113 ▸ lp_keep (Pa_ok r) 6 hI4 (fun _ _ _ h => Pa_puts_ok h))) s_Pa_dispatch_92 rfl (by omega) rfl rfl rfl (Nat.le_of_ble_eq_true rfl) rfl rfl (by decide) (by decide) d_Pa_dispatch_146 rfl (fun r τ hP => ?_)
          obtain ⟨rfl, rfl⟩ := hP
          show mx_G Γ κ _ _ 149 [(3, .int (nI (s * 3 + g))), (0, .ref 165), (1, .int (nI s)), (2, .int (nI g))] [] (nx, u, mx_lp 6 (Pa_rn (s * 3 + g) g) mb113) 0 0
          refine x_aload_n (q := 150) hC d_Pa_dispatch_149 rfl rfl rfl ?_
          refine x_callV (q := 153) (p := 165) (A := []) (S := []) (c1 := 0) (s1 := 0) hC (c_Pa_listen  (by omega) hu  ) s_Pa_dispatch_95 rfl (by omega) rfl rfl rfl (Nat.le_of_ble_eq_true rfl) rfl rfl (by decide) (by decide) d_Pa_dispatch_150 rfl (fun r τ hP => ?_)
          obtain ⟨rfl, rfl⟩ := hP
          show mx_G Γ κ _ _ 153 [(3, .int (nI (s * 3 + g))), (0, .ref 165), (1, .int (nI s)), (2, .int (nI g))] [] (nx, u, Pa_listen (mx_lp 6 (Pa_rn (s * 3 + g) g) mb113)) 0 0
          subst eb113
          subst e4
          subst e3
          subst eR
          subst eS
          subst e2
          exact x_vret hC rfl ⟨rfl, rfl⟩ (by decide) (by decide) d_Pa_dispatch_153
      refine x_iload (q := 87) hC d_Pa_dispatch_85 rfl rfl ?_
      refine x_if_eq (tgt := 110) (q := 90) hC d_Pa_dispatch_87 (by decide) rfl (fun h87 => ?_) (fun h87 => ?_)
      · have h87 := bz_0 h87
        exact x_sub (L1 := [(3, .int (nI (s * 3 + g))), (0, .ref 165), (1, .int (nI s)), (2, .int (nI g))]) [2, 3, 4, 5] rfl (mx_eqG rfl rfl (pr (by subst e3; subst eR; subst eS; subst e2; first | exact it_t (And.intro h87 h100) rfl | exact it_f (fun z => h87 z.1) rfl | exact it_f (fun z => z.2 h100) rfl)) J5)
      · have h87 := bz_1 h87
        refine x_aload_n (q := 91) hC d_Pa_dispatch_90 rfl rfl rfl ?_
        refine x_getr (q := 94) (p := 165) (j := 2) (r := 57) hC f_Pa_42 rfl rfl rfl (by omega) (hu _ _ (by decide)) d_Pa_dispatch_91 rfl ?_
        refine x_iload_n (q := 95) hC d_Pa_dispatch_94 rfl rfl rfl ?_
        refine x_iload (q := 97) hC d_Pa_dispatch_95 rfl rfl ?_
        refine x_callV (q := 100) (p := 57) (A := [.int (nI (s * 3 + g)), .int (nI r)]) (S := []) (c1 := 0) (s1 := 0) hC (c_Sm_isSwitched (s := s * 3 + g) (n := r) (by omega) hu (by omega) (by omega) ) s_Pa_dispatch_83 rfl (by omega) rfl rfl rfl (Nat.le_of_ble_eq_true rfl) rfl rfl (by decide) (by decide) d_Pa_dispatch_97 rfl (fun r τ hP => ?_)
        obtain ⟨rfl, rfl⟩ := hP
        show mx_G Γ κ _ _ 100 [(5, .int (nI r)), (4, .int (bz (Pa_rc (s * 3 + g) s r mS))), (3, .int (nI (s * 3 + g))), (0, .ref 165), (1, .int (nI s)), (2, .int (nI g))] [.int (bz (hold (m3 77 (s * 3 + g)) r))] (nx, u, m3) 0 0
        refine x_if_ne (tgt := 110) (q := 103) hC d_Pa_dispatch_100 (by decide) rfl (fun h100 => ?_) (fun h100 => ?_)
        · have h100 := bz_1 h100
          exact x_sub (L1 := [(3, .int (nI (s * 3 + g))), (0, .ref 165), (1, .int (nI s)), (2, .int (nI g))]) [2, 3, 4, 5] rfl (mx_eqG rfl rfl (pr (by subst e3; subst eR; subst eS; subst e2; first | exact it_t (And.intro h87 h100) rfl | exact it_f (fun z => h87 z.1) rfl | exact it_f (fun z => z.2 h100) rfl)) J5)
        · have h100 := bz_0 h100
          refine x_aload_n (q := 104) hC d_Pa_dispatch_103 rfl rfl rfl ?_
          refine x_iload (q := 106) hC d_Pa_dispatch_104 rfl rfl ?_
          refine x_iconst (q := 107) (v := (-1)) hC d_Pa_dispatch_106 (by decide) rfl ?_
          refine x_callV (q := 110) (p := 165) (A := [.int (nI r), .int ((-1))]) (S := []) (c1 := 0) (s1 := 0) hC (c_Pa_carry (n := r) (r := r) (x := (-1)) (by omega) hu hI3) s_Pa_dispatch_76 rfl (by omega) rfl rfl rfl (Nat.le_of_ble_eq_true rfl) rfl rfl (by decide) (by decide) d_Pa_dispatch_107 rfl (fun r τ hP => ?_)
          obtain ⟨rfl, rfl⟩ := hP
          show mx_G Γ κ _ _ 110 [(5, .int (nI r)), (4, .int (bz (Pa_rc (s * 3 + g) s r mS))), (3, .int (nI (s * 3 + g))), (0, .ref 165), (1, .int (nI s)), (2, .int (nI g))] [] (nx, u, Pa_carry r (-1) m3) 0 0
          exact x_sub (L1 := [(3, .int (nI (s * 3 + g))), (0, .ref 165), (1, .int (nI s)), (2, .int (nI g))]) [2, 3, 4, 5] rfl (mx_eqG rfl rfl (pr (by subst e3; subst eR; subst eS; subst e2; first | exact it_t (And.intro h87 h100) rfl | exact it_f (fun z => h87 z.1) rfl | exact it_f (fun z => z.2 h100) rfl)) J5)
    refine x_aload_n (q := 59) hC d_Pa_dispatch_58 rfl rfl rfl ?_
    refine x_getr (q := 62) (p := 165) (j := 3) (r := 79) hC f_Pa_46 rfl rfl rfl (by omega) (hu _ _ (by decide)) d_Pa_dispatch_59 rfl ?_
    refine x_iload_n (q := 63) hC d_Pa_dispatch_62 rfl rfl rfl ?_
    refine x_iload_n (q := 64) hC d_Pa_dispatch_63 rfl rfl rfl ?_
    refine x_callV (q := 67) (p := 79) (A := [.int (nI (s * 3 + g)), .int (nI s)]) (S := []) (c1 := 0) (s1 := 0) hC (c_Tr_outerList (a := s * 3 + g) (n := s) (by omega) hu (by omega) (by omega) ) s_Pa_dispatch_71 rfl (by omega) rfl rfl rfl (Nat.le_of_ble_eq_true rfl) rfl rfl (by decide) (by decide) d_Pa_dispatch_64 rfl (fun r τ hP => ?_)
    obtain ⟨rfl, rfl⟩ := hP
    show mx_G Γ κ _ _ 67 [(4, .int (bz (Pa_rc (s * 3 + g) s r mS))), (3, .int (nI (s * 3 + g))), (0, .ref 165), (1, .int (nI s)), (2, .int (nI g))] [.int (mR (146 + (s * 3 + g)) s)] (nx, u, mR) 0 0
    refine x_if_eq (tgt := 76) (q := 70) hC d_Pa_dispatch_67 (by decide) rfl (fun h67 => ?_) (fun h67 => ?_)
    · skip
      exact x_sub (L1 := [(4, .int (bz (Pa_rc (s * 3 + g) s r mS))), (3, .int (nI (s * 3 + g))), (0, .ref 165), (1, .int (nI s)), (2, .int (nI g))]) [0, 1, 2, 3, 4] rfl (mx_eqG rfl rfl (pr (by subst eR; subst eS; subst e2; first | exact it_t h67 rfl | exact it_f (fun z => z h67) rfl)) J4)
    · skip
      refine x_aload_n (q := 71) hC d_Pa_dispatch_70 rfl rfl rfl ?_
      refine x_iload_n (q := 72) hC d_Pa_dispatch_71 rfl rfl rfl ?_
      refine x_iconst (q := 73) (v := (-1)) hC d_Pa_dispatch_72 (by decide) rfl ?_
      refine x_callV (q := 76) (p := 165) (A := [.int (nI s), .int ((-1))]) (S := []) (c1 := 0) (s1 := 0) hC (c_Pa_carry (n := s) (r := r) (x := (-1)) (by omega) hu hIR) s_Pa_dispatch_76 rfl (by omega) rfl rfl rfl (Nat.le_of_ble_eq_true rfl) rfl rfl (by decide) (by decide) d_Pa_dispatch_73 rfl (fun r τ hP => ?_)
      obtain ⟨rfl, rfl⟩ := hP
      show mx_G Γ κ _ _ 76 [(4, .int (bz (Pa_rc (s * 3 + g) s r mS))), (3, .int (nI (s * 3 + g))), (0, .ref 165), (1, .int (nI s)), (2, .int (nI g))] [] (nx, u, Pa_carry s (-1) mR) 0 0
      exact x_sub (L1 := [(4, .int (bz (Pa_rc (s * 3 + g) s r mS))), (3, .int (nI (s * 3 + g))), (0, .ref 165), (1, .int (nI s)), (2, .int (nI g))]) [0, 1, 2, 3, 4] rfl (mx_eqG rfl rfl (pr (by subst eR; subst eS; subst e2; first | exact it_t h67 rfl | exact it_f (fun z => z h67) rfl)) J4)
  refine x_aload_n (q := 22) hC d_Pa_dispatch_21 rfl rfl rfl ?_
  refine x_aload_n (q := 23) hC d_Pa_dispatch_22 rfl rfl rfl ?_
  refine x_getr (q := 26) (p := 165) (j := 1) (r := 34) hC f_Pa_38 rfl rfl rfl (by omega) (hu _ _ (by decide)) d_Pa_dispatch_23 rfl ?_
  refine x_iload_n (q := 27) hC d_Pa_dispatch_26 rfl rfl rfl ?_
  refine x_iload_n (q := 28) hC d_Pa_dispatch_27 rfl rfl rfl ?_
  refine x_callV (q := 31) (p := 34) (A := [.int (nI s), .int (nI g)]) (S := [.ref 165]) (c1 := 0) (s1 := 0) hC (c_La_isMarked (l := s) (g := g) (by omega) hu (by omega) (by omega) ) s_Pa_dispatch_58 rfl (by omega) rfl rfl rfl (Nat.le_of_ble_eq_true rfl) rfl rfl (by decide) (by decide) d_Pa_dispatch_28 rfl (fun r τ hP => ?_)
  obtain ⟨rfl, rfl⟩ := hP
  show mx_G Γ κ _ _ 31 [(3, .int (nI (s * 3 + g))), (0, .ref 165), (1, .int (nI s)), (2, .int (nI g))] [.int (bz (m1 2 0 < m1 (43 + s) g)), .ref 165] (nx, u, m1) 0 0
  refine x_if_eq (tgt := 40) (q := 34) hC d_Pa_dispatch_31 (by decide) rfl (fun h31 => ?_) (fun h31 => ?_)
  · have h31 := bz_0 h31
    refine x_iconst (q := 41) (v := nI 0) hC d_Pa_dispatch_40 (by decide) rfl ?_
    refine x_puti (q := 44) (p := 165) (j := 10) hC f_Pa_28 y_Pa rfl rfl rfl rfl rfl (by omega) (by decide) d_Pa_dispatch_41 rfl ?_
    exact x_sub (L1 := [(3, .int (nI (s * 3 + g))), (0, .ref 165), (1, .int (nI s)), (2, .int (nI g))]) [0, 1, 2, 3] rfl (mx_eqG rfl rfl (pr (by subst e2; first | (exact congrArg (mx_up (Pa_z mi) 165 10) (it_t h31 rfl)) | (exact congrArg (mx_up (Pa_z mi) 165 10) (it_f h31 rfl)))) J3)
  · have h31 := bz_1 h31
    refine x_iconst (q := 35) (v := nI 1) hC d_Pa_dispatch_34 (by decide) rfl ?_
    refine x_iload_n (q := 36) hC d_Pa_dispatch_35 rfl rfl rfl ?_
    refine x_ishl (q := 37) (z := (nI 1) <<< ((nI s) &&& 31)) hC d_Pa_dispatch_36 rfl rfl ?_
    refine x_goto (tgt := 41) hC d_Pa_dispatch_37 (by decide) ?_
    refine x_puti (q := 44) (p := 165) (j := 10) hC f_Pa_28 y_Pa rfl rfl rfl rfl rfl (by omega) (by decide) d_Pa_dispatch_41 rfl ?_
    exact x_sub (L1 := [(3, .int (nI (s * 3 + g))), (0, .ref 165), (1, .int (nI s)), (2, .int (nI g))]) [0, 1, 2, 3] rfl (mx_eqG rfl rfl (pr (by subst e2; first | (exact congrArg (mx_up (Pa_z mi) 165 10) (it_t h31 rfl)) | (exact congrArg (mx_up (Pa_z mi) 165 10) (it_f h31 rfl)))) J3)
end
section
/-! files -/
def Fi_c3 (c s g : Nat) (b : Int32) (m : mx_Mm) : mx_Mm := mx_up (mx_up (mx_up m 169 c (nI s)) 170 c (nI g)) 171 c b
def Fi_c4 (c s g : Nat) (b : Int32) (m : mx_Mm) : mx_Mm := mx_up (Fi_c3 c s g b m) 168 11 ((Fi_c3 c s g b m) 168 11 + nI 1)
def Fi_hb (f : Nat) (m : mx_Mm) (b : Nat) : Bool := decide (hold (m 173 f) b)
def Fi_n1 (f : Nat) (m : mx_Mm) : mx_Mm := mx_up m 172 f (m 172 f + nI 1)
def Fi_tm (f n : Nat) (m : mx_Mm) : mx_Mm := if pm_fd n (Fi_hb f m) < n then mx_up m 173 f (m 173 f &&& (bit (pm_fd n (Fi_hb f m)) ^^^ (-1))) else if m 172 f = m 171 f then m else Fi_n1 f m
def Fi_tv (f n : Nat) (m : mx_Mm) : Int32 := if pm_fd n (Fi_hb f m) < n then nI (pm_fd n (Fi_hb f m)) else if m 172 f = m 171 f then m 171 f else (Fi_n1 f m) 172 f - nI 1
def Fi_s1 (f l : Nat) (x : Int32) (m : mx_Mm) : mx_Mm := if x < m 171 f then mx_up m (175 + f) l (m (175 + f) l ||| nI 1 <<< (x &&& 31)) else m
def Fi_s2 (f l : Nat) (x : Int32) (m : mx_Mm) : mx_Mm := mx_up m (180 + f) l (pm_x (m (180 + f) l) (pm_n (x + nI 1) (m 171 f)))
def Fi_store (f : Nat) (x : Int32) (l : Nat) (m : mx_Mm) : mx_Mm := Fi_s2 f l x (Fi_s1 f l x m)
def Fi_d1 (f g : Nat) (x y : Int32) (l : Nat) (m : mx_Mm) : mx_Mm := if hold y l ∧ ¬ m (36 + l) g = 0 then Fi_store f x l m else m
def Fi_mis (f l : Nat) (m : mx_Mm) : Int32 := (nI 1 <<< (m (180 + f) l &&& 31) - nI 1) &&& (m (175 + f) l ^^^ (-1))
abbrev Fi_part (f s g l : Nat) (m : mx_Mm) : Prop := m (14 + l) s < nI 1000 ∧ ¬ m (36 + l) g = 0 ∧ ¬ Fi_mis f l m = 0
def Fi_draw (m : mx_Mm) : mx_Mm := mx_up m 168 12 (m 168 12 * 1103515245 + nI 12345)
def Fi_dv (m : mx_Mm) : Int32 := (m 168 12).toUInt32 >>> ((nI 16).toUInt32 &&& Int32.toUInt32 31) |>.toInt32 |> (· &&& nI 7)
def Fi_w1 (f s g l : Nat) (m : mx_Mm) : mx_Mm := if Fi_part f s g l m then mx_up (Fi_draw m) 184 l (Fi_dv (Fi_draw m)) else mx_up m 184 l (-1)
def Fi_waits (f s g : Nat) (m : mx_Mm) : mx_Mm := mx_lp 6 (Fi_w1 f s g) m
def Fi_a1 (f w l : Nat) (a : Int32 × Int32 × mx_Mm) : Int32 × Int32 × mx_Mm := if a.2.2 184 l = nI w then (if Fi_mis f l a.2.2 &&& (a.1 ^^^ (-1)) = 0 then (a.1, a.2.1, Tr_cnt 9 a.2.2) else (a.1 ||| Fi_mis f l (Tr_cnt 8 a.2.2), a.2.1 + 1, Tr_cnt 8 a.2.2)) else a
def Fi_asks (f s g : Nat) (m : mx_Mm) : Int32 × Int32 × mx_Mm := mx_lp 8 (fun w => mx_lp 6 (Fi_a1 f w)) (nI 0, nI 0, Fi_waits f s g m)
def Fi_end (f : Nat) (a : Int32 × Int32 × mx_Mm) : mx_Mm := mx_up a.2.2 173 f (a.2.2 173 f ||| a.1)
/-- the files' sources and groups stay -/
def Fi_ok (f s g : Nat) (m : mx_Mm) : Prop := m 169 f = nI s ∧ m 170 f = nI g
theorem Fi_ok.upP {f s g : Nat} {m : mx_Mm} (h : Fi_ok f s g m) {p k : Nat} {x : Int32} (hp : p ≠ 169 ∧ p ≠ 170) : Fi_ok f s g (mx_up m p k x) := ⟨by rw [up_neP (by omega)]; exact h.1, by rw [up_neP (by omega)]; exact h.2⟩
theorem Fi_w1_ok {f s g l : Nat} {m : mx_Mm} (h : Fi_ok f s g m) : Fi_ok f s g (Fi_w1 f s g l m) := by
  unfold Fi_w1
  split
  · exact Fi_ok.upP (Fi_ok.upP h (by decide)) (by decide)
  · exact h.upP (by decide)
theorem Fi_d1_ok {f s g l : Nat} {x y : Int32} {m : mx_Mm} (hf : f < 4) (h : Fi_ok f s g m) : Fi_ok f s g (Fi_d1 f g x y l m) := by
  unfold Fi_d1 Fi_store
  split
  · refine Fi_ok.upP ?_ (by omega)
    unfold Fi_s1
    split
    · exact h.upP (by omega)
    · exact h
  · exact h
end
section
set_option maxRecDepth 100000 in
set_option maxHeartbeats 400000 in
theorem c_Fi_exists {Γ : mx_X} {lau : Launch} {nx : Nat} {u : Nat → Nat → Bool} {mi : mx_Mm} {x : Int32} (hnx : 185 ≤ nx) (hu : ∀ p k, 2 ≤ p → u p k = true)  : mx_C Γ lau M_Fi_exists [.ref 168, .int x] (nx, u, mi) (fun ρ τ => ρ = some (.int (bz (0 ≤ x ∧ x < mi 168 11))) ∧ τ = (nx, u, mi)) := by
  refine mx_C.intro (by decide) rfl (Nat.le_of_ble_eq_true rfl) (fun κ _ hC => ?_)
  show mx_G Γ κ _ _ 0 [(0, .ref 168), (1, .int x)] [] (nx, u, mi) 0 0
  refine x_iload_n (q := 1) hC d_Fi_exists_0 rfl rfl rfl ?_
  refine x_if_lt (tgt := 16) (q := 4) hC d_Fi_exists_1 (by decide) rfl (fun h1 => ?_) (fun h1 => ?_)
  · skip
    refine x_iconst (q := 17) (v := nI 0) hC d_Fi_exists_16 (by decide) rfl ?_
    exact x_iret hC rfl rfl ⟨bz_f (fun q => Int32.not_le.mpr h1 q.1), rfl⟩ (by decide) (by decide) d_Fi_exists_17
  · skip
    refine x_iload_n (q := 5) hC d_Fi_exists_4 rfl rfl rfl ?_
    refine x_aload_n (q := 6) hC d_Fi_exists_5 rfl rfl rfl ?_
    refine x_geti (q := 9) (p := 168) (j := 11) hC f_Fi_38 rfl rfl (by omega) d_Fi_exists_6 rfl ?_
    refine x_icmp_ge (tgt := 16) (q := 12) hC d_Fi_exists_9 (by decide) rfl (fun h9 => ?_) (fun h9 => ?_)
    · skip
      refine x_iconst (q := 17) (v := nI 0) hC d_Fi_exists_16 (by decide) rfl ?_
      exact x_iret hC rfl rfl ⟨bz_f (fun q => Int32.not_lt.mpr h9 q.2), rfl⟩ (by decide) (by decide) d_Fi_exists_17
    · skip
      refine x_iconst (q := 13) (v := nI 1) hC d_Fi_exists_12 (by decide) rfl ?_
      refine x_goto (tgt := 17) hC d_Fi_exists_13 (by decide) ?_
      exact x_iret hC rfl rfl ⟨bz_t (And.intro (Int32.not_lt.mp h1) (Int32.not_le.mp h9)), rfl⟩ (by decide) (by decide) d_Fi_exists_17
set_option maxRecDepth 100000 in
set_option maxHeartbeats 400000 in
theorem c_Fi_isFull {Γ : mx_X} {lau : Launch} {nx : Nat} {u : Nat → Nat → Bool} {mi : mx_Mm}  (hnx : 185 ≤ nx) (hu : ∀ p k, 2 ≤ p → u p k = true)  : mx_C Γ lau M_Fi_isFull [.ref 168] (nx, u, mi) (fun ρ τ => ρ = some (.int (bz (¬ mi 168 11 < nI 4))) ∧ τ = (nx, u, mi)) := by
  refine mx_C.intro (by decide) rfl (Nat.le_of_ble_eq_true rfl) (fun κ _ hC => ?_)
  show mx_G Γ κ _ _ 0 [(0, .ref 168)] [] (nx, u, mi) 0 0
  refine x_aload_n (q := 1) hC d_Fi_isFull_0 rfl rfl rfl ?_
  refine x_geti (q := 4) (p := 168) (j := 11) hC f_Fi_38 rfl rfl (by omega) d_Fi_isFull_1 rfl ?_
  refine x_iconst (q := 5) (v := nI 4) hC d_Fi_isFull_4 (by decide) rfl ?_
  refine x_icmp_lt (tgt := 12) (q := 8) hC d_Fi_isFull_5 (by decide) rfl (fun h5 => ?_) (fun h5 => ?_)
  · skip
    refine x_iconst (q := 13) (v := nI 0) hC d_Fi_isFull_12 (by decide) rfl ?_
    exact x_iret hC rfl rfl ⟨bz_f (fun q => q h5), rfl⟩ (by decide) (by decide) d_Fi_isFull_13
  · skip
    refine x_iconst (q := 9) (v := nI 1) hC d_Fi_isFull_8 (by decide) rfl ?_
    refine x_goto (tgt := 13) hC d_Fi_isFull_9 (by decide) ?_
    exact x_iret hC rfl rfl ⟨bz_t (h5), rfl⟩ (by decide) (by decide) d_Fi_isFull_13
set_option maxRecDepth 100000 in
set_option maxHeartbeats 400000 in
theorem c_Fi_create {Γ : mx_X} {lau : Launch} {nx : Nat} {u : Nat → Nat → Bool} {mi : mx_Mm} {c s g : Nat} {b : Int32} (hnx : 185 ≤ nx) (hu : ∀ p k, 2 ≤ p → u p k = true) (hc : mi 168 11 = nI c) (hc4 : c < 4) : mx_C Γ lau M_Fi_create [.ref 168, .int (nI s), .int (nI g), .int b] (nx, u, mi) (fun ρ τ => ρ = some (.int ((Fi_c4 c s g b mi) 168 11 - nI 1)) ∧ τ = (nx, u, Fi_c4 c s g b mi)) := by
  refine mx_C.intro (by decide) rfl (Nat.le_of_ble_eq_true rfl) (fun κ _ hC => ?_)
  show mx_G Γ κ _ _ 0 [(0, .ref 168), (1, .int (nI s)), (2, .int (nI g)), (3, .int b)] [] (nx, u, mi) 0 0
  refine x_aload_n (q := 1) hC d_Fi_create_0 rfl rfl rfl ?_
  refine x_getr (q := 4) (p := 168) (j := 3) (r := 169) hC f_Fi_9 rfl rfl rfl (by omega) (hu _ _ (by decide)) d_Fi_create_1 rfl ?_
  refine x_aload_n (q := 5) hC d_Fi_create_4 rfl rfl rfl ?_
  refine x_geti (q := 8) (p := 168) (j := 11) hC f_Fi_38 rfl rfl (by omega) d_Fi_create_5 rfl ?_
  refine x_iload_n (q := 9) hC d_Fi_create_8 rfl rfl rfl ?_
  refine x_iast (q := 10) (p := 169) hC c rfl (by omega) (by omega) hc hc4 (by decide) d_Fi_create_9 rfl ?_
  refine x_aload_n (q := 11) hC d_Fi_create_10 rfl rfl rfl ?_
  refine x_getr (q := 14) (p := 168) (j := 4) (r := 170) hC f_Fi_15 rfl rfl rfl (by omega) (hu _ _ (by decide)) d_Fi_create_11 rfl ?_
  refine x_aload_n (q := 15) hC d_Fi_create_14 rfl rfl rfl ?_
  refine x_geti (q := 18) (p := 168) (j := 11) hC f_Fi_38 rfl rfl (by omega) d_Fi_create_15 rfl ?_
  refine x_iload_n (q := 19) hC d_Fi_create_18 rfl rfl rfl ?_
  refine x_iast (q := 20) (p := 170) hC c rfl (by omega) (by omega) (by show mx_up mi 169 c (nI s) 168 11 = nI c; rw [up_neP (by decide)]; exact hc) hc4 (by decide) d_Fi_create_19 rfl ?_
  refine x_aload_n (q := 21) hC d_Fi_create_20 rfl rfl rfl ?_
  refine x_getr (q := 24) (p := 168) (j := 5) (r := 171) hC f_Fi_18 rfl rfl rfl (by omega) (hu _ _ (by decide)) d_Fi_create_21 rfl ?_
  refine x_aload_n (q := 25) hC d_Fi_create_24 rfl rfl rfl ?_
  refine x_geti (q := 28) (p := 168) (j := 11) hC f_Fi_38 rfl rfl (by omega) d_Fi_create_25 rfl ?_
  refine x_iload_n (q := 29) hC d_Fi_create_28 rfl rfl rfl ?_
  refine x_iast (q := 30) (p := 171) hC c rfl (by omega) (by omega) (by show mx_up (mx_up mi 169 c (nI s)) 170 c (nI g) 168 11 = nI c; rw [up_neP (by decide), up_neP (by decide)]; exact hc) hc4 (by decide) d_Fi_create_29 rfl ?_
  refine x_aload_n (q := 31) hC d_Fi_create_30 rfl rfl rfl ?_
  refine x_dup (q := 32) hC d_Fi_create_31 rfl rfl ?_
  refine x_geti (q := 35) (p := 168) (j := 11) hC f_Fi_38 rfl rfl (by omega) d_Fi_create_32 rfl ?_
  refine x_iconst (q := 36) (v := nI 1) hC d_Fi_create_35 (by decide) rfl ?_
  refine x_iadd (q := 37) (z := ((mx_up (mx_up (mx_up mi 169 c (nI s)) 170 c (nI g)) 171 c b) 168 11) + (nI 1)) hC d_Fi_create_36 rfl rfl ?_
  refine x_puti (q := 40) (p := 168) (j := 11) hC f_Fi_38 y_Fi rfl rfl rfl rfl rfl (by omega) (by decide) d_Fi_create_37 rfl ?_
  refine x_aload_n (q := 41) hC d_Fi_create_40 rfl rfl rfl ?_
  refine x_geti (q := 44) (p := 168) (j := 11) hC f_Fi_38 rfl rfl (by omega) d_Fi_create_41 rfl ?_
  refine x_iconst (q := 45) (v := nI 1) hC d_Fi_create_44 (by decide) rfl ?_
  refine x_isub (q := 46) (z := ((mx_up (mx_up (mx_up (mx_up mi 169 c (nI s)) 170 c (nI g)) 171 c b) 168 11 (((mx_up (mx_up (mx_up mi 169 c (nI s)) 170 c (nI g)) 171 c b) 168 11) + (nI 1))) 168 11) - (nI 1)) hC d_Fi_create_45 rfl rfl ?_
  exact x_iret hC rfl rfl ⟨rfl, rfl⟩ (by decide) (by decide) d_Fi_create_46
set_option maxRecDepth 100000 in
set_option maxHeartbeats 400000 in
theorem c_Fi_sourceOf {Γ : mx_X} {lau : Launch} {nx : Nat} {u : Nat → Nat → Bool} {mi : mx_Mm} {f : Nat} (hnx : 185 ≤ nx) (hu : ∀ p k, 2 ≤ p → u p k = true) (hf : f < 4) : mx_C Γ lau M_Fi_sourceOf [.ref 168, .int (nI f)] (nx, u, mi) (fun ρ τ => ρ = some (.int (mi 169 f)) ∧ τ = (nx, u, mi)) := by
  refine mx_C.intro (by decide) rfl (Nat.le_of_ble_eq_true rfl) (fun κ _ hC => ?_)
  show mx_G Γ κ _ _ 0 [(0, .ref 168), (1, .int (nI f))] [] (nx, u, mi) 0 0
  refine x_aload_n (q := 1) hC d_Fi_sourceOf_0 rfl rfl rfl ?_
  refine x_getr (q := 4) (p := 168) (j := 3) (r := 169) hC f_Fi_9 rfl rfl rfl (by omega) (hu _ _ (by decide)) d_Fi_sourceOf_1 rfl ?_
  refine x_iload_n (q := 5) hC d_Fi_sourceOf_4 rfl rfl rfl ?_
  refine x_iald (q := 6) (p := 169) hC f rfl (by omega) rfl (by omega) (by decide) d_Fi_sourceOf_5 rfl ?_
  exact x_iret hC rfl rfl ⟨rfl, rfl⟩ (by decide) (by decide) d_Fi_sourceOf_6
set_option maxRecDepth 100000 in
set_option maxHeartbeats 400000 in
theorem c_Fi_groupOf {Γ : mx_X} {lau : Launch} {nx : Nat} {u : Nat → Nat → Bool} {mi : mx_Mm} {f : Nat} (hnx : 185 ≤ nx) (hu : ∀ p k, 2 ≤ p → u p k = true) (hf : f < 4) : mx_C Γ lau M_Fi_groupOf [.ref 168, .int (nI f)] (nx, u, mi) (fun ρ τ => ρ = some (.int (mi 170 f)) ∧ τ = (nx, u, mi)) := by
  refine mx_C.intro (by decide) rfl (Nat.le_of_ble_eq_true rfl) (fun κ _ hC => ?_)
  show mx_G Γ κ _ _ 0 [(0, .ref 168), (1, .int (nI f))] [] (nx, u, mi) 0 0
  refine x_aload_n (q := 1) hC d_Fi_groupOf_0 rfl rfl rfl ?_
  refine x_getr (q := 4) (p := 168) (j := 4) (r := 170) hC f_Fi_15 rfl rfl rfl (by omega) (hu _ _ (by decide)) d_Fi_groupOf_1 rfl ?_
  refine x_iload_n (q := 5) hC d_Fi_groupOf_4 rfl rfl rfl ?_
  refine x_iald (q := 6) (p := 170) hC f rfl (by omega) rfl (by omega) (by decide) d_Fi_groupOf_5 rfl ?_
  exact x_iret hC rfl rfl ⟨rfl, rfl⟩ (by decide) (by decide) d_Fi_groupOf_6
set_option maxRecDepth 100000 in
set_option maxHeartbeats 400000 in
theorem c_Fi_blocksAt {Γ : mx_X} {lau : Launch} {nx : Nat} {u : Nat → Nat → Bool} {mi : mx_Mm} {f l : Nat} (hnx : 185 ≤ nx) (hu : ∀ p k, 2 ≤ p → u p k = true) (hf : f < 4) (hl : l < 6) : mx_C Γ lau M_Fi_blocksAt [.ref 168, .int (nI f), .int (nI l)] (nx, u, mi) (fun ρ τ => ρ = some (.int (mi (175 + f) l)) ∧ τ = (nx, u, mi)) := by
  refine mx_C.intro (by decide) rfl (Nat.le_of_ble_eq_true rfl) (fun κ _ hC => ?_)
  show mx_G Γ κ _ _ 0 [(0, .ref 168), (1, .int (nI f)), (2, .int (nI l))] [] (nx, u, mi) 0 0
  refine x_aload_n (q := 1) hC d_Fi_blocksAt_0 rfl rfl rfl ?_
  refine x_getr (q := 4) (p := 168) (j := 8) (r := 174) hC f_Fi_29 rfl rfl rfl (by omega) (hu _ _ (by decide)) d_Fi_blocksAt_1 rfl ?_
  refine x_iload_n (q := 5) hC d_Fi_blocksAt_4 rfl rfl rfl ?_
  refine x_aald (q := 6) (p := 174) (r := 175 + f) hC f (mr_174 _ (by omega)) rfl (by omega) rfl (by omega) (by decide) d_Fi_blocksAt_5 rfl ?_
  refine x_iload_n (q := 7) hC d_Fi_blocksAt_6 rfl rfl rfl ?_
  refine x_iald (q := 8) (p := 175 + f) hC l (sh_175 _ (by omega)) (by omega) rfl (by omega) (by decide) d_Fi_blocksAt_7 rfl ?_
  exact x_iret hC rfl rfl ⟨rfl, rfl⟩ (by decide) (by decide) d_Fi_blocksAt_8
set_option maxRecDepth 100000 in
set_option maxHeartbeats 400000 in
theorem c_Fi_takeTurn {Γ : mx_X} {lau : Launch} {nx : Nat} {u : Nat → Nat → Bool} {mi : mx_Mm} {f n : Nat} (hnx : 185 ≤ nx) (hu : ∀ p k, 2 ≤ p → u p k = true) (hf : f < 4) (hn : mi 171 f = nI n) (hn16 : n ≤ 16) : mx_C Γ lau M_Fi_takeTurn [.ref 168, .int (nI f)] (nx, u, mi) (fun ρ τ => ρ = some (.int (Fi_tv f n mi)) ∧ τ = (nx, u, Fi_tm f n mi)) := by
  refine mx_C.intro (by decide) rfl (Nat.le_of_ble_eq_true rfl) (fun κ _ hC => ?_)
  show mx_G Γ κ _ _ 0 [(0, .ref 168), (1, .int (nI f))] [] (nx, u, mi) 0 0
  refine x_iconst (q := 1) (v := nI 0) hC d_Fi_takeTurn_0 (by decide) rfl ?_
  refine x_istore_n (q := 2) (L1 := [(2, .int (nI 0)), (0, .ref 168), (1, .int (nI f))]) hC d_Fi_takeTurn_1 rfl (by decide) rfl rfl ?_
  refine x_sub (L1 := [(2, .int (nI 0)), (0, .ref 168), (1, .int (nI f))]) [0, 1, 2] rfl ?_
  refine mx_loopR (N := n) (Hd := fun b => mx_G Γ κ _ _ 2 [(2, .int (nI b)), (0, .ref 168), (1, .int (nI f))] [] (nx, u, mi) 0 0) (Fi_hb f mi) ?_ ?_
  · intro b hl1 hn2 hN3
    refine x_iload_n (q := 3) hC d_Fi_takeTurn_2 rfl rfl rfl ?_
    refine x_aload_n (q := 4) hC d_Fi_takeTurn_3 rfl rfl rfl ?_
    refine x_getr (q := 7) (p := 168) (j := 5) (r := 171) hC f_Fi_18 rfl rfl rfl (by omega) (hu _ _ (by decide)) d_Fi_takeTurn_4 rfl ?_
    refine x_iload_n (q := 8) hC d_Fi_takeTurn_7 rfl rfl rfl ?_
    refine x_iald (q := 9) (p := 171) hC f rfl (by omega) rfl (by omega) (by decide) d_Fi_takeTurn_8 rfl ?_
    refine mx_eqG (S1 := [.int (nI n), .int (nI b)]) rfl (by exact congrArg (fun z => Value.int z :: ([.int (nI b)] : List Value)) (show mi 171 f = nI n from hn)) rfl ?_
    refine x_icmp_ge (tgt := 47) (q := 12) hC d_Fi_takeTurn_9 (by decide) rfl (fun h => absurd h (nI_ge hl1 (by omega))) (fun _ => ?_)
    refine x_aload_n (q := 13) hC d_Fi_takeTurn_12 rfl rfl rfl ?_
    refine x_getr (q := 16) (p := 168) (j := 7) (r := 173) hC f_Fi_24 rfl rfl rfl (by omega) (hu _ _ (by decide)) d_Fi_takeTurn_13 rfl ?_
    refine x_iload_n (q := 17) hC d_Fi_takeTurn_16 rfl rfl rfl ?_
    refine x_iald (q := 18) (p := 173) hC f rfl (by omega) rfl (by omega) (by decide) d_Fi_takeTurn_17 rfl ?_
    refine x_iload_n (q := 19) hC d_Fi_takeTurn_18 rfl rfl rfl ?_
    refine x_callSN (q := 22) (A := [.int (mi 173 f), .int (nI b)]) (S := []) (c1 := 0) (s1 := 0) hC (c_MT_holds (n := b)) s_Fi_takeTurn_57 rfl rfl rfl (Nat.le_of_ble_eq_true rfl) rfl rfl (by decide) (by decide) d_Fi_takeTurn_19 rfl (fun r τ hP => ?_)
    obtain ⟨rfl, rfl⟩ := hP
    show mx_G Γ κ _ _ 22 [(2, .int (nI b)), (0, .ref 168), (1, .int (nI f))] [.int (bz (hold (mi 173 f) b))] (nx, u, mi) 0 0
    refine x_if_eq (tgt := 41) (q := 25) hC d_Fi_takeTurn_22 (by decide) rfl (fun h22 => ?_) (fun h22 => ?_)
    · have h22 := bz_0 h22
      refine x_iinc (q := 44) (y := nI (b + 1)) (L1 := [(2, .int (nI (b + 1))), (0, .ref 168), (1, .int (nI f))]) hC d_Fi_takeTurn_41 rfl (mx_inc b) (by decide) rfl rfl ?_
      refine x_goto (tgt := 2) hC d_Fi_takeTurn_44 (by decide) ?_
      exact x_sub [0, 1, 2] rfl (hN3 (decide_eq_false h22))
    · have h22 := bz_1 h22
      refine x_aload_n (q := 26) hC d_Fi_takeTurn_25 rfl rfl rfl ?_
      refine x_getr (q := 29) (p := 168) (j := 7) (r := 173) hC f_Fi_24 rfl rfl rfl (by omega) (hu _ _ (by decide)) d_Fi_takeTurn_26 rfl ?_
      refine x_iload_n (q := 30) hC d_Fi_takeTurn_29 rfl rfl rfl ?_
      refine x_dup2 (q := 31) hC d_Fi_takeTurn_30 rfl rfl rfl ?_
      refine x_iald (q := 32) (p := 173) hC f rfl (by omega) rfl (by omega) (by decide) d_Fi_takeTurn_31 rfl ?_
      refine x_iconst (q := 33) (v := nI 1) hC d_Fi_takeTurn_32 (by decide) rfl ?_
      refine x_iload_n (q := 34) hC d_Fi_takeTurn_33 rfl rfl rfl ?_
      refine x_ishl (q := 35) (z := (nI 1) <<< ((nI b) &&& 31)) hC d_Fi_takeTurn_34 rfl rfl ?_
      refine x_iconst (q := 36) (v := (-1)) hC d_Fi_takeTurn_35 (by decide) rfl ?_
      refine x_ixor (q := 37) (z := ((nI 1) <<< ((nI b) &&& 31)) ^^^ (-1)) hC d_Fi_takeTurn_36 rfl rfl ?_
      refine x_iand (q := 38) (z := (mi 173 f) &&& (((nI 1) <<< ((nI b) &&& 31)) ^^^ (-1))) hC d_Fi_takeTurn_37 rfl rfl ?_
      refine x_iast (q := 39) (p := 173) hC f rfl (by omega) (by omega) rfl (by omega) (by decide) d_Fi_takeTurn_38 rfl ?_
      refine x_iload_n (q := 40) hC d_Fi_takeTurn_39 rfl rfl rfl ?_
      exact x_iret hC rfl rfl ⟨sv (it_t (by rw [pm_fd_eq hl1 (decide_eq_true h22) hn2]; exact hl1) (by rw [pm_fd_eq hl1 (decide_eq_true h22) hn2] <;> rfl)), pr (it_t (by rw [pm_fd_eq hl1 (decide_eq_true h22) hn2]; exact hl1) (by rw [pm_fd_eq hl1 (decide_eq_true h22) hn2] <;> rfl))⟩ (by decide) (by decide) d_Fi_takeTurn_40
  · intro hx
    refine x_iload_n (q := 3) hC d_Fi_takeTurn_2 rfl rfl rfl ?_
    refine x_aload_n (q := 4) hC d_Fi_takeTurn_3 rfl rfl rfl ?_
    refine x_getr (q := 7) (p := 168) (j := 5) (r := 171) hC f_Fi_18 rfl rfl rfl (by omega) (hu _ _ (by decide)) d_Fi_takeTurn_4 rfl ?_
    refine x_iload_n (q := 8) hC d_Fi_takeTurn_7 rfl rfl rfl ?_
    refine x_iald (q := 9) (p := 171) hC f rfl (by omega) rfl (by omega) (by decide) d_Fi_takeTurn_8 rfl ?_
    refine mx_eqG (S1 := [.int (nI n), .int (nI n)]) rfl (by exact congrArg (fun z => Value.int z :: ([.int (nI n)] : List Value)) (show mi 171 f = nI n from hn)) rfl ?_
    refine x_icmp_ge (tgt := 47) (q := 12) hC d_Fi_takeTurn_9 (by decide) rfl (fun _ => ?_) (fun h => absurd (nI_le (Nat.le_refl _) (by omega)) h)
    refine x_aload_n (q := 48) hC d_Fi_takeTurn_47 rfl rfl rfl ?_
    refine x_getr (q := 51) (p := 168) (j := 6) (r := 172) hC f_Fi_21 rfl rfl rfl (by omega) (hu _ _ (by decide)) d_Fi_takeTurn_48 rfl ?_
    refine x_iload_n (q := 52) hC d_Fi_takeTurn_51 rfl rfl rfl ?_
    refine x_iald (q := 53) (p := 172) hC f rfl (by omega) rfl (by omega) (by decide) d_Fi_takeTurn_52 rfl ?_
    refine x_aload_n (q := 54) hC d_Fi_takeTurn_53 rfl rfl rfl ?_
    refine x_getr (q := 57) (p := 168) (j := 5) (r := 171) hC f_Fi_18 rfl rfl rfl (by omega) (hu _ _ (by decide)) d_Fi_takeTurn_54 rfl ?_
    refine x_iload_n (q := 58) hC d_Fi_takeTurn_57 rfl rfl rfl ?_
    refine x_iald (q := 59) (p := 171) hC f rfl (by omega) rfl (by omega) (by decide) d_Fi_takeTurn_58 rfl ?_
    refine x_icmp_ne (tgt := 69) (q := 62) hC d_Fi_takeTurn_59 (by decide) rfl (fun h59 => ?_) (fun h59 => ?_)
    · skip
      refine x_aload_n (q := 70) hC d_Fi_takeTurn_69 rfl rfl rfl ?_
      refine x_getr (q := 73) (p := 168) (j := 6) (r := 172) hC f_Fi_21 rfl rfl rfl (by omega) (hu _ _ (by decide)) d_Fi_takeTurn_70 rfl ?_
      refine x_iload_n (q := 74) hC d_Fi_takeTurn_73 rfl rfl rfl ?_
      refine x_dup2 (q := 75) hC d_Fi_takeTurn_74 rfl rfl rfl ?_
      refine x_iald (q := 76) (p := 172) hC f rfl (by omega) rfl (by omega) (by decide) d_Fi_takeTurn_75 rfl ?_
      refine x_iconst (q := 77) (v := nI 1) hC d_Fi_takeTurn_76 (by decide) rfl ?_
      refine x_iadd (q := 78) (z := (mi 172 f) + (nI 1)) hC d_Fi_takeTurn_77 rfl rfl ?_
      refine x_iast (q := 79) (p := 172) hC f rfl (by omega) (by omega) rfl (by omega) (by decide) d_Fi_takeTurn_78 rfl ?_
      refine x_aload_n (q := 80) hC d_Fi_takeTurn_79 rfl rfl rfl ?_
      refine x_getr (q := 83) (p := 168) (j := 6) (r := 172) hC f_Fi_21 rfl rfl rfl (by omega) (hu _ _ (by decide)) d_Fi_takeTurn_80 rfl ?_
      refine x_iload_n (q := 84) hC d_Fi_takeTurn_83 rfl rfl rfl ?_
      refine x_iald (q := 85) (p := 172) hC f rfl (by omega) rfl (by omega) (by decide) d_Fi_takeTurn_84 rfl ?_
      refine x_iconst (q := 86) (v := nI 1) hC d_Fi_takeTurn_85 (by decide) rfl ?_
      refine x_isub (q := 87) (z := ((mx_up mi 172 f ((mi 172 f) + (nI 1))) 172 f) - (nI 1)) hC d_Fi_takeTurn_86 rfl rfl ?_
      exact x_iret hC rfl rfl ⟨sv (it_f (by rw [pm_fd_none hx]; exact Nat.lt_irrefl _) (it_f h59 rfl)), pr (it_f (by rw [pm_fd_none hx]; exact Nat.lt_irrefl _) (it_f h59 rfl))⟩ (by decide) (by decide) d_Fi_takeTurn_87
    · skip
      refine x_aload_n (q := 63) hC d_Fi_takeTurn_62 rfl rfl rfl ?_
      refine x_getr (q := 66) (p := 168) (j := 5) (r := 171) hC f_Fi_18 rfl rfl rfl (by omega) (hu _ _ (by decide)) d_Fi_takeTurn_63 rfl ?_
      refine x_iload_n (q := 67) hC d_Fi_takeTurn_66 rfl rfl rfl ?_
      refine x_iald (q := 68) (p := 171) hC f rfl (by omega) rfl (by omega) (by decide) d_Fi_takeTurn_67 rfl ?_
      exact x_iret hC rfl rfl ⟨sv (it_f (by rw [pm_fd_none hx]; exact Nat.lt_irrefl _) (it_t h59 rfl)), pr (it_f (by rw [pm_fd_none hx]; exact Nat.lt_irrefl _) (it_t h59 rfl))⟩ (by decide) (by decide) d_Fi_takeTurn_68
set_option maxRecDepth 100000 in
set_option maxHeartbeats 400000 in
theorem c_Fi_store {Γ : mx_X} {lau : Launch} {nx : Nat} {u : Nat → Nat → Bool} {mi : mx_Mm} {f l : Nat} {x : Int32} (hnx : 185 ≤ nx) (hu : ∀ p k, 2 ≤ p → u p k = true) (hf : f < 4) (hl : l < 6) : mx_C Γ lau M_Fi_store [.ref 168, .int (nI f), .int x, .int (nI l)] (nx, u, mi) (fun ρ τ => ρ = none ∧ τ = (nx, u, Fi_store f x l mi)) := by
  refine mx_C.intro (by decide) rfl (Nat.le_of_ble_eq_true rfl) (fun κ _ hC => ?_)
  show mx_G Γ κ _ _ 0 [(0, .ref 168), (1, .int (nI f)), (2, .int x), (3, .int (nI l))] [] (nx, u, mi) 0 0
  refine x_iload_n (q := 1) hC d_Fi_store_0 rfl rfl rfl ?_
  have J1 : mx_G Γ κ M_Fi_store (MQ (mx_b κ) (mx_Qc Γ (fun ρ τ => ρ = none ∧ τ = (nx, u, Fi_store f x l mi))) (mx_a κ) (mx_s κ) M_Fi_store.2.2.2.2.cells M_Fi_store.2.2.2.2.slots (mx_fr Γ)) 24 [(0, .ref 168), (1, .int (nI f)), (2, .int x), (3, .int (nI l))] [] (nx, u, Fi_s1 f l x mi) 0 0 := by
    refine x_aload_n (q := 25) hC d_Fi_store_24 rfl rfl rfl ?_
    refine x_getr (q := 28) (p := 168) (j := 9) (r := 179) hC f_Fi_32 rfl rfl rfl (by omega) (hu _ _ (by decide)) d_Fi_store_25 rfl ?_
    refine x_iload_n (q := 29) hC d_Fi_store_28 rfl rfl rfl ?_
    refine x_aald (q := 30) (p := 179) (r := 180 + f) hC f (mr_179 _ (by omega)) rfl (by omega) rfl (by omega) (by decide) d_Fi_store_29 rfl ?_
    refine x_iload_n (q := 31) hC d_Fi_store_30 rfl rfl rfl ?_
    refine x_aload_n (q := 32) hC d_Fi_store_31 rfl rfl rfl ?_
    refine x_getr (q := 35) (p := 168) (j := 9) (r := 179) hC f_Fi_32 rfl rfl rfl (by omega) (hu _ _ (by decide)) d_Fi_store_32 rfl ?_
    refine x_iload_n (q := 36) hC d_Fi_store_35 rfl rfl rfl ?_
    refine x_aald (q := 37) (p := 179) (r := 180 + f) hC f (mr_179 _ (by omega)) rfl (by omega) rfl (by omega) (by decide) d_Fi_store_36 rfl ?_
    refine x_iload_n (q := 38) hC d_Fi_store_37 rfl rfl rfl ?_
    refine x_iald (q := 39) (p := 180 + f) hC l (sh_180 _ (by omega)) (by omega) rfl (by omega) (by decide) d_Fi_store_38 rfl ?_
    refine x_iload_n (q := 40) hC d_Fi_store_39 rfl rfl rfl ?_
    refine x_iconst (q := 41) (v := nI 1) hC d_Fi_store_40 (by decide) rfl ?_
    refine x_iadd (q := 42) (z := x + (nI 1)) hC d_Fi_store_41 rfl rfl ?_
    refine x_aload_n (q := 43) hC d_Fi_store_42 rfl rfl rfl ?_
    refine x_getr (q := 46) (p := 168) (j := 5) (r := 171) hC f_Fi_18 rfl rfl rfl (by omega) (hu _ _ (by decide)) d_Fi_store_43 rfl ?_
    refine x_iload_n (q := 47) hC d_Fi_store_46 rfl rfl rfl ?_
    refine x_iald (q := 48) (p := 171) hC f rfl (by omega) rfl (by omega) (by decide) d_Fi_store_47 rfl ?_
    refine x_callS (q := 51) (A := [.int (x + (nI 1)), .int ((Fi_s1 f l x mi) 171 f)]) (S := [.int ((Fi_s1 f l x mi) (180 + f) l), .int (nI l), .ref (180 + f)]) (c1 := 0) (s1 := 0) hC (c_JM_min) s_Fi_store_70 rfl rfl rfl (Nat.le_of_ble_eq_true rfl) rfl rfl (by decide) (by decide) d_Fi_store_48 rfl (fun r τ hP => ?_)
    obtain ⟨rfl, rfl⟩ := hP
    show mx_G Γ κ _ _ 51 [(0, .ref 168), (1, .int (nI f)), (2, .int x), (3, .int (nI l))] [.int (pm_n (x + (nI 1)) ((Fi_s1 f l x mi) 171 f)), .int ((Fi_s1 f l x mi) (180 + f) l), .int (nI l), .ref (180 + f)] (nx, u, Fi_s1 f l x mi) 0 0
    refine x_callS (q := 54) (A := [.int ((Fi_s1 f l x mi) (180 + f) l), .int (pm_n (x + (nI 1)) ((Fi_s1 f l x mi) 171 f))]) (S := [.int (nI l), .ref (180 + f)]) (c1 := 0) (s1 := 0) hC (c_JM_max) s_Fi_store_76 rfl rfl rfl (Nat.le_of_ble_eq_true rfl) rfl rfl (by decide) (by decide) d_Fi_store_51 rfl (fun r τ hP => ?_)
    obtain ⟨rfl, rfl⟩ := hP
    show mx_G Γ κ _ _ 54 [(0, .ref 168), (1, .int (nI f)), (2, .int x), (3, .int (nI l))] [.int (pm_x ((Fi_s1 f l x mi) (180 + f) l) (pm_n (x + (nI 1)) ((Fi_s1 f l x mi) 171 f))), .int (nI l), .ref (180 + f)] (nx, u, Fi_s1 f l x mi) 0 0
    refine x_iast (q := 55) (p := 180 + f) hC l (sh_180 _ (by omega)) (by omega) (by omega) rfl (by omega) (by decide) d_Fi_store_54 rfl ?_
    refine mx_nr (fun m2 e3 => ?_)
    subst e3
    exact x_vret hC rfl ⟨rfl, rfl⟩ (by decide) (by decide) d_Fi_store_55
  refine x_aload_n (q := 2) hC d_Fi_store_1 rfl rfl rfl ?_
  refine x_getr (q := 5) (p := 168) (j := 5) (r := 171) hC f_Fi_18 rfl rfl rfl (by omega) (hu _ _ (by decide)) d_Fi_store_2 rfl ?_
  refine x_iload_n (q := 6) hC d_Fi_store_5 rfl rfl rfl ?_
  refine x_iald (q := 7) (p := 171) hC f rfl (by omega) rfl (by omega) (by decide) d_Fi_store_6 rfl ?_
  refine x_icmp_ge (tgt := 24) (q := 10) hC d_Fi_store_7 (by decide) rfl (fun h7 => ?_) (fun h7 => ?_)
  · skip
    exact x_sub (L1 := [(0, .ref 168), (1, .int (nI f)), (2, .int x), (3, .int (nI l))]) [0, 1, 2, 3] rfl (mx_eqG rfl rfl (pr (by first | exact it_t (Int32.not_le.mp h7) rfl | exact it_f (Int32.not_lt.mpr h7) rfl)) J1)
  · skip
    refine x_aload_n (q := 11) hC d_Fi_store_10 rfl rfl rfl ?_
    refine x_getr (q := 14) (p := 168) (j := 8) (r := 174) hC f_Fi_29 rfl rfl rfl (by omega) (hu _ _ (by decide)) d_Fi_store_11 rfl ?_
    refine x_iload_n (q := 15) hC d_Fi_store_14 rfl rfl rfl ?_
    refine x_aald (q := 16) (p := 174) (r := 175 + f) hC f (mr_174 _ (by omega)) rfl (by omega) rfl (by omega) (by decide) d_Fi_store_15 rfl ?_
    refine x_iload_n (q := 17) hC d_Fi_store_16 rfl rfl rfl ?_
    refine x_dup2 (q := 18) hC d_Fi_store_17 rfl rfl rfl ?_
    refine x_iald (q := 19) (p := 175 + f) hC l (sh_175 _ (by omega)) (by omega) rfl (by omega) (by decide) d_Fi_store_18 rfl ?_
    refine x_iconst (q := 20) (v := nI 1) hC d_Fi_store_19 (by decide) rfl ?_
    refine x_iload_n (q := 21) hC d_Fi_store_20 rfl rfl rfl ?_
    refine x_ishl (q := 22) (z := (nI 1) <<< (x &&& 31)) hC d_Fi_store_21 rfl rfl ?_
    refine x_ior (q := 23) (z := (mi (175 + f) l) ||| ((nI 1) <<< (x &&& 31))) hC d_Fi_store_22 rfl rfl ?_
    refine x_iast (q := 24) (p := 175 + f) hC l (sh_175 _ (by omega)) (by omega) (by omega) rfl (by omega) (by decide) d_Fi_store_23 rfl ?_
    refine mx_nr (fun m4 e5 => ?_)
    exact x_sub (L1 := [(0, .ref 168), (1, .int (nI f)), (2, .int x), (3, .int (nI l))]) [0, 1, 2, 3] rfl (mx_eqG rfl rfl (pr (by subst e5; first | exact it_t (Int32.not_le.mp h7) rfl | exact it_f (Int32.not_lt.mpr h7) rfl)) J1)
set_option maxRecDepth 100000 in
set_option maxHeartbeats 400000 in
theorem c_Fi_deliver {Γ : mx_X} {lau : Launch} {nx : Nat} {u : Nat → Nat → Bool} {mi : mx_Mm} {f s g : Nat} {x y : Int32} (hnx : 185 ≤ nx) (hu : ∀ p k, 2 ≤ p → u p k = true) (hf : f < 4) (hg : g < 3) (hok : Fi_ok f s g mi) : mx_C Γ lau M_Fi_deliver [.ref 168, .int (nI f), .int x, .int y] (nx, u, mi) (fun ρ τ => ρ = none ∧ τ = (nx, u, mx_lp 6 (Fi_d1 f g x y) mi)) := by
  refine mx_C.intro (by decide) rfl (Nat.le_of_ble_eq_true rfl) (fun κ _ hC => ?_)
  show mx_G Γ κ _ _ 0 [(0, .ref 168), (1, .int (nI f)), (2, .int x), (3, .int y)] [] (nx, u, mi) 0 0
  refine x_iconst (q := 1) (v := nI 0) hC d_Fi_deliver_0 (by decide) rfl ?_
  refine x_istore (q := 3) (L1 := [(4, .int (nI 0)), (0, .ref 168), (1, .int (nI f)), (2, .int x), (3, .int y)]) hC d_Fi_deliver_1 (by decide) rfl rfl ?_
  refine x_sub (L1 := [(4, .int (nI 0)), (0, .ref 168), (1, .int (nI f)), (2, .int x), (3, .int y)]) [0, 1, 2, 3, 4] rfl ?_
  refine mx_loop (N := 6) (Hd := fun l m1 => mx_G Γ κ _ _ 3 [(4, .int (nI l)), (0, .ref 168), (1, .int (nI f)), (2, .int x), (3, .int y)] [] (nx, u, m1) 0 0) (Fi_d1 f g x y) (fun _ m => Fi_ok f s g m) hok ?_ ?_ ?_
  · exact fun l m _ h => Fi_d1_ok hf h
  · intro l m1 hl2 hI3 hN4
    refine x_iload (q := 5) hC d_Fi_deliver_3 rfl rfl ?_
    refine x_bipush (q := 7) (v := nI 6) hC d_Fi_deliver_5 (by decide) rfl ?_
    refine x_icmp_ge (tgt := 51) (q := 10) hC d_Fi_deliver_7 (by decide) rfl (fun h => absurd h (nI_ge hl2 (by decide))) (fun _ => ?_)
    refine x_iload_n (q := 11) hC d_Fi_deliver_10 rfl rfl rfl ?_
    refine x_iload (q := 13) hC d_Fi_deliver_11 rfl rfl ?_
    refine x_callSN (q := 16) (A := [.int y, .int (nI l)]) (S := []) (c1 := 0) (s1 := 0) hC (c_MT_holds (n := l)) s_Fi_deliver_57 rfl rfl rfl (Nat.le_of_ble_eq_true rfl) rfl rfl (by decide) (by decide) d_Fi_deliver_13 rfl (fun r τ hP => ?_)
    obtain ⟨rfl, rfl⟩ := hP
    show mx_G Γ κ _ _ 16 [(4, .int (nI l)), (0, .ref 168), (1, .int (nI f)), (2, .int x), (3, .int y)] [.int (bz (hold y l))] (nx, u, m1) 0 0
    refine x_if_eq (tgt := 45) (q := 19) hC d_Fi_deliver_16 (by decide) rfl (fun h16 => ?_) (fun h16 => ?_)
    · have h16 := bz_0 h16
      refine x_iinc (q := 48) (y := nI (l + 1)) (L1 := [(4, .int (nI (l + 1))), (0, .ref 168), (1, .int (nI f)), (2, .int x), (3, .int y)]) hC d_Fi_deliver_45 rfl (mx_inc l) (by decide) rfl rfl ?_
      refine x_goto (tgt := 3) hC d_Fi_deliver_48 (by decide) ?_
      exact x_close hN4 [0, 1, 2, 3, 4] rfl (by first | exact it_t (And.intro h16 h34) rfl | exact it_f (fun z => h16 z.1) rfl | exact it_f (fun z => h34 z.2) rfl)
    · have h16 := bz_1 h16
      refine x_aload_n (q := 20) hC d_Fi_deliver_19 rfl rfl rfl ?_
      refine x_getr (q := 23) (p := 168) (j := 1) (r := 34) hC f_Fi_49 rfl rfl rfl (by omega) (hu _ _ (by decide)) d_Fi_deliver_20 rfl ?_
      refine x_iload (q := 25) hC d_Fi_deliver_23 rfl rfl ?_
      refine x_aload_n (q := 26) hC d_Fi_deliver_25 rfl rfl rfl ?_
      refine x_getr (q := 29) (p := 168) (j := 4) (r := 170) hC f_Fi_15 rfl rfl rfl (by omega) (hu _ _ (by decide)) d_Fi_deliver_26 rfl ?_
      refine x_iload_n (q := 30) hC d_Fi_deliver_29 rfl rfl rfl ?_
      refine x_iald (q := 31) (p := 170) hC f rfl (by omega) rfl (by omega) (by decide) d_Fi_deliver_30 rfl ?_
      refine mx_eqG (S1 := [.int (nI g), .int (nI l), .ref 34]) rfl (by exact congrArg (fun z => Value.int z :: ([.int (nI l), .ref 34] : List Value)) (show m1 170 f = nI g from hI3.2)) rfl ?_
      refine x_callV (q := 34) (p := 34) (A := [.int (nI l), .int (nI g)]) (S := []) (c1 := 0) (s1 := 0) hC (c_La_hasMembers (l := l) (g := g) (by omega) hu (by omega) (by omega) ) s_Fi_deliver_61 rfl (by omega) rfl rfl rfl (Nat.le_of_ble_eq_true rfl) rfl rfl (by decide) (by decide) d_Fi_deliver_31 rfl (fun r τ hP => ?_)
      obtain ⟨rfl, rfl⟩ := hP
      show mx_G Γ κ _ _ 34 [(4, .int (nI l)), (0, .ref 168), (1, .int (nI f)), (2, .int x), (3, .int y)] [.int (bz (¬ m1 (36 + l) g = 0))] (nx, u, m1) 0 0
      refine x_if_eq (tgt := 45) (q := 37) hC d_Fi_deliver_34 (by decide) rfl (fun h34 => ?_) (fun h34 => ?_)
      · have h34 := bz_0 h34
        refine x_iinc (q := 48) (y := nI (l + 1)) (L1 := [(4, .int (nI (l + 1))), (0, .ref 168), (1, .int (nI f)), (2, .int x), (3, .int y)]) hC d_Fi_deliver_45 rfl (mx_inc l) (by decide) rfl rfl ?_
        refine x_goto (tgt := 3) hC d_Fi_deliver_48 (by decide) ?_
        exact x_close hN4 [0, 1, 2, 3, 4] rfl (by first | exact it_t (And.intro h16 h34) rfl | exact it_f (fun z => h16 z.1) rfl | exact it_f (fun z => h34 z.2) rfl)
      · have h34 := bz_1 h34
        refine x_aload_n (q := 38) hC d_Fi_deliver_37 rfl rfl rfl ?_
        refine x_iload_n (q := 39) hC d_Fi_deliver_38 rfl rfl rfl ?_
        refine x_iload_n (q := 40) hC d_Fi_deliver_39 rfl rfl rfl ?_
        refine x_iload (q := 42) hC d_Fi_deliver_40 rfl rfl ?_
        refine x_callV (q := 45) (p := 168) (A := [.int (nI f), .int x, .int (nI l)]) (S := []) (c1 := 0) (s1 := 0) hC (c_Fi_store (f := f) (x := x) (l := l) (by omega) hu (by omega) (by omega) ) s_Fi_deliver_66 rfl (by omega) rfl rfl rfl (Nat.le_of_ble_eq_true rfl) rfl rfl (by decide) (by decide) d_Fi_deliver_42 rfl (fun r τ hP => ?_)
        obtain ⟨rfl, rfl⟩ := hP
        show mx_G Γ κ _ _ 45 [(4, .int (nI l)), (0, .ref 168), (1, .int (nI f)), (2, .int x), (3, .int y)] [] (nx, u, Fi_store f x l m1) 0 0
        refine x_iinc (q := 48) (y := nI (l + 1)) (L1 := [(4, .int (nI (l + 1))), (0, .ref 168), (1, .int (nI f)), (2, .int x), (3, .int y)]) hC d_Fi_deliver_45 rfl (mx_inc l) (by decide) rfl rfl ?_
        refine x_goto (tgt := 3) hC d_Fi_deliver_48 (by decide) ?_
        exact x_close hN4 [0, 1, 2, 3, 4] rfl (by first | exact it_t (And.intro h16 h34) rfl | exact it_f (fun z => h16 z.1) rfl | exact it_f (fun z => h34 z.2) rfl)
  · intro hx5
    refine mx_nr (fun m6 e7 => ?_)
    try rw [e7] at hx5
    refine x_iload (q := 5) hC d_Fi_deliver_3 rfl rfl ?_
    refine x_bipush (q := 7) (v := nI 6) hC d_Fi_deliver_5 (by decide) rfl ?_
    refine x_icmp_ge (tgt := 51) (q := 10) hC d_Fi_deliver_7 (by decide) rfl (fun _ => ?_) (fun h => absurd (nI_le (Nat.le_refl _) (by decide)) h)
    subst e7
    exact x_vret hC rfl ⟨rfl, rfl⟩ (by decide) (by decide) d_Fi_deliver_51
set_option maxRecDepth 100000 in
set_option maxHeartbeats 400000 in
theorem c_Fi_missingAt {Γ : mx_X} {lau : Launch} {nx : Nat} {u : Nat → Nat → Bool} {mi : mx_Mm} {f l : Nat} (hnx : 185 ≤ nx) (hu : ∀ p k, 2 ≤ p → u p k = true) (hf : f < 4) (hl : l < 6) : mx_C Γ lau M_Fi_missingAt [.ref 168, .int (nI f), .int (nI l)] (nx, u, mi) (fun ρ τ => ρ = some (.int (Fi_mis f l mi)) ∧ τ = (nx, u, mi)) := by
  refine mx_C.intro (by decide) rfl (Nat.le_of_ble_eq_true rfl) (fun κ _ hC => ?_)
  show mx_G Γ κ _ _ 0 [(0, .ref 168), (1, .int (nI f)), (2, .int (nI l))] [] (nx, u, mi) 0 0
  refine x_iconst (q := 1) (v := nI 1) hC d_Fi_missingAt_0 (by decide) rfl ?_
  refine x_aload_n (q := 2) hC d_Fi_missingAt_1 rfl rfl rfl ?_
  refine x_getr (q := 5) (p := 168) (j := 9) (r := 179) hC f_Fi_32 rfl rfl rfl (by omega) (hu _ _ (by decide)) d_Fi_missingAt_2 rfl ?_
  refine x_iload_n (q := 6) hC d_Fi_missingAt_5 rfl rfl rfl ?_
  refine x_aald (q := 7) (p := 179) (r := 180 + f) hC f (mr_179 _ (by omega)) rfl (by omega) rfl (by omega) (by decide) d_Fi_missingAt_6 rfl ?_
  refine x_iload_n (q := 8) hC d_Fi_missingAt_7 rfl rfl rfl ?_
  refine x_iald (q := 9) (p := 180 + f) hC l (sh_180 _ (by omega)) (by omega) rfl (by omega) (by decide) d_Fi_missingAt_8 rfl ?_
  refine x_ishl (q := 10) (z := (nI 1) <<< ((mi (180 + f) l) &&& 31)) hC d_Fi_missingAt_9 rfl rfl ?_
  refine x_iconst (q := 11) (v := nI 1) hC d_Fi_missingAt_10 (by decide) rfl ?_
  refine x_isub (q := 12) (z := ((nI 1) <<< ((mi (180 + f) l) &&& 31)) - (nI 1)) hC d_Fi_missingAt_11 rfl rfl ?_
  refine x_aload_n (q := 13) hC d_Fi_missingAt_12 rfl rfl rfl ?_
  refine x_getr (q := 16) (p := 168) (j := 8) (r := 174) hC f_Fi_29 rfl rfl rfl (by omega) (hu _ _ (by decide)) d_Fi_missingAt_13 rfl ?_
  refine x_iload_n (q := 17) hC d_Fi_missingAt_16 rfl rfl rfl ?_
  refine x_aald (q := 18) (p := 174) (r := 175 + f) hC f (mr_174 _ (by omega)) rfl (by omega) rfl (by omega) (by decide) d_Fi_missingAt_17 rfl ?_
  refine x_iload_n (q := 19) hC d_Fi_missingAt_18 rfl rfl rfl ?_
  refine x_iald (q := 20) (p := 175 + f) hC l (sh_175 _ (by omega)) (by omega) rfl (by omega) (by decide) d_Fi_missingAt_19 rfl ?_
  refine x_iconst (q := 21) (v := (-1)) hC d_Fi_missingAt_20 (by decide) rfl ?_
  refine x_ixor (q := 22) (z := (mi (175 + f) l) ^^^ (-1)) hC d_Fi_missingAt_21 rfl rfl ?_
  refine x_iand (q := 23) (z := (((nI 1) <<< ((mi (180 + f) l) &&& 31)) - (nI 1)) &&& ((mi (175 + f) l) ^^^ (-1))) hC d_Fi_missingAt_22 rfl rfl ?_
  exact x_iret hC rfl rfl ⟨rfl, rfl⟩ (by decide) (by decide) d_Fi_missingAt_23
set_option maxRecDepth 100000 in
set_option maxHeartbeats 400000 in
theorem c_Fi_takesPart {Γ : mx_X} {lau : Launch} {nx : Nat} {u : Nat → Nat → Bool} {mi : mx_Mm} {f s g l : Nat} (hnx : 185 ≤ nx) (hu : ∀ p k, 2 ≤ p → u p k = true) (hf : f < 4) (hs : s < 6) (hg : g < 3) (hl : l < 6) (hok : Fi_ok f s g mi) : mx_C Γ lau M_Fi_takesPart [.ref 168, .int (nI f), .int (nI l)] (nx, u, mi) (fun ρ τ => ρ = some (.int (bz (Fi_part f s g l mi))) ∧ τ = (nx, u, mi)) := by
  refine mx_C.intro (by decide) rfl (Nat.le_of_ble_eq_true rfl) (fun κ _ hC => ?_)
  show mx_G Γ κ _ _ 0 [(0, .ref 168), (1, .int (nI f)), (2, .int (nI l))] [] (nx, u, mi) 0 0
  refine x_aload_n (q := 1) hC d_Fi_takesPart_0 rfl rfl rfl ?_
  refine x_getr (q := 4) (p := 168) (j := 0) (r := 5) hC f_Fi_45 rfl rfl rfl (by omega) (hu _ _ (by decide)) d_Fi_takesPart_1 rfl ?_
  refine x_iload_n (q := 5) hC d_Fi_takesPart_4 rfl rfl rfl ?_
  refine x_aload_n (q := 6) hC d_Fi_takesPart_5 rfl rfl rfl ?_
  refine x_getr (q := 9) (p := 168) (j := 3) (r := 169) hC f_Fi_9 rfl rfl rfl (by omega) (hu _ _ (by decide)) d_Fi_takesPart_6 rfl ?_
  refine x_iload_n (q := 10) hC d_Fi_takesPart_9 rfl rfl rfl ?_
  refine x_iald (q := 11) (p := 169) hC f rfl (by omega) rfl (by omega) (by decide) d_Fi_takesPart_10 rfl ?_
  refine mx_eqG (S1 := [.int (nI s), .int (nI l), .ref 5]) rfl (by exact congrArg (fun z => Value.int z :: ([.int (nI l), .ref 5] : List Value)) (show mi 169 f = nI s from hok.1)) rfl ?_
  refine x_callV (q := 14) (p := 5) (A := [.int (nI l), .int (nI s)]) (S := []) (c1 := 0) (s1 := 0) hC (c_Ne_areConnected (a := l) (b := s) (by omega) hu (by omega) (by omega)) s_Fi_takesPart_97 rfl (by omega) rfl rfl rfl (Nat.le_of_ble_eq_true rfl) rfl rfl (by decide) (by decide) d_Fi_takesPart_11 rfl (fun r τ hP => ?_)
  obtain ⟨rfl, rfl⟩ := hP
  show mx_G Γ κ _ _ 14 [(0, .ref 168), (1, .int (nI f)), (2, .int (nI l))] [.int (bz (mi (14 + l) s < nI 1000))] (nx, u, mi) 0 0
  refine x_if_eq (tgt := 47) (q := 17) hC d_Fi_takesPart_14 (by decide) rfl (fun h14 => ?_) (fun h14 => ?_)
  · have h14 := bz_0 h14
    refine x_iconst (q := 48) (v := nI 0) hC d_Fi_takesPart_47 (by decide) rfl ?_
    exact x_iret hC rfl rfl ⟨bz_f (fun q => h14 q.1), rfl⟩ (by decide) (by decide) d_Fi_takesPart_48
  · have h14 := bz_1 h14
    refine x_aload_n (q := 18) hC d_Fi_takesPart_17 rfl rfl rfl ?_
    refine x_getr (q := 21) (p := 168) (j := 1) (r := 34) hC f_Fi_49 rfl rfl rfl (by omega) (hu _ _ (by decide)) d_Fi_takesPart_18 rfl ?_
    refine x_iload_n (q := 22) hC d_Fi_takesPart_21 rfl rfl rfl ?_
    refine x_aload_n (q := 23) hC d_Fi_takesPart_22 rfl rfl rfl ?_
    refine x_getr (q := 26) (p := 168) (j := 4) (r := 170) hC f_Fi_15 rfl rfl rfl (by omega) (hu _ _ (by decide)) d_Fi_takesPart_23 rfl ?_
    refine x_iload_n (q := 27) hC d_Fi_takesPart_26 rfl rfl rfl ?_
    refine x_iald (q := 28) (p := 170) hC f rfl (by omega) rfl (by omega) (by decide) d_Fi_takesPart_27 rfl ?_
    refine mx_eqG (S1 := [.int (nI g), .int (nI l), .ref 34]) rfl (by exact congrArg (fun z => Value.int z :: ([.int (nI l), .ref 34] : List Value)) (show mi 170 f = nI g from hok.2)) rfl ?_
    refine x_callV (q := 31) (p := 34) (A := [.int (nI l), .int (nI g)]) (S := []) (c1 := 0) (s1 := 0) hC (c_La_hasMembers (l := l) (g := g) (by omega) hu (by omega) (by omega) ) s_Fi_takesPart_61 rfl (by omega) rfl rfl rfl (Nat.le_of_ble_eq_true rfl) rfl rfl (by decide) (by decide) d_Fi_takesPart_28 rfl (fun r τ hP => ?_)
    obtain ⟨rfl, rfl⟩ := hP
    show mx_G Γ κ _ _ 31 [(0, .ref 168), (1, .int (nI f)), (2, .int (nI l))] [.int (bz (¬ mi (36 + l) g = 0))] (nx, u, mi) 0 0
    refine x_if_eq (tgt := 47) (q := 34) hC d_Fi_takesPart_31 (by decide) rfl (fun h31 => ?_) (fun h31 => ?_)
    · have h31 := bz_0 h31
      refine x_iconst (q := 48) (v := nI 0) hC d_Fi_takesPart_47 (by decide) rfl ?_
      exact x_iret hC rfl rfl ⟨bz_f (fun q => h31 q.2.1), rfl⟩ (by decide) (by decide) d_Fi_takesPart_48
    · have h31 := bz_1 h31
      refine x_aload_n (q := 35) hC d_Fi_takesPart_34 rfl rfl rfl ?_
      refine x_iload_n (q := 36) hC d_Fi_takesPart_35 rfl rfl rfl ?_
      refine x_iload_n (q := 37) hC d_Fi_takesPart_36 rfl rfl rfl ?_
      refine x_callV (q := 40) (p := 168) (A := [.int (nI f), .int (nI l)]) (S := []) (c1 := 0) (s1 := 0) hC (c_Fi_missingAt (f := f) (l := l) (by omega) hu (by omega) (by omega) ) s_Fi_takesPart_83 rfl (by omega) rfl rfl rfl (Nat.le_of_ble_eq_true rfl) rfl rfl (by decide) (by decide) d_Fi_takesPart_37 rfl (fun r τ hP => ?_)
      obtain ⟨rfl, rfl⟩ := hP
      show mx_G Γ κ _ _ 40 [(0, .ref 168), (1, .int (nI f)), (2, .int (nI l))] [.int (Fi_mis f l mi)] (nx, u, mi) 0 0
      refine x_if_eq (tgt := 47) (q := 43) hC d_Fi_takesPart_40 (by decide) rfl (fun h40 => ?_) (fun h40 => ?_)
      · skip
        refine x_iconst (q := 48) (v := nI 0) hC d_Fi_takesPart_47 (by decide) rfl ?_
        exact x_iret hC rfl rfl ⟨bz_f (fun q => q.2.2 h40), rfl⟩ (by decide) (by decide) d_Fi_takesPart_48
      · skip
        refine x_iconst (q := 44) (v := nI 1) hC d_Fi_takesPart_43 (by decide) rfl ?_
        refine x_goto (tgt := 48) hC d_Fi_takesPart_44 (by decide) ?_
        exact x_iret hC rfl rfl ⟨bz_t (And.intro h14 (And.intro h31 h40)), rfl⟩ (by decide) (by decide) d_Fi_takesPart_48
set_option maxRecDepth 100000 in
set_option maxHeartbeats 400000 in
theorem c_Fi_draw {Γ : mx_X} {lau : Launch} {nx : Nat} {u : Nat → Nat → Bool} {mi : mx_Mm}  (hnx : 185 ≤ nx) (hu : ∀ p k, 2 ≤ p → u p k = true)  : mx_C Γ lau M_Fi_draw [.ref 168] (nx, u, mi) (fun ρ τ => ρ = some (.int (Fi_dv (Fi_draw mi))) ∧ τ = (nx, u, Fi_draw mi)) := by
  refine mx_C.intro (by decide) rfl (Nat.le_of_ble_eq_true rfl) (fun κ _ hC => ?_)
  show mx_G Γ κ _ _ 0 [(0, .ref 168)] [] (nx, u, mi) 0 0
  refine x_aload_n (q := 1) hC d_Fi_draw_0 rfl rfl rfl ?_
  refine x_aload_n (q := 2) hC d_Fi_draw_1 rfl rfl rfl ?_
  refine x_geti (q := 5) (p := 168) (j := 12) hC f_Fi_42 rfl rfl (by omega) d_Fi_draw_2 rfl ?_
  refine x_ldc (q := 7) (v := 1103515245) hC k_Fi_102 d_Fi_draw_5 rfl ?_
  refine x_imul (q := 8) (z := (mi 168 12) * 1103515245) hC d_Fi_draw_7 rfl rfl ?_
  refine x_sipush (q := 11) (v := nI 12345) hC d_Fi_draw_8 (by decide) rfl ?_
  refine x_iadd (q := 12) (z := ((mi 168 12) * 1103515245) + (nI 12345)) hC d_Fi_draw_11 rfl rfl ?_
  refine x_puti (q := 15) (p := 168) (j := 12) hC f_Fi_42 y_Fi rfl rfl rfl rfl rfl (by omega) (by decide) d_Fi_draw_12 rfl ?_
  refine x_aload_n (q := 16) hC d_Fi_draw_15 rfl rfl rfl ?_
  refine x_geti (q := 19) (p := 168) (j := 12) hC f_Fi_42 rfl rfl (by omega) d_Fi_draw_16 rfl ?_
  refine x_bipush (q := 21) (v := nI 16) hC d_Fi_draw_19 (by decide) rfl ?_
  refine x_iushr (q := 22) (z := (((mx_up mi 168 12 (((mi 168 12) * 1103515245) + (nI 12345))) 168 12).toUInt32 >>> ((nI 16).toUInt32 &&& Int32.toUInt32 31)).toInt32) hC d_Fi_draw_21 rfl rfl ?_
  refine x_bipush (q := 24) (v := nI 7) hC d_Fi_draw_22 (by decide) rfl ?_
  refine x_iand (q := 25) (z := ((((mx_up mi 168 12 (((mi 168 12) * 1103515245) + (nI 12345))) 168 12).toUInt32 >>> ((nI 16).toUInt32 &&& Int32.toUInt32 31)).toInt32) &&& (nI 7)) hC d_Fi_draw_24 rfl rfl ?_
  exact x_iret hC rfl rfl ⟨rfl, rfl⟩ (by decide) (by decide) d_Fi_draw_25
set_option maxRecDepth 100000 in
set_option maxHeartbeats 400000 in
theorem c_Fi_drawWaits {Γ : mx_X} {lau : Launch} {nx : Nat} {u : Nat → Nat → Bool} {mi : mx_Mm} {f s g : Nat} (hnx : 185 ≤ nx) (hu : ∀ p k, 2 ≤ p → u p k = true) (hf : f < 4) (hs : s < 6) (hg : g < 3) (hok : Fi_ok f s g mi) : mx_C Γ lau M_Fi_drawWaits [.ref 168, .int (nI f)] (nx, u, mi) (fun ρ τ => ρ = none ∧ τ = (nx, u, Fi_waits f s g mi)) := by
  refine mx_C.intro (by decide) rfl (Nat.le_of_ble_eq_true rfl) (fun κ _ hC => ?_)
  show mx_G Γ κ _ _ 0 [(0, .ref 168), (1, .int (nI f))] [] (nx, u, mi) 0 0
  refine x_iconst (q := 1) (v := nI 0) hC d_Fi_drawWaits_0 (by decide) rfl ?_
  refine x_istore_n (q := 2) (L1 := [(2, .int (nI 0)), (0, .ref 168), (1, .int (nI f))]) hC d_Fi_drawWaits_1 rfl (by decide) rfl rfl ?_
  refine x_sub (L1 := [(2, .int (nI 0)), (0, .ref 168), (1, .int (nI f))]) [0, 1, 2] rfl ?_
  refine mx_loop (N := 6) (Hd := fun l m1 => mx_G Γ κ _ _ 2 [(2, .int (nI l)), (0, .ref 168), (1, .int (nI f))] [] (nx, u, m1) 0 0) (Fi_w1 f s g) (fun _ m => Fi_ok f s g m) hok ?_ ?_ ?_
  · exact fun l m _ h => Fi_w1_ok h
  · intro l m1 hl2 hI3 hN4
    refine x_iload_n (q := 3) hC d_Fi_drawWaits_2 rfl rfl rfl ?_
    refine x_bipush (q := 5) (v := nI 6) hC d_Fi_drawWaits_3 (by decide) rfl ?_
    refine x_icmp_ge (tgt := 37) (q := 8) hC d_Fi_drawWaits_5 (by decide) rfl (fun h => absurd h (nI_ge hl2 (by decide))) (fun _ => ?_)
    refine x_aload_n (q := 9) hC d_Fi_drawWaits_8 rfl rfl rfl ?_
    refine x_getr (q := 12) (p := 168) (j := 10) (r := 184) hC f_Fi_35 rfl rfl rfl (by omega) (hu _ _ (by decide)) d_Fi_drawWaits_9 rfl ?_
    refine x_iload_n (q := 13) hC d_Fi_drawWaits_12 rfl rfl rfl ?_
    refine x_aload_n (q := 14) hC d_Fi_drawWaits_13 rfl rfl rfl ?_
    refine x_iload_n (q := 15) hC d_Fi_drawWaits_14 rfl rfl rfl ?_
    refine x_iload_n (q := 16) hC d_Fi_drawWaits_15 rfl rfl rfl ?_
    refine x_callV (q := 19) (p := 168) (A := [.int (nI f), .int (nI l)]) (S := [.int (nI l), .ref 184]) (c1 := 0) (s1 := 0) hC (c_Fi_takesPart (f := f) (s := s) (g := g) (l := l) (by omega) hu (by omega) hs hg (by omega) hI3) s_Fi_drawWaits_90 rfl (by omega) rfl rfl rfl (Nat.le_of_ble_eq_true rfl) rfl rfl (by decide) (by decide) d_Fi_drawWaits_16 rfl (fun r τ hP => ?_)
    obtain ⟨rfl, rfl⟩ := hP
    show mx_G Γ κ _ _ 19 [(2, .int (nI l)), (0, .ref 168), (1, .int (nI f))] [.int (bz (Fi_part f s g l m1)), .int (nI l), .ref 184] (nx, u, m1) 0 0
    refine x_if_eq (tgt := 29) (q := 22) hC d_Fi_drawWaits_19 (by decide) rfl (fun h19 => ?_) (fun h19 => ?_)
    · have h19 := bz_0 h19
      refine x_iconst (q := 30) (v := (-1)) hC d_Fi_drawWaits_29 (by decide) rfl ?_
      refine x_iast (q := 31) (p := 184) hC l rfl (by omega) (by omega) rfl (by omega) (by decide) d_Fi_drawWaits_30 rfl ?_
      refine x_iinc (q := 34) (y := nI (l + 1)) (L1 := [(2, .int (nI (l + 1))), (0, .ref 168), (1, .int (nI f))]) hC d_Fi_drawWaits_31 rfl (mx_inc l) (by decide) rfl rfl ?_
      refine x_goto (tgt := 2) hC d_Fi_drawWaits_34 (by decide) ?_
      exact x_close hN4 [0, 1, 2] rfl (by first | exact it_t h19 rfl | exact it_f h19 rfl)
    · have h19 := bz_1 h19
      refine x_aload_n (q := 23) hC d_Fi_drawWaits_22 rfl rfl rfl ?_
      refine x_callV (q := 26) (p := 168) (A := []) (S := [.int (nI l), .ref 184]) (c1 := 0) (s1 := 0) hC (c_Fi_draw (by omega) hu) s_Fi_drawWaits_93 rfl (by omega) rfl rfl rfl (Nat.le_of_ble_eq_true rfl) rfl rfl (by decide) (by decide) d_Fi_drawWaits_23 rfl (fun r τ hP => ?_)
      obtain ⟨rfl, rfl⟩ := hP
      show mx_G Γ κ _ _ 26 [(2, .int (nI l)), (0, .ref 168), (1, .int (nI f))] [.int (Fi_dv (Fi_draw m1)), .int (nI l), .ref 184] (nx, u, Fi_draw m1) 0 0
      refine x_goto (tgt := 30) hC d_Fi_drawWaits_26 (by decide) ?_
      refine x_iast (q := 31) (p := 184) hC l rfl (by omega) (by omega) rfl (by omega) (by decide) d_Fi_drawWaits_30 rfl ?_
      refine x_iinc (q := 34) (y := nI (l + 1)) (L1 := [(2, .int (nI (l + 1))), (0, .ref 168), (1, .int (nI f))]) hC d_Fi_drawWaits_31 rfl (mx_inc l) (by decide) rfl rfl ?_
      refine x_goto (tgt := 2) hC d_Fi_drawWaits_34 (by decide) ?_
      exact x_close hN4 [0, 1, 2] rfl (by first | exact it_t h19 rfl | exact it_f h19 rfl)
  · intro hx5
    refine mx_nr (fun m6 e7 => ?_)
    try rw [e7] at hx5
    refine x_iload_n (q := 3) hC d_Fi_drawWaits_2 rfl rfl rfl ?_
    refine x_bipush (q := 5) (v := nI 6) hC d_Fi_drawWaits_3 (by decide) rfl ?_
    refine x_icmp_ge (tgt := 37) (q := 8) hC d_Fi_drawWaits_5 (by decide) rfl (fun _ => ?_) (fun h => absurd (nI_le (Nat.le_refl _) (by decide)) h)
    subst e7
    exact x_vret hC rfl ⟨rfl, rfl⟩ (by decide) (by decide) d_Fi_drawWaits_37
set_option maxRecDepth 100000 in
set_option maxHeartbeats 400000 in
theorem c_Fi_askAgain {Γ : mx_X} {lau : Launch} {nx : Nat} {u : Nat → Nat → Bool} {mi : mx_Mm} {f s g : Nat} (hnx : 185 ≤ nx) (hu : ∀ p k, 2 ≤ p → u p k = true) (hf : f < 4) (hs : s < 6) (hg : g < 3) (hok : Fi_ok f s g mi) : mx_C Γ lau M_Fi_askAgain [.ref 168, .int (nI f)] (nx, u, mi) (fun ρ τ => ρ = some (.int ((Fi_asks f s g mi).2.1)) ∧ τ = (nx, u, Fi_end f (Fi_asks f s g mi))) := by
  refine mx_C.intro (by decide) rfl (Nat.le_of_ble_eq_true rfl) (fun κ _ hC => ?_)
  show mx_G Γ κ _ _ 0 [(0, .ref 168), (1, .int (nI f))] [] (nx, u, mi) 0 0
  refine x_aload_n (q := 1) hC d_Fi_askAgain_0 rfl rfl rfl ?_
  refine x_iload_n (q := 2) hC d_Fi_askAgain_1 rfl rfl rfl ?_
  refine x_callV (q := 5) (p := 168) (A := [.int (nI f)]) (S := []) (c1 := 0) (s1 := 0) hC (c_Fi_drawWaits (f := f) (s := s) (g := g) (by omega) hu (by omega) hs hg hok) s_Fi_askAgain_79 rfl (by omega) rfl rfl rfl (Nat.le_of_ble_eq_true rfl) rfl rfl (by decide) (by decide) d_Fi_askAgain_2 rfl (fun r τ hP => ?_)
  obtain ⟨rfl, rfl⟩ := hP
  show mx_G Γ κ _ _ 5 [(0, .ref 168), (1, .int (nI f))] [] (nx, u, Fi_waits f s g mi) 0 0
  refine mx_nr (fun mW eW => ?_)
  refine x_iconst (q := 6) (v := nI 0) hC d_Fi_askAgain_5 (by decide) rfl ?_
  refine x_istore_n (q := 7) (L1 := [(2, .int (nI 0)), (0, .ref 168), (1, .int (nI f))]) hC d_Fi_askAgain_6 rfl (by decide) rfl rfl ?_
  refine x_iconst (q := 8) (v := nI 0) hC d_Fi_askAgain_7 (by decide) rfl ?_
  refine x_istore_n (q := 9) (L1 := [(3, .int (nI 0)), (2, .int (nI 0)), (0, .ref 168), (1, .int (nI f))]) hC d_Fi_askAgain_8 rfl (by decide) rfl rfl ?_
  refine x_iconst (q := 10) (v := nI 0) hC d_Fi_askAgain_9 (by decide) rfl ?_
  refine x_istore (q := 12) (L1 := [(4, .int (nI 0)), (3, .int (nI 0)), (2, .int (nI 0)), (0, .ref 168), (1, .int (nI f))]) hC d_Fi_askAgain_10 (by decide) rfl rfl ?_
  refine x_sub (L1 := [(4, .int (nI 0)), (3, .int (nI 0)), (2, .int (nI 0)), (0, .ref 168), (1, .int (nI f))]) [0, 1, 2, 3, 4] rfl ?_
  refine mx_loopG (N := 8) (Hd := fun w a => mx_G Γ κ _ _ 12 [(4, .int (nI w)), (3, .int (a.2.1)), (2, .int (a.1)), (0, .ref 168), (1, .int (nI f))] [] (nx, u, a.2.2) 0 0) (fun w => mx_lp 6 (Fi_a1 f w)) (fun _ _ => True) (m := (nI 0, nI 0, mW)) trivial ?_ ?_ ?_
  · exact fun _ _ _ _ => trivial
  · intro w a hl1 hI2 hN3
    refine x_iload (q := 14) hC d_Fi_askAgain_12 rfl rfl ?_
    refine x_bipush (q := 16) (v := nI 8) hC d_Fi_askAgain_14 (by decide) rfl ?_
    refine x_icmp_ge (tgt := 104) (q := 19) hC d_Fi_askAgain_16 (by decide) rfl (fun h => absurd h (nI_ge hl1 (by decide))) (fun _ => ?_)
    refine x_iconst (q := 20) (v := nI 0) hC d_Fi_askAgain_19 (by decide) rfl ?_
    refine x_istore (q := 22) (L1 := [(5, .int (nI 0)), (4, .int (nI w)), (3, .int (a.2.1)), (2, .int (a.1)), (0, .ref 168), (1, .int (nI f))]) hC d_Fi_askAgain_20 (by decide) rfl rfl ?_
    refine x_sub (L1 := [(5, .int (nI 0)), (4, .int (nI w)), (3, .int (a.2.1)), (2, .int (a.1)), (0, .ref 168), (1, .int (nI f))]) [0, 1, 2, 3, 4, 5] rfl ?_
    refine mx_loopG (N := 6) (Hd := fun l b => mx_G Γ κ _ _ 22 [(5, .int (nI l)), (4, .int (nI w)), (3, .int (b.2.1)), (2, .int (b.1)), (0, .ref 168), (1, .int (nI f))] [] (nx, u, b.2.2) 0 0) (Fi_a1 f w) (fun _ _ => True) (m := a) trivial ?_ ?_ ?_
    · exact fun _ _ _ _ => trivial
    · intro l b hl4 hI5 hN6
      refine x_iload (q := 24) hC d_Fi_askAgain_22 rfl rfl ?_
      refine x_bipush (q := 26) (v := nI 6) hC d_Fi_askAgain_24 (by decide) rfl ?_
      refine x_icmp_ge (tgt := 98) (q := 29) hC d_Fi_askAgain_26 (by decide) rfl (fun h => absurd h (nI_ge hl4 (by decide))) (fun _ => ?_)
      refine x_aload_n (q := 30) hC d_Fi_askAgain_29 rfl rfl rfl ?_
      refine x_getr (q := 33) (p := 168) (j := 10) (r := 184) hC f_Fi_35 rfl rfl rfl (by omega) (hu _ _ (by decide)) d_Fi_askAgain_30 rfl ?_
      refine x_iload (q := 35) hC d_Fi_askAgain_33 rfl rfl ?_
      refine x_iald (q := 36) (p := 184) hC l rfl (by omega) rfl (by omega) (by decide) d_Fi_askAgain_35 rfl ?_
      refine x_iload (q := 38) hC d_Fi_askAgain_36 rfl rfl ?_
      refine x_icmp_eq (tgt := 44) (q := 41) hC d_Fi_askAgain_38 (by decide) rfl (fun h38 => ?_) (fun h38 => ?_)
      · skip
        refine x_aload_n (q := 45) hC d_Fi_askAgain_44 rfl rfl rfl ?_
        refine x_iload_n (q := 46) hC d_Fi_askAgain_45 rfl rfl rfl ?_
        refine x_iload (q := 48) hC d_Fi_askAgain_46 rfl rfl ?_
        refine x_callV (q := 51) (p := 168) (A := [.int (nI f), .int (nI l)]) (S := []) (c1 := 0) (s1 := 0) hC (c_Fi_missingAt (f := f) (l := l) (by omega) hu (by omega) (by omega) ) s_Fi_askAgain_83 rfl (by omega) rfl rfl rfl (Nat.le_of_ble_eq_true rfl) rfl rfl (by decide) (by decide) d_Fi_askAgain_48 rfl (fun r τ hP => ?_)
        obtain ⟨rfl, rfl⟩ := hP
        show mx_G Γ κ _ _ 51 [(5, .int (nI l)), (4, .int (nI w)), (3, .int (b.2.1)), (2, .int (b.1)), (0, .ref 168), (1, .int (nI f))] [.int (Fi_mis f l b.2.2)] (nx, u, b.2.2) 0 0
        refine x_iload_n (q := 52) hC d_Fi_askAgain_51 rfl rfl rfl ?_
        refine x_iconst (q := 53) (v := (-1)) hC d_Fi_askAgain_52 (by decide) rfl ?_
        refine x_ixor (q := 54) (z := b.1 ^^^ (-1)) hC d_Fi_askAgain_53 rfl rfl ?_
        refine x_iand (q := 55) (z := (Fi_mis f l b.2.2) &&& (b.1 ^^^ (-1))) hC d_Fi_askAgain_54 rfl rfl ?_
        refine x_if_ne (tgt := 70) (q := 58) hC d_Fi_askAgain_55 (by decide) rfl (fun h55 => ?_) (fun h55 => ?_)
        · skip
          refine x_aload_n (q := 71) hC d_Fi_askAgain_70 rfl rfl rfl ?_
          refine x_getr (q := 74) (p := 168) (j := 2) (r := 3) hC f_Fi_53 rfl rfl rfl (by omega) (hu _ _ (by decide)) d_Fi_askAgain_71 rfl ?_
          refine x_bipush (q := 76) (v := nI 8) hC d_Fi_askAgain_74 (by decide) rfl ?_
          refine x_callV (q := 79) (p := 3) (A := [.int (nI 8)]) (S := []) (c1 := 0) (s1 := 0) hC (c_Ta_count (k := 8) (by omega) hu (by omega)) s_Fi_askAgain_86 rfl (by omega) rfl rfl rfl (Nat.le_of_ble_eq_true rfl) rfl rfl (by decide) (by decide) d_Fi_askAgain_76 rfl (fun r τ hP => ?_)
          obtain ⟨rfl, rfl⟩ := hP
          show mx_G Γ κ _ _ 79 [(5, .int (nI l)), (4, .int (nI w)), (3, .int (b.2.1)), (2, .int (b.1)), (0, .ref 168), (1, .int (nI f))] [] (nx, u, mx_up b.2.2 4 8 (b.2.2 4 8 + nI 1)) 0 0
          refine x_iinc (q := 82) (y := b.2.1 + 1) (L1 := [(3, .int (b.2.1 + 1)), (5, .int (nI l)), (4, .int (nI w)), (2, .int (b.1)), (0, .ref 168), (1, .int (nI f))]) hC d_Fi_askAgain_79 rfl (by rfl) (by decide) rfl rfl ?_
          refine x_iload_n (q := 83) hC d_Fi_askAgain_82 rfl rfl rfl ?_
          refine x_aload_n (q := 84) hC d_Fi_askAgain_83 rfl rfl rfl ?_
          refine x_iload_n (q := 85) hC d_Fi_askAgain_84 rfl rfl rfl ?_
          refine x_iload (q := 87) hC d_Fi_askAgain_85 rfl rfl ?_
          refine x_callV (q := 90) (p := 168) (A := [.int (nI f), .int (nI l)]) (S := [.int (b.1)]) (c1 := 0) (s1 := 0) hC (c_Fi_missingAt (f := f) (l := l) (by omega) hu (by omega) (by omega) ) s_Fi_askAgain_83 rfl (by omega) rfl rfl rfl (Nat.le_of_ble_eq_true rfl) rfl rfl (by decide) (by decide) d_Fi_askAgain_87 rfl (fun r τ hP => ?_)
          obtain ⟨rfl, rfl⟩ := hP
          show mx_G Γ κ _ _ 90 [(3, .int (b.2.1 + 1)), (5, .int (nI l)), (4, .int (nI w)), (2, .int (b.1)), (0, .ref 168), (1, .int (nI f))] [.int (Fi_mis f l (mx_up b.2.2 4 8 (b.2.2 4 8 + nI 1))), .int (b.1)] (nx, u, mx_up b.2.2 4 8 (b.2.2 4 8 + nI 1)) 0 0
          refine x_ior (q := 91) (z := b.1 ||| (Fi_mis f l (mx_up b.2.2 4 8 (b.2.2 4 8 + nI 1)))) hC d_Fi_askAgain_90 rfl rfl ?_
          refine x_istore_n (q := 92) (L1 := [(2, .int (b.1 ||| (Fi_mis f l (mx_up b.2.2 4 8 (b.2.2 4 8 + nI 1))))), (3, .int (b.2.1 + 1)), (5, .int (nI l)), (4, .int (nI w)), (0, .ref 168), (1, .int (nI f))]) hC d_Fi_askAgain_91 rfl (by decide) rfl rfl ?_
          refine x_iinc (q := 95) (y := nI (l + 1)) (L1 := [(5, .int (nI (l + 1))), (2, .int (b.1 ||| (Fi_mis f l (mx_up b.2.2 4 8 (b.2.2 4 8 + nI 1))))), (3, .int (b.2.1 + 1)), (4, .int (nI w)), (0, .ref 168), (1, .int (nI f))]) hC d_Fi_askAgain_92 rfl (mx_inc l) (by decide) rfl rfl ?_
          refine x_goto (tgt := 22) hC d_Fi_askAgain_95 (by decide) ?_
          refine x_sub (L1 := [(5, .int (nI (l + 1))), (4, .int (nI w)), (3, .int (b.2.1 + 1)), (2, .int (b.1 ||| (Fi_mis f l (mx_up b.2.2 4 8 (b.2.2 4 8 + nI 1))))), (0, .ref 168), (1, .int (nI f))]) [0, 3, 2, 1, 4, 5] rfl (mx_eqG ?_ rfl ?_ hN6)
          · first | (rw [Fi_a1, if_pos h38, if_pos h55] <;> rfl) | (rw [Fi_a1, if_pos h38, if_neg h55] <;> rfl) | (rw [Fi_a1, if_neg h38] <;> rfl)
          · exact pr (by first | (rw [Fi_a1, if_pos h38, if_pos h55] <;> rfl) | (rw [Fi_a1, if_pos h38, if_neg h55] <;> rfl) | (rw [Fi_a1, if_neg h38] <;> rfl))
        · skip
          refine x_aload_n (q := 59) hC d_Fi_askAgain_58 rfl rfl rfl ?_
          refine x_getr (q := 62) (p := 168) (j := 2) (r := 3) hC f_Fi_53 rfl rfl rfl (by omega) (hu _ _ (by decide)) d_Fi_askAgain_59 rfl ?_
          refine x_bipush (q := 64) (v := nI 9) hC d_Fi_askAgain_62 (by decide) rfl ?_
          refine x_callV (q := 67) (p := 3) (A := [.int (nI 9)]) (S := []) (c1 := 0) (s1 := 0) hC (c_Ta_count (k := 9) (by omega) hu (by omega)) s_Fi_askAgain_86 rfl (by omega) rfl rfl rfl (Nat.le_of_ble_eq_true rfl) rfl rfl (by decide) (by decide) d_Fi_askAgain_64 rfl (fun r τ hP => ?_)
          obtain ⟨rfl, rfl⟩ := hP
          show mx_G Γ κ _ _ 67 [(5, .int (nI l)), (4, .int (nI w)), (3, .int (b.2.1)), (2, .int (b.1)), (0, .ref 168), (1, .int (nI f))] [] (nx, u, mx_up b.2.2 4 9 (b.2.2 4 9 + nI 1)) 0 0
          refine x_goto (tgt := 92) hC d_Fi_askAgain_67 (by decide) ?_
          refine x_iinc (q := 95) (y := nI (l + 1)) (L1 := [(5, .int (nI (l + 1))), (4, .int (nI w)), (3, .int (b.2.1)), (2, .int (b.1)), (0, .ref 168), (1, .int (nI f))]) hC d_Fi_askAgain_92 rfl (mx_inc l) (by decide) rfl rfl ?_
          refine x_goto (tgt := 22) hC d_Fi_askAgain_95 (by decide) ?_
          refine x_sub (L1 := [(5, .int (nI (l + 1))), (4, .int (nI w)), (3, .int (b.2.1)), (2, .int (b.1)), (0, .ref 168), (1, .int (nI f))]) [0, 1, 2, 3, 4, 5] rfl (mx_eqG ?_ rfl ?_ hN6)
          · first | (rw [Fi_a1, if_pos h38, if_pos h55] <;> rfl) | (rw [Fi_a1, if_pos h38, if_neg h55] <;> rfl) | (rw [Fi_a1, if_neg h38] <;> rfl)
          · exact pr (by first | (rw [Fi_a1, if_pos h38, if_pos h55] <;> rfl) | (rw [Fi_a1, if_pos h38, if_neg h55] <;> rfl) | (rw [Fi_a1, if_neg h38] <;> rfl))
      · skip
        refine x_goto (tgt := 92) hC d_Fi_askAgain_41 (by decide) ?_
        refine x_iinc (q := 95) (y := nI (l + 1)) (L1 := [(5, .int (nI (l + 1))), (4, .int (nI w)), (3, .int (b.2.1)), (2, .int (b.1)), (0, .ref 168), (1, .int (nI f))]) hC d_Fi_askAgain_92 rfl (mx_inc l) (by decide) rfl rfl ?_
        refine x_goto (tgt := 22) hC d_Fi_askAgain_95 (by decide) ?_
        refine x_sub (L1 := [(5, .int (nI (l + 1))), (4, .int (nI w)), (3, .int (b.2.1)), (2, .int (b.1)), (0, .ref 168), (1, .int (nI f))]) [0, 1, 2, 3, 4, 5] rfl (mx_eqG ?_ rfl ?_ hN6)
        · first | (rw [Fi_a1, if_pos h38, if_pos h55] <;> rfl) | (rw [Fi_a1, if_pos h38, if_neg h55] <;> rfl) | (rw [Fi_a1, if_neg h38] <;> rfl)
        · exact pr (by first | (rw [Fi_a1, if_pos h38, if_pos h55] <;> rfl) | (rw [Fi_a1, if_pos h38, if_neg h55] <;> rfl) | (rw [Fi_a1, if_neg h38] <;> rfl))
    · intro hx7
      generalize e9 : mx_lp 6 (Fi_a1 f w) a = a8 at hx7 ⊢
      refine x_iload (q := 24) hC d_Fi_askAgain_22 rfl rfl ?_
      refine x_bipush (q := 26) (v := nI 6) hC d_Fi_askAgain_24 (by decide) rfl ?_
      refine x_icmp_ge (tgt := 98) (q := 29) hC d_Fi_askAgain_26 (by decide) rfl (fun _ => ?_) (fun h => absurd (nI_le (Nat.le_refl _) (by decide)) h)
      refine x_iinc (q := 101) (y := nI (w + 1)) (L1 := [(4, .int (nI (w + 1))), (5, .int (nI 6)), (3, .int (a8.2.1)), (2, .int (a8.1)), (0, .ref 168), (1, .int (nI f))]) hC d_Fi_askAgain_98 rfl (mx_inc w) (by decide) rfl rfl ?_
      refine x_goto (tgt := 12) hC d_Fi_askAgain_101 (by decide) ?_
      refine x_sub (L1 := [(4, .int (nI (w + 1))), (3, .int (a8.2.1)), (2, .int (a8.1)), (0, .ref 168), (1, .int (nI f))]) [0, 2, 3, 4, 5] rfl (mx_eqG ?_ rfl ?_ hN3)
      · subst e9; rfl
      · subst e9; rfl
  · intro hx10
    generalize e12 : mx_lp 8 (fun w => mx_lp 6 (Fi_a1 f w)) (nI 0, nI 0, mW) = a11 at hx10 ⊢
    refine x_iload (q := 14) hC d_Fi_askAgain_12 rfl rfl ?_
    refine x_bipush (q := 16) (v := nI 8) hC d_Fi_askAgain_14 (by decide) rfl ?_
    refine x_icmp_ge (tgt := 104) (q := 19) hC d_Fi_askAgain_16 (by decide) rfl (fun _ => ?_) (fun h => absurd (nI_le (Nat.le_refl _) (by decide)) h)
    refine x_aload_n (q := 105) hC d_Fi_askAgain_104 rfl rfl rfl ?_
    refine x_getr (q := 108) (p := 168) (j := 7) (r := 173) hC f_Fi_24 rfl rfl rfl (by omega) (hu _ _ (by decide)) d_Fi_askAgain_105 rfl ?_
    refine x_iload_n (q := 109) hC d_Fi_askAgain_108 rfl rfl rfl ?_
    refine x_dup2 (q := 110) hC d_Fi_askAgain_109 rfl rfl rfl ?_
    refine x_iald (q := 111) (p := 173) hC f rfl (by omega) rfl (by omega) (by decide) d_Fi_askAgain_110 rfl ?_
    refine x_iload_n (q := 112) hC d_Fi_askAgain_111 rfl rfl rfl ?_
    refine x_ior (q := 113) (z := (a11.2.2 173 f) ||| a11.1) hC d_Fi_askAgain_112 rfl rfl ?_
    refine x_iast (q := 114) (p := 173) hC f rfl (by omega) (by omega) rfl (by omega) (by decide) d_Fi_askAgain_113 rfl ?_
    refine x_iload_n (q := 115) hC d_Fi_askAgain_114 rfl rfl rfl ?_
    have eA : Fi_asks f s g mi = a11 := by rw [← e12, ← eW]; rfl
    exact x_iret hC rfl rfl ⟨sv (by rw [eA]), pr (by rw [eA] <;> rfl)⟩ (by decide) (by decide) d_Fi_askAgain_115
end
