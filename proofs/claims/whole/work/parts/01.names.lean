-- ===== PART A: goes FIRST, ahead of the names: the tables' words, and 'selects' of the private methods out of them =====
/-- a private method of a class that the tables say can be made, by its rows of tables_1 -/
def lw_okq (q : MethodName × Nat) : Prop := (q.1.cls ≠ "java/lang/invoke/MethodHandle" ∧ q.1.cls ≠ "java/lang/invoke/VarHandle") ∧ Cond.instantiable q.1.cls q.2 ∈ tables_1 ∧ Cond.privateMethod q.1 ∈ tables_1 ∧ Cond.instanceMethod q.1 ∈ tables_1
theorem lw_p0 : lw_okq (⟨"MapDrawer$Story", "leadsForth", "(III)Z"⟩, 9) := ⟨⟨by decide +kernel, by decide +kernel⟩, List.mem_of_getElem? (i := 21) (by decide +kernel), List.mem_of_getElem? (i := 317) (by decide +kernel), List.mem_of_getElem? (i := 318) (by decide +kernel)⟩
theorem lw_p1 : lw_okq (⟨"MapDrawer$Story", "leadsBack", "(III)Z"⟩, 9) := ⟨⟨by decide +kernel, by decide +kernel⟩, List.mem_of_getElem? (i := 21) (by decide +kernel), List.mem_of_getElem? (i := 321) (by decide +kernel), List.mem_of_getElem? (i := 322) (by decide +kernel)⟩
theorem lw_p2 : lw_okq (⟨"MapDrawer", "playToNewRoom", "(II)I"⟩, 6) := ⟨⟨by decide +kernel, by decide +kernel⟩, List.mem_of_getElem? (i := 13) (by decide +kernel), List.mem_of_getElem? (i := 358) (by decide +kernel), List.mem_of_getElem? (i := 359) (by decide +kernel)⟩
theorem lw_p3 : lw_okq (⟨"MapDrawer", "playToRoom", "(III)I"⟩, 6) := ⟨⟨by decide +kernel, by decide +kernel⟩, List.mem_of_getElem? (i := 13) (by decide +kernel), List.mem_of_getElem? (i := 362) (by decide +kernel), List.mem_of_getElem? (i := 363) (by decide +kernel)⟩
theorem lw_p4 : lw_okq (⟨"MapDrawer$Parts", "sinkToLeastRooms", "(LMapDrawer$Story;)Z"⟩, 1) := ⟨⟨by decide +kernel, by decide +kernel⟩, List.mem_of_getElem? (i := 92) (by decide +kernel), List.mem_of_getElem? (i := 398) (by decide +kernel), List.mem_of_getElem? (i := 399) (by decide +kernel)⟩
theorem lw_p5 : lw_okq (⟨"MapDrawer$Parts", "countUp", "(I)I"⟩, 1) := ⟨⟨by decide +kernel, by decide +kernel⟩, List.mem_of_getElem? (i := 92) (by decide +kernel), List.mem_of_getElem? (i := 405) (by decide +kernel), List.mem_of_getElem? (i := 406) (by decide +kernel)⟩
theorem lw_p6 : lw_okq (⟨"MapDrawer$Planner", "drawPartOf", "(I)V"⟩, 15) := ⟨⟨by decide +kernel, by decide +kernel⟩, List.mem_of_getElem? (i := 142) (by decide +kernel), List.mem_of_getElem? (i := 427) (by decide +kernel), List.mem_of_getElem? (i := 428) (by decide +kernel)⟩
theorem lw_p7 : lw_okq (⟨"MapDrawer$Planner", "spread", "(LMapDrawer$Places;)V"⟩, 15) := ⟨⟨by decide +kernel, by decide +kernel⟩, List.mem_of_getElem? (i := 142) (by decide +kernel), List.mem_of_getElem? (i := 435) (by decide +kernel), List.mem_of_getElem? (i := 436) (by decide +kernel)⟩
theorem lw_p8 : lw_okq (⟨"MapDrawer$Planner", "nextRoom", "(LMapDrawer$Places;)I"⟩, 15) := ⟨⟨by decide +kernel, by decide +kernel⟩, List.mem_of_getElem? (i := 142) (by decide +kernel), List.mem_of_getElem? (i := 439) (by decide +kernel), List.mem_of_getElem? (i := 440) (by decide +kernel)⟩
theorem lw_p9 : lw_okq (⟨"MapDrawer$Chances", "lookAround", "(LMapDrawer$Places;III)Z"⟩, 5) := ⟨⟨by decide +kernel, by decide +kernel⟩, List.mem_of_getElem? (i := 163) (by decide +kernel), List.mem_of_getElem? (i := 486) (by decide +kernel), List.mem_of_getElem? (i := 487) (by decide +kernel)⟩
theorem lw_p10 : lw_okq (⟨"MapDrawer$Planner", "keepTrial", "()V"⟩, 15) := ⟨⟨by decide +kernel, by decide +kernel⟩, List.mem_of_getElem? (i := 142) (by decide +kernel), List.mem_of_getElem? (i := 493) (by decide +kernel), List.mem_of_getElem? (i := 494) (by decide +kernel)⟩
theorem lw_p11 : lw_okq (⟨"MapDrawer$Planner", "tryHere", "(I)V"⟩, 15) := ⟨⟨by decide +kernel, by decide +kernel⟩, List.mem_of_getElem? (i := 142) (by decide +kernel), List.mem_of_getElem? (i := 501) (by decide +kernel), List.mem_of_getElem? (i := 502) (by decide +kernel)⟩
theorem lw_p12 : lw_okq (⟨"MapDrawer$Planner", "weighTrial", "()V"⟩, 15) := ⟨⟨by decide +kernel, by decide +kernel⟩, List.mem_of_getElem? (i := 142) (by decide +kernel), List.mem_of_getElem? (i := 508) (by decide +kernel), List.mem_of_getElem? (i := 509) (by decide +kernel)⟩
theorem lw_p13 : lw_okq (⟨"MapDrawer$Places", "isWeighed", "(I)Z"⟩, 5) := ⟨⟨by decide +kernel, by decide +kernel⟩, List.mem_of_getElem? (i := 104) (by decide +kernel), List.mem_of_getElem? (i := 516) (by decide +kernel), List.mem_of_getElem? (i := 517) (by decide +kernel)⟩
theorem lw_p14 : lw_okq (⟨"MapDrawer$Places", "distance", "(III)I"⟩, 5) := ⟨⟨by decide +kernel, by decide +kernel⟩, List.mem_of_getElem? (i := 104) (by decide +kernel), List.mem_of_getElem? (i := 529) (by decide +kernel), List.mem_of_getElem? (i := 530) (by decide +kernel)⟩
theorem lw_p15 : lw_okq (⟨"MapDrawer$Planner", "moveBehind", "(I)I"⟩, 15) := ⟨⟨by decide +kernel, by decide +kernel⟩, List.mem_of_getElem? (i := 142) (by decide +kernel), List.mem_of_getElem? (i := 540) (by decide +kernel), List.mem_of_getElem? (i := 541) (by decide +kernel)⟩
def lw_privs_1 : List (MethodName × Nat) := [(⟨"MapDrawer$Story", "leadsForth", "(III)Z"⟩, 9), (⟨"MapDrawer$Story", "leadsBack", "(III)Z"⟩, 9), (⟨"MapDrawer", "playToNewRoom", "(II)I"⟩, 6), (⟨"MapDrawer", "playToRoom", "(III)I"⟩, 6), (⟨"MapDrawer$Parts", "sinkToLeastRooms", "(LMapDrawer$Story;)Z"⟩, 1), (⟨"MapDrawer$Parts", "countUp", "(I)I"⟩, 1), (⟨"MapDrawer$Planner", "drawPartOf", "(I)V"⟩, 15), (⟨"MapDrawer$Planner", "spread", "(LMapDrawer$Places;)V"⟩, 15), (⟨"MapDrawer$Planner", "nextRoom", "(LMapDrawer$Places;)I"⟩, 15), (⟨"MapDrawer$Chances", "lookAround", "(LMapDrawer$Places;III)Z"⟩, 5), (⟨"MapDrawer$Planner", "keepTrial", "()V"⟩, 15), (⟨"MapDrawer$Planner", "tryHere", "(I)V"⟩, 15), (⟨"MapDrawer$Planner", "weighTrial", "()V"⟩, 15), (⟨"MapDrawer$Places", "isWeighed", "(I)Z"⟩, 5), (⟨"MapDrawer$Places", "distance", "(III)I"⟩, 5), (⟨"MapDrawer$Planner", "moveBehind", "(I)I"⟩, 15)]
theorem lw_r1 : ∀ q ∈ lw_privs_1, lw_okq q := List.forall_mem_cons.mpr ⟨lw_p0, List.forall_mem_cons.mpr ⟨lw_p1, List.forall_mem_cons.mpr ⟨lw_p2, List.forall_mem_cons.mpr ⟨lw_p3, List.forall_mem_cons.mpr ⟨lw_p4, List.forall_mem_cons.mpr ⟨lw_p5, List.forall_mem_cons.mpr ⟨lw_p6, List.forall_mem_cons.mpr ⟨lw_p7, List.forall_mem_cons.mpr ⟨lw_p8, List.forall_mem_cons.mpr ⟨lw_p9, List.forall_mem_cons.mpr ⟨lw_p10, List.forall_mem_cons.mpr ⟨lw_p11, List.forall_mem_cons.mpr ⟨lw_p12, List.forall_mem_cons.mpr ⟨lw_p13, List.forall_mem_cons.mpr ⟨lw_p14, List.forall_mem_cons.mpr ⟨lw_p15, fun _ h => absurd h List.not_mem_nil⟩⟩⟩⟩⟩⟩⟩⟩⟩⟩⟩⟩⟩⟩⟩⟩
theorem lw_p16 : lw_okq (⟨"MapDrawer$Walker", "measure", "(I)V"⟩, 2) := ⟨⟨by decide +kernel, by decide +kernel⟩, List.mem_of_getElem? (i := 235) (by decide +kernel), List.mem_of_getElem? (i := 603) (by decide +kernel), List.mem_of_getElem? (i := 604) (by decide +kernel)⟩
theorem lw_p17 : lw_okq (⟨"MapDrawer$Walker", "shortenAll", "()Z"⟩, 2) := ⟨⟨by decide +kernel, by decide +kernel⟩, List.mem_of_getElem? (i := 235) (by decide +kernel), List.mem_of_getElem? (i := 607) (by decide +kernel), List.mem_of_getElem? (i := 608) (by decide +kernel)⟩
theorem lw_p18 : lw_okq (⟨"MapDrawer$Walker", "shorten", "(II)Z"⟩, 2) := ⟨⟨by decide +kernel, by decide +kernel⟩, List.mem_of_getElem? (i := 235) (by decide +kernel), List.mem_of_getElem? (i := 611) (by decide +kernel), List.mem_of_getElem? (i := 612) (by decide +kernel)⟩
theorem lw_p19 : lw_okq (⟨"MapDrawer$Walker", "leastGoodDirection", "(I)I"⟩, 2) := ⟨⟨by decide +kernel, by decide +kernel⟩, List.mem_of_getElem? (i := 235) (by decide +kernel), List.mem_of_getElem? (i := 624) (by decide +kernel), List.mem_of_getElem? (i := 625) (by decide +kernel)⟩
theorem lw_p20 : lw_okq (⟨"MapDrawer$Sheet", "letterAt", "(III)I"⟩, 4) := ⟨⟨by decide +kernel, by decide +kernel⟩, List.mem_of_getElem? (i := 248) (by decide +kernel), List.mem_of_getElem? (i := 641) (by decide +kernel), List.mem_of_getElem? (i := 642) (by decide +kernel)⟩
theorem lw_p21 : lw_okq (⟨"MapDrawer$Sheet", "isInRow", "(III)Z"⟩, 4) := ⟨⟨by decide +kernel, by decide +kernel⟩, List.mem_of_getElem? (i := 248) (by decide +kernel), List.mem_of_getElem? (i := 645) (by decide +kernel), List.mem_of_getElem? (i := 646) (by decide +kernel)⟩
theorem lw_p22 : lw_okq (⟨"MapDrawer$Sheet", "rowOf", "(I)I"⟩, 4) := ⟨⟨by decide +kernel, by decide +kernel⟩, List.mem_of_getElem? (i := 248) (by decide +kernel), List.mem_of_getElem? (i := 649) (by decide +kernel), List.mem_of_getElem? (i := 650) (by decide +kernel)⟩
theorem lw_p23 : lw_okq (⟨"MapDrawer$Sheet", "columnOf", "(I)I"⟩, 4) := ⟨⟨by decide +kernel, by decide +kernel⟩, List.mem_of_getElem? (i := 248) (by decide +kernel), List.mem_of_getElem? (i := 653) (by decide +kernel), List.mem_of_getElem? (i := 654) (by decide +kernel)⟩
theorem lw_p24 : lw_okq (⟨"MapDrawer$Sheet", "columnBehind", "(I)I"⟩, 4) := ⟨⟨by decide +kernel, by decide +kernel⟩, List.mem_of_getElem? (i := 248) (by decide +kernel), List.mem_of_getElem? (i := 657) (by decide +kernel), List.mem_of_getElem? (i := 658) (by decide +kernel)⟩
theorem lw_p25 : lw_okq (⟨"MapDrawer$Sheet", "stairsAt", "(III)I"⟩, 4) := ⟨⟨by decide +kernel, by decide +kernel⟩, List.mem_of_getElem? (i := 248) (by decide +kernel), List.mem_of_getElem? (i := 661) (by decide +kernel), List.mem_of_getElem? (i := 662) (by decide +kernel)⟩
theorem lw_p26 : lw_okq (⟨"MapDrawer$Sheet", "lineAt", "(III)I"⟩, 4) := ⟨⟨by decide +kernel, by decide +kernel⟩, List.mem_of_getElem? (i := 248) (by decide +kernel), List.mem_of_getElem? (i := 666) (by decide +kernel), List.mem_of_getElem? (i := 667) (by decide +kernel)⟩
theorem lw_p27 : lw_okq (⟨"MapDrawer$Sheet", "isOnLine", "(III)Z"⟩, 4) := ⟨⟨by decide +kernel, by decide +kernel⟩, List.mem_of_getElem? (i := 248) (by decide +kernel), List.mem_of_getElem? (i := 671) (by decide +kernel), List.mem_of_getElem? (i := 672) (by decide +kernel)⟩
theorem lw_p28 : lw_okq (⟨"MapDrawer$Sheet", "isOnSlant", "(III)Z"⟩, 4) := ⟨⟨by decide +kernel, by decide +kernel⟩, List.mem_of_getElem? (i := 248) (by decide +kernel), List.mem_of_getElem? (i := 678) (by decide +kernel), List.mem_of_getElem? (i := 679) (by decide +kernel)⟩
theorem lw_p29 : lw_okq (⟨"MapDrawerModel", "isRoom", "(I)Z"⟩, 35) := ⟨⟨by decide +kernel, by decide +kernel⟩, List.mem_of_getElem? (i := 698) (by decide +kernel), List.mem_of_getElem? (i := 821) (by decide +kernel), List.mem_of_getElem? (i := 822) (by decide +kernel)⟩
theorem lw_p30 : lw_okq (⟨"MapDrawerModel", "outOf", "(II)I"⟩, 35) := ⟨⟨by decide +kernel, by decide +kernel⟩, List.mem_of_getElem? (i := 698) (by decide +kernel), List.mem_of_getElem? (i := 825) (by decide +kernel), List.mem_of_getElem? (i := 826) (by decide +kernel)⟩
theorem lw_p31 : lw_okq (⟨"MapDrawerModel", "lay", "(IIIZ)I"⟩, 35) := ⟨⟨by decide +kernel, by decide +kernel⟩, List.mem_of_getElem? (i := 698) (by decide +kernel), List.mem_of_getElem? (i := 832) (by decide +kernel), List.mem_of_getElem? (i := 833) (by decide +kernel)⟩
def lw_privs_2 : List (MethodName × Nat) := [(⟨"MapDrawer$Walker", "measure", "(I)V"⟩, 2), (⟨"MapDrawer$Walker", "shortenAll", "()Z"⟩, 2), (⟨"MapDrawer$Walker", "shorten", "(II)Z"⟩, 2), (⟨"MapDrawer$Walker", "leastGoodDirection", "(I)I"⟩, 2), (⟨"MapDrawer$Sheet", "letterAt", "(III)I"⟩, 4), (⟨"MapDrawer$Sheet", "isInRow", "(III)Z"⟩, 4), (⟨"MapDrawer$Sheet", "rowOf", "(I)I"⟩, 4), (⟨"MapDrawer$Sheet", "columnOf", "(I)I"⟩, 4), (⟨"MapDrawer$Sheet", "columnBehind", "(I)I"⟩, 4), (⟨"MapDrawer$Sheet", "stairsAt", "(III)I"⟩, 4), (⟨"MapDrawer$Sheet", "lineAt", "(III)I"⟩, 4), (⟨"MapDrawer$Sheet", "isOnLine", "(III)Z"⟩, 4), (⟨"MapDrawer$Sheet", "isOnSlant", "(III)Z"⟩, 4), (⟨"MapDrawerModel", "isRoom", "(I)Z"⟩, 35), (⟨"MapDrawerModel", "outOf", "(II)I"⟩, 35), (⟨"MapDrawerModel", "lay", "(IIIZ)I"⟩, 35)]
theorem lw_r2 : ∀ q ∈ lw_privs_2, lw_okq q := List.forall_mem_cons.mpr ⟨lw_p16, List.forall_mem_cons.mpr ⟨lw_p17, List.forall_mem_cons.mpr ⟨lw_p18, List.forall_mem_cons.mpr ⟨lw_p19, List.forall_mem_cons.mpr ⟨lw_p20, List.forall_mem_cons.mpr ⟨lw_p21, List.forall_mem_cons.mpr ⟨lw_p22, List.forall_mem_cons.mpr ⟨lw_p23, List.forall_mem_cons.mpr ⟨lw_p24, List.forall_mem_cons.mpr ⟨lw_p25, List.forall_mem_cons.mpr ⟨lw_p26, List.forall_mem_cons.mpr ⟨lw_p27, List.forall_mem_cons.mpr ⟨lw_p28, List.forall_mem_cons.mpr ⟨lw_p29, List.forall_mem_cons.mpr ⟨lw_p30, List.forall_mem_cons.mpr ⟨lw_p31, fun _ h => absurd h List.not_mem_nil⟩⟩⟩⟩⟩⟩⟩⟩⟩⟩⟩⟩⟩⟩⟩⟩
theorem lw_p32 : lw_okq (⟨"MapDrawerModel", "isLink", "(I)Z"⟩, 35) := ⟨⟨by decide +kernel, by decide +kernel⟩, List.mem_of_getElem? (i := 698) (by decide +kernel), List.mem_of_getElem? (i := 840) (by decide +kernel), List.mem_of_getElem? (i := 841) (by decide +kernel)⟩
theorem lw_p33 : lw_okq (⟨"MapDrawerModel", "endOf", "(III)I"⟩, 35) := ⟨⟨by decide +kernel, by decide +kernel⟩, List.mem_of_getElem? (i := 698) (by decide +kernel), List.mem_of_getElem? (i := 848) (by decide +kernel), List.mem_of_getElem? (i := 849) (by decide +kernel)⟩
theorem lw_p34 : lw_okq (⟨"MapDrawerModel", "backOf", "(III)I"⟩, 35) := ⟨⟨by decide +kernel, by decide +kernel⟩, List.mem_of_getElem? (i := 698) (by decide +kernel), List.mem_of_getElem? (i := 852) (by decide +kernel), List.mem_of_getElem? (i := 853) (by decide +kernel)⟩
theorem lw_p35 : lw_okq (⟨"MapDrawerModel", "findParts", "()V"⟩, 35) := ⟨⟨by decide +kernel, by decide +kernel⟩, List.mem_of_getElem? (i := 698) (by decide +kernel), List.mem_of_getElem? (i := 877) (by decide +kernel), List.mem_of_getElem? (i := 878) (by decide +kernel)⟩
theorem lw_p36 : lw_okq (⟨"MapDrawerModel", "findOrder", "(I)V"⟩, 35) := ⟨⟨by decide +kernel, by decide +kernel⟩, List.mem_of_getElem? (i := 698) (by decide +kernel), List.mem_of_getElem? (i := 885) (by decide +kernel), List.mem_of_getElem? (i := 886) (by decide +kernel)⟩
theorem lw_p37 : lw_okq (⟨"MapDrawerModel", "hasTaken", "(I)Z"⟩, 35) := ⟨⟨by decide +kernel, by decide +kernel⟩, List.mem_of_getElem? (i := 698) (by decide +kernel), List.mem_of_getElem? (i := 889) (by decide +kernel), List.mem_of_getElem? (i := 890) (by decide +kernel)⟩
theorem lw_p38 : lw_okq (⟨"MapDrawerModel", "tryPart", "(I)Z"⟩, 35) := ⟨⟨by decide +kernel, by decide +kernel⟩, List.mem_of_getElem? (i := 698) (by decide +kernel), List.mem_of_getElem? (i := 893) (by decide +kernel), List.mem_of_getElem? (i := 894) (by decide +kernel)⟩
theorem lw_p39 : lw_okq (⟨"MapDrawerModel", "noneThere", "()V"⟩, 35) := ⟨⟨by decide +kernel, by decide +kernel⟩, List.mem_of_getElem? (i := 698) (by decide +kernel), List.mem_of_getElem? (i := 897) (by decide +kernel), List.mem_of_getElem? (i := 898) (by decide +kernel)⟩
theorem lw_p40 : lw_okq (⟨"MapDrawerModel", "stand", "(IIII)V"⟩, 35) := ⟨⟨by decide +kernel, by decide +kernel⟩, List.mem_of_getElem? (i := 698) (by decide +kernel), List.mem_of_getElem? (i := 901) (by decide +kernel), List.mem_of_getElem? (i := 902) (by decide +kernel)⟩
theorem lw_p41 : lw_okq (⟨"MapDrawerModel", "noteBest", "()V"⟩, 35) := ⟨⟨by decide +kernel, by decide +kernel⟩, List.mem_of_getElem? (i := 698) (by decide +kernel), List.mem_of_getElem? (i := 905) (by decide +kernel), List.mem_of_getElem? (i := 906) (by decide +kernel)⟩
theorem lw_p42 : lw_okq (⟨"MapDrawerModel", "costNow", "()I"⟩, 35) := ⟨⟨by decide +kernel, by decide +kernel⟩, List.mem_of_getElem? (i := 698) (by decide +kernel), List.mem_of_getElem? (i := 909) (by decide +kernel), List.mem_of_getElem? (i := 910) (by decide +kernel)⟩
theorem lw_p43 : lw_okq (⟨"MapDrawerModel", "isLoop", "(I)Z"⟩, 35) := ⟨⟨by decide +kernel, by decide +kernel⟩, List.mem_of_getElem? (i := 698) (by decide +kernel), List.mem_of_getElem? (i := 913) (by decide +kernel), List.mem_of_getElem? (i := 914) (by decide +kernel)⟩
theorem lw_p44 : lw_okq (⟨"MapDrawerModel", "straightBy", "(I)I"⟩, 35) := ⟨⟨by decide +kernel, by decide +kernel⟩, List.mem_of_getElem? (i := 698) (by decide +kernel), List.mem_of_getElem? (i := 917) (by decide +kernel), List.mem_of_getElem? (i := 918) (by decide +kernel)⟩
theorem lw_p45 : lw_okq (⟨"MapDrawerModel", "farBy", "(IIII)I"⟩, 35) := ⟨⟨by decide +kernel, by decide +kernel⟩, List.mem_of_getElem? (i := 698) (by decide +kernel), List.mem_of_getElem? (i := 924) (by decide +kernel), List.mem_of_getElem? (i := 925) (by decide +kernel)⟩
theorem lw_p46 : lw_okq (⟨"MapDrawerModel", "chance", "(II)Z"⟩, 35) := ⟨⟨by decide +kernel, by decide +kernel⟩, List.mem_of_getElem? (i := 698) (by decide +kernel), List.mem_of_getElem? (i := 934) (by decide +kernel), List.mem_of_getElem? (i := 935) (by decide +kernel)⟩
theorem lw_p47 : lw_okq (⟨"MapDrawerModel", "at", "(III)I"⟩, 35) := ⟨⟨by decide +kernel, by decide +kernel⟩, List.mem_of_getElem? (i := 698) (by decide +kernel), List.mem_of_getElem? (i := 938) (by decide +kernel), List.mem_of_getElem? (i := 939) (by decide +kernel)⟩
def lw_privs_3 : List (MethodName × Nat) := [(⟨"MapDrawerModel", "isLink", "(I)Z"⟩, 35), (⟨"MapDrawerModel", "endOf", "(III)I"⟩, 35), (⟨"MapDrawerModel", "backOf", "(III)I"⟩, 35), (⟨"MapDrawerModel", "findParts", "()V"⟩, 35), (⟨"MapDrawerModel", "findOrder", "(I)V"⟩, 35), (⟨"MapDrawerModel", "hasTaken", "(I)Z"⟩, 35), (⟨"MapDrawerModel", "tryPart", "(I)Z"⟩, 35), (⟨"MapDrawerModel", "noneThere", "()V"⟩, 35), (⟨"MapDrawerModel", "stand", "(IIII)V"⟩, 35), (⟨"MapDrawerModel", "noteBest", "()V"⟩, 35), (⟨"MapDrawerModel", "costNow", "()I"⟩, 35), (⟨"MapDrawerModel", "isLoop", "(I)Z"⟩, 35), (⟨"MapDrawerModel", "straightBy", "(I)I"⟩, 35), (⟨"MapDrawerModel", "farBy", "(IIII)I"⟩, 35), (⟨"MapDrawerModel", "chance", "(II)Z"⟩, 35), (⟨"MapDrawerModel", "at", "(III)I"⟩, 35)]
theorem lw_r3 : ∀ q ∈ lw_privs_3, lw_okq q := List.forall_mem_cons.mpr ⟨lw_p32, List.forall_mem_cons.mpr ⟨lw_p33, List.forall_mem_cons.mpr ⟨lw_p34, List.forall_mem_cons.mpr ⟨lw_p35, List.forall_mem_cons.mpr ⟨lw_p36, List.forall_mem_cons.mpr ⟨lw_p37, List.forall_mem_cons.mpr ⟨lw_p38, List.forall_mem_cons.mpr ⟨lw_p39, List.forall_mem_cons.mpr ⟨lw_p40, List.forall_mem_cons.mpr ⟨lw_p41, List.forall_mem_cons.mpr ⟨lw_p42, List.forall_mem_cons.mpr ⟨lw_p43, List.forall_mem_cons.mpr ⟨lw_p44, List.forall_mem_cons.mpr ⟨lw_p45, List.forall_mem_cons.mpr ⟨lw_p46, List.forall_mem_cons.mpr ⟨lw_p47, fun _ h => absurd h List.not_mem_nil⟩⟩⟩⟩⟩⟩⟩⟩⟩⟩⟩⟩⟩⟩⟩⟩
theorem lw_p48 : lw_okq (⟨"MapDrawerModel", "standBy", "(II)Z"⟩, 35) := ⟨⟨by decide +kernel, by decide +kernel⟩, List.mem_of_getElem? (i := 698) (by decide +kernel), List.mem_of_getElem? (i := 942) (by decide +kernel), List.mem_of_getElem? (i := 943) (by decide +kernel)⟩
theorem lw_p49 : lw_okq (⟨"MapDrawerModel", "spare", "(I)V"⟩, 35) := ⟨⟨by decide +kernel, by decide +kernel⟩, List.mem_of_getElem? (i := 698) (by decide +kernel), List.mem_of_getElem? (i := 946) (by decide +kernel), List.mem_of_getElem? (i := 947) (by decide +kernel)⟩
theorem lw_p50 : lw_okq (⟨"MapDrawerModel", "byFirst", "()V"⟩, 35) := ⟨⟨by decide +kernel, by decide +kernel⟩, List.mem_of_getElem? (i := 698) (by decide +kernel), List.mem_of_getElem? (i := 950) (by decide +kernel), List.mem_of_getElem? (i := 951) (by decide +kernel)⟩
theorem lw_p51 : lw_okq (⟨"MapDrawerModel", "movePart", "(I)I"⟩, 35) := ⟨⟨by decide +kernel, by decide +kernel⟩, List.mem_of_getElem? (i := 698) (by decide +kernel), List.mem_of_getElem? (i := 954) (by decide +kernel), List.mem_of_getElem? (i := 955) (by decide +kernel)⟩
theorem lw_p52 : lw_okq (⟨"MapDrawerModel", "load", "()V"⟩, 35) := ⟨⟨by decide +kernel, by decide +kernel⟩, List.mem_of_getElem? (i := 698) (by decide +kernel), List.mem_of_getElem? (i := 958) (by decide +kernel), List.mem_of_getElem? (i := 959) (by decide +kernel)⟩
theorem lw_p53 : lw_okq (⟨"MapDrawerModel", "bentNow", "()I"⟩, 35) := ⟨⟨by decide +kernel, by decide +kernel⟩, List.mem_of_getElem? (i := 698) (by decide +kernel), List.mem_of_getElem? (i := 962) (by decide +kernel), List.mem_of_getElem? (i := 963) (by decide +kernel)⟩
theorem lw_p54 : lw_okq (⟨"MapDrawerModel", "isJoined", "(I)Z"⟩, 35) := ⟨⟨by decide +kernel, by decide +kernel⟩, List.mem_of_getElem? (i := 698) (by decide +kernel), List.mem_of_getElem? (i := 970) (by decide +kernel), List.mem_of_getElem? (i := 971) (by decide +kernel)⟩
theorem lw_p55 : lw_okq (⟨"MapDrawerModel", "eastmost", "()I"⟩, 35) := ⟨⟨by decide +kernel, by decide +kernel⟩, List.mem_of_getElem? (i := 698) (by decide +kernel), List.mem_of_getElem? (i := 974) (by decide +kernel), List.mem_of_getElem? (i := 975) (by decide +kernel)⟩
theorem lw_p56 : lw_okq (⟨"MapDrawerModel", "keep", "(I)V"⟩, 35) := ⟨⟨by decide +kernel, by decide +kernel⟩, List.mem_of_getElem? (i := 698) (by decide +kernel), List.mem_of_getElem? (i := 978) (by decide +kernel), List.mem_of_getElem? (i := 979) (by decide +kernel)⟩
theorem lw_p57 : lw_okq (⟨"MapDrawerModel", "findDistances", "(I)V"⟩, 35) := ⟨⟨by decide +kernel, by decide +kernel⟩, List.mem_of_getElem? (i := 698) (by decide +kernel), List.mem_of_getElem? (i := 1006) (by decide +kernel), List.mem_of_getElem? (i := 1007) (by decide +kernel)⟩
theorem lw_p58 : lw_okq (⟨"MapDrawerModel", "leastOf", "(Z)I"⟩, 35) := ⟨⟨by decide +kernel, by decide +kernel⟩, List.mem_of_getElem? (i := 698) (by decide +kernel), List.mem_of_getElem? (i := 1019) (by decide +kernel), List.mem_of_getElem? (i := 1020) (by decide +kernel)⟩
theorem lw_p59 : lw_okq (⟨"MapDrawerModel", "lineAt", "(IIIIII)I"⟩, 35) := ⟨⟨by decide +kernel, by decide +kernel⟩, List.mem_of_getElem? (i := 698) (by decide +kernel), List.mem_of_getElem? (i := 1025) (by decide +kernel), List.mem_of_getElem? (i := 1026) (by decide +kernel)⟩
def lw_privs_4 : List (MethodName × Nat) := [(⟨"MapDrawerModel", "standBy", "(II)Z"⟩, 35), (⟨"MapDrawerModel", "spare", "(I)V"⟩, 35), (⟨"MapDrawerModel", "byFirst", "()V"⟩, 35), (⟨"MapDrawerModel", "movePart", "(I)I"⟩, 35), (⟨"MapDrawerModel", "load", "()V"⟩, 35), (⟨"MapDrawerModel", "bentNow", "()I"⟩, 35), (⟨"MapDrawerModel", "isJoined", "(I)Z"⟩, 35), (⟨"MapDrawerModel", "eastmost", "()I"⟩, 35), (⟨"MapDrawerModel", "keep", "(I)V"⟩, 35), (⟨"MapDrawerModel", "findDistances", "(I)V"⟩, 35), (⟨"MapDrawerModel", "leastOf", "(Z)I"⟩, 35), (⟨"MapDrawerModel", "lineAt", "(IIIIII)I"⟩, 35)]
theorem lw_r4 : ∀ q ∈ lw_privs_4, lw_okq q := List.forall_mem_cons.mpr ⟨lw_p48, List.forall_mem_cons.mpr ⟨lw_p49, List.forall_mem_cons.mpr ⟨lw_p50, List.forall_mem_cons.mpr ⟨lw_p51, List.forall_mem_cons.mpr ⟨lw_p52, List.forall_mem_cons.mpr ⟨lw_p53, List.forall_mem_cons.mpr ⟨lw_p54, List.forall_mem_cons.mpr ⟨lw_p55, List.forall_mem_cons.mpr ⟨lw_p56, List.forall_mem_cons.mpr ⟨lw_p57, List.forall_mem_cons.mpr ⟨lw_p58, List.forall_mem_cons.mpr ⟨lw_p59, fun _ h => absurd h List.not_mem_nil⟩⟩⟩⟩⟩⟩⟩⟩⟩⟩⟩⟩
def lw_privs : List (MethodName × Nat) := lw_privs_1 ++ (lw_privs_2 ++ (lw_privs_3 ++ (lw_privs_4)))
def lw_tbl : List Cond := k2_sels lw_privs ++ tables_1
theorem lw_privs_ok : ∀ q ∈ lw_privs, lw_okq q := by
  show ∀ q ∈ lw_privs_1 ++ (lw_privs_2 ++ (lw_privs_3 ++ (lw_privs_4))), lw_okq q
  exact List.forall_mem_append.mpr ⟨lw_r1, List.forall_mem_append.mpr ⟨lw_r2, List.forall_mem_append.mpr ⟨lw_r3, lw_r4⟩⟩⟩
theorem goodIn_r {big : List Cond} (ws : List Cond) (ps : List Nat) (hp : ws = ps.filterMap (fun i => big[i]?)) (h : ws.all goodWord = true) : GoodIn big ws := by
  intro w hw
  have h1 := List.all_eq_true.mp h w hw
  rw [hp] at hw
  obtain ⟨i, -, hi⟩ := List.mem_filterMap.mp hw
  have hm : w ∈ big := by first | exact List.mem_of_getElem? hi | exact List.getElem?_mem hi
  exact ⟨hm, good_of_word h1⟩
theorem goodIn_app {big a b : List Cond} (ha : GoodIn big a) (hb : GoodIn big b) : GoodIn big (a ++ b) := fun w h => (List.mem_append.mp h).elim (ha w) (hb w)
theorem goodIn_ca {big a b : List Cond} {c : Cond} (ha : GoodIn big (c :: a)) (hb : GoodIn big b) : GoodIn big (c :: (a ++ b)) := fun w h => (List.mem_cons.mp h).elim (fun e => ha w (List.mem_cons.mpr (Or.inl e))) (fun h => (List.mem_append.mp h).elim (fun h => ha w (List.mem_cons.mpr (Or.inr h))) (hb w))
theorem goodIn_sub {big ws : List Cond} (hm : ∀ w ∈ ws, w ∈ big) (h : ws.all goodWord = true) : GoodIn big ws := fun w hw => ⟨hm w hw, good_of_word (List.all_eq_true.mp h w hw)⟩
def RX0 : String := "MapDrawer$Chances"
def TX0 : u_T := fun k => match k with
  | 0 => ("MapDrawer$Chances", "story", "LMapDrawer$Story;", true)
  | 1 => ("MapDrawer$Chances", "ties", "LMapDrawer$Ties;", true)
  | 2 => ("MapDrawer$Chances", "x", "I", false)
  | 3 => ("MapDrawer$Chances", "y", "I", false)
  | _ => ("MapDrawer$Chances", "level", "I", false)
def tyX0 : Nat → FieldType := fun k => match k with
  | 0 => .object "MapDrawer$Story"
  | 1 => .object "MapDrawer$Ties"
  | 2 => .int
  | 3 => .int
  | _ => .int
abbrev wsX00 : List Cond := u_ws RX0 TX0 5
theorem nmX0 : ∀ a, a < 5 → ∀ b, b < 5 → a ≠ b → (TX0 a).2.1 ≠ (TX0 b).2.1 := by decide +kernel
theorem tyX0_ok : ∀ k, k < 5 → parseFieldDescriptor (TX0 k).2.2.1 = some (tyX0 k) := by decide +kernel
abbrev cX0_init : ByteArray := prog_2_method_1_code
def yX0_init : MethodName := ⟨RX0, "<init>", "(LMapDrawer$Story;LMapDrawer$Ties;)V"⟩
abbrev cX0_bound : ByteArray := prog_2_method_2_code
def yX0_bound : MethodName := ⟨RX0, "bound", "(I)I"⟩
abbrev cX0_lookAtOrigin : ByteArray := prog_2_method_3_code
def yX0_lookAtOrigin : MethodName := ⟨RX0, "lookAtOrigin", "()V"⟩
abbrev cX0_lookAtChance : ByteArray := prog_2_method_4_code
def yX0_lookAtChance : MethodName := ⟨RX0, "lookAtChance", "(LMapDrawer$Places;II)Z"⟩
abbrev cX0_lookAtFirst : ByteArray := prog_2_method_5_code
def yX0_lookAtFirst : MethodName := ⟨RX0, "lookAtFirst", "(LMapDrawer$Places;I)V"⟩
abbrev cX0_lookAtSpare : ByteArray := prog_2_method_6_code
def yX0_lookAtSpare : MethodName := ⟨RX0, "lookAtSpare", "(LMapDrawer$Places;I)V"⟩
abbrev cX0_firstPlacedNeighbour : ByteArray := prog_2_method_7_code
def yX0_firstPlacedNeighbour : MethodName := ⟨RX0, "firstPlacedNeighbour", "(LMapDrawer$Places;I)I"⟩
abbrev cX0_lookAround : ByteArray := prog_2_method_8_code
def yX0_lookAround : MethodName := ⟨RX0, "lookAround", "(LMapDrawer$Places;III)Z"⟩
def RX1 : String := "MapDrawer$Parts"
def TX1 : u_T := fun k => match k with
  | _ => ("MapDrawer$Parts", "number", "[I", true)
def tyX1 : Nat → FieldType := fun k => match k with
  | _ => .array .int
abbrev wsX10 : List Cond := u_ws RX1 TX1 1
theorem nmX1 : ∀ a, a < 1 → ∀ b, b < 1 → a ≠ b → (TX1 a).2.1 ≠ (TX1 b).2.1 := by decide +kernel
theorem tyX1_ok : ∀ k, k < 1 → parseFieldDescriptor (TX1 k).2.2.1 = some (tyX1 k) := by decide +kernel
abbrev cX1_init : ByteArray := prog_3_method_1_code
def yX1_init : MethodName := ⟨RX1, "<init>", "()V"⟩
abbrev cX1_find : ByteArray := prog_3_method_2_code
def yX1_find : MethodName := ⟨RX1, "find", "(LMapDrawer$Story;)I"⟩
abbrev cX1_sinkToLeastRooms : ByteArray := prog_3_method_3_code
def yX1_sinkToLeastRooms : MethodName := ⟨RX1, "sinkToLeastRooms", "(LMapDrawer$Story;)Z"⟩
abbrev cX1_countUp : ByteArray := prog_3_method_4_code
def yX1_countUp : MethodName := ⟨RX1, "countUp", "(I)I"⟩
def RX2 : String := "MapDrawer$Places"
def TX2 : u_T := fun k => match k with
  | 0 => ("MapDrawer$Places", "story", "LMapDrawer$Story;", true)
  | 1 => ("MapDrawer$Places", "x", "[I", true)
  | 2 => ("MapDrawer$Places", "y", "[I", true)
  | 3 => ("MapDrawer$Places", "level", "[I", true)
  | _ => ("MapDrawer$Places", "placed", "[Z", true)
def tyX2 : Nat → FieldType := fun k => match k with
  | 0 => .object "MapDrawer$Story"
  | 1 => .array .int
  | 2 => .array .int
  | 3 => .array .int
  | _ => .array .boolean
abbrev wsX20 : List Cond := u_ws RX2 TX2 5
theorem nmX2 : ∀ a, a < 5 → ∀ b, b < 5 → a ≠ b → (TX2 a).2.1 ≠ (TX2 b).2.1 := by decide +kernel
theorem tyX2_ok : ∀ k, k < 5 → parseFieldDescriptor (TX2 k).2.2.1 = some (tyX2 k) := by decide +kernel
abbrev cX2_init : ByteArray := prog_4_method_1_code
def yX2_init : MethodName := ⟨RX2, "<init>", "(LMapDrawer$Story;)V"⟩
abbrev cX2_clear : ByteArray := prog_4_method_2_code
def yX2_clear : MethodName := ⟨RX2, "clear", "()V"⟩
abbrev cX2_put : ByteArray := prog_4_method_3_code
def yX2_put : MethodName := ⟨RX2, "put", "(IIII)V"⟩
abbrev cX2_lift : ByteArray := prog_4_method_4_code
def yX2_lift : MethodName := ⟨RX2, "lift", "(I)V"⟩
abbrev cX2_isFree : ByteArray := prog_4_method_5_code
def yX2_isFree : MethodName := ⟨RX2, "isFree", "(III)Z"⟩
abbrev cX2_hasBothEnds : ByteArray := prog_4_method_6_code
def yX2_hasBothEnds : MethodName := ⟨RX2, "hasBothEnds", "(I)Z"⟩
abbrev cX2_straightLength : ByteArray := prog_4_method_7_code
def yX2_straightLength : MethodName := ⟨RX2, "straightLength", "(I)I"⟩
abbrev cX2_costBelow : ByteArray := prog_4_method_8_code
def yX2_costBelow : MethodName := ⟨RX2, "costBelow", "(I)I"⟩
abbrev cX2_bentLinks : ByteArray := prog_4_method_9_code
def yX2_bentLinks : MethodName := ⟨RX2, "bentLinks", "()I"⟩
abbrev cX2_count : ByteArray := prog_4_method_10_code
def yX2_count : MethodName := ⟨RX2, "count", "()I"⟩
abbrev cX2_lowest : ByteArray := prog_4_method_11_code
def yX2_lowest : MethodName := ⟨RX2, "lowest", "([I)I"⟩
abbrev cX2_highest : ByteArray := prog_4_method_12_code
def yX2_highest : MethodName := ⟨RX2, "highest", "([I)I"⟩
abbrev cX2_extent : ByteArray := prog_4_method_13_code
def yX2_extent : MethodName := ⟨RX2, "extent", "([I)I"⟩
abbrev cX2_isWeighed : ByteArray := prog_4_method_14_code
def yX2_isWeighed : MethodName := ⟨RX2, "isWeighed", "(I)Z"⟩
abbrev cX2_distance : ByteArray := prog_4_method_15_code
def yX2_distance : MethodName := ⟨RX2, "distance", "(III)I"⟩
def RX3 : String := "MapDrawer$Planner"
def TX3 : u_T := fun k => match k with
  | 0 => ("MapDrawer$Planner", "story", "LMapDrawer$Story;", true)
  | 1 => ("MapDrawer$Planner", "parts", "LMapDrawer$Parts;", true)
  | 2 => ("MapDrawer$Planner", "places", "LMapDrawer$Places;", true)
  | 3 => ("MapDrawer$Planner", "trial", "LMapDrawer$Places;", true)
  | 4 => ("MapDrawer$Planner", "ties", "LMapDrawer$Ties;", true)
  | 5 => ("MapDrawer$Planner", "chances", "LMapDrawer$Chances;", true)
  | 6 => ("MapDrawer$Planner", "order", "[I", true)
  | 7 => ("MapDrawer$Planner", "ordered", "I", false)
  | 8 => ("MapDrawer$Planner", "allTried", "[Z", true)
  | 9 => ("MapDrawer$Planner", "drawnParts", "I", false)
  | 10 => ("MapDrawer$Planner", "stepsInAll", "I", false)
  | 11 => ("MapDrawer$Planner", "limit", "I", false)
  | 12 => ("MapDrawer$Planner", "made", "I", false)
  | 13 => ("MapDrawer$Planner", "stopped", "Z", false)
  | _ => ("MapDrawer$Planner", "bestCost", "I", false)
def tyX3 : Nat → FieldType := fun k => match k with
  | 0 => .object "MapDrawer$Story"
  | 1 => .object "MapDrawer$Parts"
  | 2 => .object "MapDrawer$Places"
  | 3 => .object "MapDrawer$Places"
  | 4 => .object "MapDrawer$Ties"
  | 5 => .object "MapDrawer$Chances"
  | 6 => .array .int
  | 7 => .int
  | 8 => .array .boolean
  | 9 => .int
  | 10 => .int
  | 11 => .int
  | 12 => .int
  | 13 => .boolean
  | _ => .int
abbrev wsX30 : List Cond := u_ws RX3 TX3 15
theorem nmX3 : ∀ a, a < 15 → ∀ b, b < 15 → a ≠ b → (TX3 a).2.1 ≠ (TX3 b).2.1 := by decide +kernel
theorem tyX3_ok : ∀ k, k < 15 → parseFieldDescriptor (TX3 k).2.2.1 = some (tyX3 k) := by decide +kernel
abbrev cX3_init : ByteArray := prog_5_method_1_code
def yX3_init : MethodName := ⟨RX3, "<init>", "(LMapDrawer$Story;LMapDrawer$Parts;LMapDrawer$Places;)V"⟩
abbrev cX3_leastness : ByteArray := prog_5_method_2_code
def yX3_leastness : MethodName := ⟨RX3, "leastness", "(I)I"⟩
abbrev cX3_drawAll : ByteArray := prog_5_method_3_code
def yX3_drawAll : MethodName := ⟨RX3, "drawAll", "(I)V"⟩
abbrev cX3_growAll : ByteArray := prog_5_method_4_code
def yX3_growAll : MethodName := ⟨RX3, "growAll", "()V"⟩
abbrev cX3_drawPartOf : ByteArray := prog_5_method_5_code
def yX3_drawPartOf : MethodName := ⟨RX3, "drawPartOf", "(I)V"⟩
abbrev cX3_spread : ByteArray := prog_5_method_6_code
def yX3_spread : MethodName := ⟨RX3, "spread", "(LMapDrawer$Places;)V"⟩
abbrev cX3_nextRoom : ByteArray := prog_5_method_7_code
def yX3_nextRoom : MethodName := ⟨RX3, "nextRoom", "(LMapDrawer$Places;)I"⟩
abbrev cX3_tryHere : ByteArray := prog_5_method_8_code
def yX3_tryHere : MethodName := ⟨RX3, "tryHere", "(I)V"⟩
abbrev cX3_weighTrial : ByteArray := prog_5_method_9_code
def yX3_weighTrial : MethodName := ⟨RX3, "weighTrial", "()V"⟩
abbrev cX3_keepTrial : ByteArray := prog_5_method_10_code
def yX3_keepTrial : MethodName := ⟨RX3, "keepTrial", "()V"⟩
abbrev cX3_moveBehind : ByteArray := prog_5_method_11_code
def yX3_moveBehind : MethodName := ⟨RX3, "moveBehind", "(I)I"⟩
def RX4 : String := "MapDrawer$Sheet"
def TX4 : u_T := fun k => match k with
  | 0 => ("MapDrawer$Sheet", "story", "LMapDrawer$Story;", true)
  | 1 => ("MapDrawer$Sheet", "places", "LMapDrawer$Places;", true)
  | 2 => ("MapDrawer$Sheet", "west", "I", false)
  | _ => ("MapDrawer$Sheet", "north", "I", false)
def tyX4 : Nat → FieldType := fun k => match k with
  | 0 => .object "MapDrawer$Story"
  | 1 => .object "MapDrawer$Places"
  | 2 => .int
  | _ => .int
abbrev wsX40 : List Cond := u_ws RX4 TX4 4
theorem nmX4 : ∀ a, a < 4 → ∀ b, b < 4 → a ≠ b → (TX4 a).2.1 ≠ (TX4 b).2.1 := by decide +kernel
theorem tyX4_ok : ∀ k, k < 4 → parseFieldDescriptor (TX4 k).2.2.1 = some (tyX4 k) := by decide +kernel
abbrev cX4_init : ByteArray := prog_6_method_1_code
def yX4_init : MethodName := ⟨RX4, "<init>", "(LMapDrawer$Story;LMapDrawer$Places;)V"⟩
abbrev cX4_signAt : ByteArray := prog_6_method_2_code
def yX4_signAt : MethodName := ⟨RX4, "signAt", "(III)I"⟩
abbrev cX4_letterAt : ByteArray := prog_6_method_3_code
def yX4_letterAt : MethodName := ⟨RX4, "letterAt", "(III)I"⟩
abbrev cX4_stairsAt : ByteArray := prog_6_method_4_code
def yX4_stairsAt : MethodName := ⟨RX4, "stairsAt", "(III)I"⟩
abbrev cX4_lineAt : ByteArray := prog_6_method_5_code
def yX4_lineAt : MethodName := ⟨RX4, "lineAt", "(III)I"⟩
abbrev cX4_isOnLine : ByteArray := prog_6_method_6_code
def yX4_isOnLine : MethodName := ⟨RX4, "isOnLine", "(III)Z"⟩
abbrev cX4_isOnSlant : ByteArray := prog_6_method_7_code
def yX4_isOnSlant : MethodName := ⟨RX4, "isOnSlant", "(III)Z"⟩
abbrev cX4_isInRow : ByteArray := prog_6_method_8_code
def yX4_isInRow : MethodName := ⟨RX4, "isInRow", "(III)Z"⟩
abbrev cX4_columnOf : ByteArray := prog_6_method_9_code
def yX4_columnOf : MethodName := ⟨RX4, "columnOf", "(I)I"⟩
abbrev cX4_columnBehind : ByteArray := prog_6_method_10_code
def yX4_columnBehind : MethodName := ⟨RX4, "columnBehind", "(I)I"⟩
abbrev cX4_rowOf : ByteArray := prog_6_method_11_code
def yX4_rowOf : MethodName := ⟨RX4, "rowOf", "(I)I"⟩
def RX5 : String := "MapDrawer$Story"
def TX5 : u_T := fun k => match k with
  | 0 => ("MapDrawer$Story", "width", "[I", true)
  | 1 => ("MapDrawer$Story", "region", "[I", true)
  | 2 => ("MapDrawer$Story", "thing", "[I", true)
  | 3 => ("MapDrawer$Story", "roomCount", "I", false)
  | 4 => ("MapDrawer$Story", "from", "[I", true)
  | 5 => ("MapDrawer$Story", "direction", "[I", true)
  | 6 => ("MapDrawer$Story", "to", "[I", true)
  | 7 => ("MapDrawer$Story", "both", "[Z", true)
  | _ => ("MapDrawer$Story", "linkCount", "I", false)
def tyX5 : Nat → FieldType := fun k => match k with
  | 0 => .array .int
  | 1 => .array .int
  | 2 => .array .int
  | 3 => .int
  | 4 => .array .int
  | 5 => .array .int
  | 6 => .array .int
  | 7 => .array .boolean
  | _ => .int
abbrev wsX50 : List Cond := u_ws RX5 TX5 9
theorem nmX5 : ∀ a, a < 9 → ∀ b, b < 9 → a ≠ b → (TX5 a).2.1 ≠ (TX5 b).2.1 := by decide +kernel
theorem tyX5_ok : ∀ k, k < 9 → parseFieldDescriptor (TX5 k).2.2.1 = some (tyX5 k) := by decide +kernel
abbrev cX5_init : ByteArray := prog_7_method_1_code
def yX5_init : MethodName := ⟨RX5, "<init>", "()V"⟩
abbrev cX5_isRoom : ByteArray := prog_7_method_2_code
def yX5_isRoom : MethodName := ⟨RX5, "isRoom", "(I)Z"⟩
abbrev cX5_isLink : ByteArray := prog_7_method_3_code
def yX5_isLink : MethodName := ⟨RX5, "isLink", "(I)Z"⟩
abbrev cX5_isFullOfRooms : ByteArray := prog_7_method_4_code
def yX5_isFullOfRooms : MethodName := ⟨RX5, "isFullOfRooms", "()Z"⟩
abbrev cX5_isFullOfLinks : ByteArray := prog_7_method_5_code
def yX5_isFullOfLinks : MethodName := ⟨RX5, "isFullOfLinks", "()Z"⟩
abbrev cX5_addRoom : ByteArray := prog_7_method_6_code
def yX5_addRoom : MethodName := ⟨RX5, "addRoom", "(II)I"⟩
abbrev cX5_addLink : ByteArray := prog_7_method_7_code
def yX5_addLink : MethodName := ⟨RX5, "addLink", "(IIIZ)I"⟩
abbrev cX5_removeLink : ByteArray := prog_7_method_8_code
def yX5_removeLink : MethodName := ⟨RX5, "removeLink", "(I)V"⟩
abbrev cX5_isLoop : ByteArray := prog_7_method_9_code
def yX5_isLoop : MethodName := ⟨RX5, "isLoop", "(I)Z"⟩
abbrev cX5_leading : ByteArray := prog_7_method_10_code
def yX5_leading : MethodName := ⟨RX5, "leading", "(II)I"⟩
abbrev cX5_beyond : ByteArray := prog_7_method_11_code
def yX5_beyond : MethodName := ⟨RX5, "beyond", "(II)I"⟩
abbrev cX5_otherEnd : ByteArray := prog_7_method_12_code
def yX5_otherEnd : MethodName := ⟨RX5, "otherEnd", "(II)I"⟩
abbrev cX5_firstNotToldApart : ByteArray := prog_7_method_13_code
def yX5_firstNotToldApart : MethodName := ⟨RX5, "firstNotToldApart", "(I)I"⟩
abbrev cX5_leadsForth : ByteArray := prog_7_method_14_code
def yX5_leadsForth : MethodName := ⟨RX5, "leadsForth", "(III)Z"⟩
abbrev cX5_leadsBack : ByteArray := prog_7_method_15_code
def yX5_leadsBack : MethodName := ⟨RX5, "leadsBack", "(III)Z"⟩
def RX6 : String := "MapDrawer$Ties"
def TX6 : u_T := fun k => match k with
  | 0 => ("MapDrawer$Ties", "first", "[I", true)
  | _ => ("MapDrawer$Ties", "links", "[I", true)
def tyX6 : Nat → FieldType := fun k => match k with
  | 0 => .array .int
  | _ => .array .int
abbrev wsX60 : List Cond := u_ws RX6 TX6 2
theorem nmX6 : ∀ a, a < 2 → ∀ b, b < 2 → a ≠ b → (TX6 a).2.1 ≠ (TX6 b).2.1 := by decide +kernel
theorem tyX6_ok : ∀ k, k < 2 → parseFieldDescriptor (TX6 k).2.2.1 = some (tyX6 k) := by decide +kernel
abbrev cX6_init : ByteArray := prog_8_method_1_code
def yX6_init : MethodName := ⟨RX6, "<init>", "()V"⟩
abbrev cX6_gather : ByteArray := prog_8_method_2_code
def yX6_gather : MethodName := ⟨RX6, "gather", "(LMapDrawer$Story;)V"⟩
abbrev cX6_count : ByteArray := prog_8_method_3_code
def yX6_count : MethodName := ⟨RX6, "count", "(I)I"⟩
abbrev cX6_get : ByteArray := prog_8_method_4_code
def yX6_get : MethodName := ⟨RX6, "get", "(II)I"⟩
def RX7 : String := "MapDrawer$Walker"
def TX7 : u_T := fun k => match k with
  | 0 => ("MapDrawer$Walker", "story", "LMapDrawer$Story;", true)
  | _ => ("MapDrawer$Walker", "ahead", "[I", true)
def tyX7 : Nat → FieldType := fun k => match k with
  | 0 => .object "MapDrawer$Story"
  | _ => .array .int
abbrev wsX70 : List Cond := u_ws RX7 TX7 2
theorem nmX7 : ∀ a, a < 2 → ∀ b, b < 2 → a ≠ b → (TX7 a).2.1 ≠ (TX7 b).2.1 := by decide +kernel
theorem tyX7_ok : ∀ k, k < 2 → parseFieldDescriptor (TX7 k).2.2.1 = some (tyX7 k) := by decide +kernel
abbrev cX7_init : ByteArray := prog_9_method_1_code
def yX7_init : MethodName := ⟨RX7, "<init>", "(LMapDrawer$Story;)V"⟩
abbrev cX7_wayLength : ByteArray := prog_9_method_2_code
def yX7_wayLength : MethodName := ⟨RX7, "wayLength", "(II)I"⟩
abbrev cX7_wayDirection : ByteArray := prog_9_method_3_code
def yX7_wayDirection : MethodName := ⟨RX7, "wayDirection", "(III)I"⟩
abbrev cX7_measure : ByteArray := prog_9_method_4_code
def yX7_measure : MethodName := ⟨RX7, "measure", "(I)V"⟩
abbrev cX7_shortenAll : ByteArray := prog_9_method_5_code
def yX7_shortenAll : MethodName := ⟨RX7, "shortenAll", "()Z"⟩
abbrev cX7_shorten : ByteArray := prog_9_method_6_code
def yX7_shorten : MethodName := ⟨RX7, "shorten", "(II)Z"⟩
abbrev cX7_leastGoodDirection : ByteArray := prog_9_method_7_code
def yX7_leastGoodDirection : MethodName := ⟨RX7, "leastGoodDirection", "(I)I"⟩
def RX8 : String := "MapDrawer"
def TX8 : u_T := fun k => match k with
  | 0 => ("MapDrawer", "story", "LMapDrawer$Story;", true)
  | 1 => ("MapDrawer", "parts", "LMapDrawer$Parts;", true)
  | 2 => ("MapDrawer", "places", "LMapDrawer$Places;", true)
  | 3 => ("MapDrawer", "planner", "LMapDrawer$Planner;", true)
  | 4 => ("MapDrawer", "walker", "LMapDrawer$Walker;", true)
  | _ => ("MapDrawer", "sheet", "LMapDrawer$Sheet;", true)
def tyX8 : Nat → FieldType := fun k => match k with
  | 0 => .object "MapDrawer$Story"
  | 1 => .object "MapDrawer$Parts"
  | 2 => .object "MapDrawer$Places"
  | 3 => .object "MapDrawer$Planner"
  | 4 => .object "MapDrawer$Walker"
  | _ => .object "MapDrawer$Sheet"
abbrev wsX80 : List Cond := u_ws RX8 TX8 6
theorem nmX8 : ∀ a, a < 6 → ∀ b, b < 6 → a ≠ b → (TX8 a).2.1 ≠ (TX8 b).2.1 := by decide +kernel
theorem tyX8_ok : ∀ k, k < 6 → parseFieldDescriptor (TX8 k).2.2.1 = some (tyX8 k) := by decide +kernel
abbrev cX8_init : ByteArray := prog_1_method_1_code
def yX8_init : MethodName := ⟨RX8, "<init>", "()V"⟩
abbrev cX8_room : ByteArray := prog_1_method_2_code
def yX8_room : MethodName := ⟨RX8, "room", "(II)I"⟩
abbrev cX8_exit : ByteArray := prog_1_method_3_code
def yX8_exit : MethodName := ⟨RX8, "exit", "(IIIZ)I"⟩
abbrev cX8_cut : ByteArray := prog_1_method_4_code
def yX8_cut : MethodName := ⟨RX8, "cut", "(I)I"⟩
abbrev cX8_play : ByteArray := prog_1_method_5_code
def yX8_play : MethodName := ⟨RX8, "play", "(III)I"⟩
abbrev cX8_mark : ByteArray := prog_1_method_6_code
def yX8_mark : MethodName := ⟨RX8, "mark", "(II)I"⟩
abbrev cX8_alike : ByteArray := prog_1_method_7_code
def yX8_alike : MethodName := ⟨RX8, "alike", "(I)I"⟩
abbrev cX8_link : ByteArray := prog_1_method_8_code
def yX8_link : MethodName := ⟨RX8, "link", "(II)I"⟩
abbrev cX8_out : ByteArray := prog_1_method_9_code
def yX8_out : MethodName := ⟨RX8, "out", "(II)I"⟩
abbrev cX8_part : ByteArray := prog_1_method_10_code
def yX8_part : MethodName := ⟨RX8, "part", "(I)I"⟩
abbrev cX8_draw : ByteArray := prog_1_method_11_code
def yX8_draw : MethodName := ⟨RX8, "draw", "(I)I"⟩
abbrev cX8_grow : ByteArray := prog_1_method_12_code
def yX8_grow : MethodName := ⟨RX8, "grow", "()I"⟩
abbrev cX8_least : ByteArray := prog_1_method_13_code
def yX8_least : MethodName := ⟨RX8, "least", "(I)I"⟩
abbrev cX8_steps : ByteArray := prog_1_method_14_code
def yX8_steps : MethodName := ⟨RX8, "steps", "()I"⟩
abbrev cX8_place : ByteArray := prog_1_method_15_code
def yX8_place : MethodName := ⟨RX8, "place", "(II)I"⟩
abbrev cX8_straight : ByteArray := prog_1_method_16_code
def yX8_straight : MethodName := ⟨RX8, "straight", "(I)I"⟩
abbrev cX8_cost : ByteArray := prog_1_method_17_code
def yX8_cost : MethodName := ⟨RX8, "cost", "()I"⟩
abbrev cX8_far : ByteArray := prog_1_method_18_code
def yX8_far : MethodName := ⟨RX8, "far", "(II)I"⟩
abbrev cX8_step : ByteArray := prog_1_method_19_code
def yX8_step : MethodName := ⟨RX8, "step", "(III)I"⟩
abbrev cX8_sign : ByteArray := prog_1_method_20_code
def yX8_sign : MethodName := ⟨RX8, "sign", "(III)I"⟩
abbrev cX8_told : ByteArray := prog_1_method_21_code
def yX8_told : MethodName := ⟨RX8, "told", "(I)I"⟩
abbrev cX8_isDirection : ByteArray := prog_1_method_22_code
def yX8_isDirection : MethodName := ⟨RX8, "isDirection", "(I)Z"⟩
abbrev cX8_isKind : ByteArray := prog_1_method_23_code
def yX8_isKind : MethodName := ⟨RX8, "isKind", "(I)Z"⟩
abbrev cX8_playToNewRoom : ByteArray := prog_1_method_24_code
def yX8_playToNewRoom : MethodName := ⟨RX8, "playToNewRoom", "(II)I"⟩
abbrev cX8_playToRoom : ByteArray := prog_1_method_25_code
def yX8_playToRoom : MethodName := ⟨RX8, "playToRoom", "(III)I"⟩
def RX9 : String := "MapDrawerModel"
def TX9 : u_T := fun k => match k with
  | 0 => ("MapDrawerModel", "rooms", "I", false)
  | 1 => ("MapDrawerModel", "width", "[I", true)
  | 2 => ("MapDrawerModel", "region", "[I", true)
  | 3 => ("MapDrawerModel", "thing", "[I", true)
  | 4 => ("MapDrawerModel", "links", "I", false)
  | 5 => ("MapDrawerModel", "from", "[I", true)
  | 6 => ("MapDrawerModel", "direction", "[I", true)
  | 7 => ("MapDrawerModel", "to", "[I", true)
  | 8 => ("MapDrawerModel", "isBoth", "[Z", true)
  | 9 => ("MapDrawerModel", "isPlaced", "[Z", true)
  | 10 => ("MapDrawerModel", "placeX", "[I", true)
  | 11 => ("MapDrawerModel", "placeY", "[I", true)
  | 12 => ("MapDrawerModel", "placeL", "[I", true)
  | 13 => ("MapDrawerModel", "steps", "I", false)
  | 14 => ("MapDrawerModel", "drawnParts", "I", false)
  | 15 => ("MapDrawerModel", "isLeast", "[Z", true)
  | 16 => ("MapDrawerModel", "least", "[I", true)
  | 17 => ("MapDrawerModel", "parts", "I", false)
  | 18 => ("MapDrawerModel", "partOf", "[I", true)
  | 19 => ("MapDrawerModel", "isThere", "[Z", true)
  | 20 => ("MapDrawerModel", "x", "[I", true)
  | 21 => ("MapDrawerModel", "y", "[I", true)
  | 22 => ("MapDrawerModel", "level", "[I", true)
  | 23 => ("MapDrawerModel", "chanceX", "I", false)
  | 24 => ("MapDrawerModel", "chanceY", "I", false)
  | 25 => ("MapDrawerModel", "chanceL", "I", false)
  | 26 => ("MapDrawerModel", "count", "I", false)
  | 27 => ("MapDrawerModel", "order", "[I", true)
  | 28 => ("MapDrawerModel", "isTaken", "[Z", true)
  | 29 => ("MapDrawerModel", "chosen", "[I", true)
  | 30 => ("MapDrawerModel", "bestX", "[I", true)
  | 31 => ("MapDrawerModel", "bestY", "[I", true)
  | 32 => ("MapDrawerModel", "bestL", "[I", true)
  | 33 => ("MapDrawerModel", "best", "I", false)
  | _ => ("MapDrawerModel", "distance", "[I", true)
def tyX9 : Nat → FieldType := fun k => match k with
  | 0 => .int
  | 1 => .array .int
  | 2 => .array .int
  | 3 => .array .int
  | 4 => .int
  | 5 => .array .int
  | 6 => .array .int
  | 7 => .array .int
  | 8 => .array .boolean
  | 9 => .array .boolean
  | 10 => .array .int
  | 11 => .array .int
  | 12 => .array .int
  | 13 => .int
  | 14 => .int
  | 15 => .array .boolean
  | 16 => .array .int
  | 17 => .int
  | 18 => .array .int
  | 19 => .array .boolean
  | 20 => .array .int
  | 21 => .array .int
  | 22 => .array .int
  | 23 => .int
  | 24 => .int
  | 25 => .int
  | 26 => .int
  | 27 => .array .int
  | 28 => .array .boolean
  | 29 => .array .int
  | 30 => .array .int
  | 31 => .array .int
  | 32 => .array .int
  | 33 => .int
  | _ => .array .int
abbrev wsX90 : List Cond := u_ws RX9 TX9 35
theorem nmX9 : ∀ a, a < 35 → ∀ b, b < 35 → a ≠ b → (TX9 a).2.1 ≠ (TX9 b).2.1 := by decide +kernel
theorem tyX9_ok : ∀ k, k < 35 → parseFieldDescriptor (TX9 k).2.2.1 = some (tyX9 k) := by decide +kernel
abbrev cX9_init : ByteArray := prog_11_method_1_code
def yX9_init : MethodName := ⟨RX9, "<init>", "()V"⟩
abbrev cX9_in : ByteArray := prog_11_method_3_code
def yX9_in : MethodName := ⟨RX9, "in", "(III)Z"⟩
abbrev cX9_isRoom : ByteArray := prog_11_method_4_code
def yX9_isRoom : MethodName := ⟨RX9, "isRoom", "(I)Z"⟩
abbrev cX9_opposite : ByteArray := prog_11_method_5_code
def yX9_opposite : MethodName := ⟨RX9, "opposite", "(I)I"⟩
abbrev cX9_east : ByteArray := prog_11_method_6_code
def yX9_east : MethodName := ⟨RX9, "east", "(I)I"⟩
abbrev cX9_south : ByteArray := prog_11_method_7_code
def yX9_south : MethodName := ⟨RX9, "south", "(I)I"⟩
abbrev cX9_up : ByteArray := prog_11_method_8_code
def yX9_up : MethodName := ⟨RX9, "up", "(I)I"⟩
abbrev cX9_room : ByteArray := prog_11_method_9_code
def yX9_room : MethodName := ⟨RX9, "room", "(II)I"⟩
abbrev cX9_outOf : ByteArray := prog_11_method_10_code
def yX9_outOf : MethodName := ⟨RX9, "outOf", "(II)I"⟩
abbrev cX9_endOf : ByteArray := prog_11_method_11_code
def yX9_endOf : MethodName := ⟨RX9, "endOf", "(III)I"⟩
abbrev cX9_lay : ByteArray := prog_11_method_12_code
def yX9_lay : MethodName := ⟨RX9, "lay", "(IIIZ)I"⟩
abbrev cX9_exit : ByteArray := prog_11_method_13_code
def yX9_exit : MethodName := ⟨RX9, "exit", "(IIIZ)I"⟩
abbrev cX9_isLink : ByteArray := prog_11_method_14_code
def yX9_isLink : MethodName := ⟨RX9, "isLink", "(I)Z"⟩
abbrev cX9_cut : ByteArray := prog_11_method_15_code
def yX9_cut : MethodName := ⟨RX9, "cut", "(I)I"⟩
abbrev cX9_play : ByteArray := prog_11_method_16_code
def yX9_play : MethodName := ⟨RX9, "play", "(III)I"⟩
abbrev cX9_backOf : ByteArray := prog_11_method_17_code
def yX9_backOf : MethodName := ⟨RX9, "backOf", "(III)I"⟩
abbrev cX9_mark : ByteArray := prog_11_method_18_code
def yX9_mark : MethodName := ⟨RX9, "mark", "(II)I"⟩
abbrev cX9_alike : ByteArray := prog_11_method_19_code
def yX9_alike : MethodName := ⟨RX9, "alike", "(I)I"⟩
abbrev cX9_link : ByteArray := prog_11_method_20_code
def yX9_link : MethodName := ⟨RX9, "link", "(II)I"⟩
abbrev cX9_out : ByteArray := prog_11_method_21_code
def yX9_out : MethodName := ⟨RX9, "out", "(II)I"⟩
abbrev cX9_findParts : ByteArray := prog_11_method_22_code
def yX9_findParts : MethodName := ⟨RX9, "findParts", "()V"⟩
abbrev cX9_part : ByteArray := prog_11_method_23_code
def yX9_part : MethodName := ⟨RX9, "part", "(I)I"⟩
abbrev cX9_at : ByteArray := prog_11_method_24_code
def yX9_at : MethodName := ⟨RX9, "at", "(III)I"⟩
abbrev cX9_stand : ByteArray := prog_11_method_25_code
def yX9_stand : MethodName := ⟨RX9, "stand", "(IIII)V"⟩
abbrev cX9_farBy : ByteArray := prog_11_method_26_code
def yX9_farBy : MethodName := ⟨RX9, "farBy", "(IIII)I"⟩
abbrev cX9_straightBy : ByteArray := prog_11_method_27_code
def yX9_straightBy : MethodName := ⟨RX9, "straightBy", "(I)I"⟩
abbrev cX9_isLoop : ByteArray := prog_11_method_28_code
def yX9_isLoop : MethodName := ⟨RX9, "isLoop", "(I)Z"⟩
abbrev cX9_costNow : ByteArray := prog_11_method_29_code
def yX9_costNow : MethodName := ⟨RX9, "costNow", "()I"⟩
abbrev cX9_bentNow : ByteArray := prog_11_method_30_code
def yX9_bentNow : MethodName := ⟨RX9, "bentNow", "()I"⟩
abbrev cX9_chance : ByteArray := prog_11_method_31_code
def yX9_chance : MethodName := ⟨RX9, "chance", "(II)Z"⟩
abbrev cX9_spare : ByteArray := prog_11_method_32_code
def yX9_spare : MethodName := ⟨RX9, "spare", "(I)V"⟩
abbrev cX9_standBy : ByteArray := prog_11_method_33_code
def yX9_standBy : MethodName := ⟨RX9, "standBy", "(II)Z"⟩
abbrev cX9_hasTaken : ByteArray := prog_11_method_34_code
def yX9_hasTaken : MethodName := ⟨RX9, "hasTaken", "(I)Z"⟩
abbrev cX9_findOrder : ByteArray := prog_11_method_35_code
def yX9_findOrder : MethodName := ⟨RX9, "findOrder", "(I)V"⟩
abbrev cX9_noteBest : ByteArray := prog_11_method_36_code
def yX9_noteBest : MethodName := ⟨RX9, "noteBest", "()V"⟩
abbrev cX9_noneThere : ByteArray := prog_11_method_37_code
def yX9_noneThere : MethodName := ⟨RX9, "noneThere", "()V"⟩
abbrev cX9_tryPart : ByteArray := prog_11_method_38_code
def yX9_tryPart : MethodName := ⟨RX9, "tryPart", "(I)Z"⟩
abbrev cX9_byFirst : ByteArray := prog_11_method_39_code
def yX9_byFirst : MethodName := ⟨RX9, "byFirst", "()V"⟩
abbrev cX9_draw : ByteArray := prog_11_method_40_code
def yX9_draw : MethodName := ⟨RX9, "draw", "(I)I"⟩
abbrev cX9_movePart : ByteArray := prog_11_method_41_code
def yX9_movePart : MethodName := ⟨RX9, "movePart", "(I)I"⟩
abbrev cX9_load : ByteArray := prog_11_method_42_code
def yX9_load : MethodName := ⟨RX9, "load", "()V"⟩
abbrev cX9_keep : ByteArray := prog_11_method_43_code
def yX9_keep : MethodName := ⟨RX9, "keep", "(I)V"⟩
abbrev cX9_grow : ByteArray := prog_11_method_44_code
def yX9_grow : MethodName := ⟨RX9, "grow", "()I"⟩
abbrev cX9_isJoined : ByteArray := prog_11_method_45_code
def yX9_isJoined : MethodName := ⟨RX9, "isJoined", "(I)Z"⟩
abbrev cX9_eastmost : ByteArray := prog_11_method_46_code
def yX9_eastmost : MethodName := ⟨RX9, "eastmost", "()I"⟩
abbrev cX9_least : ByteArray := prog_11_method_47_code
def yX9_least : MethodName := ⟨RX9, "least", "(I)I"⟩
abbrev cX9_steps : ByteArray := prog_11_method_48_code
def yX9_steps : MethodName := ⟨RX9, "steps", "()I"⟩
abbrev cX9_place : ByteArray := prog_11_method_49_code
def yX9_place : MethodName := ⟨RX9, "place", "(II)I"⟩
abbrev cX9_straight : ByteArray := prog_11_method_50_code
def yX9_straight : MethodName := ⟨RX9, "straight", "(I)I"⟩
abbrev cX9_cost : ByteArray := prog_11_method_51_code
def yX9_cost : MethodName := ⟨RX9, "cost", "()I"⟩
abbrev cX9_findDistances : ByteArray := prog_11_method_52_code
def yX9_findDistances : MethodName := ⟨RX9, "findDistances", "(I)V"⟩
abbrev cX9_far : ByteArray := prog_11_method_53_code
def yX9_far : MethodName := ⟨RX9, "far", "(II)I"⟩
abbrev cX9_step : ByteArray := prog_11_method_54_code
def yX9_step : MethodName := ⟨RX9, "step", "(III)I"⟩
abbrev cX9_leastOf : ByteArray := prog_11_method_55_code
def yX9_leastOf : MethodName := ⟨RX9, "leastOf", "(Z)I"⟩
abbrev cX9_sign : ByteArray := prog_11_method_56_code
def yX9_sign : MethodName := ⟨RX9, "sign", "(III)I"⟩
abbrev cX9_lineAt : ByteArray := prog_11_method_57_code
def yX9_lineAt : MethodName := ⟨RX9, "lineAt", "(IIIIII)I"⟩
abbrev cX9_told : ByteArray := prog_11_method_58_code
def yX9_told : MethodName := ⟨RX9, "told", "(I)I"⟩
def RJ9 : String := "java/lang/Math"
def TJ9 : u_T := fun k => match k with
  | _ => ("", "", "", false)
def tyJ9 : Nat → FieldType := fun k => match k with
  | _ => .int
abbrev wsJ90 : List Cond := u_ws RJ9 TJ9 0
theorem nmJ9 : ∀ a, a < 0 → ∀ b, b < 0 → a ≠ b → (TJ9 a).2.1 ≠ (TJ9 b).2.1 := by decide +kernel
theorem tyJ9_ok : ∀ k, k < 0 → parseFieldDescriptor (TJ9 k).2.2.1 = some (tyJ9 k) := by decide +kernel
abbrev cJ9_abs_0f7a4 : ByteArray := prog_12_method_59_code
def yJ9_abs_0f7a4 : MethodName := ⟨RJ9, "abs", "(I)I"⟩
abbrev cJ9_max_7cf53 : ByteArray := prog_12_method_65_code
def yJ9_max_7cf53 : MethodName := ⟨RJ9, "max", "(II)I"⟩
abbrev cJ9_min_7cf53 : ByteArray := prog_12_method_69_code
def yJ9_min_7cf53 : MethodName := ⟨RJ9, "min", "(II)I"⟩
def RL : String := "MapDrawerLaw"
abbrev cL_law : ByteArray := code
def yL_law : MethodName := ⟨RL, "law", "([I)Z"⟩
abbrev vwCl : List vw_C := [(RX0, TX0, 5), (RX1, TX1, 1), (RX2, TX2, 5), (RX3, TX3, 15), (RX4, TX4, 4), (RX5, TX5, 9), (RX6, TX6, 2), (RX7, TX7, 2), (RX8, TX8, 6), (RX9, TX9, 35)]
